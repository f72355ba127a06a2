set_option maxHeartbeats 4000000 in
set_option maxRecDepth 100000 in
theorem s_X5_memberOf (hs : kgH) (l : Launch) (w : Option (Nat × Nat)) (p1 : Int32) (p2 : Int32) (I0 : kgM) : Sdi hs l w yX5_memberOf (kg_ws yX5_memberOf cX5_memberOf 3 (some .int)) { frames := 6, cells := 0, slots := 0, locals := 130 } [.ref (kgO hs 177), .int p1, .int p2] I0 (f_X5_memberOf p1 p2 I0) := by
  refine sd_i (av := fun hs => [.ref (kgO hs 177), .int p1, .int p2]) (by decide +kernel) (fun hs => Nat.le_of_ble_eq_true rfl) (fun X S hQ => ?_) hs l
  refine aw_sub (L2 := [(0, .ref (kgO (kgHs X) 177)), (1, .int p1), (2, .int p2)]) [0, 1, 2] rfl ?_
  unfold f_X5_memberOf
  refine aw_iload_n S 1 rfl dX5_memberOf_0 rfl ?_
  refine aw_cSi S [.int p1] vw_X5_isMember tw_1029 (s_X5_isMember _ _ _ p1 I0) ⟨by decide, by decide⟩ rfl rfl (Nat.le_of_ble_eq_true rfl) rfl rfl (by decide) (by decide) dX5_memberOf_1 (fun x1 I1 => ?_)
  refine aw_if_ne (y := 0) (tgt := 11) S dX5_memberOf_4 (by decide) ?_ ?_
  · refine aw_iload_n S 2 rfl dX5_memberOf_11 rfl ?_
    refine aw_tableAt (tgt := 52) S 0 dX5_memberOf_12 (by decide) (by decide) rfl (by decide) ?_ (fun n_0 => ?_)
    · refine aw_aload_n S 0 rfl dX5_memberOf_52 rfl ?_
      refine aw_iload_n S 1 rfl dX5_memberOf_53 rfl ?_
      refine aw_iconst (v := (0 : Int32)) S dX5_memberOf_54 (by decide) ?_
      refine aw_cVi S 177 [.int p1, .int (0 : Int32)] vw_X5_m cl_X5 (by decide) (by decide) tw_1238 (s_X5_m _ _ _ p1 (0 : Int32) I1) ⟨by decide, by decide⟩ rfl rfl (Nat.le_of_ble_eq_true rfl) rfl rfl (by decide) (by decide) dX5_memberOf_55 (fun x2 I2 => ?_)
      exact aw_ret S hQ (vp_nar_int _) (by decide) (by decide) dX5_memberOf_58
    refine aw_tableAt (tgt := 59) S 1 dX5_memberOf_12 (by decide) (by decide) rfl (by decide) ?_ (fun n_1 => ?_)
    · refine aw_aload_n S 0 rfl dX5_memberOf_59 rfl ?_
      refine aw_iload_n S 1 rfl dX5_memberOf_60 rfl ?_
      refine aw_cVi S 177 [.int p1] vw_X5_pitchesOf cl_X5 (by decide) (by decide) tw_1043 (s_X5_pitchesOf _ _ _ p1 I1) ⟨by decide, by decide⟩ rfl rfl (Nat.le_of_ble_eq_true rfl) rfl rfl (by decide) (by decide) dX5_memberOf_61 (fun x3 I3 => ?_)
      exact aw_ret S hQ (vp_nar_int _) (by decide) (by decide) dX5_memberOf_64
    refine aw_tableAt (tgt := 65) S 2 dX5_memberOf_12 (by decide) (by decide) rfl (by decide) ?_ (fun n_2 => ?_)
    · refine aw_aload_n S 0 rfl dX5_memberOf_65 rfl ?_
      refine aw_iload_n S 1 rfl dX5_memberOf_66 rfl ?_
      refine aw_iconst (v := (0 : Int32)) S dX5_memberOf_67 (by decide) ?_
      refine aw_cVi S 177 [.int p1, .int (0 : Int32)] vw_X5_kettlesOf cl_X5 (by decide) (by decide) tw_1242 (s_X5_kettlesOf _ _ _ p1 (0 : Int32) I1) ⟨by decide, by decide⟩ rfl rfl (Nat.le_of_ble_eq_true rfl) rfl rfl (by decide) (by decide) dX5_memberOf_68 (fun x4 I4 => ?_)
      exact aw_ret S hQ (vp_nar_int _) (by decide) (by decide) dX5_memberOf_71
    refine aw_tableAt (tgt := 72) S 3 dX5_memberOf_12 (by decide) (by decide) rfl (by decide) ?_ (fun n_3 => ?_)
    · refine aw_aload_n S 0 rfl dX5_memberOf_72 rfl ?_
      refine aw_iload_n S 1 rfl dX5_memberOf_73 rfl ?_
      refine aw_iconst (v := (1 : Int32)) S dX5_memberOf_74 (by decide) ?_
      refine aw_cVi S 177 [.int p1, .int (1 : Int32)] vw_X5_kettlesOf cl_X5 (by decide) (by decide) tw_1242 (s_X5_kettlesOf _ _ _ p1 (1 : Int32) I1) ⟨by decide, by decide⟩ rfl rfl (Nat.le_of_ble_eq_true rfl) rfl rfl (by decide) (by decide) dX5_memberOf_75 (fun x5 I5 => ?_)
      exact aw_ret S hQ (vp_nar_int _) (by decide) (by decide) dX5_memberOf_78
    refine aw_tableAt (tgt := 79) S 4 dX5_memberOf_12 (by decide) (by decide) rfl (by decide) ?_ (fun n_4 => ?_)
    · refine aw_aload_n S 0 rfl dX5_memberOf_79 rfl ?_
      refine aw_iload_n S 1 rfl dX5_memberOf_80 rfl ?_
      refine aw_iconst (v := (1 : Int32)) S dX5_memberOf_81 (by decide) ?_
      refine aw_cVi S 177 [.int p1, .int (1 : Int32)] vw_X5_m cl_X5 (by decide) (by decide) tw_1238 (s_X5_m _ _ _ p1 (1 : Int32) I1) ⟨by decide, by decide⟩ rfl rfl (Nat.le_of_ble_eq_true rfl) rfl rfl (by decide) (by decide) dX5_memberOf_82 (fun x6 I6 => ?_)
      exact aw_ret S hQ (vp_nar_int _) (by decide) (by decide) dX5_memberOf_85
    refine aw_tableAt (tgt := 86) S 5 dX5_memberOf_12 (by decide) (by decide) rfl (by decide) ?_ (fun n_5 => ?_)
    · refine aw_aload_n S 0 rfl dX5_memberOf_86 rfl ?_
      refine aw_iload_n S 1 rfl dX5_memberOf_87 rfl ?_
      refine aw_iconst (v := (2 : Int32)) S dX5_memberOf_88 (by decide) ?_
      refine aw_cVi S 177 [.int p1, .int (2 : Int32)] vw_X5_m cl_X5 (by decide) (by decide) tw_1238 (s_X5_m _ _ _ p1 (2 : Int32) I1) ⟨by decide, by decide⟩ rfl rfl (Nat.le_of_ble_eq_true rfl) rfl rfl (by decide) (by decide) dX5_memberOf_89 (fun x7 I7 => ?_)
      exact aw_ret S hQ (vp_nar_int _) (by decide) (by decide) dX5_memberOf_92
    refine aw_tableD (tgt := 93) S [0, 1, 2, 3, 4, 5] dX5_memberOf_12 (by decide) (by decide) (by intro v hv; simp only [List.mem_cons, List.not_mem_nil, or_false] at hv; rcases hv with rfl | rfl | rfl | rfl | rfl | rfl <;> assumption) (by decide) ?_
    refine aw_sipush (v := (-1012 : Int32)) S dX5_memberOf_93 (by decide) ?_
    exact aw_ret S hQ (vp_nar_int _) (by decide) (by decide) dX5_memberOf_96
  refine aw_sipush (v := (-1011 : Int32)) S dX5_memberOf_7 (by decide) ?_
  exact aw_ret S hQ (vp_nar_int _) (by decide) (by decide) dX5_memberOf_10
set_option maxHeartbeats 4000000 in
set_option maxRecDepth 100000 in
theorem s_X5_ranked_L12 {X : kgCX (Int32 × kgM)} {w : Option (Nat × Nat)} (S : Cx X cX5_ranked RX5 7 2 44 0 0) (hQ : Qxi X w .int) (a1 : Int32) (a2 : Int32) {K : Int32 → kgM → Option (Int32 × kgM)} (hK : ∀ (z3 : Int32) (J : kgM), AW X 7 0 0 w (K z3 J) 88 [(0, .ref (kgO (kgHs X) 177)), (1, .int a1), (2, .int a2), (3, .int z3)] [] J) : ∀ (q : Nat) (x3h12 : Int32) (x4h12 : Int32) (Ih12 : kgM), AW X 7 0 0 w (f_X5_ranked_L12 a1 a2 K q x3h12 x4h12 Ih12) 12 [(0, .ref (kgO (kgHs X) 177)), (1, .int a1), (2, .int a2), (3, .int x3h12), (4, .int x4h12)] [] Ih12 := by
  intro q
  induction q with
  | zero => intros; exact aw_none
  | succ q ih =>
    intro x3h12 x4h12 Ih12
    rw [f_X5_ranked_L12]
    refine aw_iload S 4 rfl dX5_ranked_12 ?_
    refine aw_iconst (v := (4 : Int32)) S dX5_ranked_14 (by decide) ?_
    refine aw_icmp_ge (tgt := 88) S dX5_ranked_15 (by decide) ?_ ?_
    · refine aw_sub (L2 := [(0, .ref (kgO (kgHs X) 177)), (1, .int a1), (2, .int a2), (3, .int x3h12)]) [0, 1, 2, 3] rfl ?_
      exact hK x3h12 Ih12
    refine aw_aload_n S 0 rfl dX5_ranked_18 rfl ?_
    refine aw_iload S 4 rfl dX5_ranked_19 ?_
    refine aw_iconst (v := (0 : Int32)) S dX5_ranked_21 (by decide) ?_
    refine aw_cVi S 177 [.int x4h12, .int (0 : Int32)] vw_X5_m cl_X5 (by decide) (by decide) tw_1238 (s_X5_m _ _ _ x4h12 (0 : Int32) Ih12) ⟨by decide, by decide⟩ rfl rfl (Nat.le_of_ble_eq_true rfl) rfl rfl (by decide) (by decide) dX5_ranked_22 (fun x1 I1 => ?_)
    refine aw_aload_n S 0 rfl dX5_ranked_25 rfl ?_
    refine aw_iload_n S 2 rfl dX5_ranked_26 rfl ?_
    refine aw_iconst (v := (0 : Int32)) S dX5_ranked_27 (by decide) ?_
    refine aw_cVi S 177 [.int a2, .int (0 : Int32)] vw_X5_m cl_X5 (by decide) (by decide) tw_1238 (s_X5_m _ _ _ a2 (0 : Int32) I1) ⟨by decide, by decide⟩ rfl rfl (Nat.le_of_ble_eq_true rfl) rfl rfl (by decide) (by decide) dX5_ranked_28 (fun x2 I2 => ?_)
    refine aw_isub S dX5_ranked_31 ?_
    refine aw_istore (L2 := [(0, .ref (kgO (kgHs X) 177)), (1, .int a1), (2, .int a2), (3, .int x3h12), (4, .int x4h12), (5, .int (x1 - x2))]) S [1, 2, 3, 4, 5, 0] dX5_ranked_32 (by decide) rfl ?_
    refine aw_let (Lf := fun x3 => [(0, .ref (kgO (kgHs X) 177)), (1, .int a1), (2, .int a2), (3, .int x3h12), (4, .int x4h12), (5, .int x3)]) (x1 - x2) (fun x3 => ?_)
    refine aw_aload_n S 0 rfl dX5_ranked_34 rfl ?_
    refine aw_iload S 4 rfl dX5_ranked_35 ?_
    refine aw_cVi S 177 [.int x4h12] vw_X5_pitchesOf cl_X5 (by decide) (by decide) tw_1043 (s_X5_pitchesOf _ _ _ x4h12 I2) ⟨by decide, by decide⟩ rfl rfl (Nat.le_of_ble_eq_true rfl) rfl rfl (by decide) (by decide) dX5_ranked_37 (fun x4 I3 => ?_)
    refine aw_aload_n S 0 rfl dX5_ranked_40 rfl ?_
    refine aw_iload_n S 2 rfl dX5_ranked_41 rfl ?_
    refine aw_cVi S 177 [.int a2] vw_X5_pitchesOf cl_X5 (by decide) (by decide) tw_1043 (s_X5_pitchesOf _ _ _ a2 I3) ⟨by decide, by decide⟩ rfl rfl (Nat.le_of_ble_eq_true rfl) rfl rfl (by decide) (by decide) dX5_ranked_42 (fun x5 I4 => ?_)
    refine aw_isub S dX5_ranked_45 ?_
    refine aw_istore (L2 := [(0, .ref (kgO (kgHs X) 177)), (1, .int a1), (2, .int a2), (3, .int x3h12), (4, .int x4h12), (5, .int x3), (6, .int (x4 - x5))]) S [1, 2, 3, 4, 5, 6, 0] dX5_ranked_46 (by decide) rfl ?_
    refine aw_let (Lf := fun x6 => [(0, .ref (kgO (kgHs X) 177)), (1, .int a1), (2, .int a2), (3, .int x3h12), (4, .int x4h12), (5, .int x3), (6, .int x6)]) (x4 - x5) (fun x6 => ?_)
    refine aw_iload_n S 3 rfl dX5_ranked_48 rfl ?_
    refine aw_iload S 5 rfl dX5_ranked_49 ?_
    refine aw_if_gt (y := 0) (tgt := 75) S dX5_ranked_51 (by decide) ?_ ?_
    · refine aw_iconst (v := (1 : Int32)) S dX5_ranked_75 (by decide) ?_
      refine aw_goto (tgt := 80) S dX5_ranked_76 (by decide) ?_
      refine aw_iadd S dX5_ranked_80 ?_
      refine aw_istore_n (L2 := [(0, .ref (kgO (kgHs X) 177)), (1, .int a1), (2, .int a2), (3, .int (x3h12 + (1 : Int32))), (4, .int x4h12), (5, .int x3), (6, .int x6)]) S [1, 2, 3, 0, 4, 5, 6] dX5_ranked_81 rfl (by decide) rfl ?_
      refine aw_let (Lf := fun x7 => [(0, .ref (kgO (kgHs X) 177)), (1, .int a1), (2, .int a2), (3, .int x7), (4, .int x4h12), (5, .int x3), (6, .int x6)]) (x3h12 + (1 : Int32)) (fun x7 => ?_)
      refine aw_iinc (v := x4h12 + (1 : Int32)) (L2 := [(0, .ref (kgO (kgHs X) 177)), (1, .int a1), (2, .int a2), (3, .int x7), (4, .int (x4h12 + (1 : Int32))), (5, .int x3), (6, .int x6)]) S [1, 2, 3, 4, 0, 5, 6] 4 dX5_ranked_82 rfl rfl (by decide) rfl ?_
      refine aw_let (Lf := fun x8 => [(0, .ref (kgO (kgHs X) 177)), (1, .int a1), (2, .int a2), (3, .int x7), (4, .int x8), (5, .int x3), (6, .int x6)]) (x4h12 + (1 : Int32)) (fun x8 => ?_)
      refine aw_goto (tgt := 12) S dX5_ranked_85 (by decide) ?_
      refine aw_sub (L2 := [(0, .ref (kgO (kgHs X) 177)), (1, .int a1), (2, .int a2), (3, .int x7), (4, .int x8)]) [0, 1, 2, 3, 4] rfl ?_
      exact ih x7 x8 I4
    refine aw_iload S 5 rfl dX5_ranked_54 ?_
    refine aw_if_ne (y := 0) (tgt := 79) S dX5_ranked_56 (by decide) ?_ ?_
    · refine aw_iconst (v := (0 : Int32)) S dX5_ranked_79 (by decide) ?_
      refine aw_iadd S dX5_ranked_80 ?_
      refine aw_istore_n (L2 := [(0, .ref (kgO (kgHs X) 177)), (1, .int a1), (2, .int a2), (3, .int (x3h12 + (0 : Int32))), (4, .int x4h12), (5, .int x3), (6, .int x6)]) S [1, 2, 3, 0, 4, 5, 6] dX5_ranked_81 rfl (by decide) rfl ?_
      refine aw_let (Lf := fun x9 => [(0, .ref (kgO (kgHs X) 177)), (1, .int a1), (2, .int a2), (3, .int x9), (4, .int x4h12), (5, .int x3), (6, .int x6)]) (x3h12 + (0 : Int32)) (fun x9 => ?_)
      refine aw_iinc (v := x4h12 + (1 : Int32)) (L2 := [(0, .ref (kgO (kgHs X) 177)), (1, .int a1), (2, .int a2), (3, .int x9), (4, .int (x4h12 + (1 : Int32))), (5, .int x3), (6, .int x6)]) S [1, 2, 3, 4, 0, 5, 6] 4 dX5_ranked_82 rfl rfl (by decide) rfl ?_
      refine aw_let (Lf := fun x10 => [(0, .ref (kgO (kgHs X) 177)), (1, .int a1), (2, .int a2), (3, .int x9), (4, .int x10), (5, .int x3), (6, .int x6)]) (x4h12 + (1 : Int32)) (fun x10 => ?_)
      refine aw_goto (tgt := 12) S dX5_ranked_85 (by decide) ?_
      refine aw_sub (L2 := [(0, .ref (kgO (kgHs X) 177)), (1, .int a1), (2, .int a2), (3, .int x9), (4, .int x10)]) [0, 1, 2, 3, 4] rfl ?_
      exact ih x9 x10 I4
    refine aw_iload S 6 rfl dX5_ranked_59 ?_
    refine aw_if_gt (y := 0) (tgt := 75) S dX5_ranked_61 (by decide) ?_ ?_
    · refine aw_iconst (v := (1 : Int32)) S dX5_ranked_75 (by decide) ?_
      refine aw_goto (tgt := 80) S dX5_ranked_76 (by decide) ?_
      refine aw_iadd S dX5_ranked_80 ?_
      refine aw_istore_n (L2 := [(0, .ref (kgO (kgHs X) 177)), (1, .int a1), (2, .int a2), (3, .int (x3h12 + (1 : Int32))), (4, .int x4h12), (5, .int x3), (6, .int x6)]) S [1, 2, 3, 0, 4, 5, 6] dX5_ranked_81 rfl (by decide) rfl ?_
      refine aw_let (Lf := fun x11 => [(0, .ref (kgO (kgHs X) 177)), (1, .int a1), (2, .int a2), (3, .int x11), (4, .int x4h12), (5, .int x3), (6, .int x6)]) (x3h12 + (1 : Int32)) (fun x11 => ?_)
      refine aw_iinc (v := x4h12 + (1 : Int32)) (L2 := [(0, .ref (kgO (kgHs X) 177)), (1, .int a1), (2, .int a2), (3, .int x11), (4, .int (x4h12 + (1 : Int32))), (5, .int x3), (6, .int x6)]) S [1, 2, 3, 4, 0, 5, 6] 4 dX5_ranked_82 rfl rfl (by decide) rfl ?_
      refine aw_let (Lf := fun x12 => [(0, .ref (kgO (kgHs X) 177)), (1, .int a1), (2, .int a2), (3, .int x11), (4, .int x12), (5, .int x3), (6, .int x6)]) (x4h12 + (1 : Int32)) (fun x12 => ?_)
      refine aw_goto (tgt := 12) S dX5_ranked_85 (by decide) ?_
      refine aw_sub (L2 := [(0, .ref (kgO (kgHs X) 177)), (1, .int a1), (2, .int a2), (3, .int x11), (4, .int x12)]) [0, 1, 2, 3, 4] rfl ?_
      exact ih x11 x12 I4
    refine aw_iload S 6 rfl dX5_ranked_64 ?_
    refine aw_if_ne (y := 0) (tgt := 79) S dX5_ranked_66 (by decide) ?_ ?_
    · refine aw_iconst (v := (0 : Int32)) S dX5_ranked_79 (by decide) ?_
      refine aw_iadd S dX5_ranked_80 ?_
      refine aw_istore_n (L2 := [(0, .ref (kgO (kgHs X) 177)), (1, .int a1), (2, .int a2), (3, .int (x3h12 + (0 : Int32))), (4, .int x4h12), (5, .int x3), (6, .int x6)]) S [1, 2, 3, 0, 4, 5, 6] dX5_ranked_81 rfl (by decide) rfl ?_
      refine aw_let (Lf := fun x13 => [(0, .ref (kgO (kgHs X) 177)), (1, .int a1), (2, .int a2), (3, .int x13), (4, .int x4h12), (5, .int x3), (6, .int x6)]) (x3h12 + (0 : Int32)) (fun x13 => ?_)
      refine aw_iinc (v := x4h12 + (1 : Int32)) (L2 := [(0, .ref (kgO (kgHs X) 177)), (1, .int a1), (2, .int a2), (3, .int x13), (4, .int (x4h12 + (1 : Int32))), (5, .int x3), (6, .int x6)]) S [1, 2, 3, 4, 0, 5, 6] 4 dX5_ranked_82 rfl rfl (by decide) rfl ?_
      refine aw_let (Lf := fun x14 => [(0, .ref (kgO (kgHs X) 177)), (1, .int a1), (2, .int a2), (3, .int x13), (4, .int x14), (5, .int x3), (6, .int x6)]) (x4h12 + (1 : Int32)) (fun x14 => ?_)
      refine aw_goto (tgt := 12) S dX5_ranked_85 (by decide) ?_
      refine aw_sub (L2 := [(0, .ref (kgO (kgHs X) 177)), (1, .int a1), (2, .int a2), (3, .int x13), (4, .int x14)]) [0, 1, 2, 3, 4] rfl ?_
      exact ih x13 x14 I4
    refine aw_iload S 4 rfl dX5_ranked_69 ?_
    refine aw_iload_n S 2 rfl dX5_ranked_71 rfl ?_
    refine aw_icmp_ge (tgt := 79) S dX5_ranked_72 (by decide) ?_ ?_
    · refine aw_iconst (v := (0 : Int32)) S dX5_ranked_79 (by decide) ?_
      refine aw_iadd S dX5_ranked_80 ?_
      refine aw_istore_n (L2 := [(0, .ref (kgO (kgHs X) 177)), (1, .int a1), (2, .int a2), (3, .int (x3h12 + (0 : Int32))), (4, .int x4h12), (5, .int x3), (6, .int x6)]) S [1, 2, 3, 0, 4, 5, 6] dX5_ranked_81 rfl (by decide) rfl ?_
      refine aw_let (Lf := fun x15 => [(0, .ref (kgO (kgHs X) 177)), (1, .int a1), (2, .int a2), (3, .int x15), (4, .int x4h12), (5, .int x3), (6, .int x6)]) (x3h12 + (0 : Int32)) (fun x15 => ?_)
      refine aw_iinc (v := x4h12 + (1 : Int32)) (L2 := [(0, .ref (kgO (kgHs X) 177)), (1, .int a1), (2, .int a2), (3, .int x15), (4, .int (x4h12 + (1 : Int32))), (5, .int x3), (6, .int x6)]) S [1, 2, 3, 4, 0, 5, 6] 4 dX5_ranked_82 rfl rfl (by decide) rfl ?_
      refine aw_let (Lf := fun x16 => [(0, .ref (kgO (kgHs X) 177)), (1, .int a1), (2, .int a2), (3, .int x15), (4, .int x16), (5, .int x3), (6, .int x6)]) (x4h12 + (1 : Int32)) (fun x16 => ?_)
      refine aw_goto (tgt := 12) S dX5_ranked_85 (by decide) ?_
      refine aw_sub (L2 := [(0, .ref (kgO (kgHs X) 177)), (1, .int a1), (2, .int a2), (3, .int x15), (4, .int x16)]) [0, 1, 2, 3, 4] rfl ?_
      exact ih x15 x16 I4
    refine aw_iconst (v := (1 : Int32)) S dX5_ranked_75 (by decide) ?_
    refine aw_goto (tgt := 80) S dX5_ranked_76 (by decide) ?_
    refine aw_iadd S dX5_ranked_80 ?_
    refine aw_istore_n (L2 := [(0, .ref (kgO (kgHs X) 177)), (1, .int a1), (2, .int a2), (3, .int (x3h12 + (1 : Int32))), (4, .int x4h12), (5, .int x3), (6, .int x6)]) S [1, 2, 3, 0, 4, 5, 6] dX5_ranked_81 rfl (by decide) rfl ?_
    refine aw_let (Lf := fun x17 => [(0, .ref (kgO (kgHs X) 177)), (1, .int a1), (2, .int a2), (3, .int x17), (4, .int x4h12), (5, .int x3), (6, .int x6)]) (x3h12 + (1 : Int32)) (fun x17 => ?_)
    refine aw_iinc (v := x4h12 + (1 : Int32)) (L2 := [(0, .ref (kgO (kgHs X) 177)), (1, .int a1), (2, .int a2), (3, .int x17), (4, .int (x4h12 + (1 : Int32))), (5, .int x3), (6, .int x6)]) S [1, 2, 3, 4, 0, 5, 6] 4 dX5_ranked_82 rfl rfl (by decide) rfl ?_
    refine aw_let (Lf := fun x18 => [(0, .ref (kgO (kgHs X) 177)), (1, .int a1), (2, .int a2), (3, .int x17), (4, .int x18), (5, .int x3), (6, .int x6)]) (x4h12 + (1 : Int32)) (fun x18 => ?_)
    refine aw_goto (tgt := 12) S dX5_ranked_85 (by decide) ?_
    refine aw_sub (L2 := [(0, .ref (kgO (kgHs X) 177)), (1, .int a1), (2, .int a2), (3, .int x17), (4, .int x18)]) [0, 1, 2, 3, 4] rfl ?_
    exact ih x17 x18 I4
set_option maxHeartbeats 4000000 in
set_option maxRecDepth 100000 in
theorem s_X5_ranked_L2 {X : kgCX (Int32 × kgM)} {w : Option (Nat × Nat)} (S : Cx X cX5_ranked RX5 7 2 44 0 0) (hQ : Qxi X w .int) (a1 : Int32) {K : kgM → Option (Int32 × kgM)} (hK : ∀  (J : kgM), AW X 7 0 0 w (K J) 101 [] [] J) : ∀ (q : Nat) (x2h2 : Int32) (Ih2 : kgM), AW X 7 0 0 w (f_X5_ranked_L2 a1 K q x2h2 Ih2) 2 [(0, .ref (kgO (kgHs X) 177)), (1, .int a1), (2, .int x2h2)] [] Ih2 := by
  intro q
  induction q with
  | zero => intros; exact aw_none
  | succ q ih =>
    intro x2h2 Ih2
    rw [f_X5_ranked_L2]
    refine aw_iload_n S 2 rfl dX5_ranked_2 rfl ?_
    refine aw_iconst (v := (4 : Int32)) S dX5_ranked_3 (by decide) ?_
    refine aw_icmp_ge (tgt := 101) S dX5_ranked_4 (by decide) ?_ ?_
    · refine aw_sub (L2 := []) [] rfl ?_
      exact hK Ih2
    refine aw_iconst (v := (0 : Int32)) S dX5_ranked_7 (by decide) ?_
    refine aw_istore_n (L2 := [(0, .ref (kgO (kgHs X) 177)), (1, .int a1), (2, .int x2h2), (3, .int (0 : Int32))]) S [1, 2, 3, 0] dX5_ranked_8 rfl (by decide) rfl ?_
    refine aw_iconst (v := (0 : Int32)) S dX5_ranked_9 (by decide) ?_
    refine aw_istore (L2 := [(0, .ref (kgO (kgHs X) 177)), (1, .int a1), (2, .int x2h2), (3, .int (0 : Int32)), (4, .int (0 : Int32))]) S [1, 2, 3, 4, 0] dX5_ranked_10 (by decide) rfl ?_
    refine s_X5_ranked_L12 S hQ a1 x2h2 (fun x19 I5 => ?_) 200 (0 : Int32) (0 : Int32) Ih2
    refine aw_iload_n S 3 rfl dX5_ranked_88 rfl ?_
    refine aw_iload_n S 1 rfl dX5_ranked_89 rfl ?_
    refine aw_icmp_ne (tgt := 95) S dX5_ranked_90 (by decide) ?_ ?_
    · refine aw_iinc (v := x2h2 + (1 : Int32)) (L2 := [(0, .ref (kgO (kgHs X) 177)), (1, .int a1), (2, .int (x2h2 + (1 : Int32))), (3, .int x19)]) S [1, 2, 0, 3] 2 dX5_ranked_95 rfl rfl (by decide) rfl ?_
      refine aw_let (Lf := fun x20 => [(0, .ref (kgO (kgHs X) 177)), (1, .int a1), (2, .int x20), (3, .int x19)]) (x2h2 + (1 : Int32)) (fun x20 => ?_)
      refine aw_goto (tgt := 2) S dX5_ranked_98 (by decide) ?_
      refine aw_sub (L2 := [(0, .ref (kgO (kgHs X) 177)), (1, .int a1), (2, .int x20)]) [0, 1, 2] rfl ?_
      exact ih x20 I5
    refine aw_iload_n S 2 rfl dX5_ranked_93 rfl ?_
    exact aw_ret S hQ (vp_nar_int _) (by decide) (by decide) dX5_ranked_94
set_option maxHeartbeats 4000000 in
set_option maxRecDepth 100000 in
theorem s_X5_ranked (hs : kgH) (l : Launch) (w : Option (Nat × Nat)) (p1 : Int32) (I0 : kgM) : Sdi hs l w yX5_ranked (kg_ws yX5_ranked cX5_ranked 7 (some .int)) { frames := 2, cells := 0, slots := 0, locals := 44 } [.ref (kgO hs 177), .int p1] I0 (f_X5_ranked p1 I0) := by
  refine sd_i (av := fun hs => [.ref (kgO hs 177), .int p1]) (by decide +kernel) (fun hs => Nat.le_of_ble_eq_true rfl) (fun X S hQ => ?_) hs l
  refine aw_sub (L2 := [(0, .ref (kgO (kgHs X) 177)), (1, .int p1)]) [0, 1] rfl ?_
  unfold f_X5_ranked
  refine aw_iconst (v := (0 : Int32)) S dX5_ranked_0 (by decide) ?_
  refine aw_istore_n (L2 := [(0, .ref (kgO (kgHs X) 177)), (1, .int p1), (2, .int (0 : Int32))]) S [1, 2, 0] dX5_ranked_1 rfl (by decide) rfl ?_
  refine s_X5_ranked_L2 S hQ p1 (fun I6 => ?_) 200 (0 : Int32) I0
  refine aw_sipush (v := (-1011 : Int32)) S dX5_ranked_101 (by decide) ?_
  exact aw_ret S hQ (vp_nar_int _) (by decide) (by decide) dX5_ranked_104
set_option maxHeartbeats 4000000 in
set_option maxRecDepth 100000 in
theorem s_X5_hottest_L17 {X : kgCX (Int32 × kgM)} {w : Option (Nat × Nat)} (S : Cx X cX5_hottest RX5 7 1 22 0 0) (hQ : Qxi X w .int) (a1 : Int32) (a2 : Int32) {K : Int32 → kgM → Option (Int32 × kgM)} (hK : ∀ (z3 : Int32) (J : kgM), AW X 7 0 0 w (K z3 J) 100 [(0, .ref (kgO (kgHs X) 177)), (1, .int a1), (2, .int a2), (3, .int z3)] [] J) : ∀ (q : Nat) (x3h17 : Int32) (x4h17 : Int32) (Ih17 : kgM), AW X 7 0 0 w (f_X5_hottest_L17 a1 a2 K q x3h17 x4h17 Ih17) 17 [(0, .ref (kgO (kgHs X) 177)), (1, .int a1), (2, .int a2), (3, .int x3h17), (4, .int x4h17)] [] Ih17 := by
  intro q
  induction q with
  | zero => intros; exact aw_none
  | succ q ih =>
    intro x3h17 x4h17 Ih17
    rw [f_X5_hottest_L17]
    refine aw_iload S 4 rfl dX5_hottest_17 ?_
    refine aw_aload_n S 0 rfl dX5_hottest_19 rfl ?_
    refine aw_getR S 177 0 178 cl_X5 (by decide) (by decide) (by decide) (by decide) (by decide) rfl tw_963 dX5_hottest_20 ?_
    refine aw_iconst (v := (1 : Int32)) S dX5_hottest_23 (by decide) ?_
    refine aw_iald S 178 1375 (by decide) (by decide) dX5_hottest_24 ?_
    refine aw_icmp_ge (tgt := 100) S dX5_hottest_25 (by decide) ?_ ?_
    · refine aw_sub (L2 := [(0, .ref (kgO (kgHs X) 177)), (1, .int a1), (2, .int a2), (3, .int x3h17)]) [0, 1, 2, 3] rfl ?_
      exact hK x3h17 Ih17
    refine aw_aload_n S 0 rfl dX5_hottest_28 rfl ?_
    refine aw_iload S 4 rfl dX5_hottest_29 ?_
    refine aw_iconst (v := (3 : Int32)) S dX5_hottest_31 (by decide) ?_
    refine aw_cVi S 177 [.int x4h17, .int (3 : Int32)] vw_X5_kt cl_X5 (by decide) (by decide) tw_1075 (s_X5_kt _ _ _ x4h17 (3 : Int32) Ih17) ⟨by decide, by decide⟩ rfl rfl (Nat.le_of_ble_eq_true rfl) rfl rfl (by decide) (by decide) dX5_hottest_32 (fun x1 I1 => ?_)
    refine aw_aload_n S 0 rfl dX5_hottest_35 rfl ?_
    refine aw_iload_n S 2 rfl dX5_hottest_36 rfl ?_
    refine aw_iconst (v := (3 : Int32)) S dX5_hottest_37 (by decide) ?_
    refine aw_cVi S 177 [.int a2, .int (3 : Int32)] vw_X5_kt cl_X5 (by decide) (by decide) tw_1075 (s_X5_kt _ _ _ a2 (3 : Int32) I1) ⟨by decide, by decide⟩ rfl rfl (Nat.le_of_ble_eq_true rfl) rfl rfl (by decide) (by decide) dX5_hottest_38 (fun x2 I2 => ?_)
    refine aw_isub S dX5_hottest_41 ?_
    refine aw_istore (L2 := [(0, .ref (kgO (kgHs X) 177)), (1, .int a1), (2, .int a2), (3, .int x3h17), (4, .int x4h17), (5, .int (x1 - x2))]) S [1, 2, 3, 4, 5, 0] dX5_hottest_42 (by decide) rfl ?_
    refine aw_let (Lf := fun x3 => [(0, .ref (kgO (kgHs X) 177)), (1, .int a1), (2, .int a2), (3, .int x3h17), (4, .int x4h17), (5, .int x3)]) (x1 - x2) (fun x3 => ?_)
    refine aw_aload_n S 0 rfl dX5_hottest_44 rfl ?_
    refine aw_iload_n S 2 rfl dX5_hottest_45 rfl ?_
    refine aw_iconst (v := (2 : Int32)) S dX5_hottest_46 (by decide) ?_
    refine aw_cVi S 177 [.int a2, .int (2 : Int32)] vw_X5_kt cl_X5 (by decide) (by decide) tw_1075 (s_X5_kt _ _ _ a2 (2 : Int32) I2) ⟨by decide, by decide⟩ rfl rfl (Nat.le_of_ble_eq_true rfl) rfl rfl (by decide) (by decide) dX5_hottest_47 (fun x4 I3 => ?_)
    refine aw_aload_n S 0 rfl dX5_hottest_50 rfl ?_
    refine aw_iload S 4 rfl dX5_hottest_51 ?_
    refine aw_iconst (v := (2 : Int32)) S dX5_hottest_53 (by decide) ?_
    refine aw_cVi S 177 [.int x4h17, .int (2 : Int32)] vw_X5_kt cl_X5 (by decide) (by decide) tw_1075 (s_X5_kt _ _ _ x4h17 (2 : Int32) I3) ⟨by decide, by decide⟩ rfl rfl (Nat.le_of_ble_eq_true rfl) rfl rfl (by decide) (by decide) dX5_hottest_54 (fun x5 I4 => ?_)
    refine aw_isub S dX5_hottest_57 ?_
    refine aw_istore (L2 := [(0, .ref (kgO (kgHs X) 177)), (1, .int a1), (2, .int a2), (3, .int x3h17), (4, .int x4h17), (5, .int x3), (6, .int (x4 - x5))]) S [1, 2, 3, 4, 5, 6, 0] dX5_hottest_58 (by decide) rfl ?_
    refine aw_let (Lf := fun x6 => [(0, .ref (kgO (kgHs X) 177)), (1, .int a1), (2, .int a2), (3, .int x3h17), (4, .int x4h17), (5, .int x3), (6, .int x6)]) (x4 - x5) (fun x6 => ?_)
    refine aw_iload_n S 3 rfl dX5_hottest_60 rfl ?_
    refine aw_iload S 5 rfl dX5_hottest_61 ?_
    refine aw_if_gt (y := 0) (tgt := 87) S dX5_hottest_63 (by decide) ?_ ?_
    · refine aw_iconst (v := (1 : Int32)) S dX5_hottest_87 (by decide) ?_
      refine aw_goto (tgt := 92) S dX5_hottest_88 (by decide) ?_
      refine aw_iadd S dX5_hottest_92 ?_
      refine aw_istore_n (L2 := [(0, .ref (kgO (kgHs X) 177)), (1, .int a1), (2, .int a2), (3, .int (x3h17 + (1 : Int32))), (4, .int x4h17), (5, .int x3), (6, .int x6)]) S [1, 2, 3, 0, 4, 5, 6] dX5_hottest_93 rfl (by decide) rfl ?_
      refine aw_let (Lf := fun x7 => [(0, .ref (kgO (kgHs X) 177)), (1, .int a1), (2, .int a2), (3, .int x7), (4, .int x4h17), (5, .int x3), (6, .int x6)]) (x3h17 + (1 : Int32)) (fun x7 => ?_)
      refine aw_iinc (v := x4h17 + (1 : Int32)) (L2 := [(0, .ref (kgO (kgHs X) 177)), (1, .int a1), (2, .int a2), (3, .int x7), (4, .int (x4h17 + (1 : Int32))), (5, .int x3), (6, .int x6)]) S [1, 2, 3, 4, 0, 5, 6] 4 dX5_hottest_94 rfl rfl (by decide) rfl ?_
      refine aw_let (Lf := fun x8 => [(0, .ref (kgO (kgHs X) 177)), (1, .int a1), (2, .int a2), (3, .int x7), (4, .int x8), (5, .int x3), (6, .int x6)]) (x4h17 + (1 : Int32)) (fun x8 => ?_)
      refine aw_goto (tgt := 17) S dX5_hottest_97 (by decide) ?_
      refine aw_sub (L2 := [(0, .ref (kgO (kgHs X) 177)), (1, .int a1), (2, .int a2), (3, .int x7), (4, .int x8)]) [0, 1, 2, 3, 4] rfl ?_
      exact ih x7 x8 I4
    refine aw_iload S 5 rfl dX5_hottest_66 ?_
    refine aw_if_ne (y := 0) (tgt := 91) S dX5_hottest_68 (by decide) ?_ ?_
    · refine aw_iconst (v := (0 : Int32)) S dX5_hottest_91 (by decide) ?_
      refine aw_iadd S dX5_hottest_92 ?_
      refine aw_istore_n (L2 := [(0, .ref (kgO (kgHs X) 177)), (1, .int a1), (2, .int a2), (3, .int (x3h17 + (0 : Int32))), (4, .int x4h17), (5, .int x3), (6, .int x6)]) S [1, 2, 3, 0, 4, 5, 6] dX5_hottest_93 rfl (by decide) rfl ?_
      refine aw_let (Lf := fun x9 => [(0, .ref (kgO (kgHs X) 177)), (1, .int a1), (2, .int a2), (3, .int x9), (4, .int x4h17), (5, .int x3), (6, .int x6)]) (x3h17 + (0 : Int32)) (fun x9 => ?_)
      refine aw_iinc (v := x4h17 + (1 : Int32)) (L2 := [(0, .ref (kgO (kgHs X) 177)), (1, .int a1), (2, .int a2), (3, .int x9), (4, .int (x4h17 + (1 : Int32))), (5, .int x3), (6, .int x6)]) S [1, 2, 3, 4, 0, 5, 6] 4 dX5_hottest_94 rfl rfl (by decide) rfl ?_
      refine aw_let (Lf := fun x10 => [(0, .ref (kgO (kgHs X) 177)), (1, .int a1), (2, .int a2), (3, .int x9), (4, .int x10), (5, .int x3), (6, .int x6)]) (x4h17 + (1 : Int32)) (fun x10 => ?_)
      refine aw_goto (tgt := 17) S dX5_hottest_97 (by decide) ?_
      refine aw_sub (L2 := [(0, .ref (kgO (kgHs X) 177)), (1, .int a1), (2, .int a2), (3, .int x9), (4, .int x10)]) [0, 1, 2, 3, 4] rfl ?_
      exact ih x9 x10 I4
    refine aw_iload S 6 rfl dX5_hottest_71 ?_
    refine aw_if_gt (y := 0) (tgt := 87) S dX5_hottest_73 (by decide) ?_ ?_
    · refine aw_iconst (v := (1 : Int32)) S dX5_hottest_87 (by decide) ?_
      refine aw_goto (tgt := 92) S dX5_hottest_88 (by decide) ?_
      refine aw_iadd S dX5_hottest_92 ?_
      refine aw_istore_n (L2 := [(0, .ref (kgO (kgHs X) 177)), (1, .int a1), (2, .int a2), (3, .int (x3h17 + (1 : Int32))), (4, .int x4h17), (5, .int x3), (6, .int x6)]) S [1, 2, 3, 0, 4, 5, 6] dX5_hottest_93 rfl (by decide) rfl ?_
      refine aw_let (Lf := fun x11 => [(0, .ref (kgO (kgHs X) 177)), (1, .int a1), (2, .int a2), (3, .int x11), (4, .int x4h17), (5, .int x3), (6, .int x6)]) (x3h17 + (1 : Int32)) (fun x11 => ?_)
      refine aw_iinc (v := x4h17 + (1 : Int32)) (L2 := [(0, .ref (kgO (kgHs X) 177)), (1, .int a1), (2, .int a2), (3, .int x11), (4, .int (x4h17 + (1 : Int32))), (5, .int x3), (6, .int x6)]) S [1, 2, 3, 4, 0, 5, 6] 4 dX5_hottest_94 rfl rfl (by decide) rfl ?_
      refine aw_let (Lf := fun x12 => [(0, .ref (kgO (kgHs X) 177)), (1, .int a1), (2, .int a2), (3, .int x11), (4, .int x12), (5, .int x3), (6, .int x6)]) (x4h17 + (1 : Int32)) (fun x12 => ?_)
      refine aw_goto (tgt := 17) S dX5_hottest_97 (by decide) ?_
      refine aw_sub (L2 := [(0, .ref (kgO (kgHs X) 177)), (1, .int a1), (2, .int a2), (3, .int x11), (4, .int x12)]) [0, 1, 2, 3, 4] rfl ?_
      exact ih x11 x12 I4
    refine aw_iload S 6 rfl dX5_hottest_76 ?_
    refine aw_if_ne (y := 0) (tgt := 91) S dX5_hottest_78 (by decide) ?_ ?_
    · refine aw_iconst (v := (0 : Int32)) S dX5_hottest_91 (by decide) ?_
      refine aw_iadd S dX5_hottest_92 ?_
      refine aw_istore_n (L2 := [(0, .ref (kgO (kgHs X) 177)), (1, .int a1), (2, .int a2), (3, .int (x3h17 + (0 : Int32))), (4, .int x4h17), (5, .int x3), (6, .int x6)]) S [1, 2, 3, 0, 4, 5, 6] dX5_hottest_93 rfl (by decide) rfl ?_
      refine aw_let (Lf := fun x13 => [(0, .ref (kgO (kgHs X) 177)), (1, .int a1), (2, .int a2), (3, .int x13), (4, .int x4h17), (5, .int x3), (6, .int x6)]) (x3h17 + (0 : Int32)) (fun x13 => ?_)
      refine aw_iinc (v := x4h17 + (1 : Int32)) (L2 := [(0, .ref (kgO (kgHs X) 177)), (1, .int a1), (2, .int a2), (3, .int x13), (4, .int (x4h17 + (1 : Int32))), (5, .int x3), (6, .int x6)]) S [1, 2, 3, 4, 0, 5, 6] 4 dX5_hottest_94 rfl rfl (by decide) rfl ?_
      refine aw_let (Lf := fun x14 => [(0, .ref (kgO (kgHs X) 177)), (1, .int a1), (2, .int a2), (3, .int x13), (4, .int x14), (5, .int x3), (6, .int x6)]) (x4h17 + (1 : Int32)) (fun x14 => ?_)
      refine aw_goto (tgt := 17) S dX5_hottest_97 (by decide) ?_
      refine aw_sub (L2 := [(0, .ref (kgO (kgHs X) 177)), (1, .int a1), (2, .int a2), (3, .int x13), (4, .int x14)]) [0, 1, 2, 3, 4] rfl ?_
      exact ih x13 x14 I4
    refine aw_iload S 4 rfl dX5_hottest_81 ?_
    refine aw_iload_n S 2 rfl dX5_hottest_83 rfl ?_
    refine aw_icmp_ge (tgt := 91) S dX5_hottest_84 (by decide) ?_ ?_
    · refine aw_iconst (v := (0 : Int32)) S dX5_hottest_91 (by decide) ?_
      refine aw_iadd S dX5_hottest_92 ?_
      refine aw_istore_n (L2 := [(0, .ref (kgO (kgHs X) 177)), (1, .int a1), (2, .int a2), (3, .int (x3h17 + (0 : Int32))), (4, .int x4h17), (5, .int x3), (6, .int x6)]) S [1, 2, 3, 0, 4, 5, 6] dX5_hottest_93 rfl (by decide) rfl ?_
      refine aw_let (Lf := fun x15 => [(0, .ref (kgO (kgHs X) 177)), (1, .int a1), (2, .int a2), (3, .int x15), (4, .int x4h17), (5, .int x3), (6, .int x6)]) (x3h17 + (0 : Int32)) (fun x15 => ?_)
      refine aw_iinc (v := x4h17 + (1 : Int32)) (L2 := [(0, .ref (kgO (kgHs X) 177)), (1, .int a1), (2, .int a2), (3, .int x15), (4, .int (x4h17 + (1 : Int32))), (5, .int x3), (6, .int x6)]) S [1, 2, 3, 4, 0, 5, 6] 4 dX5_hottest_94 rfl rfl (by decide) rfl ?_
      refine aw_let (Lf := fun x16 => [(0, .ref (kgO (kgHs X) 177)), (1, .int a1), (2, .int a2), (3, .int x15), (4, .int x16), (5, .int x3), (6, .int x6)]) (x4h17 + (1 : Int32)) (fun x16 => ?_)
      refine aw_goto (tgt := 17) S dX5_hottest_97 (by decide) ?_
      refine aw_sub (L2 := [(0, .ref (kgO (kgHs X) 177)), (1, .int a1), (2, .int a2), (3, .int x15), (4, .int x16)]) [0, 1, 2, 3, 4] rfl ?_
      exact ih x15 x16 I4
    refine aw_iconst (v := (1 : Int32)) S dX5_hottest_87 (by decide) ?_
    refine aw_goto (tgt := 92) S dX5_hottest_88 (by decide) ?_
    refine aw_iadd S dX5_hottest_92 ?_
    refine aw_istore_n (L2 := [(0, .ref (kgO (kgHs X) 177)), (1, .int a1), (2, .int a2), (3, .int (x3h17 + (1 : Int32))), (4, .int x4h17), (5, .int x3), (6, .int x6)]) S [1, 2, 3, 0, 4, 5, 6] dX5_hottest_93 rfl (by decide) rfl ?_
    refine aw_let (Lf := fun x17 => [(0, .ref (kgO (kgHs X) 177)), (1, .int a1), (2, .int a2), (3, .int x17), (4, .int x4h17), (5, .int x3), (6, .int x6)]) (x3h17 + (1 : Int32)) (fun x17 => ?_)
    refine aw_iinc (v := x4h17 + (1 : Int32)) (L2 := [(0, .ref (kgO (kgHs X) 177)), (1, .int a1), (2, .int a2), (3, .int x17), (4, .int (x4h17 + (1 : Int32))), (5, .int x3), (6, .int x6)]) S [1, 2, 3, 4, 0, 5, 6] 4 dX5_hottest_94 rfl rfl (by decide) rfl ?_
    refine aw_let (Lf := fun x18 => [(0, .ref (kgO (kgHs X) 177)), (1, .int a1), (2, .int a2), (3, .int x17), (4, .int x18), (5, .int x3), (6, .int x6)]) (x4h17 + (1 : Int32)) (fun x18 => ?_)
    refine aw_goto (tgt := 17) S dX5_hottest_97 (by decide) ?_
    refine aw_sub (L2 := [(0, .ref (kgO (kgHs X) 177)), (1, .int a1), (2, .int a2), (3, .int x17), (4, .int x18)]) [0, 1, 2, 3, 4] rfl ?_
    exact ih x17 x18 I4
set_option maxHeartbeats 4000000 in
set_option maxRecDepth 100000 in
theorem s_X5_hottest_L2 {X : kgCX (Int32 × kgM)} {w : Option (Nat × Nat)} (S : Cx X cX5_hottest RX5 7 1 22 0 0) (hQ : Qxi X w .int) (a1 : Int32) {K : kgM → Option (Int32 × kgM)} (hK : ∀  (J : kgM), AW X 7 0 0 w (K J) 113 [] [] J) : ∀ (q : Nat) (x2h2 : Int32) (Ih2 : kgM), AW X 7 0 0 w (f_X5_hottest_L2 a1 K q x2h2 Ih2) 2 [(0, .ref (kgO (kgHs X) 177)), (1, .int a1), (2, .int x2h2)] [] Ih2 := by
  intro q
  induction q with
  | zero => intros; exact aw_none
  | succ q ih =>
    intro x2h2 Ih2
    rw [f_X5_hottest_L2]
    refine aw_iload_n S 2 rfl dX5_hottest_2 rfl ?_
    refine aw_aload_n S 0 rfl dX5_hottest_3 rfl ?_
    refine aw_getR S 177 0 178 cl_X5 (by decide) (by decide) (by decide) (by decide) (by decide) rfl tw_963 dX5_hottest_4 ?_
    refine aw_iconst (v := (1 : Int32)) S dX5_hottest_7 (by decide) ?_
    refine aw_iald S 178 1375 (by decide) (by decide) dX5_hottest_8 ?_
    refine aw_icmp_ge (tgt := 113) S dX5_hottest_9 (by decide) ?_ ?_
    · refine aw_sub (L2 := []) [] rfl ?_
      exact hK Ih2
    refine aw_iconst (v := (0 : Int32)) S dX5_hottest_12 (by decide) ?_
    refine aw_istore_n (L2 := [(0, .ref (kgO (kgHs X) 177)), (1, .int a1), (2, .int x2h2), (3, .int (0 : Int32))]) S [1, 2, 3, 0] dX5_hottest_13 rfl (by decide) rfl ?_
    refine aw_iconst (v := (0 : Int32)) S dX5_hottest_14 (by decide) ?_
    refine aw_istore (L2 := [(0, .ref (kgO (kgHs X) 177)), (1, .int a1), (2, .int x2h2), (3, .int (0 : Int32)), (4, .int (0 : Int32))]) S [1, 2, 3, 4, 0] dX5_hottest_15 (by decide) rfl ?_
    refine s_X5_hottest_L17 S hQ a1 x2h2 (fun x19 I5 => ?_) 200 (0 : Int32) (0 : Int32) Ih2
    refine aw_iload_n S 3 rfl dX5_hottest_100 rfl ?_
    refine aw_iload_n S 1 rfl dX5_hottest_101 rfl ?_
    refine aw_icmp_ne (tgt := 107) S dX5_hottest_102 (by decide) ?_ ?_
    · refine aw_iinc (v := x2h2 + (1 : Int32)) (L2 := [(0, .ref (kgO (kgHs X) 177)), (1, .int a1), (2, .int (x2h2 + (1 : Int32))), (3, .int x19)]) S [1, 2, 0, 3] 2 dX5_hottest_107 rfl rfl (by decide) rfl ?_
      refine aw_let (Lf := fun x20 => [(0, .ref (kgO (kgHs X) 177)), (1, .int a1), (2, .int x20), (3, .int x19)]) (x2h2 + (1 : Int32)) (fun x20 => ?_)
      refine aw_goto (tgt := 2) S dX5_hottest_110 (by decide) ?_
      refine aw_sub (L2 := [(0, .ref (kgO (kgHs X) 177)), (1, .int a1), (2, .int x20)]) [0, 1, 2] rfl ?_
      exact ih x20 I5
    refine aw_iload_n S 2 rfl dX5_hottest_105 rfl ?_
    exact aw_ret S hQ (vp_nar_int _) (by decide) (by decide) dX5_hottest_106
set_option maxHeartbeats 4000000 in
set_option maxRecDepth 100000 in
theorem s_X5_hottest (hs : kgH) (l : Launch) (w : Option (Nat × Nat)) (p1 : Int32) (I0 : kgM) : Sdi hs l w yX5_hottest (kg_ws yX5_hottest cX5_hottest 7 (some .int)) { frames := 1, cells := 0, slots := 0, locals := 22 } [.ref (kgO hs 177), .int p1] I0 (f_X5_hottest p1 I0) := by
  refine sd_i (av := fun hs => [.ref (kgO hs 177), .int p1]) (by decide +kernel) (fun hs => Nat.le_of_ble_eq_true rfl) (fun X S hQ => ?_) hs l
  refine aw_sub (L2 := [(0, .ref (kgO (kgHs X) 177)), (1, .int p1)]) [0, 1] rfl ?_
  unfold f_X5_hottest
  refine aw_iconst (v := (0 : Int32)) S dX5_hottest_0 (by decide) ?_
  refine aw_istore_n (L2 := [(0, .ref (kgO (kgHs X) 177)), (1, .int p1), (2, .int (0 : Int32))]) S [1, 2, 0] dX5_hottest_1 rfl (by decide) rfl ?_
  refine s_X5_hottest_L2 S hQ p1 (fun I6 => ?_) 200 (0 : Int32) I0
  refine aw_sipush (v := (-1011 : Int32)) S dX5_hottest_113 (by decide) ?_
  exact aw_ret S hQ (vp_nar_int _) (by decide) (by decide) dX5_hottest_116
set_option maxHeartbeats 4000000 in
set_option maxRecDepth 100000 in
theorem s_X5_append (hs : kgH) (l : Launch) (w : Option (Nat × Nat)) (p1 : Int32) (I0 : kgM) : Sdi hs l w yX5_append (kg_ws yX5_append cX5_append 2 (some .int)) { frames := 1, cells := 0, slots := 0, locals := 22 } [.ref (kgO hs 177), .int p1] I0 (f_X5_append p1 I0) := by
  refine sd_i (av := fun hs => [.ref (kgO hs 177), .int p1]) (by decide +kernel) (fun hs => Nat.le_of_ble_eq_true rfl) (fun X S hQ => ?_) hs l
  refine aw_sub (L2 := [(0, .ref (kgO (kgHs X) 177)), (1, .int p1)]) [0, 1] rfl ?_
  unfold f_X5_append
  refine aw_iload_n S 1 rfl dX5_append_0 rfl ?_
  refine aw_bipush (v := (32 : Int32)) S dX5_append_1 (by decide) ?_
  refine aw_bipush (v := (126 : Int32)) S dX5_append_3 (by decide) ?_
  refine aw_cSi S [.int p1, .int (32 : Int32), .int (126 : Int32)] vw_X5_in tw_1010 (s_X5_in _ _ _ p1 (32 : Int32) (126 : Int32) I0) ⟨by decide, by decide⟩ rfl rfl (Nat.le_of_ble_eq_true rfl) rfl rfl (by decide) (by decide) dX5_append_5 (fun x1 I1 => ?_)
  refine aw_if_ne (y := 0) (tgt := 15) S dX5_append_8 (by decide) ?_ ?_
  · refine aw_aload_n S 0 rfl dX5_append_15 rfl ?_
    refine aw_getI S 177 7 cl_X5 (by decide) (by decide) (by decide) (by decide) rfl tw_970 dX5_append_16 ?_
    refine aw_bipush (v := (60 : Int32)) S dX5_append_19 (by decide) ?_
    refine aw_icmp_ne (tgt := 28) S dX5_append_21 (by decide) ?_ ?_
    · refine aw_aload_n S 0 rfl dX5_append_28 rfl ?_
      refine aw_getR S 177 6 181 cl_X5 (by decide) (by decide) (by decide) (by decide) (by decide) rfl tw_969 dX5_append_29 ?_
      refine aw_aload_n S 0 rfl dX5_append_32 rfl ?_
      refine aw_getI S 177 7 cl_X5 (by decide) (by decide) (by decide) (by decide) rfl tw_970 dX5_append_33 ?_
      refine aw_iload_n S 1 rfl dX5_append_36 rfl ?_
      refine aw_i2c S dX5_append_37 ?_
      refine aw_cast S 181 60 (by decide) (by decide) dX5_append_38 ?_
      refine aw_wr (fun I2 => ?_)
      refine aw_aload_n S 0 rfl dX5_append_39 rfl ?_
      refine aw_dup S dX5_append_40 rfl ?_
      refine aw_getI S 177 7 cl_X5 (by decide) (by decide) (by decide) (by decide) rfl tw_970 dX5_append_41 ?_
      refine aw_iconst (v := (1 : Int32)) S dX5_append_44 (by decide) ?_
      refine aw_iadd S dX5_append_45 ?_
      refine aw_putI S 177 7 cl_X5 tyX5_ok nmX5 (by decide) (by decide) (by decide) (by decide) rfl (vp_nar_int _) rfl tw_970 dX5_append_46 ?_
      refine aw_wr (fun I3 => ?_)
      refine aw_aload_n S 0 rfl dX5_append_49 rfl ?_
      refine aw_getI S 177 7 cl_X5 (by decide) (by decide) (by decide) (by decide) rfl tw_970 dX5_append_50 ?_
      exact aw_ret S hQ (vp_nar_int _) (by decide) (by decide) dX5_append_53
    refine aw_sipush (v := (-1013 : Int32)) S dX5_append_24 (by decide) ?_
    exact aw_ret S hQ (vp_nar_int _) (by decide) (by decide) dX5_append_27
  refine aw_sipush (v := (-1012 : Int32)) S dX5_append_11 (by decide) ?_
  exact aw_ret S hQ (vp_nar_int _) (by decide) (by decide) dX5_append_14
set_option maxHeartbeats 4000000 in
set_option maxRecDepth 100000 in
theorem s_X5_sign (hs : kgH) (l : Launch) (w : Option (Nat × Nat))  (I0 : kgM) : Sdi hs l w yX5_sign (kg_ws yX5_sign cX5_sign 1 (some .int)) { frames := 0, cells := 0, slots := 0, locals := 0 } [.ref (kgO hs 177)] I0 (f_X5_sign I0) := by
  refine sd_i (av := fun hs => [.ref (kgO hs 177)]) (by decide +kernel) (fun hs => Nat.le_of_ble_eq_true rfl) (fun X S hQ => ?_) hs l
  refine aw_sub (L2 := [(0, .ref (kgO (kgHs X) 177))]) [0] rfl ?_
  unfold f_X5_sign
  refine aw_aload_n S 0 rfl dX5_sign_0 rfl ?_
  refine aw_getI S 177 8 cl_X5 (by decide) (by decide) (by decide) (by decide) rfl tw_971 dX5_sign_1 ?_
  refine aw_aload_n S 0 rfl dX5_sign_4 rfl ?_
  refine aw_getI S 177 7 cl_X5 (by decide) (by decide) (by decide) (by decide) rfl tw_970 dX5_sign_5 ?_
  refine aw_icmp_ge (tgt := 23) S dX5_sign_8 (by decide) ?_ ?_
  · refine aw_iconst (v := (-1 : Int32)) S dX5_sign_23 (by decide) ?_
    exact aw_ret S hQ (vp_nar_int _) (by decide) (by decide) dX5_sign_24
  refine aw_aload_n S 0 rfl dX5_sign_11 rfl ?_
  refine aw_getR S 177 6 181 cl_X5 (by decide) (by decide) (by decide) (by decide) (by decide) rfl tw_969 dX5_sign_12 ?_
  refine aw_aload_n S 0 rfl dX5_sign_15 rfl ?_
  refine aw_getI S 177 8 cl_X5 (by decide) (by decide) (by decide) (by decide) rfl tw_971 dX5_sign_16 ?_
  refine aw_cald S 181 60 (by decide) (by decide) dX5_sign_19 ?_
  refine aw_goto (tgt := 24) S dX5_sign_20 (by decide) ?_
  exact aw_ret S hQ (vp_nar_int _) (by decide) (by decide) dX5_sign_24
set_option maxHeartbeats 4000000 in
set_option maxRecDepth 100000 in
theorem s_X5_needs (hs : kgH) (l : Launch) (w : Option (Nat × Nat)) (p1 : Int32) (I0 : kgM) : Sdv hs l w yX5_needs (kg_ws yX5_needs cX5_needs 2 none) { frames := 1, cells := 0, slots := 0, locals := 20 } [.ref (kgO hs 177), .int p1] I0 (f_X5_needs p1 I0) := by
  refine sd_v (av := fun hs => [.ref (kgO hs 177), .int p1]) (by decide +kernel) (fun hs => Nat.le_of_ble_eq_true rfl) (fun X S hQ => ?_) hs l
  refine aw_sub (L2 := [(0, .ref (kgO (kgHs X) 177)), (1, .int p1)]) [0, 1] rfl ?_
  unfold f_X5_needs
  refine aw_aload_n S 0 rfl dX5_needs_0 rfl ?_
  refine aw_getI S 177 9 cl_X5 (by decide) (by decide) (by decide) (by decide) rfl tw_972 dX5_needs_1 ?_
  refine aw_if_lt (y := 0) (tgt := 8) S dX5_needs_4 (by decide) ?_ ?_
  · refine aw_aload_n S 0 rfl dX5_needs_8 rfl ?_
    refine aw_cVi S 177 [] vw_X5_sign cl_X5 (by decide) (by decide) tw_1270 (s_X5_sign _ _ _ I0) ⟨by decide, by decide⟩ rfl rfl (Nat.le_of_ble_eq_true rfl) rfl rfl (by decide) (by decide) dX5_needs_9 (fun x1 I1 => ?_)
    refine aw_iload_n S 1 rfl dX5_needs_12 rfl ?_
    refine aw_icmp_eq (tgt := 25) S dX5_needs_13 (by decide) ?_ ?_
    · refine aw_aload_n S 0 rfl dX5_needs_25 rfl ?_
      refine aw_dup S dX5_needs_26 rfl ?_
      refine aw_getI S 177 8 cl_X5 (by decide) (by decide) (by decide) (by decide) rfl tw_971 dX5_needs_27 ?_
      refine aw_iconst (v := (1 : Int32)) S dX5_needs_30 (by decide) ?_
      refine aw_iadd S dX5_needs_31 ?_
      refine aw_putI S 177 8 cl_X5 tyX5_ok nmX5 (by decide) (by decide) (by decide) (by decide) rfl (vp_nar_int _) rfl tw_971 dX5_needs_32 ?_
      refine aw_wr (fun I2 => ?_)
      exact aw_retv S hQ (by decide) (by decide) dX5_needs_35
    refine aw_aload_n S 0 rfl dX5_needs_16 rfl ?_
    refine aw_aload_n S 0 rfl dX5_needs_17 rfl ?_
    refine aw_getI S 177 8 cl_X5 (by decide) (by decide) (by decide) (by decide) rfl tw_971 dX5_needs_18 ?_
    refine aw_putI S 177 9 cl_X5 tyX5_ok nmX5 (by decide) (by decide) (by decide) (by decide) rfl (vp_nar_int _) rfl tw_972 dX5_needs_21 ?_
    refine aw_wr (fun I3 => ?_)
    exact aw_retv S hQ (by decide) (by decide) dX5_needs_24
  exact aw_retv S hQ (by decide) (by decide) dX5_needs_7
set_option maxHeartbeats 4000000 in
set_option maxRecDepth 100000 in
theorem s_X5_signs (hs : kgH) (l : Launch) (w : Option (Nat × Nat)) (p1 : Int32) (p2 : Int32) (p3 : Int32) (I0 : kgM) : Sdv hs l w yX5_signs (kg_ws yX5_signs cX5_signs 4 none) { frames := 2, cells := 0, slots := 0, locals := 41 } [.ref (kgO hs 177), .int p1, .int p2, .int p3] I0 (f_X5_signs p1 p2 p3 I0) := by
  refine sd_v (av := fun hs => [.ref (kgO hs 177), .int p1, .int p2, .int p3]) (by decide +kernel) (fun hs => Nat.le_of_ble_eq_true rfl) (fun X S hQ => ?_) hs l
  refine aw_sub (L2 := [(0, .ref (kgO (kgHs X) 177)), (1, .int p1), (2, .int p2), (3, .int p3)]) [0, 1, 2, 3] rfl ?_
  unfold f_X5_signs
  refine aw_aload_n S 0 rfl dX5_signs_0 rfl ?_
  refine aw_iload_n S 1 rfl dX5_signs_1 rfl ?_
  refine aw_cVv S 177 [.int p1] vw_X5_needs cl_X5 (by decide) (by decide) tw_1282 (s_X5_needs _ _ _ p1 I0) ⟨by decide, by decide⟩ rfl rfl (Nat.le_of_ble_eq_true rfl) rfl rfl (by decide) (by decide) dX5_signs_2 (fun x1 I1 => ?_)
  refine aw_aload_n S 0 rfl dX5_signs_5 rfl ?_
  refine aw_iload_n S 2 rfl dX5_signs_6 rfl ?_
  refine aw_cVv S 177 [.int p2] vw_X5_needs cl_X5 (by decide) (by decide) tw_1282 (s_X5_needs _ _ _ p2 I1) ⟨by decide, by decide⟩ rfl rfl (Nat.le_of_ble_eq_true rfl) rfl rfl (by decide) (by decide) dX5_signs_7 (fun x2 I2 => ?_)
  refine aw_iload_n S 3 rfl dX5_signs_10 rfl ?_
  refine aw_if_eq (y := 0) (tgt := 19) S dX5_signs_11 (by decide) ?_ ?_
  · exact aw_retv S hQ (by decide) (by decide) dX5_signs_19
  refine aw_aload_n S 0 rfl dX5_signs_14 rfl ?_
  refine aw_iload_n S 3 rfl dX5_signs_15 rfl ?_
  refine aw_cVv S 177 [.int p3] vw_X5_needs cl_X5 (by decide) (by decide) tw_1282 (s_X5_needs _ _ _ p3 I2) ⟨by decide, by decide⟩ rfl rfl (Nat.le_of_ble_eq_true rfl) rfl rfl (by decide) (by decide) dX5_signs_16 (fun x3 I3 => ?_)
  exact aw_retv S hQ (by decide) (by decide) dX5_signs_19
set_option maxHeartbeats 4000000 in
set_option maxRecDepth 100000 in
theorem s_X5_number_L43 {X : kgCX (Int32 × kgM)} {w : Option (Nat × Nat)} (S : Cx X cX5_number RX5 4 2 41 0 0) (hQ : Qxi X w .int) (a1 : Int32) {K : Int32 → kgM → Option (Int32 × kgM)} (hK : ∀ (z2 : Int32) (J : kgM), AW X 4 0 0 w (K z2 J) 91 [(2, .int z2)] [] J) : ∀ (q : Nat) (x2h43 : Int32) (x3h43 : Int32) (Ih43 : kgM), AW X 4 0 0 w (f_X5_number_L43 a1 K q x2h43 x3h43 Ih43) 43 [(0, .ref (kgO (kgHs X) 177)), (1, .int a1), (2, .int x2h43), (3, .int x3h43)] [] Ih43 := by
  intro q
  induction q with
  | zero => intros; exact aw_none
  | succ q ih =>
    intro x2h43 x3h43 Ih43
    rw [f_X5_number_L43]
    refine aw_iload_n S 3 rfl dX5_number_43 rfl ?_
    refine aw_iload_n S 1 rfl dX5_number_44 rfl ?_
    refine aw_icmp_ge (tgt := 91) S dX5_number_45 (by decide) ?_ ?_
    · refine aw_sub (L2 := [(2, .int x2h43)]) [2] rfl ?_
      exact hK x2h43 Ih43
    refine aw_aload_n S 0 rfl dX5_number_48 rfl ?_
    refine aw_cVi S 177 [] vw_X5_sign cl_X5 (by decide) (by decide) tw_1270 (s_X5_sign _ _ _ Ih43) ⟨by decide, by decide⟩ rfl rfl (Nat.le_of_ble_eq_true rfl) rfl rfl (by decide) (by decide) dX5_number_49 (fun x4 I4 => ?_)
    refine aw_bipush (v := (48 : Int32)) S dX5_number_52 (by decide) ?_
    refine aw_bipush (v := (57 : Int32)) S dX5_number_54 (by decide) ?_
    refine aw_cSi S [.int x4, .int (48 : Int32), .int (57 : Int32)] vw_X5_in tw_1010 (s_X5_in _ _ _ x4 (48 : Int32) (57 : Int32) I4) ⟨by decide, by decide⟩ rfl rfl (Nat.le_of_ble_eq_true rfl) rfl rfl (by decide) (by decide) dX5_number_56 (fun x5 I5 => ?_)
    refine aw_if_eq (y := 0) (tgt := 91) S dX5_number_59 (by decide) ?_ ?_
    · refine aw_sub (L2 := [(2, .int x2h43)]) [2] rfl ?_
      exact hK x2h43 I5
    refine aw_bipush (v := (10 : Int32)) S dX5_number_62 (by decide) ?_
    refine aw_iload_n S 2 rfl dX5_number_64 rfl ?_
    refine aw_imul S dX5_number_65 ?_
    refine aw_aload_n S 0 rfl dX5_number_66 rfl ?_
    refine aw_cVi S 177 [] vw_X5_sign cl_X5 (by decide) (by decide) tw_1270 (s_X5_sign _ _ _ I5) ⟨by decide, by decide⟩ rfl rfl (Nat.le_of_ble_eq_true rfl) rfl rfl (by decide) (by decide) dX5_number_67 (fun x6 I6 => ?_)
    refine aw_iadd S dX5_number_70 ?_
    refine aw_bipush (v := (48 : Int32)) S dX5_number_71 (by decide) ?_
    refine aw_isub S dX5_number_73 ?_
    refine aw_istore_n (L2 := [(0, .ref (kgO (kgHs X) 177)), (1, .int a1), (2, .int ((((10 : Int32) * x2h43) + x6) - (48 : Int32))), (3, .int x3h43)]) S [1, 2, 0, 3] dX5_number_74 rfl (by decide) rfl ?_
    refine aw_let (Lf := fun x7 => [(0, .ref (kgO (kgHs X) 177)), (1, .int a1), (2, .int x7), (3, .int x3h43)]) ((((10 : Int32) * x2h43) + x6) - (48 : Int32)) (fun x7 => ?_)
    refine aw_aload_n S 0 rfl dX5_number_75 rfl ?_
    refine aw_dup S dX5_number_76 rfl ?_
    refine aw_getI S 177 8 cl_X5 (by decide) (by decide) (by decide) (by decide) rfl tw_971 dX5_number_77 ?_
    refine aw_iconst (v := (1 : Int32)) S dX5_number_80 (by decide) ?_
    refine aw_iadd S dX5_number_81 ?_
    refine aw_putI S 177 8 cl_X5 tyX5_ok nmX5 (by decide) (by decide) (by decide) (by decide) rfl (vp_nar_int _) rfl tw_971 dX5_number_82 ?_
    refine aw_wr (fun I7 => ?_)
    refine aw_iinc (v := x3h43 + (1 : Int32)) (L2 := [(0, .ref (kgO (kgHs X) 177)), (1, .int a1), (2, .int x7), (3, .int (x3h43 + (1 : Int32)))]) S [1, 2, 3, 0] 3 dX5_number_85 rfl rfl (by decide) rfl ?_
    refine aw_let (Lf := fun x8 => [(0, .ref (kgO (kgHs X) 177)), (1, .int a1), (2, .int x7), (3, .int x8)]) (x3h43 + (1 : Int32)) (fun x8 => ?_)
    refine aw_goto (tgt := 43) S dX5_number_88 (by decide) ?_
    exact ih x7 x8 I7
set_option maxHeartbeats 4000000 in
set_option maxRecDepth 100000 in
theorem s_X5_number (hs : kgH) (l : Launch) (w : Option (Nat × Nat)) (p1 : Int32) (I0 : kgM) : Sdi hs l w yX5_number (kg_ws yX5_number cX5_number 4 (some .int)) { frames := 2, cells := 0, slots := 0, locals := 41 } [.ref (kgO hs 177), .int p1] I0 (f_X5_number p1 I0) := by
  refine sd_i (av := fun hs => [.ref (kgO hs 177), .int p1]) (by decide +kernel) (fun hs => Nat.le_of_ble_eq_true rfl) (fun X S hQ => ?_) hs l
  refine aw_sub (L2 := [(0, .ref (kgO (kgHs X) 177)), (1, .int p1)]) [0, 1] rfl ?_
  unfold f_X5_number
  refine aw_aload_n S 0 rfl dX5_number_0 rfl ?_
  refine aw_bipush (v := (32 : Int32)) S dX5_number_1 (by decide) ?_
  refine aw_cVv S 177 [.int (32 : Int32)] vw_X5_needs cl_X5 (by decide) (by decide) tw_1282 (s_X5_needs _ _ _ (32 : Int32) I0) ⟨by decide, by decide⟩ rfl rfl (Nat.le_of_ble_eq_true rfl) rfl rfl (by decide) (by decide) dX5_number_3 (fun x1 I1 => ?_)
  refine aw_aload_n S 0 rfl dX5_number_6 rfl ?_
  refine aw_getI S 177 9 cl_X5 (by decide) (by decide) (by decide) (by decide) rfl tw_972 dX5_number_7 ?_
  refine aw_if_lt (y := 0) (tgt := 15) S dX5_number_10 (by decide) ?_ ?_
  · refine aw_aload_n S 0 rfl dX5_number_15 rfl ?_
    refine aw_cVi S 177 [] vw_X5_sign cl_X5 (by decide) (by decide) tw_1270 (s_X5_sign _ _ _ I1) ⟨by decide, by decide⟩ rfl rfl (Nat.le_of_ble_eq_true rfl) rfl rfl (by decide) (by decide) dX5_number_16 (fun x2 I2 => ?_)
    refine aw_bipush (v := (48 : Int32)) S dX5_number_19 (by decide) ?_
    refine aw_bipush (v := (57 : Int32)) S dX5_number_21 (by decide) ?_
    refine aw_cSi S [.int x2, .int (48 : Int32), .int (57 : Int32)] vw_X5_in tw_1010 (s_X5_in _ _ _ x2 (48 : Int32) (57 : Int32) I2) ⟨by decide, by decide⟩ rfl rfl (Nat.le_of_ble_eq_true rfl) rfl rfl (by decide) (by decide) dX5_number_23 (fun x3 I3 => ?_)
    refine aw_if_ne (y := 0) (tgt := 39) S dX5_number_26 (by decide) ?_ ?_
    · refine aw_iconst (v := (0 : Int32)) S dX5_number_39 (by decide) ?_
      refine aw_istore_n (L2 := [(0, .ref (kgO (kgHs X) 177)), (1, .int p1), (2, .int (0 : Int32))]) S [1, 2, 0] dX5_number_40 rfl (by decide) rfl ?_
      refine aw_iconst (v := (0 : Int32)) S dX5_number_41 (by decide) ?_
      refine aw_istore_n (L2 := [(0, .ref (kgO (kgHs X) 177)), (1, .int p1), (2, .int (0 : Int32)), (3, .int (0 : Int32))]) S [1, 2, 3, 0] dX5_number_42 rfl (by decide) rfl ?_
      refine s_X5_number_L43 S hQ p1 (fun x9 I8 => ?_) 200 (0 : Int32) (0 : Int32) I3
      refine aw_iload_n S 0 rfl dX5_number_91 rfl ?_
      exact aw_ret S hQ (vp_nar_int _) (by decide) (by decide) dX5_number_92
    refine aw_aload_n S 0 rfl dX5_number_29 rfl ?_
    refine aw_aload_n S 0 rfl dX5_number_30 rfl ?_
    refine aw_getI S 177 8 cl_X5 (by decide) (by decide) (by decide) (by decide) rfl tw_971 dX5_number_31 ?_
    refine aw_putI S 177 9 cl_X5 tyX5_ok nmX5 (by decide) (by decide) (by decide) (by decide) rfl (vp_nar_int _) rfl tw_972 dX5_number_34 ?_
    refine aw_wr (fun I9 => ?_)
    refine aw_iconst (v := (0 : Int32)) S dX5_number_37 (by decide) ?_
    exact aw_ret S hQ (vp_nar_int _) (by decide) (by decide) dX5_number_38
  refine aw_iconst (v := (0 : Int32)) S dX5_number_13 (by decide) ?_
  exact aw_ret S hQ (vp_nar_int _) (by decide) (by decide) dX5_number_14
set_option maxHeartbeats 4000000 in
set_option maxRecDepth 100000 in
theorem s_X5_plusOrMinus (hs : kgH) (l : Launch) (w : Option (Nat × Nat))  (I0 : kgM) : Sdi hs l w yX5_plusOrMinus (kg_ws yX5_plusOrMinus cX5_plusOrMinus 2 (some .int)) { frames := 1, cells := 0, slots := 0, locals := 20 } [.ref (kgO hs 177)] I0 (f_X5_plusOrMinus I0) := by
  refine sd_i (av := fun hs => [.ref (kgO hs 177)]) (by decide +kernel) (fun hs => Nat.le_of_ble_eq_true rfl) (fun X S hQ => ?_) hs l
  refine aw_sub (L2 := [(0, .ref (kgO (kgHs X) 177))]) [0] rfl ?_
  unfold f_X5_plusOrMinus
  refine aw_aload_n S 0 rfl dX5_plusOrMinus_0 rfl ?_
  refine aw_getI S 177 9 cl_X5 (by decide) (by decide) (by decide) (by decide) rfl tw_972 dX5_plusOrMinus_1 ?_
  refine aw_if_lt (y := 0) (tgt := 9) S dX5_plusOrMinus_4 (by decide) ?_ ?_
  · refine aw_aload_n S 0 rfl dX5_plusOrMinus_9 rfl ?_
    refine aw_cVi S 177 [] vw_X5_sign cl_X5 (by decide) (by decide) tw_1270 (s_X5_sign _ _ _ I0) ⟨by decide, by decide⟩ rfl rfl (Nat.le_of_ble_eq_true rfl) rfl rfl (by decide) (by decide) dX5_plusOrMinus_10 (fun x1 I1 => ?_)
    refine aw_istore_n (L2 := [(0, .ref (kgO (kgHs X) 177)), (1, .int x1)]) S [1, 0] dX5_plusOrMinus_13 rfl (by decide) rfl ?_
    refine aw_iload_n S 1 rfl dX5_plusOrMinus_14 rfl ?_
    refine aw_bipush (v := (43 : Int32)) S dX5_plusOrMinus_15 (by decide) ?_
    refine aw_letJ (fun (j36 : Option (Int32 × kgM)) => AW X 2 0 0 w j36 36 [(0, .ref (kgO (kgHs X) 177)), (1, .int x1)] [] I1) ?_ (fun j36 hj36 => ?_)
    · skip
      refine aw_aload_n S 0 rfl dX5_plusOrMinus_36 rfl ?_
      refine aw_dup S dX5_plusOrMinus_37 rfl ?_
      refine aw_getI S 177 8 cl_X5 (by decide) (by decide) (by decide) (by decide) rfl tw_971 dX5_plusOrMinus_38 ?_
      refine aw_iconst (v := (1 : Int32)) S dX5_plusOrMinus_41 (by decide) ?_
      refine aw_iadd S dX5_plusOrMinus_42 ?_
      refine aw_putI S 177 8 cl_X5 tyX5_ok nmX5 (by decide) (by decide) (by decide) (by decide) rfl (vp_nar_int _) rfl tw_971 dX5_plusOrMinus_43 ?_
      refine aw_wr (fun I2 => ?_)
      refine aw_iload_n S 1 rfl dX5_plusOrMinus_46 rfl ?_
      refine aw_bipush (v := (43 : Int32)) S dX5_plusOrMinus_47 (by decide) ?_
      refine aw_icmp_ne (tgt := 56) S dX5_plusOrMinus_49 (by decide) ?_ ?_
      · refine aw_iconst (v := (0 : Int32)) S dX5_plusOrMinus_56 (by decide) ?_
        exact aw_ret S hQ (vp_nar_int _) (by decide) (by decide) dX5_plusOrMinus_57
      refine aw_iconst (v := (1 : Int32)) S dX5_plusOrMinus_52 (by decide) ?_
      refine aw_goto (tgt := 57) S dX5_plusOrMinus_53 (by decide) ?_
      exact aw_ret S hQ (vp_nar_int _) (by decide) (by decide) dX5_plusOrMinus_57
    refine aw_icmp_eq (tgt := 36) S dX5_plusOrMinus_17 (by decide) ?_ ?_
    · exact hj36
    refine aw_iload_n S 1 rfl dX5_plusOrMinus_20 rfl ?_
    refine aw_bipush (v := (45 : Int32)) S dX5_plusOrMinus_21 (by decide) ?_
    refine aw_icmp_eq (tgt := 36) S dX5_plusOrMinus_23 (by decide) ?_ ?_
    · exact hj36
    refine aw_aload_n S 0 rfl dX5_plusOrMinus_26 rfl ?_
    refine aw_aload_n S 0 rfl dX5_plusOrMinus_27 rfl ?_
    refine aw_getI S 177 8 cl_X5 (by decide) (by decide) (by decide) (by decide) rfl tw_971 dX5_plusOrMinus_28 ?_
    refine aw_putI S 177 9 cl_X5 tyX5_ok nmX5 (by decide) (by decide) (by decide) (by decide) rfl (vp_nar_int _) rfl tw_972 dX5_plusOrMinus_31 ?_
    refine aw_wr (fun I3 => ?_)
    refine aw_iconst (v := (0 : Int32)) S dX5_plusOrMinus_34 (by decide) ?_
    exact aw_ret S hQ (vp_nar_int _) (by decide) (by decide) dX5_plusOrMinus_35
  refine aw_iconst (v := (0 : Int32)) S dX5_plusOrMinus_7 (by decide) ?_
  exact aw_ret S hQ (vp_nar_int _) (by decide) (by decide) dX5_plusOrMinus_8
set_option maxHeartbeats 4000000 in
set_option maxRecDepth 100000 in
theorem s_X5_word (hs : kgH) (l : Launch) (w : Option (Nat × Nat)) (p1 : Int32) (I0 : kgM) : Sdi hs l w yX5_word (kg_ws yX5_word cX5_word 3 (some .int)) { frames := 3, cells := 0, slots := 0, locals := 64 } [.ref (kgO hs 177), .int p1] I0 (f_X5_word p1 I0) := by
  refine sd_i (av := fun hs => [.ref (kgO hs 177), .int p1]) (by decide +kernel) (fun hs => Nat.le_of_ble_eq_true rfl) (fun X S hQ => ?_) hs l
  refine aw_sub (L2 := [(0, .ref (kgO (kgHs X) 177)), (1, .int p1)]) [0, 1] rfl ?_
  unfold f_X5_word
  refine aw_aload_n S 0 rfl dX5_word_0 rfl ?_
  refine aw_cVi S 177 [] vw_X5_sign cl_X5 (by decide) (by decide) tw_1270 (s_X5_sign _ _ _ I0) ⟨by decide, by decide⟩ rfl rfl (Nat.le_of_ble_eq_true rfl) rfl rfl (by decide) (by decide) dX5_word_1 (fun x1 I1 => ?_)
  refine aw_istore_n (L2 := [(0, .ref (kgO (kgHs X) 177)), (1, .int p1), (2, .int x1)]) S [1, 2, 0] dX5_word_4 rfl (by decide) rfl ?_
  refine aw_iload_n S 1 rfl dX5_word_5 rfl ?_
  refine aw_tableAt (tgt := 168) S 97 dX5_word_6 (by decide) (by decide) rfl (by decide) ?_ (fun n_97 => ?_)
  · refine aw_aload_n S 0 rfl dX5_word_168 rfl ?_
    refine aw_bipush (v := (112 : Int32)) S dX5_word_169 (by decide) ?_
    refine aw_bipush (v := (112 : Int32)) S dX5_word_171 (by decide) ?_
    refine aw_bipush (v := (101 : Int32)) S dX5_word_173 (by decide) ?_
    refine aw_cVv S 177 [.int (112 : Int32), .int (112 : Int32), .int (101 : Int32)] vw_X5_signs cl_X5 (by decide) (by decide) tw_1278 (s_X5_signs _ _ _ (112 : Int32) (112 : Int32) (101 : Int32) I1) ⟨by decide, by decide⟩ rfl rfl (Nat.le_of_ble_eq_true rfl) rfl rfl (by decide) (by decide) dX5_word_175 (fun x2 I2 => ?_)
    refine aw_aload_n S 0 rfl dX5_word_178 rfl ?_
    refine aw_bipush (v := (97 : Int32)) S dX5_word_179 (by decide) ?_
    refine aw_bipush (v := (108 : Int32)) S dX5_word_181 (by decide) ?_
    refine aw_iconst (v := (0 : Int32)) S dX5_word_183 (by decide) ?_
    refine aw_cVv S 177 [.int (97 : Int32), .int (108 : Int32), .int (0 : Int32)] vw_X5_signs cl_X5 (by decide) (by decide) tw_1278 (s_X5_signs _ _ _ (97 : Int32) (108 : Int32) (0 : Int32) I2) ⟨by decide, by decide⟩ rfl rfl (Nat.le_of_ble_eq_true rfl) rfl rfl (by decide) (by decide) dX5_word_184 (fun x3 I3 => ?_)
    refine aw_bipush (v := (97 : Int32)) S dX5_word_187 (by decide) ?_
    exact aw_ret S hQ (vp_nar_int _) (by decide) (by decide) dX5_word_189
  refine aw_tableAt (tgt := 143) S 102 dX5_word_6 (by decide) (by decide) rfl (by decide) ?_ (fun n_102 => ?_)
  · refine aw_aload_n S 0 rfl dX5_word_143 rfl ?_
    refine aw_bipush (v := (105 : Int32)) S dX5_word_144 (by decide) ?_
    refine aw_bipush (v := (108 : Int32)) S dX5_word_146 (by decide) ?_
    refine aw_bipush (v := (108 : Int32)) S dX5_word_148 (by decide) ?_
    refine aw_cVv S 177 [.int (105 : Int32), .int (108 : Int32), .int (108 : Int32)] vw_X5_signs cl_X5 (by decide) (by decide) tw_1278 (s_X5_signs _ _ _ (105 : Int32) (108 : Int32) (108 : Int32) I1) ⟨by decide, by decide⟩ rfl rfl (Nat.le_of_ble_eq_true rfl) rfl rfl (by decide) (by decide) dX5_word_150 (fun x4 I4 => ?_)
    refine aw_bipush (v := (102 : Int32)) S dX5_word_153 (by decide) ?_
    exact aw_ret S hQ (vp_nar_int _) (by decide) (by decide) dX5_word_155
  refine aw_tableAt (tgt := 130) S 104 dX5_word_6 (by decide) (by decide) rfl (by decide) ?_ (fun n_104 => ?_)
  · refine aw_aload_n S 0 rfl dX5_word_130 rfl ?_
    refine aw_bipush (v := (101 : Int32)) S dX5_word_131 (by decide) ?_
    refine aw_bipush (v := (97 : Int32)) S dX5_word_133 (by decide) ?_
    refine aw_bipush (v := (116 : Int32)) S dX5_word_135 (by decide) ?_
    refine aw_cVv S 177 [.int (101 : Int32), .int (97 : Int32), .int (116 : Int32)] vw_X5_signs cl_X5 (by decide) (by decide) tw_1278 (s_X5_signs _ _ _ (101 : Int32) (97 : Int32) (116 : Int32) I1) ⟨by decide, by decide⟩ rfl rfl (Nat.le_of_ble_eq_true rfl) rfl rfl (by decide) (by decide) dX5_word_137 (fun x5 I5 => ?_)
    refine aw_bipush (v := (104 : Int32)) S dX5_word_140 (by decide) ?_
    exact aw_ret S hQ (vp_nar_int _) (by decide) (by decide) dX5_word_142
  refine aw_tableAt (tgt := 96) S 107 dX5_word_6 (by decide) (by decide) rfl (by decide) ?_ (fun n_107 => ?_)
  · refine aw_aload_n S 0 rfl dX5_word_96 rfl ?_
    refine aw_bipush (v := (101 : Int32)) S dX5_word_97 (by decide) ?_
    refine aw_bipush (v := (116 : Int32)) S dX5_word_99 (by decide) ?_
    refine aw_bipush (v := (116 : Int32)) S dX5_word_101 (by decide) ?_
    refine aw_cVv S 177 [.int (101 : Int32), .int (116 : Int32), .int (116 : Int32)] vw_X5_signs cl_X5 (by decide) (by decide) tw_1278 (s_X5_signs _ _ _ (101 : Int32) (116 : Int32) (116 : Int32) I1) ⟨by decide, by decide⟩ rfl rfl (Nat.le_of_ble_eq_true rfl) rfl rfl (by decide) (by decide) dX5_word_103 (fun x6 I6 => ?_)
    refine aw_aload_n S 0 rfl dX5_word_106 rfl ?_
    refine aw_bipush (v := (108 : Int32)) S dX5_word_107 (by decide) ?_
    refine aw_bipush (v := (101 : Int32)) S dX5_word_109 (by decide) ?_
    refine aw_iconst (v := (0 : Int32)) S dX5_word_111 (by decide) ?_
    refine aw_cVv S 177 [.int (108 : Int32), .int (101 : Int32), .int (0 : Int32)] vw_X5_signs cl_X5 (by decide) (by decide) tw_1278 (s_X5_signs _ _ _ (108 : Int32) (101 : Int32) (0 : Int32) I6) ⟨by decide, by decide⟩ rfl rfl (Nat.le_of_ble_eq_true rfl) rfl rfl (by decide) (by decide) dX5_word_112 (fun x7 I7 => ?_)
    refine aw_bipush (v := (107 : Int32)) S dX5_word_115 (by decide) ?_
    exact aw_ret S hQ (vp_nar_int _) (by decide) (by decide) dX5_word_117
  refine aw_tableAt (tgt := 156) S 108 dX5_word_6 (by decide) (by decide) rfl (by decide) ?_ (fun n_108 => ?_)
  · refine aw_aload_n S 0 rfl dX5_word_156 rfl ?_
    refine aw_bipush (v := (105 : Int32)) S dX5_word_157 (by decide) ?_
    refine aw_bipush (v := (100 : Int32)) S dX5_word_159 (by decide) ?_
    refine aw_iconst (v := (0 : Int32)) S dX5_word_161 (by decide) ?_
    refine aw_cVv S 177 [.int (105 : Int32), .int (100 : Int32), .int (0 : Int32)] vw_X5_signs cl_X5 (by decide) (by decide) tw_1278 (s_X5_signs _ _ _ (105 : Int32) (100 : Int32) (0 : Int32) I1) ⟨by decide, by decide⟩ rfl rfl (Nat.le_of_ble_eq_true rfl) rfl rfl (by decide) (by decide) dX5_word_162 (fun x8 I8 => ?_)
    refine aw_bipush (v := (108 : Int32)) S dX5_word_165 (by decide) ?_
    exact aw_ret S hQ (vp_nar_int _) (by decide) (by decide) dX5_word_167
  refine aw_tableAt (tgt := 190) S 109 dX5_word_6 (by decide) (by decide) rfl (by decide) ?_ (fun n_109 => ?_)
  · refine aw_aload_n S 0 rfl dX5_word_190 rfl ?_
    refine aw_bipush (v := (105 : Int32)) S dX5_word_191 (by decide) ?_
    refine aw_bipush (v := (110 : Int32)) S dX5_word_193 (by decide) ?_
    refine aw_bipush (v := (117 : Int32)) S dX5_word_195 (by decide) ?_
    refine aw_cVv S 177 [.int (105 : Int32), .int (110 : Int32), .int (117 : Int32)] vw_X5_signs cl_X5 (by decide) (by decide) tw_1278 (s_X5_signs _ _ _ (105 : Int32) (110 : Int32) (117 : Int32) I1) ⟨by decide, by decide⟩ rfl rfl (Nat.le_of_ble_eq_true rfl) rfl rfl (by decide) (by decide) dX5_word_197 (fun x9 I9 => ?_)
    refine aw_aload_n S 0 rfl dX5_word_200 rfl ?_
    refine aw_bipush (v := (116 : Int32)) S dX5_word_201 (by decide) ?_
    refine aw_bipush (v := (101 : Int32)) S dX5_word_203 (by decide) ?_
    refine aw_iconst (v := (0 : Int32)) S dX5_word_205 (by decide) ?_
    refine aw_cVv S 177 [.int (116 : Int32), .int (101 : Int32), .int (0 : Int32)] vw_X5_signs cl_X5 (by decide) (by decide) tw_1278 (s_X5_signs _ _ _ (116 : Int32) (101 : Int32) (0 : Int32) I9) ⟨by decide, by decide⟩ rfl rfl (Nat.le_of_ble_eq_true rfl) rfl rfl (by decide) (by decide) dX5_word_206 (fun x10 I10 => ?_)
    refine aw_bipush (v := (109 : Int32)) S dX5_word_209 (by decide) ?_
    exact aw_ret S hQ (vp_nar_int _) (by decide) (by decide) dX5_word_211
  refine aw_tableAt (tgt := 118) S 115 dX5_word_6 (by decide) (by decide) rfl (by decide) ?_ (fun n_115 => ?_)
  · refine aw_aload_n S 0 rfl dX5_word_118 rfl ?_
    refine aw_bipush (v := (101 : Int32)) S dX5_word_119 (by decide) ?_
    refine aw_bipush (v := (116 : Int32)) S dX5_word_121 (by decide) ?_
    refine aw_iconst (v := (0 : Int32)) S dX5_word_123 (by decide) ?_
    refine aw_cVv S 177 [.int (101 : Int32), .int (116 : Int32), .int (0 : Int32)] vw_X5_signs cl_X5 (by decide) (by decide) tw_1278 (s_X5_signs _ _ _ (101 : Int32) (116 : Int32) (0 : Int32) I1) ⟨by decide, by decide⟩ rfl rfl (Nat.le_of_ble_eq_true rfl) rfl rfl (by decide) (by decide) dX5_word_124 (fun x11 I11 => ?_)
    refine aw_bipush (v := (115 : Int32)) S dX5_word_127 (by decide) ?_
    exact aw_ret S hQ (vp_nar_int _) (by decide) (by decide) dX5_word_129
  refine aw_tableD (tgt := 212) S [97, 102, 104, 107, 108, 109, 115] dX5_word_6 (by decide) (by decide) (by intro v hv; simp only [List.mem_cons, List.not_mem_nil, or_false] at hv; rcases hv with rfl | rfl | rfl | rfl | rfl | rfl | rfl <;> assumption) (by decide) ?_
  refine aw_iload_n S 2 rfl dX5_word_212 rfl ?_
  refine aw_bipush (v := (102 : Int32)) S dX5_word_213 (by decide) ?_
  refine aw_icmp_ne (tgt := 230) S dX5_word_215 (by decide) ?_ ?_
  · refine aw_aload_n S 0 rfl dX5_word_230 rfl ?_
    refine aw_bipush (v := (119 : Int32)) S dX5_word_231 (by decide) ?_
    refine aw_bipush (v := (110 : Int32)) S dX5_word_233 (by decide) ?_
    refine aw_iconst (v := (0 : Int32)) S dX5_word_235 (by decide) ?_
    refine aw_cVv S 177 [.int (119 : Int32), .int (110 : Int32), .int (0 : Int32)] vw_X5_signs cl_X5 (by decide) (by decide) tw_1278 (s_X5_signs _ _ _ (119 : Int32) (110 : Int32) (0 : Int32) I1) ⟨by decide, by decide⟩ rfl rfl (Nat.le_of_ble_eq_true rfl) rfl rfl (by decide) (by decide) dX5_word_236 (fun x12 I12 => ?_)
    refine aw_bipush (v := (110 : Int32)) S dX5_word_239 (by decide) ?_
    exact aw_ret S hQ (vp_nar_int _) (by decide) (by decide) dX5_word_241
  refine aw_aload_n S 0 rfl dX5_word_218 rfl ?_
  refine aw_bipush (v := (102 : Int32)) S dX5_word_219 (by decide) ?_
  refine aw_bipush (v := (102 : Int32)) S dX5_word_221 (by decide) ?_
  refine aw_iconst (v := (0 : Int32)) S dX5_word_223 (by decide) ?_
  refine aw_cVv S 177 [.int (102 : Int32), .int (102 : Int32), .int (0 : Int32)] vw_X5_signs cl_X5 (by decide) (by decide) tw_1278 (s_X5_signs _ _ _ (102 : Int32) (102 : Int32) (0 : Int32) I1) ⟨by decide, by decide⟩ rfl rfl (Nat.le_of_ble_eq_true rfl) rfl rfl (by decide) (by decide) dX5_word_224 (fun x13 I13 => ?_)
  refine aw_bipush (v := (116 : Int32)) S dX5_word_227 (by decide) ?_
  exact aw_ret S hQ (vp_nar_int _) (by decide) (by decide) dX5_word_229
set_option maxHeartbeats 4000000 in
set_option maxRecDepth 100000 in
theorem s_X5_order_L24 {X : kgCX (Int32 × kgM)} {w : Option (Nat × Nat)} (S : Cx X cX5_order RX5 4 4 86 0 0) (hQ : Qxv X w) (a1 : Int32) (a2 : Int32) {K : kgM → Option (Int32 × kgM)} (hK : ∀  (J : kgM), AW X 4 0 0 w (K J) 44 [(0, .ref (kgO (kgHs X) 177)), (1, .int a1), (2, .int a2)] [] J) : ∀ (q : Nat) (x3h24 : Int32) (Ih24 : kgM), AW X 4 0 0 w (f_X5_order_L24 a1 a2 K q x3h24 Ih24) 24 [(0, .ref (kgO (kgHs X) 177)), (1, .int a1), (2, .int a2), (3, .int x3h24)] [] Ih24 := by
  intro q
  induction q with
  | zero => intros; exact aw_none
  | succ q ih =>
    intro x3h24 Ih24
    rw [f_X5_order_L24]
    refine aw_iload_n S 3 rfl dX5_order_24 rfl ?_
    refine aw_iconst (v := (4 : Int32)) S dX5_order_25 (by decide) ?_
    refine aw_icmp_ge (tgt := 44) S dX5_order_26 (by decide) ?_ ?_
    · refine aw_sub (L2 := [(0, .ref (kgO (kgHs X) 177)), (1, .int a1), (2, .int a2)]) [0, 1, 2] rfl ?_
      exact hK Ih24
    refine aw_aload_n S 0 rfl dX5_order_29 rfl ?_
    refine aw_getR S 177 10 182 cl_X5 (by decide) (by decide) (by decide) (by decide) (by decide) rfl tw_973 dX5_order_30 ?_
    refine aw_iload_n S 1 rfl dX5_order_33 rfl ?_
    refine aw_iload_n S 3 rfl dX5_order_34 rfl ?_
    refine aw_iadd S dX5_order_35 ?_
    refine aw_iconst (v := (0 : Int32)) S dX5_order_36 (by decide) ?_
    refine aw_iast S 182 244 (by decide) (by decide) dX5_order_37 ?_
    refine aw_wr (fun I3 => ?_)
    refine aw_iinc (v := x3h24 + (1 : Int32)) (L2 := [(0, .ref (kgO (kgHs X) 177)), (1, .int a1), (2, .int a2), (3, .int (x3h24 + (1 : Int32)))]) S [1, 2, 3, 0] 3 dX5_order_38 rfl rfl (by decide) rfl ?_
    refine aw_let (Lf := fun x3 => [(0, .ref (kgO (kgHs X) 177)), (1, .int a1), (2, .int a2), (3, .int x3)]) (x3h24 + (1 : Int32)) (fun x3 => ?_)
    refine aw_goto (tgt := 24) S dX5_order_41 (by decide) ?_
    exact ih x3 I3
set_option maxHeartbeats 4000000 in
set_option maxRecDepth 100000 in
theorem s_X5_order (hs : kgH) (l : Launch) (w : Option (Nat × Nat))  (I0 : kgM) : Sdv hs l w yX5_order (kg_ws yX5_order cX5_order 4 none) { frames := 4, cells := 0, slots := 0, locals := 86 } [.ref (kgO hs 177)] I0 (f_X5_order I0) := by
  refine sd_v (av := fun hs => [.ref (kgO hs 177)]) (by decide +kernel) (fun hs => Nat.le_of_ble_eq_true rfl) (fun X S hQ => ?_) hs l
  refine aw_sub (L2 := [(0, .ref (kgO (kgHs X) 177))]) [0] rfl ?_
  unfold f_X5_order
  refine aw_iconst (v := (4 : Int32)) S dX5_order_0 (by decide) ?_
  refine aw_aload_n S 0 rfl dX5_order_1 rfl ?_
  refine aw_getI S 177 11 cl_X5 (by decide) (by decide) (by decide) (by decide) rfl tw_974 dX5_order_2 ?_
  refine aw_imul S dX5_order_5 ?_
  refine aw_istore_n (L2 := [(0, .ref (kgO (kgHs X) 177)), (1, .int ((4 : Int32) * (I0 177 11)))]) S [1, 0] dX5_order_6 rfl (by decide) rfl ?_
  refine aw_let (Lf := fun x1 => [(0, .ref (kgO (kgHs X) 177)), (1, .int x1)]) ((4 : Int32) * (I0 177 11)) (fun x1 => ?_)
  refine aw_aload_n S 0 rfl dX5_order_7 rfl ?_
  refine aw_dup S dX5_order_8 rfl ?_
  refine aw_getI S 177 11 cl_X5 (by decide) (by decide) (by decide) (by decide) rfl tw_974 dX5_order_9 ?_
  refine aw_iconst (v := (1 : Int32)) S dX5_order_12 (by decide) ?_
  refine aw_iadd S dX5_order_13 ?_
  refine aw_putI S 177 11 cl_X5 tyX5_ok nmX5 (by decide) (by decide) (by decide) (by decide) rfl (vp_nar_int _) rfl tw_974 dX5_order_14 ?_
  refine aw_wr (fun I1 => ?_)
  refine aw_aload_n S 0 rfl dX5_order_17 rfl ?_
  refine aw_cVi S 177 [] vw_X5_sign cl_X5 (by decide) (by decide) tw_1270 (s_X5_sign _ _ _ I1) ⟨by decide, by decide⟩ rfl rfl (Nat.le_of_ble_eq_true rfl) rfl rfl (by decide) (by decide) dX5_order_18 (fun x2 I2 => ?_)
  refine aw_istore_n (L2 := [(0, .ref (kgO (kgHs X) 177)), (1, .int x1), (2, .int x2)]) S [1, 2, 0] dX5_order_21 rfl (by decide) rfl ?_
  refine aw_iconst (v := (0 : Int32)) S dX5_order_22 (by decide) ?_
  refine aw_istore_n (L2 := [(0, .ref (kgO (kgHs X) 177)), (1, .int x1), (2, .int x2), (3, .int (0 : Int32))]) S [1, 2, 3, 0] dX5_order_23 rfl (by decide) rfl ?_
  refine s_X5_order_L24 S hQ x1 x2 (fun I4 => ?_) 200 (0 : Int32) I2
  refine aw_iload_n S 2 rfl dX5_order_44 rfl ?_
  refine aw_bipush (v := (111 : Int32)) S dX5_order_45 (by decide) ?_
  refine aw_letJ (fun (j101 : Option (Int32 × kgM)) => AW X 4 0 0 w j101 101 [(0, .ref (kgO (kgHs X) 177)), (1, .int x1), (2, .int x2)] [] I4) ?_ (fun j101 hj101 => ?_)
  · skip
    refine aw_aload_n S 0 rfl dX5_order_101 rfl ?_
    refine aw_dup S dX5_order_102 rfl ?_
    refine aw_getI S 177 8 cl_X5 (by decide) (by decide) (by decide) (by decide) rfl tw_971 dX5_order_103 ?_
    refine aw_iconst (v := (1 : Int32)) S dX5_order_106 (by decide) ?_
    refine aw_iadd S dX5_order_107 ?_
    refine aw_putI S 177 8 cl_X5 tyX5_ok nmX5 (by decide) (by decide) (by decide) (by decide) rfl (vp_nar_int _) rfl tw_971 dX5_order_108 ?_
    refine aw_wr (fun I5 => ?_)
    refine aw_aload_n S 0 rfl dX5_order_111 rfl ?_
    refine aw_iload_n S 2 rfl dX5_order_112 rfl ?_
    refine aw_cVi S 177 [.int x2] vw_X5_word cl_X5 (by decide) (by decide) tw_1274 (s_X5_word _ _ _ x2 I5) ⟨by decide, by decide⟩ rfl rfl (Nat.le_of_ble_eq_true rfl) rfl rfl (by decide) (by decide) dX5_order_113 (fun x4 I6 => ?_)
    refine aw_istore_n (L2 := [(0, .ref (kgO (kgHs X) 177)), (1, .int x1), (2, .int x2), (3, .int x4)]) S [1, 2, 3, 0] dX5_order_116 rfl (by decide) rfl ?_
    refine aw_aload_n S 0 rfl dX5_order_117 rfl ?_
    refine aw_getR S 177 10 182 cl_X5 (by decide) (by decide) (by decide) (by decide) (by decide) rfl tw_973 dX5_order_118 ?_
    refine aw_iload_n S 1 rfl dX5_order_121 rfl ?_
    refine aw_iload_n S 3 rfl dX5_order_122 rfl ?_
    refine aw_iast S 182 244 (by decide) (by decide) dX5_order_123 ?_
    refine aw_wr (fun I7 => ?_)
    refine aw_aload_n S 0 rfl dX5_order_124 rfl ?_
    refine aw_getR S 177 10 182 cl_X5 (by decide) (by decide) (by decide) (by decide) (by decide) rfl tw_973 dX5_order_125 ?_
    refine aw_iload_n S 1 rfl dX5_order_128 rfl ?_
    refine aw_iconst (v := (1 : Int32)) S dX5_order_129 (by decide) ?_
    refine aw_iadd S dX5_order_130 ?_
    refine aw_aload_n S 0 rfl dX5_order_131 rfl ?_
    refine aw_iconst (v := (1 : Int32)) S dX5_order_132 (by decide) ?_
    refine aw_cVi S 177 [.int (1 : Int32)] vw_X5_number cl_X5 (by decide) (by decide) tw_1286 (s_X5_number _ _ _ (1 : Int32) I7) ⟨by decide, by decide⟩ rfl rfl (Nat.le_of_ble_eq_true rfl) rfl rfl (by decide) (by decide) dX5_order_133 (fun x5 I8 => ?_)
    refine aw_iast S 182 244 (by decide) (by decide) dX5_order_136 ?_
    refine aw_wr (fun I9 => ?_)
    refine aw_iload_n S 3 rfl dX5_order_137 rfl ?_
    refine aw_bipush (v := (116 : Int32)) S dX5_order_138 (by decide) ?_
    refine aw_icmp_eq (tgt := 149) S dX5_order_140 (by decide) ?_ ?_
    · exact aw_retv S hQ (by decide) (by decide) dX5_order_149
    refine aw_iload_n S 3 rfl dX5_order_143 rfl ?_
    refine aw_bipush (v := (109 : Int32)) S dX5_order_144 (by decide) ?_
    refine aw_icmp_ne (tgt := 150) S dX5_order_146 (by decide) ?_ ?_
    · refine aw_aload_n S 0 rfl dX5_order_150 rfl ?_
      refine aw_getR S 177 10 182 cl_X5 (by decide) (by decide) (by decide) (by decide) (by decide) rfl tw_973 dX5_order_151 ?_
      refine aw_iload_n S 1 rfl dX5_order_154 rfl ?_
      refine aw_iconst (v := (2 : Int32)) S dX5_order_155 (by decide) ?_
      refine aw_iadd S dX5_order_156 ?_
      refine aw_iload_n S 3 rfl dX5_order_157 rfl ?_
      refine aw_bipush (v := (108 : Int32)) S dX5_order_158 (by decide) ?_
      refine aw_letJ (fun (j197 : Int32 → kgM → Option (Int32 × kgM)) => ∀ (y0j197 : Int32) (Ij197 : kgM), AW X 4 0 0 w (j197 y0j197 Ij197) 197 [(0, .ref (kgO (kgHs X) 177)), (1, .int x1), (3, .int x4)] [.int y0j197, .int (x1 + (2 : Int32)), .ref (kgO (kgHs X) 182)] Ij197) ?_ (fun j197 hj197 => ?_)
      · intro y0j197 Ij197
        refine aw_iast S 182 244 (by decide) (by decide) dX5_order_197 ?_
        refine aw_wr (fun I10 => ?_)
        refine aw_iload_n S 2 rfl dX5_order_198 rfl ?_
        refine aw_bipush (v := (107 : Int32)) S dX5_order_199 (by decide) ?_
        refine aw_icmp_ne (tgt := 217) S dX5_order_201 (by decide) ?_ ?_
        · exact aw_retv S hQ (by decide) (by decide) dX5_order_217
        refine aw_aload_n S 0 rfl dX5_order_204 rfl ?_
        refine aw_getR S 177 10 182 cl_X5 (by decide) (by decide) (by decide) (by decide) (by decide) rfl tw_973 dX5_order_205 ?_
        refine aw_iload_n S 1 rfl dX5_order_208 rfl ?_
        refine aw_iconst (v := (3 : Int32)) S dX5_order_209 (by decide) ?_
        refine aw_iadd S dX5_order_210 ?_
        refine aw_aload_n S 0 rfl dX5_order_211 rfl ?_
        refine aw_iconst (v := (2 : Int32)) S dX5_order_212 (by decide) ?_
        refine aw_cVi S 177 [.int (2 : Int32)] vw_X5_number cl_X5 (by decide) (by decide) tw_1286 (s_X5_number _ _ _ (2 : Int32) I10) ⟨by decide, by decide⟩ rfl rfl (Nat.le_of_ble_eq_true rfl) rfl rfl (by decide) (by decide) dX5_order_213 (fun x6 I11 => ?_)
        refine aw_iast S 182 244 (by decide) (by decide) dX5_order_216 ?_
        refine aw_wr (fun I12 => ?_)
        exact aw_retv S hQ (by decide) (by decide) dX5_order_217
      refine aw_icmp_ne (tgt := 170) S dX5_order_160 (by decide) ?_ ?_
      · refine aw_aload_n S 0 rfl dX5_order_170 rfl ?_
        refine aw_iload_n S 3 rfl dX5_order_171 rfl ?_
        refine aw_bipush (v := (110 : Int32)) S dX5_order_172 (by decide) ?_
        refine aw_icmp_eq (tgt := 189) S dX5_order_174 (by decide) ?_ ?_
        · refine aw_iconst (v := (2 : Int32)) S dX5_order_189 (by decide) ?_
          refine aw_goto (tgt := 194) S dX5_order_190 (by decide) ?_
          refine aw_cVi S 177 [.int (2 : Int32)] vw_X5_number cl_X5 (by decide) (by decide) tw_1286 (s_X5_number _ _ _ (2 : Int32) I9) ⟨by decide, by decide⟩ rfl rfl (Nat.le_of_ble_eq_true rfl) rfl rfl (by decide) (by decide) dX5_order_194 (fun x7 I13 => ?_)
          refine aw_sub (L2 := [(0, .ref (kgO (kgHs X) 177)), (1, .int x1), (3, .int x4)]) [0, 1, 3] rfl ?_
          exact hj197 x7 I13
        refine aw_iload_n S 3 rfl dX5_order_177 rfl ?_
        refine aw_bipush (v := (107 : Int32)) S dX5_order_178 (by decide) ?_
        refine aw_icmp_eq (tgt := 189) S dX5_order_180 (by decide) ?_ ?_
        · refine aw_iconst (v := (2 : Int32)) S dX5_order_189 (by decide) ?_
          refine aw_goto (tgt := 194) S dX5_order_190 (by decide) ?_
          refine aw_cVi S 177 [.int (2 : Int32)] vw_X5_number cl_X5 (by decide) (by decide) tw_1286 (s_X5_number _ _ _ (2 : Int32) I9) ⟨by decide, by decide⟩ rfl rfl (Nat.le_of_ble_eq_true rfl) rfl rfl (by decide) (by decide) dX5_order_194 (fun x8 I14 => ?_)
          refine aw_sub (L2 := [(0, .ref (kgO (kgHs X) 177)), (1, .int x1), (3, .int x4)]) [0, 1, 3] rfl ?_
          exact hj197 x8 I14
        refine aw_iload_n S 3 rfl dX5_order_183 rfl ?_
        refine aw_bipush (v := (102 : Int32)) S dX5_order_184 (by decide) ?_
        refine aw_icmp_ne (tgt := 193) S dX5_order_186 (by decide) ?_ ?_
        · refine aw_iconst (v := (1 : Int32)) S dX5_order_193 (by decide) ?_
          refine aw_cVi S 177 [.int (1 : Int32)] vw_X5_number cl_X5 (by decide) (by decide) tw_1286 (s_X5_number _ _ _ (1 : Int32) I9) ⟨by decide, by decide⟩ rfl rfl (Nat.le_of_ble_eq_true rfl) rfl rfl (by decide) (by decide) dX5_order_194 (fun x9 I15 => ?_)
          refine aw_sub (L2 := [(0, .ref (kgO (kgHs X) 177)), (1, .int x1), (3, .int x4)]) [0, 1, 3] rfl ?_
          exact hj197 x9 I15
        refine aw_iconst (v := (2 : Int32)) S dX5_order_189 (by decide) ?_
        refine aw_goto (tgt := 194) S dX5_order_190 (by decide) ?_
        refine aw_cVi S 177 [.int (2 : Int32)] vw_X5_number cl_X5 (by decide) (by decide) tw_1286 (s_X5_number _ _ _ (2 : Int32) I9) ⟨by decide, by decide⟩ rfl rfl (Nat.le_of_ble_eq_true rfl) rfl rfl (by decide) (by decide) dX5_order_194 (fun x10 I16 => ?_)
        refine aw_sub (L2 := [(0, .ref (kgO (kgHs X) 177)), (1, .int x1), (3, .int x4)]) [0, 1, 3] rfl ?_
        exact hj197 x10 I16
      refine aw_aload_n S 0 rfl dX5_order_163 rfl ?_
      refine aw_cVi S 177 [] vw_X5_plusOrMinus cl_X5 (by decide) (by decide) tw_1290 (s_X5_plusOrMinus _ _ _ I9) ⟨by decide, by decide⟩ rfl rfl (Nat.le_of_ble_eq_true rfl) rfl rfl (by decide) (by decide) dX5_order_164 (fun x11 I17 => ?_)
      refine aw_goto (tgt := 197) S dX5_order_167 (by decide) ?_
      refine aw_sub (L2 := [(0, .ref (kgO (kgHs X) 177)), (1, .int x1), (3, .int x4)]) [0, 1, 3] rfl ?_
      exact hj197 x11 I17
    exact aw_retv S hQ (by decide) (by decide) dX5_order_149
  refine aw_icmp_eq (tgt := 101) S dX5_order_47 (by decide) ?_ ?_
  · exact hj101
  refine aw_iload_n S 2 rfl dX5_order_50 rfl ?_
  refine aw_bipush (v := (107 : Int32)) S dX5_order_51 (by decide) ?_
  refine aw_icmp_eq (tgt := 101) S dX5_order_53 (by decide) ?_ ?_
  · exact hj101
  refine aw_iload_n S 2 rfl dX5_order_56 rfl ?_
  refine aw_bipush (v := (115 : Int32)) S dX5_order_57 (by decide) ?_
  refine aw_icmp_eq (tgt := 101) S dX5_order_59 (by decide) ?_ ?_
  · exact hj101
  refine aw_iload_n S 2 rfl dX5_order_62 rfl ?_
  refine aw_bipush (v := (104 : Int32)) S dX5_order_63 (by decide) ?_
  refine aw_icmp_eq (tgt := 101) S dX5_order_65 (by decide) ?_ ?_
  · exact hj101
  refine aw_iload_n S 2 rfl dX5_order_68 rfl ?_
  refine aw_bipush (v := (102 : Int32)) S dX5_order_69 (by decide) ?_
  refine aw_icmp_eq (tgt := 101) S dX5_order_71 (by decide) ?_ ?_
  · exact hj101
  refine aw_iload_n S 2 rfl dX5_order_74 rfl ?_
  refine aw_bipush (v := (108 : Int32)) S dX5_order_75 (by decide) ?_
  refine aw_icmp_eq (tgt := 101) S dX5_order_77 (by decide) ?_ ?_
  · exact hj101
  refine aw_iload_n S 2 rfl dX5_order_80 rfl ?_
  refine aw_bipush (v := (97 : Int32)) S dX5_order_81 (by decide) ?_
  refine aw_icmp_eq (tgt := 101) S dX5_order_83 (by decide) ?_ ?_
  · exact hj101
  refine aw_iload_n S 2 rfl dX5_order_86 rfl ?_
  refine aw_bipush (v := (109 : Int32)) S dX5_order_87 (by decide) ?_
  refine aw_icmp_eq (tgt := 101) S dX5_order_89 (by decide) ?_ ?_
  · exact hj101
  refine aw_aload_n S 0 rfl dX5_order_92 rfl ?_
  refine aw_aload_n S 0 rfl dX5_order_93 rfl ?_
  refine aw_getI S 177 8 cl_X5 (by decide) (by decide) (by decide) (by decide) rfl tw_971 dX5_order_94 ?_
  refine aw_putI S 177 9 cl_X5 tyX5_ok nmX5 (by decide) (by decide) (by decide) (by decide) rfl (vp_nar_int _) rfl tw_972 dX5_order_97 ?_
  refine aw_wr (fun I18 => ?_)
  exact aw_retv S hQ (by decide) (by decide) dX5_order_100
set_option maxHeartbeats 4000000 in
set_option maxRecDepth 100000 in
theorem s_X5_parse_L19 {X : kgCX (Int32 × kgM)} {w : Option (Nat × Nat)} (S : Cx X cX5_parse RX5 1 5 109 0 0) (hQ : Qxv X w)  {K : kgM → Option (Int32 × kgM)} (hK : ∀  (J : kgM), AW X 1 0 0 w (K J) 52 [(0, .ref (kgO (kgHs X) 177))] [] J) : ∀ (q : Nat)  (Ih19 : kgM), AW X 1 0 0 w (f_X5_parse_L19 K q Ih19) 19 [(0, .ref (kgO (kgHs X) 177))] [] Ih19 := by
  intro q
  induction q with
  | zero => intros; exact aw_none
  | succ q ih =>
    intro Ih19
    rw [f_X5_parse_L19]
    refine aw_aload_n S 0 rfl dX5_parse_19 rfl ?_
    refine aw_getI S 177 9 cl_X5 (by decide) (by decide) (by decide) (by decide) rfl tw_972 dX5_parse_20 ?_
    refine aw_if_ge (y := 0) (tgt := 52) S dX5_parse_23 (by decide) ?_ ?_
    · exact hK Ih19
    refine aw_aload_n S 0 rfl dX5_parse_26 rfl ?_
    refine aw_cVi S 177 [] vw_X5_sign cl_X5 (by decide) (by decide) tw_1270 (s_X5_sign _ _ _ Ih19) ⟨by decide, by decide⟩ rfl rfl (Nat.le_of_ble_eq_true rfl) rfl rfl (by decide) (by decide) dX5_parse_27 (fun x2 I5 => ?_)
    refine aw_bipush (v := (59 : Int32)) S dX5_parse_30 (by decide) ?_
    refine aw_icmp_ne (tgt := 52) S dX5_parse_32 (by decide) ?_ ?_
    · exact hK I5
    refine aw_aload_n S 0 rfl dX5_parse_35 rfl ?_
    refine aw_dup S dX5_parse_36 rfl ?_
    refine aw_getI S 177 8 cl_X5 (by decide) (by decide) (by decide) (by decide) rfl tw_971 dX5_parse_37 ?_
    refine aw_iconst (v := (1 : Int32)) S dX5_parse_40 (by decide) ?_
    refine aw_iadd S dX5_parse_41 ?_
    refine aw_putI S 177 8 cl_X5 tyX5_ok nmX5 (by decide) (by decide) (by decide) (by decide) rfl (vp_nar_int _) rfl tw_971 dX5_parse_42 ?_
    refine aw_wr (fun I6 => ?_)
    refine aw_aload_n S 0 rfl dX5_parse_45 rfl ?_
    refine aw_cVv S 177 [] vw_X5_order cl_X5 (by decide) (by decide) tw_1266 (s_X5_order _ _ _ I6) ⟨by decide, by decide⟩ rfl rfl (Nat.le_of_ble_eq_true rfl) rfl rfl (by decide) (by decide) dX5_parse_46 (fun x3 I7 => ?_)
    refine aw_goto (tgt := 19) S dX5_parse_49 (by decide) ?_
    exact ih I7
set_option maxHeartbeats 4000000 in
set_option maxRecDepth 100000 in
theorem s_X5_parse (hs : kgH) (l : Launch) (w : Option (Nat × Nat))  (I0 : kgM) : Sdv hs l w yX5_parse (kg_ws yX5_parse cX5_parse 1 none) { frames := 5, cells := 0, slots := 0, locals := 109 } [.ref (kgO hs 177)] I0 (f_X5_parse I0) := by
  refine sd_v (av := fun hs => [.ref (kgO hs 177)]) (by decide +kernel) (fun hs => Nat.le_of_ble_eq_true rfl) (fun X S hQ => ?_) hs l
  refine aw_sub (L2 := [(0, .ref (kgO (kgHs X) 177))]) [0] rfl ?_
  unfold f_X5_parse
  refine aw_aload_n S 0 rfl dX5_parse_0 rfl ?_
  refine aw_iconst (v := (0 : Int32)) S dX5_parse_1 (by decide) ?_
  refine aw_putI S 177 8 cl_X5 tyX5_ok nmX5 (by decide) (by decide) (by decide) (by decide) rfl (vp_nar_int _) rfl tw_971 dX5_parse_2 ?_
  refine aw_wr (fun I1 => ?_)
  refine aw_aload_n S 0 rfl dX5_parse_5 rfl ?_
  refine aw_iconst (v := (-1 : Int32)) S dX5_parse_6 (by decide) ?_
  refine aw_putI S 177 9 cl_X5 tyX5_ok nmX5 (by decide) (by decide) (by decide) (by decide) rfl (vp_nar_int _) rfl tw_972 dX5_parse_7 ?_
  refine aw_wr (fun I2 => ?_)
  refine aw_aload_n S 0 rfl dX5_parse_10 rfl ?_
  refine aw_iconst (v := (0 : Int32)) S dX5_parse_11 (by decide) ?_
  refine aw_putI S 177 11 cl_X5 tyX5_ok nmX5 (by decide) (by decide) (by decide) (by decide) rfl (vp_nar_int _) rfl tw_974 dX5_parse_12 ?_
  refine aw_wr (fun I3 => ?_)
  refine aw_aload_n S 0 rfl dX5_parse_15 rfl ?_
  refine aw_cVv S 177 [] vw_X5_order cl_X5 (by decide) (by decide) tw_1266 (s_X5_order _ _ _ I3) ⟨by decide, by decide⟩ rfl rfl (Nat.le_of_ble_eq_true rfl) rfl rfl (by decide) (by decide) dX5_parse_16 (fun x1 I4 => ?_)
  refine s_X5_parse_L19 S hQ  (fun I8 => ?_) 200 I4
  refine aw_aload_n S 0 rfl dX5_parse_52 rfl ?_
  refine aw_getI S 177 9 cl_X5 (by decide) (by decide) (by decide) (by decide) rfl tw_972 dX5_parse_53 ?_
  refine aw_if_ge (y := 0) (tgt := 78) S dX5_parse_56 (by decide) ?_ ?_
  · exact aw_retv S hQ (by decide) (by decide) dX5_parse_78
  refine aw_aload_n S 0 rfl dX5_parse_59 rfl ?_
  refine aw_getI S 177 8 cl_X5 (by decide) (by decide) (by decide) (by decide) rfl tw_971 dX5_parse_60 ?_
  refine aw_aload_n S 0 rfl dX5_parse_63 rfl ?_
  refine aw_getI S 177 7 cl_X5 (by decide) (by decide) (by decide) (by decide) rfl tw_970 dX5_parse_64 ?_
  refine aw_icmp_ge (tgt := 78) S dX5_parse_67 (by decide) ?_ ?_
  · exact aw_retv S hQ (by decide) (by decide) dX5_parse_78
  refine aw_aload_n S 0 rfl dX5_parse_70 rfl ?_
  refine aw_aload_n S 0 rfl dX5_parse_71 rfl ?_
  refine aw_getI S 177 8 cl_X5 (by decide) (by decide) (by decide) (by decide) rfl tw_971 dX5_parse_72 ?_
  refine aw_putI S 177 9 cl_X5 tyX5_ok nmX5 (by decide) (by decide) (by decide) (by decide) rfl (vp_nar_int _) rfl tw_972 dX5_parse_75 ?_
  refine aw_wr (fun I9 => ?_)
  exact aw_retv S hQ (by decide) (by decide) dX5_parse_78
set_option maxHeartbeats 4000000 in
set_option maxRecDepth 100000 in
theorem s_X5_does (hs : kgH) (l : Launch) (w : Option (Nat × Nat)) (p1 : Int32) (I0 : kgM) : Sdi hs l w yX5_does (kg_ws yX5_does cX5_does 4 (some .int)) { frames := 8, cells := 0, slots := 0, locals := 175 } [.ref (kgO hs 177), .int p1] I0 (f_X5_does p1 I0) := by
  refine sd_i (av := fun hs => [.ref (kgO hs 177), .int p1]) (by decide +kernel) (fun hs => Nat.le_of_ble_eq_true rfl) (fun X S hQ => ?_) hs l
  refine aw_sub (L2 := [(0, .ref (kgO (kgHs X) 177)), (1, .int p1)]) [0, 1] rfl ?_
  unfold f_X5_does
  refine aw_aload_n S 0 rfl dX5_does_0 rfl ?_
  refine aw_getR S 177 10 182 cl_X5 (by decide) (by decide) (by decide) (by decide) (by decide) rfl tw_973 dX5_does_1 ?_
  refine aw_iload_n S 1 rfl dX5_does_4 rfl ?_
  refine aw_iconst (v := (1 : Int32)) S dX5_does_5 (by decide) ?_
  refine aw_iadd S dX5_does_6 ?_
  refine aw_iald S 182 244 (by decide) (by decide) dX5_does_7 ?_
  refine aw_istore_n (L2 := [(0, .ref (kgO (kgHs X) 177)), (1, .int p1), (2, .int (I0 182 (p1 + (1 : Int32)).toNatClampNeg))]) S [1, 2, 0] dX5_does_8 rfl (by decide) rfl ?_
  refine aw_let (Lf := fun x1 => [(0, .ref (kgO (kgHs X) 177)), (1, .int p1), (2, .int x1)]) (I0 182 (p1 + (1 : Int32)).toNatClampNeg) (fun x1 => ?_)
  refine aw_aload_n S 0 rfl dX5_does_9 rfl ?_
  refine aw_getR S 177 10 182 cl_X5 (by decide) (by decide) (by decide) (by decide) (by decide) rfl tw_973 dX5_does_10 ?_
  refine aw_iload_n S 1 rfl dX5_does_13 rfl ?_
  refine aw_iconst (v := (2 : Int32)) S dX5_does_14 (by decide) ?_
  refine aw_iadd S dX5_does_15 ?_
  refine aw_iald S 182 244 (by decide) (by decide) dX5_does_16 ?_
  refine aw_istore_n (L2 := [(0, .ref (kgO (kgHs X) 177)), (1, .int p1), (2, .int x1), (3, .int (I0 182 (p1 + (2 : Int32)).toNatClampNeg))]) S [1, 2, 3, 0] dX5_does_17 rfl (by decide) rfl ?_
  refine aw_let (Lf := fun x2 => [(0, .ref (kgO (kgHs X) 177)), (1, .int p1), (2, .int x1), (3, .int x2)]) (I0 182 (p1 + (2 : Int32)).toNatClampNeg) (fun x2 => ?_)
  refine aw_aload_n S 0 rfl dX5_does_18 rfl ?_
  refine aw_getR S 177 10 182 cl_X5 (by decide) (by decide) (by decide) (by decide) (by decide) rfl tw_973 dX5_does_19 ?_
  refine aw_iload_n S 1 rfl dX5_does_22 rfl ?_
  refine aw_iald S 182 244 (by decide) (by decide) dX5_does_23 ?_
  refine aw_tableAt (tgt := 176) S 97 dX5_does_24 (by decide) (by decide) rfl (by decide) ?_ (fun n_97 => ?_)
  · refine aw_aload_n S 0 rfl dX5_does_176 rfl ?_
    refine aw_iload_n S 2 rfl dX5_does_177 rfl ?_
    refine aw_iload_n S 3 rfl dX5_does_178 rfl ?_
    refine aw_cVi S 177 [.int x1, .int x2] vw_X5_appeals cl_X5 (by decide) (by decide) tw_1142 (s_X5_appeals _ _ _ x1 x2 I0) ⟨by decide, by decide⟩ rfl rfl (Nat.le_of_ble_eq_true rfl) rfl rfl (by decide) (by decide) dX5_does_179 (fun x3 I1 => ?_)
    exact aw_ret S hQ (vp_nar_int _) (by decide) (by decide) dX5_does_182
  refine aw_tableAt (tgt := 162) S 102 dX5_does_24 (by decide) (by decide) rfl (by decide) ?_ (fun n_102 => ?_)
  · refine aw_aload_n S 0 rfl dX5_does_162 rfl ?_
    refine aw_iload_n S 2 rfl dX5_does_163 rfl ?_
    refine aw_iload_n S 3 rfl dX5_does_164 rfl ?_
    refine aw_cVi S 177 [.int x1, .int x2] vw_X5_fills cl_X5 (by decide) (by decide) tw_1067 (s_X5_fills _ _ _ x1 x2 I0) ⟨by decide, by decide⟩ rfl rfl (Nat.le_of_ble_eq_true rfl) rfl rfl (by decide) (by decide) dX5_does_165 (fun x4 I2 => ?_)
    exact aw_ret S hQ (vp_nar_int _) (by decide) (by decide) dX5_does_168
  refine aw_tableAt (tgt := 155) S 104 dX5_does_24 (by decide) (by decide) rfl (by decide) ?_ (fun n_104 => ?_)
  · refine aw_aload_n S 0 rfl dX5_does_155 rfl ?_
    refine aw_iload_n S 2 rfl dX5_does_156 rfl ?_
    refine aw_iload_n S 3 rfl dX5_does_157 rfl ?_
    refine aw_cVi S 177 [.int x1, .int x2] vw_X5_heats cl_X5 (by decide) (by decide) tw_1122 (s_X5_heats _ _ _ x1 x2 I0) ⟨by decide, by decide⟩ rfl rfl (Nat.le_of_ble_eq_true rfl) rfl rfl (by decide) (by decide) dX5_does_158 (fun x5 I3 => ?_)
    exact aw_ret S hQ (vp_nar_int _) (by decide) (by decide) dX5_does_161
  refine aw_tableAt (tgt := 127) S 107 dX5_does_24 (by decide) (by decide) rfl (by decide) ?_ (fun n_107 => ?_)
  · refine aw_aload_n S 0 rfl dX5_does_127 rfl ?_
    refine aw_iload_n S 2 rfl dX5_does_128 rfl ?_
    refine aw_iload_n S 3 rfl dX5_does_129 rfl ?_
    refine aw_aload_n S 0 rfl dX5_does_130 rfl ?_
    refine aw_getR S 177 10 182 cl_X5 (by decide) (by decide) (by decide) (by decide) (by decide) rfl tw_973 dX5_does_131 ?_
    refine aw_iload_n S 1 rfl dX5_does_134 rfl ?_
    refine aw_iconst (v := (3 : Int32)) S dX5_does_135 (by decide) ?_
    refine aw_iadd S dX5_does_136 ?_
    refine aw_iald S 182 244 (by decide) (by decide) dX5_does_137 ?_
    refine aw_cVi S 177 [.int x1, .int x2, .int (I0 182 (p1 + (3 : Int32)).toNatClampNeg)] vw_X5_brings cl_X5 (by decide) (by decide) tw_1055 (s_X5_brings _ _ _ x1 x2 (I0 182 (p1 + (3 : Int32)).toNatClampNeg) I0) ⟨by decide, by decide⟩ rfl rfl (Nat.le_of_ble_eq_true rfl) rfl rfl (by decide) (by decide) dX5_does_138 (fun x6 I4 => ?_)
    exact aw_ret S hQ (vp_nar_int _) (by decide) (by decide) dX5_does_141
  refine aw_tableAt (tgt := 169) S 108 dX5_does_24 (by decide) (by decide) rfl (by decide) ?_ (fun n_108 => ?_)
  · refine aw_aload_n S 0 rfl dX5_does_169 rfl ?_
    refine aw_iload_n S 2 rfl dX5_does_170 rfl ?_
    refine aw_iload_n S 3 rfl dX5_does_171 rfl ?_
    refine aw_cVi S 177 [.int x1, .int x2] vw_X5_putsLid cl_X5 (by decide) (by decide) tw_1130 (s_X5_putsLid _ _ _ x1 x2 I0) ⟨by decide, by decide⟩ rfl rfl (Nat.le_of_ble_eq_true rfl) rfl rfl (by decide) (by decide) dX5_does_172 (fun x7 I5 => ?_)
    exact aw_ret S hQ (vp_nar_int _) (by decide) (by decide) dX5_does_175
  refine aw_tableAt (tgt := 120) S 110 dX5_does_24 (by decide) (by decide) rfl (by decide) ?_ (fun n_110 => ?_)
  · refine aw_aload_n S 0 rfl dX5_does_120 rfl ?_
    refine aw_iload_n S 2 rfl dX5_does_121 rfl ?_
    refine aw_iload_n S 3 rfl dX5_does_122 rfl ?_
    refine aw_cVi S 177 [.int x1, .int x2] vw_X5_owns cl_X5 (by decide) (by decide) tw_1025 (s_X5_owns _ _ _ x1 x2 I0) ⟨by decide, by decide⟩ rfl rfl (Nat.le_of_ble_eq_true rfl) rfl rfl (by decide) (by decide) dX5_does_123 (fun x8 I6 => ?_)
    exact aw_ret S hQ (vp_nar_int _) (by decide) (by decide) dX5_does_126
  refine aw_tableAt (tgt := 142) S 115 dX5_does_24 (by decide) (by decide) rfl (by decide) ?_ (fun n_115 => ?_)
  · refine aw_aload_n S 0 rfl dX5_does_142 rfl ?_
    refine aw_iload_n S 2 rfl dX5_does_143 rfl ?_
    refine aw_iload_n S 3 rfl dX5_does_144 rfl ?_
    refine aw_cVi S 177 [.int x1, .int x2] vw_X5_sets cl_X5 (by decide) (by decide) tw_1083 (s_X5_sets _ _ _ x1 x2 I0) ⟨by decide, by decide⟩ rfl rfl (Nat.le_of_ble_eq_true rfl) rfl rfl (by decide) (by decide) dX5_does_145 (fun x9 I7 => ?_)
    exact aw_ret S hQ (vp_nar_int _) (by decide) (by decide) dX5_does_148
  refine aw_tableAt (tgt := 149) S 116 dX5_does_24 (by decide) (by decide) rfl (by decide) ?_ (fun n_116 => ?_)
  · refine aw_aload_n S 0 rfl dX5_does_149 rfl ?_
    refine aw_iload_n S 2 rfl dX5_does_150 rfl ?_
    refine aw_cVi S 177 [.int x1] vw_X5_takesOff cl_X5 (by decide) (by decide) tw_1114 (s_X5_takesOff _ _ _ x1 I0) ⟨by decide, by decide⟩ rfl rfl (Nat.le_of_ble_eq_true rfl) rfl rfl (by decide) (by decide) dX5_does_151 (fun x10 I8 => ?_)
    exact aw_ret S hQ (vp_nar_int _) (by decide) (by decide) dX5_does_154
  refine aw_tableD (tgt := 183) S [97, 102, 104, 107, 108, 110, 115, 116] dX5_does_24 (by decide) (by decide) (by intro v hv; simp only [List.mem_cons, List.not_mem_nil, or_false] at hv; rcases hv with rfl | rfl | rfl | rfl | rfl | rfl | rfl | rfl <;> assumption) (by decide) ?_
  refine aw_aload_n S 0 rfl dX5_does_183 rfl ?_
  refine aw_iload_n S 2 rfl dX5_does_184 rfl ?_
  refine aw_cVi S 177 [.int x1] vw_X5_passes cl_X5 (by decide) (by decide) tw_1153 (s_X5_passes _ _ _ x1 I0) ⟨by decide, by decide⟩ rfl rfl (Nat.le_of_ble_eq_true rfl) rfl rfl (by decide) (by decide) dX5_does_185 (fun x11 I9 => ?_)
  exact aw_ret S hQ (vp_nar_int _) (by decide) (by decide) dX5_does_188
set_option maxHeartbeats 4000000 in
set_option maxRecDepth 100000 in
theorem s_X5_run_L33 {X : kgCX (Int32 × kgM)} {w : Option (Nat × Nat)} (S : Cx X cX5_run RX5 3 9 198 0 0) (hQ : Qxi X w .int)  {K : Int32 → Int32 → kgM → Option (Int32 × kgM)} (hK : ∀ (z1 : Int32) (z2 : Int32) (J : kgM), AW X 3 0 0 w (K z1 z2 J) 62 [(0, .ref (kgO (kgHs X) 177)), (1, .int z1), (2, .int z2)] [] J) : ∀ (q : Nat) (x1h33 : Int32) (x2h33 : Int32) (Ih33 : kgM), AW X 3 0 0 w (f_X5_run_L33 K q x1h33 x2h33 Ih33) 33 [(0, .ref (kgO (kgHs X) 177)), (1, .int x1h33), (2, .int x2h33)] [] Ih33 := by
  intro q
  induction q with
  | zero => intros; exact aw_none
  | succ q ih =>
    intro x1h33 x2h33 Ih33
    rw [f_X5_run_L33]
    refine aw_iload_n S 2 rfl dX5_run_33 rfl ?_
    refine aw_aload_n S 0 rfl dX5_run_34 rfl ?_
    refine aw_getI S 177 11 cl_X5 (by decide) (by decide) (by decide) (by decide) rfl tw_974 dX5_run_35 ?_
    refine aw_icmp_ge (tgt := 62) S dX5_run_38 (by decide) ?_ ?_
    · exact hK x1h33 x2h33 Ih33
    refine aw_iload_n S 1 rfl dX5_run_41 rfl ?_
    refine aw_sipush (v := (-1011 : Int32)) S dX5_run_42 (by decide) ?_
    refine aw_icmp_le (tgt := 62) S dX5_run_45 (by decide) ?_ ?_
    · exact hK x1h33 x2h33 Ih33
    refine aw_aload_n S 0 rfl dX5_run_48 rfl ?_
    refine aw_iconst (v := (4 : Int32)) S dX5_run_49 (by decide) ?_
    refine aw_iload_n S 2 rfl dX5_run_50 rfl ?_
    refine aw_imul S dX5_run_51 ?_
    refine aw_cVi S 177 [.int ((4 : Int32) * x2h33)] vw_X5_does cl_X5 (by decide) (by decide) tw_1294 (s_X5_does _ _ _ ((4 : Int32) * x2h33) Ih33) ⟨by decide, by decide⟩ rfl rfl (Nat.le_of_ble_eq_true rfl) rfl rfl (by decide) (by decide) dX5_run_52 (fun x3 I4 => ?_)
    refine aw_istore_n (L2 := [(0, .ref (kgO (kgHs X) 177)), (1, .int x3), (2, .int x2h33)]) S [1, 0, 2] dX5_run_55 rfl (by decide) rfl ?_
    refine aw_iinc (v := x2h33 + (1 : Int32)) (L2 := [(0, .ref (kgO (kgHs X) 177)), (1, .int x3), (2, .int (x2h33 + (1 : Int32)))]) S [1, 2, 0] 2 dX5_run_56 rfl rfl (by decide) rfl ?_
    refine aw_let (Lf := fun x4 => [(0, .ref (kgO (kgHs X) 177)), (1, .int x3), (2, .int x4)]) (x2h33 + (1 : Int32)) (fun x4 => ?_)
    refine aw_goto (tgt := 33) S dX5_run_59 (by decide) ?_
    exact ih x3 x4 I4
set_option maxHeartbeats 4000000 in
set_option maxRecDepth 100000 in
theorem s_X5_run (hs : kgH) (l : Launch) (w : Option (Nat × Nat))  (I0 : kgM) : Sdi hs l w yX5_run (kg_ws yX5_run cX5_run 3 (some .int)) { frames := 9, cells := 0, slots := 0, locals := 198 } [.ref (kgO hs 177)] I0 (f_X5_run I0) := by
  refine sd_i (av := fun hs => [.ref (kgO hs 177)]) (by decide +kernel) (fun hs => Nat.le_of_ble_eq_true rfl) (fun X S hQ => ?_) hs l
  refine aw_sub (L2 := [(0, .ref (kgO (kgHs X) 177))]) [0] rfl ?_
  unfold f_X5_run
  refine aw_aload_n S 0 rfl dX5_run_0 rfl ?_
  refine aw_cVv S 177 [] vw_X5_parse cl_X5 (by decide) (by decide) tw_1262 (s_X5_parse _ _ _ I0) ⟨by decide, by decide⟩ rfl rfl (Nat.le_of_ble_eq_true rfl) rfl rfl (by decide) (by decide) dX5_run_1 (fun x1 I1 => ?_)
  refine aw_aload_n S 0 rfl dX5_run_4 rfl ?_
  refine aw_iconst (v := (0 : Int32)) S dX5_run_5 (by decide) ?_
  refine aw_putI S 177 7 cl_X5 tyX5_ok nmX5 (by decide) (by decide) (by decide) (by decide) rfl (vp_nar_int _) rfl tw_970 dX5_run_6 ?_
  refine aw_wr (fun I2 => ?_)
  refine aw_aload_n S 0 rfl dX5_run_9 rfl ?_
  refine aw_getI S 177 9 cl_X5 (by decide) (by decide) (by decide) (by decide) rfl tw_972 dX5_run_10 ?_
  refine aw_if_lt (y := 0) (tgt := 25) S dX5_run_13 (by decide) ?_ ?_
  · refine aw_aload_n S 0 rfl dX5_run_25 rfl ?_
    refine aw_cVv S 177 [] vw_X5_begins cl_X5 (by decide) (by decide) tw_1017 (s_X5_begins _ _ _ I2) ⟨by decide, by decide⟩ rfl rfl (Nat.le_of_ble_eq_true rfl) rfl rfl (by decide) (by decide) dX5_run_26 (fun x2 I3 => ?_)
    refine aw_iconst (v := (0 : Int32)) S dX5_run_29 (by decide) ?_
    refine aw_istore_n (L2 := [(0, .ref (kgO (kgHs X) 177)), (1, .int (0 : Int32))]) S [1, 0] dX5_run_30 rfl (by decide) rfl ?_
    refine aw_iconst (v := (0 : Int32)) S dX5_run_31 (by decide) ?_
    refine aw_istore_n (L2 := [(0, .ref (kgO (kgHs X) 177)), (1, .int (0 : Int32)), (2, .int (0 : Int32))]) S [1, 2, 0] dX5_run_32 rfl (by decide) rfl ?_
    refine s_X5_run_L33 S hQ  (fun x5 x6 I5 => ?_) 200 (0 : Int32) (0 : Int32) I3
    refine aw_iload_n S 1 rfl dX5_run_62 rfl ?_
    refine aw_sipush (v := (-1011 : Int32)) S dX5_run_63 (by decide) ?_
    refine aw_icmp_gt (tgt := 105) S dX5_run_66 (by decide) ?_ ?_
    · refine aw_aload_n S 0 rfl dX5_run_105 rfl ?_
      refine aw_aload_n S 0 rfl dX5_run_106 rfl ?_
      refine aw_getI S 177 11 cl_X5 (by decide) (by decide) (by decide) (by decide) rfl tw_974 dX5_run_107 ?_
      refine aw_cVi S 177 [.int (I5 177 11)] vw_X5_ends cl_X5 (by decide) (by decide) tw_1047 (s_X5_ends _ _ _ (I5 177 11) I5) ⟨by decide, by decide⟩ rfl rfl (Nat.le_of_ble_eq_true rfl) rfl rfl (by decide) (by decide) dX5_run_110 (fun x7 I6 => ?_)
      exact aw_ret S hQ (vp_nar_int _) (by decide) (by decide) dX5_run_113
    refine aw_aload_n S 0 rfl dX5_run_69 rfl ?_
    refine aw_iload_n S 1 rfl dX5_run_70 rfl ?_
    refine aw_sipush (v := (-1014 : Int32)) S dX5_run_71 (by decide) ?_
    refine aw_letJ (fun (j85 : Int32 → Option (Int32 × kgM)) => ∀ (y0j85 : Int32), AW X 3 0 0 w (j85 y0j85) 85 [(0, .ref (kgO (kgHs X) 177)), (2, .int x6)] [.int y0j85, .ref (kgO (kgHs X) 177)] I5) ?_ (fun j85 hj85 => ?_)
    · intro y0j85
      refine aw_putI S 177 5 cl_X5 tyX5_ok nmX5 (by decide) (by decide) (by decide) (by decide) rfl (vp_nar_int _) rfl tw_968 dX5_run_85 ?_
      refine aw_wr (fun I7 => ?_)
      refine aw_aload_n S 0 rfl dX5_run_88 rfl ?_
      refine aw_bipush (v := (16 : Int32)) S dX5_run_89 (by decide) ?_
      refine aw_iload_n S 1 rfl dX5_run_91 rfl ?_
      refine aw_iconst (v := (1 : Int32)) S dX5_run_92 (by decide) ?_
      refine aw_isub S dX5_run_93 ?_
      refine aw_cVv S 177 [.int (16 : Int32), .int (x6 - (1 : Int32))] vw_X5_causes cl_X5 (by decide) (by decide) tw_1102 (s_X5_causes _ _ _ (16 : Int32) (x6 - (1 : Int32)) I7) ⟨by decide, by decide⟩ rfl rfl (Nat.le_of_ble_eq_true rfl) rfl rfl (by decide) (by decide) dX5_run_94 (fun x8 I8 => ?_)
      refine aw_aload_n S 0 rfl dX5_run_97 rfl ?_
      refine aw_sipush (v := (-1014 : Int32)) S dX5_run_98 (by decide) ?_
      refine aw_cVi S 177 [.int (-1014 : Int32)] vw_X5_ends cl_X5 (by decide) (by decide) tw_1047 (s_X5_ends _ _ _ (-1014 : Int32) I8) ⟨by decide, by decide⟩ rfl rfl (Nat.le_of_ble_eq_true rfl) rfl rfl (by decide) (by decide) dX5_run_101 (fun x9 I9 => ?_)
      exact aw_ret S hQ (vp_nar_int _) (by decide) (by decide) dX5_run_104
    refine aw_icmp_ne (tgt := 84) S dX5_run_74 (by decide) ?_ ?_
    · refine aw_iconst (v := (0 : Int32)) S dX5_run_84 (by decide) ?_
      refine aw_sub (L2 := [(0, .ref (kgO (kgHs X) 177)), (2, .int x6)]) [0, 2] rfl ?_
      exact hj85 (0 : Int32)
    refine aw_aload_n S 0 rfl dX5_run_77 rfl ?_
    refine aw_getI S 177 5 cl_X5 (by decide) (by decide) (by decide) (by decide) rfl tw_968 dX5_run_78 ?_
    refine aw_goto (tgt := 85) S dX5_run_81 (by decide) ?_
    refine aw_sub (L2 := [(0, .ref (kgO (kgHs X) 177)), (2, .int x6)]) [0, 2] rfl ?_
    exact hj85 (I5 177 5)
  refine aw_sipush (v := (-2000 : Int32)) S dX5_run_16 (by decide) ?_
  refine aw_aload_n S 0 rfl dX5_run_19 rfl ?_
  refine aw_getI S 177 9 cl_X5 (by decide) (by decide) (by decide) (by decide) rfl tw_972 dX5_run_20 ?_
  refine aw_isub S dX5_run_23 ?_
  exact aw_ret S hQ (vp_nar_int _) (by decide) (by decide) dX5_run_24
set_option maxHeartbeats 4000000 in
set_option maxRecDepth 100000 in
theorem s_X5_writes (hs : kgH) (l : Launch) (w : Option (Nat × Nat)) (p1 : Int32) (I0 : kgM) : Sdv hs l w yX5_writes (kg_ws yX5_writes cX5_writes 2 none) { frames := 0, cells := 0, slots := 0, locals := 0 } [.ref (kgO hs 177), .int p1] I0 (f_X5_writes p1 I0) := by
  refine sd_v (av := fun hs => [.ref (kgO hs 177), .int p1]) (by decide +kernel) (fun hs => Nat.le_of_ble_eq_true rfl) (fun X S hQ => ?_) hs l
  refine aw_sub (L2 := [(0, .ref (kgO (kgHs X) 177)), (1, .int p1)]) [0, 1] rfl ?_
  unfold f_X5_writes
  refine aw_aload_n S 0 rfl dX5_writes_0 rfl ?_
  refine aw_getR S 177 12 183 cl_X5 (by decide) (by decide) (by decide) (by decide) (by decide) rfl tw_975 dX5_writes_1 ?_
  refine aw_aload_n S 0 rfl dX5_writes_4 rfl ?_
  refine aw_getI S 177 13 cl_X5 (by decide) (by decide) (by decide) (by decide) rfl tw_976 dX5_writes_5 ?_
  refine aw_iload_n S 1 rfl dX5_writes_8 rfl ?_
  refine aw_i2c S dX5_writes_9 ?_
  refine aw_cast S 183 40 (by decide) (by decide) dX5_writes_10 ?_
  refine aw_wr (fun I1 => ?_)
  refine aw_aload_n S 0 rfl dX5_writes_11 rfl ?_
  refine aw_dup S dX5_writes_12 rfl ?_
  refine aw_getI S 177 13 cl_X5 (by decide) (by decide) (by decide) (by decide) rfl tw_976 dX5_writes_13 ?_
  refine aw_iconst (v := (1 : Int32)) S dX5_writes_16 (by decide) ?_
  refine aw_iadd S dX5_writes_17 ?_
  refine aw_putI S 177 13 cl_X5 tyX5_ok nmX5 (by decide) (by decide) (by decide) (by decide) rfl (vp_nar_int _) rfl tw_976 dX5_writes_18 ?_
  refine aw_wr (fun I2 => ?_)
  exact aw_retv S hQ (by decide) (by decide) dX5_writes_21
set_option maxHeartbeats 4000000 in
set_option maxRecDepth 100000 in
theorem s_X5_writesNumber_0 (hs : kgH) (l : Launch) (w : Option (Nat × Nat)) (p1 : Int32) (I0 : kgM) : Sdv hs l w yX5_writesNumber (kg_ws yX5_writesNumber cX5_writesNumber 2 none) { frames := 1, cells := 0, slots := 0, locals := 21 } [.ref (kgO hs 177), .int p1] I0 (f_X5_writesNumber_0 p1 I0) := by
  refine sd_v (av := fun hs => [.ref (kgO hs 177), .int p1]) (by decide +kernel) (fun hs => Nat.le_of_ble_eq_true rfl) (fun X S hQ => ?_) hs l
  refine aw_sub (L2 := [(0, .ref (kgO (kgHs X) 177)), (1, .int p1)]) [0, 1] rfl ?_
  unfold f_X5_writesNumber_0
  refine aw_iload_n S 1 rfl dX5_writesNumber_0 rfl ?_
  refine aw_bipush (v := (9 : Int32)) S dX5_writesNumber_1 (by decide) ?_
  refine aw_icmp_le (tgt := 14) S dX5_writesNumber_3 (by decide) ?_ ?_
  · refine aw_aload_n S 0 rfl dX5_writesNumber_14 rfl ?_
    refine aw_bipush (v := (48 : Int32)) S dX5_writesNumber_15 (by decide) ?_
    refine aw_iload_n S 1 rfl dX5_writesNumber_17 rfl ?_
    refine aw_bipush (v := (10 : Int32)) S dX5_writesNumber_18 (by decide) ?_
    refine aw_iremK S dX5_writesNumber_20 (by decide) ?_
    refine aw_iadd S dX5_writesNumber_21 ?_
    refine aw_cVv S 177 [.int ((48 : Int32) + (p1 - p1 / (10 : Int32) * (10 : Int32)))] vw_X5_writes cl_X5 (by decide) (by decide) tw_1306 (s_X5_writes _ _ _ ((48 : Int32) + (p1 - p1 / (10 : Int32) * (10 : Int32))) I0) ⟨by decide, by decide⟩ rfl rfl (Nat.le_of_ble_eq_true rfl) rfl rfl (by decide) (by decide) dX5_writesNumber_22 (fun x1 I1 => ?_)
    exact aw_retv S hQ (by decide) (by decide) dX5_writesNumber_25
  refine aw_aload_n S 0 rfl dX5_writesNumber_6 rfl ?_
  refine aw_iload_n S 1 rfl dX5_writesNumber_7 rfl ?_
  refine aw_bipush (v := (10 : Int32)) S dX5_writesNumber_8 (by decide) ?_
  refine aw_idivK S dX5_writesNumber_10 (by decide) ?_
  exact aw_none
set_option maxHeartbeats 4000000 in
set_option maxRecDepth 100000 in
theorem s_X5_writesNumber_1 (hs : kgH) (l : Launch) (w : Option (Nat × Nat)) (p1 : Int32) (I0 : kgM) : Sdv hs l w yX5_writesNumber (kg_ws yX5_writesNumber cX5_writesNumber 2 none) { frames := 2, cells := 0, slots := 0, locals := 42 } [.ref (kgO hs 177), .int p1] I0 (f_X5_writesNumber_1 p1 I0) := by
  refine sd_v (av := fun hs => [.ref (kgO hs 177), .int p1]) (by decide +kernel) (fun hs => Nat.le_of_ble_eq_true rfl) (fun X S hQ => ?_) hs l
  refine aw_sub (L2 := [(0, .ref (kgO (kgHs X) 177)), (1, .int p1)]) [0, 1] rfl ?_
  unfold f_X5_writesNumber_1
  refine aw_iload_n S 1 rfl dX5_writesNumber_0 rfl ?_
  refine aw_bipush (v := (9 : Int32)) S dX5_writesNumber_1 (by decide) ?_
  refine aw_icmp_le (tgt := 14) S dX5_writesNumber_3 (by decide) ?_ ?_
  · refine aw_aload_n S 0 rfl dX5_writesNumber_14 rfl ?_
    refine aw_bipush (v := (48 : Int32)) S dX5_writesNumber_15 (by decide) ?_
    refine aw_iload_n S 1 rfl dX5_writesNumber_17 rfl ?_
    refine aw_bipush (v := (10 : Int32)) S dX5_writesNumber_18 (by decide) ?_
    refine aw_iremK S dX5_writesNumber_20 (by decide) ?_
    refine aw_iadd S dX5_writesNumber_21 ?_
    refine aw_cVv S 177 [.int ((48 : Int32) + (p1 - p1 / (10 : Int32) * (10 : Int32)))] vw_X5_writes cl_X5 (by decide) (by decide) tw_1306 (s_X5_writes _ _ _ ((48 : Int32) + (p1 - p1 / (10 : Int32) * (10 : Int32))) I0) ⟨by decide, by decide⟩ rfl rfl (Nat.le_of_ble_eq_true rfl) rfl rfl (by decide) (by decide) dX5_writesNumber_22 (fun x1 I1 => ?_)
    exact aw_retv S hQ (by decide) (by decide) dX5_writesNumber_25
  refine aw_aload_n S 0 rfl dX5_writesNumber_6 rfl ?_
  refine aw_iload_n S 1 rfl dX5_writesNumber_7 rfl ?_
  refine aw_bipush (v := (10 : Int32)) S dX5_writesNumber_8 (by decide) ?_
  refine aw_idivK S dX5_writesNumber_10 (by decide) ?_
  refine aw_cVv S 177 [.int (p1 / (10 : Int32))] vw_X5_writesNumber cl_X5 (by decide) (by decide) tw_1302 (s_X5_writesNumber_0 _ _ _ (p1 / (10 : Int32)) I0) ⟨by decide, by decide⟩ rfl rfl (Nat.le_of_ble_eq_true rfl) rfl rfl (by decide) (by decide) dX5_writesNumber_11 (fun x2 I2 => ?_)
  refine aw_aload_n S 0 rfl dX5_writesNumber_14 rfl ?_
  refine aw_bipush (v := (48 : Int32)) S dX5_writesNumber_15 (by decide) ?_
  refine aw_iload_n S 1 rfl dX5_writesNumber_17 rfl ?_
  refine aw_bipush (v := (10 : Int32)) S dX5_writesNumber_18 (by decide) ?_
  refine aw_iremK S dX5_writesNumber_20 (by decide) ?_
  refine aw_iadd S dX5_writesNumber_21 ?_
  refine aw_cVv S 177 [.int ((48 : Int32) + (p1 - p1 / (10 : Int32) * (10 : Int32)))] vw_X5_writes cl_X5 (by decide) (by decide) tw_1306 (s_X5_writes _ _ _ ((48 : Int32) + (p1 - p1 / (10 : Int32) * (10 : Int32))) I2) ⟨by decide, by decide⟩ rfl rfl (Nat.le_of_ble_eq_true rfl) rfl rfl (by decide) (by decide) dX5_writesNumber_22 (fun x3 I3 => ?_)
  exact aw_retv S hQ (by decide) (by decide) dX5_writesNumber_25
set_option maxHeartbeats 4000000 in
set_option maxRecDepth 100000 in
theorem s_X5_writesNumber_2 (hs : kgH) (l : Launch) (w : Option (Nat × Nat)) (p1 : Int32) (I0 : kgM) : Sdv hs l w yX5_writesNumber (kg_ws yX5_writesNumber cX5_writesNumber 2 none) { frames := 3, cells := 0, slots := 0, locals := 63 } [.ref (kgO hs 177), .int p1] I0 (f_X5_writesNumber_2 p1 I0) := by
  refine sd_v (av := fun hs => [.ref (kgO hs 177), .int p1]) (by decide +kernel) (fun hs => Nat.le_of_ble_eq_true rfl) (fun X S hQ => ?_) hs l
  refine aw_sub (L2 := [(0, .ref (kgO (kgHs X) 177)), (1, .int p1)]) [0, 1] rfl ?_
  unfold f_X5_writesNumber_2
  refine aw_iload_n S 1 rfl dX5_writesNumber_0 rfl ?_
  refine aw_bipush (v := (9 : Int32)) S dX5_writesNumber_1 (by decide) ?_
  refine aw_icmp_le (tgt := 14) S dX5_writesNumber_3 (by decide) ?_ ?_
  · refine aw_aload_n S 0 rfl dX5_writesNumber_14 rfl ?_
    refine aw_bipush (v := (48 : Int32)) S dX5_writesNumber_15 (by decide) ?_
    refine aw_iload_n S 1 rfl dX5_writesNumber_17 rfl ?_
    refine aw_bipush (v := (10 : Int32)) S dX5_writesNumber_18 (by decide) ?_
    refine aw_iremK S dX5_writesNumber_20 (by decide) ?_
    refine aw_iadd S dX5_writesNumber_21 ?_
    refine aw_cVv S 177 [.int ((48 : Int32) + (p1 - p1 / (10 : Int32) * (10 : Int32)))] vw_X5_writes cl_X5 (by decide) (by decide) tw_1306 (s_X5_writes _ _ _ ((48 : Int32) + (p1 - p1 / (10 : Int32) * (10 : Int32))) I0) ⟨by decide, by decide⟩ rfl rfl (Nat.le_of_ble_eq_true rfl) rfl rfl (by decide) (by decide) dX5_writesNumber_22 (fun x1 I1 => ?_)
    exact aw_retv S hQ (by decide) (by decide) dX5_writesNumber_25
  refine aw_aload_n S 0 rfl dX5_writesNumber_6 rfl ?_
  refine aw_iload_n S 1 rfl dX5_writesNumber_7 rfl ?_
  refine aw_bipush (v := (10 : Int32)) S dX5_writesNumber_8 (by decide) ?_
  refine aw_idivK S dX5_writesNumber_10 (by decide) ?_
  refine aw_cVv S 177 [.int (p1 / (10 : Int32))] vw_X5_writesNumber cl_X5 (by decide) (by decide) tw_1302 (s_X5_writesNumber_1 _ _ _ (p1 / (10 : Int32)) I0) ⟨by decide, by decide⟩ rfl rfl (Nat.le_of_ble_eq_true rfl) rfl rfl (by decide) (by decide) dX5_writesNumber_11 (fun x2 I2 => ?_)
  refine aw_aload_n S 0 rfl dX5_writesNumber_14 rfl ?_
  refine aw_bipush (v := (48 : Int32)) S dX5_writesNumber_15 (by decide) ?_
  refine aw_iload_n S 1 rfl dX5_writesNumber_17 rfl ?_
  refine aw_bipush (v := (10 : Int32)) S dX5_writesNumber_18 (by decide) ?_
  refine aw_iremK S dX5_writesNumber_20 (by decide) ?_
  refine aw_iadd S dX5_writesNumber_21 ?_
  refine aw_cVv S 177 [.int ((48 : Int32) + (p1 - p1 / (10 : Int32) * (10 : Int32)))] vw_X5_writes cl_X5 (by decide) (by decide) tw_1306 (s_X5_writes _ _ _ ((48 : Int32) + (p1 - p1 / (10 : Int32) * (10 : Int32))) I2) ⟨by decide, by decide⟩ rfl rfl (Nat.le_of_ble_eq_true rfl) rfl rfl (by decide) (by decide) dX5_writesNumber_22 (fun x3 I3 => ?_)
  exact aw_retv S hQ (by decide) (by decide) dX5_writesNumber_25
set_option maxHeartbeats 4000000 in
set_option maxRecDepth 100000 in
theorem s_X5_tell (hs : kgH) (l : Launch) (w : Option (Nat × Nat)) (p1 : Int32) (I0 : kgM) : Sdi hs l w yX5_tell (kg_ws yX5_tell cX5_tell 2 (some .int)) { frames := 5, cells := 0, slots := 0, locals := 106 } [.ref (kgO hs 177), .int p1] I0 (f_X5_tell p1 I0) := by
  refine sd_i (av := fun hs => [.ref (kgO hs 177), .int p1]) (by decide +kernel) (fun hs => Nat.le_of_ble_eq_true rfl) (fun X S hQ => ?_) hs l
  refine aw_sub (L2 := [(0, .ref (kgO (kgHs X) 177)), (1, .int p1)]) [0, 1] rfl ?_
  unfold f_X5_tell
  refine aw_aload_n S 0 rfl dX5_tell_0 rfl ?_
  refine aw_iload_n S 1 rfl dX5_tell_1 rfl ?_
  refine aw_cVi S 177 [.int p1] vw_X5_isKettle cl_X5 (by decide) (by decide) tw_1071 (s_X5_isKettle _ _ _ p1 I0) ⟨by decide, by decide⟩ rfl rfl (Nat.le_of_ble_eq_true rfl) rfl rfl (by decide) (by decide) dX5_tell_2 (fun x1 I1 => ?_)
  refine aw_if_ne (y := 0) (tgt := 12) S dX5_tell_5 (by decide) ?_ ?_
  · refine aw_aload_n S 0 rfl dX5_tell_12 rfl ?_
    refine aw_iconst (v := (0 : Int32)) S dX5_tell_13 (by decide) ?_
    refine aw_putI S 177 13 cl_X5 tyX5_ok nmX5 (by decide) (by decide) (by decide) (by decide) rfl (vp_nar_int _) rfl tw_976 dX5_tell_14 ?_
    refine aw_wr (fun I2 => ?_)
    refine aw_aload_n S 0 rfl dX5_tell_17 rfl ?_
    refine aw_iload_n S 1 rfl dX5_tell_18 rfl ?_
    refine aw_cVv S 177 [.int p1] vw_X5_writesNumber cl_X5 (by decide) (by decide) tw_1302 (s_X5_writesNumber_2 _ _ _ p1 I2) ⟨by decide, by decide⟩ rfl rfl (Nat.le_of_ble_eq_true rfl) rfl rfl (by decide) (by decide) dX5_tell_19 (fun x2 I3 => ?_)
    refine aw_aload_n S 0 rfl dX5_tell_22 rfl ?_
    refine aw_bipush (v := (58 : Int32)) S dX5_tell_23 (by decide) ?_
    refine aw_cVv S 177 [.int (58 : Int32)] vw_X5_writes cl_X5 (by decide) (by decide) tw_1306 (s_X5_writes _ _ _ (58 : Int32) I3) ⟨by decide, by decide⟩ rfl rfl (Nat.le_of_ble_eq_true rfl) rfl rfl (by decide) (by decide) dX5_tell_25 (fun x3 I4 => ?_)
    refine aw_aload_n S 0 rfl dX5_tell_28 rfl ?_
    refine aw_aload_n S 0 rfl dX5_tell_29 rfl ?_
    refine aw_iload_n S 1 rfl dX5_tell_30 rfl ?_
    refine aw_iconst (v := (0 : Int32)) S dX5_tell_31 (by decide) ?_
    refine aw_cVi S 177 [.int p1, .int (0 : Int32)] vw_X5_kt cl_X5 (by decide) (by decide) tw_1075 (s_X5_kt _ _ _ p1 (0 : Int32) I4) ⟨by decide, by decide⟩ rfl rfl (Nat.le_of_ble_eq_true rfl) rfl rfl (by decide) (by decide) dX5_tell_32 (fun x4 I5 => ?_)
    refine aw_cVv S 177 [.int x4] vw_X5_writesNumber cl_X5 (by decide) (by decide) tw_1302 (s_X5_writesNumber_2 _ _ _ x4 I5) ⟨by decide, by decide⟩ rfl rfl (Nat.le_of_ble_eq_true rfl) rfl rfl (by decide) (by decide) dX5_tell_35 (fun x5 I6 => ?_)
    refine aw_aload_n S 0 rfl dX5_tell_38 rfl ?_
    refine aw_bipush (v := (112 : Int32)) S dX5_tell_39 (by decide) ?_
    refine aw_cVv S 177 [.int (112 : Int32)] vw_X5_writes cl_X5 (by decide) (by decide) tw_1306 (s_X5_writes _ _ _ (112 : Int32) I6) ⟨by decide, by decide⟩ rfl rfl (Nat.le_of_ble_eq_true rfl) rfl rfl (by decide) (by decide) dX5_tell_41 (fun x6 I7 => ?_)
    refine aw_aload_n S 0 rfl dX5_tell_44 rfl ?_
    refine aw_aload_n S 0 rfl dX5_tell_45 rfl ?_
    refine aw_iload_n S 1 rfl dX5_tell_46 rfl ?_
    refine aw_iconst (v := (1 : Int32)) S dX5_tell_47 (by decide) ?_
    refine aw_cVi S 177 [.int p1, .int (1 : Int32)] vw_X5_kt cl_X5 (by decide) (by decide) tw_1075 (s_X5_kt _ _ _ p1 (1 : Int32) I7) ⟨by decide, by decide⟩ rfl rfl (Nat.le_of_ble_eq_true rfl) rfl rfl (by decide) (by decide) dX5_tell_48 (fun x7 I8 => ?_)
    refine aw_cVv S 177 [.int x7] vw_X5_writesNumber cl_X5 (by decide) (by decide) tw_1302 (s_X5_writesNumber_2 _ _ _ x7 I8) ⟨by decide, by decide⟩ rfl rfl (Nat.le_of_ble_eq_true rfl) rfl rfl (by decide) (by decide) dX5_tell_51 (fun x8 I9 => ?_)
    refine aw_aload_n S 0 rfl dX5_tell_54 rfl ?_
    refine aw_bipush (v := (119 : Int32)) S dX5_tell_55 (by decide) ?_
    refine aw_cVv S 177 [.int (119 : Int32)] vw_X5_writes cl_X5 (by decide) (by decide) tw_1306 (s_X5_writes _ _ _ (119 : Int32) I9) ⟨by decide, by decide⟩ rfl rfl (Nat.le_of_ble_eq_true rfl) rfl rfl (by decide) (by decide) dX5_tell_57 (fun x9 I10 => ?_)
    refine aw_aload_n S 0 rfl dX5_tell_60 rfl ?_
    refine aw_aload_n S 0 rfl dX5_tell_61 rfl ?_
    refine aw_iload_n S 1 rfl dX5_tell_62 rfl ?_
    refine aw_iconst (v := (2 : Int32)) S dX5_tell_63 (by decide) ?_
    refine aw_cVi S 177 [.int p1, .int (2 : Int32)] vw_X5_kt cl_X5 (by decide) (by decide) tw_1075 (s_X5_kt _ _ _ p1 (2 : Int32) I10) ⟨by decide, by decide⟩ rfl rfl (Nat.le_of_ble_eq_true rfl) rfl rfl (by decide) (by decide) dX5_tell_64 (fun x10 I11 => ?_)
    refine aw_cVv S 177 [.int x10] vw_X5_writesNumber cl_X5 (by decide) (by decide) tw_1302 (s_X5_writesNumber_2 _ _ _ x10 I11) ⟨by decide, by decide⟩ rfl rfl (Nat.le_of_ble_eq_true rfl) rfl rfl (by decide) (by decide) dX5_tell_67 (fun x11 I12 => ?_)
    refine aw_aload_n S 0 rfl dX5_tell_70 rfl ?_
    refine aw_bipush (v := (116 : Int32)) S dX5_tell_71 (by decide) ?_
    refine aw_cVv S 177 [.int (116 : Int32)] vw_X5_writes cl_X5 (by decide) (by decide) tw_1306 (s_X5_writes _ _ _ (116 : Int32) I12) ⟨by decide, by decide⟩ rfl rfl (Nat.le_of_ble_eq_true rfl) rfl rfl (by decide) (by decide) dX5_tell_73 (fun x12 I13 => ?_)
    refine aw_aload_n S 0 rfl dX5_tell_76 rfl ?_
    refine aw_aload_n S 0 rfl dX5_tell_77 rfl ?_
    refine aw_iload_n S 1 rfl dX5_tell_78 rfl ?_
    refine aw_iconst (v := (3 : Int32)) S dX5_tell_79 (by decide) ?_
    refine aw_cVi S 177 [.int p1, .int (3 : Int32)] vw_X5_kt cl_X5 (by decide) (by decide) tw_1075 (s_X5_kt _ _ _ p1 (3 : Int32) I13) ⟨by decide, by decide⟩ rfl rfl (Nat.le_of_ble_eq_true rfl) rfl rfl (by decide) (by decide) dX5_tell_80 (fun x13 I14 => ?_)
    refine aw_cVv S 177 [.int x13] vw_X5_writesNumber cl_X5 (by decide) (by decide) tw_1302 (s_X5_writesNumber_2 _ _ _ x13 I14) ⟨by decide, by decide⟩ rfl rfl (Nat.le_of_ble_eq_true rfl) rfl rfl (by decide) (by decide) dX5_tell_83 (fun x14 I15 => ?_)
    refine aw_aload_n S 0 rfl dX5_tell_86 rfl ?_
    refine aw_iload_n S 1 rfl dX5_tell_87 rfl ?_
    refine aw_iconst (v := (4 : Int32)) S dX5_tell_88 (by decide) ?_
    refine aw_cVi S 177 [.int p1, .int (4 : Int32)] vw_X5_kt cl_X5 (by decide) (by decide) tw_1075 (s_X5_kt _ _ _ p1 (4 : Int32) I15) ⟨by decide, by decide⟩ rfl rfl (Nat.le_of_ble_eq_true rfl) rfl rfl (by decide) (by decide) dX5_tell_89 (fun x15 I16 => ?_)
    refine aw_letJ (fun (j101 : kgM → Option (Int32 × kgM)) => ∀ (Ij101 : kgM), AW X 2 0 0 w (j101 Ij101) 101 [(0, .ref (kgO (kgHs X) 177)), (1, .int p1)] [] Ij101) ?_ (fun j101 hj101 => ?_)
    · intro Ij101
      refine aw_aload_n S 0 rfl dX5_tell_101 rfl ?_
      refine aw_iload_n S 1 rfl dX5_tell_102 rfl ?_
      refine aw_bipush (v := (7 : Int32)) S dX5_tell_103 (by decide) ?_
      refine aw_cVi S 177 [.int p1, .int (7 : Int32)] vw_X5_kt cl_X5 (by decide) (by decide) tw_1075 (s_X5_kt _ _ _ p1 (7 : Int32) Ij101) ⟨by decide, by decide⟩ rfl rfl (Nat.le_of_ble_eq_true rfl) rfl rfl (by decide) (by decide) dX5_tell_105 (fun x16 I17 => ?_)
      refine aw_iconst (v := (1 : Int32)) S dX5_tell_108 (by decide) ?_
      refine aw_letJ (fun (j118 : kgM → Option (Int32 × kgM)) => ∀ (Ij118 : kgM), AW X 2 0 0 w (j118 Ij118) 118 [(0, .ref (kgO (kgHs X) 177)), (1, .int p1)] [] Ij118) ?_ (fun j118 hj118 => ?_)
      · intro Ij118
        refine aw_aload_n S 0 rfl dX5_tell_118 rfl ?_
        refine aw_iload_n S 1 rfl dX5_tell_119 rfl ?_
        refine aw_cVi S 177 [.int p1] vw_X5_isOnStove cl_X5 (by decide) (by decide) tw_1098 (s_X5_isOnStove _ _ _ p1 Ij118) ⟨by decide, by decide⟩ rfl rfl (Nat.le_of_ble_eq_true rfl) rfl rfl (by decide) (by decide) dX5_tell_120 (fun x17 I18 => ?_)
        refine aw_letJ (fun (j144 : kgM → Option (Int32 × kgM)) => ∀ (Ij144 : kgM), AW X 2 0 0 w (j144 Ij144) 144 [(0, .ref (kgO (kgHs X) 177)), (1, .int p1)] [] Ij144) ?_ (fun j144 hj144 => ?_)
        · intro Ij144
          refine aw_aload_n S 0 rfl dX5_tell_144 rfl ?_
          refine aw_iload_n S 1 rfl dX5_tell_145 rfl ?_
          refine aw_cVi S 177 [.int p1] vw_X5_whistles cl_X5 (by decide) (by decide) tw_1177 (s_X5_whistles _ _ _ p1 Ij144) ⟨by decide, by decide⟩ rfl rfl (Nat.le_of_ble_eq_true rfl) rfl rfl (by decide) (by decide) dX5_tell_146 (fun x18 I19 => ?_)
          refine aw_letJ (fun (j158 : kgM → Option (Int32 × kgM)) => ∀ (Ij158 : kgM), AW X 2 0 0 w (j158 Ij158) 158 [(0, .ref (kgO (kgHs X) 177)), (1, .int p1)] [] Ij158) ?_ (fun j158 hj158 => ?_)
          · intro Ij158
            refine aw_aload_n S 0 rfl dX5_tell_158 rfl ?_
            refine aw_iload_n S 1 rfl dX5_tell_159 rfl ?_
            refine aw_bipush (v := (6 : Int32)) S dX5_tell_160 (by decide) ?_
            refine aw_cVi S 177 [.int p1, .int (6 : Int32)] vw_X5_kt cl_X5 (by decide) (by decide) tw_1075 (s_X5_kt _ _ _ p1 (6 : Int32) Ij158) ⟨by decide, by decide⟩ rfl rfl (Nat.le_of_ble_eq_true rfl) rfl rfl (by decide) (by decide) dX5_tell_162 (fun x19 I20 => ?_)
            refine aw_if_le (y := 0) (tgt := 185) S dX5_tell_165 (by decide) ?_ ?_
            · refine aw_aload_n S 0 rfl dX5_tell_185 rfl ?_
              refine aw_getI S 177 13 cl_X5 (by decide) (by decide) (by decide) (by decide) rfl tw_976 dX5_tell_186 ?_
              exact aw_ret S hQ (vp_nar_int _) (by decide) (by decide) dX5_tell_189
            refine aw_aload_n S 0 rfl dX5_tell_168 rfl ?_
            refine aw_bipush (v := (120 : Int32)) S dX5_tell_169 (by decide) ?_
            refine aw_cVv S 177 [.int (120 : Int32)] vw_X5_writes cl_X5 (by decide) (by decide) tw_1306 (s_X5_writes _ _ _ (120 : Int32) I20) ⟨by decide, by decide⟩ rfl rfl (Nat.le_of_ble_eq_true rfl) rfl rfl (by decide) (by decide) dX5_tell_171 (fun x20 I21 => ?_)
            refine aw_aload_n S 0 rfl dX5_tell_174 rfl ?_
            refine aw_aload_n S 0 rfl dX5_tell_175 rfl ?_
            refine aw_iload_n S 1 rfl dX5_tell_176 rfl ?_
            refine aw_bipush (v := (6 : Int32)) S dX5_tell_177 (by decide) ?_
            refine aw_cVi S 177 [.int p1, .int (6 : Int32)] vw_X5_kt cl_X5 (by decide) (by decide) tw_1075 (s_X5_kt _ _ _ p1 (6 : Int32) I21) ⟨by decide, by decide⟩ rfl rfl (Nat.le_of_ble_eq_true rfl) rfl rfl (by decide) (by decide) dX5_tell_179 (fun x21 I22 => ?_)
            refine aw_cVv S 177 [.int x21] vw_X5_writesNumber cl_X5 (by decide) (by decide) tw_1302 (s_X5_writesNumber_2 _ _ _ x21 I22) ⟨by decide, by decide⟩ rfl rfl (Nat.le_of_ble_eq_true rfl) rfl rfl (by decide) (by decide) dX5_tell_182 (fun x22 I23 => ?_)
            refine aw_aload_n S 0 rfl dX5_tell_185 rfl ?_
            refine aw_getI S 177 13 cl_X5 (by decide) (by decide) (by decide) (by decide) rfl tw_976 dX5_tell_186 ?_
            exact aw_ret S hQ (vp_nar_int _) (by decide) (by decide) dX5_tell_189
          refine aw_if_eq (y := 0) (tgt := 158) S dX5_tell_149 (by decide) ?_ ?_
          · exact hj158 I19
          refine aw_aload_n S 0 rfl dX5_tell_152 rfl ?_
          refine aw_bipush (v := (33 : Int32)) S dX5_tell_153 (by decide) ?_
          refine aw_cVv S 177 [.int (33 : Int32)] vw_X5_writes cl_X5 (by decide) (by decide) tw_1306 (s_X5_writes _ _ _ (33 : Int32) I19) ⟨by decide, by decide⟩ rfl rfl (Nat.le_of_ble_eq_true rfl) rfl rfl (by decide) (by decide) dX5_tell_155 (fun x23 I24 => ?_)
          exact hj158 I24
        refine aw_if_eq (y := 0) (tgt := 144) S dX5_tell_123 (by decide) ?_ ?_
        · exact hj144 I18
        refine aw_aload_n S 0 rfl dX5_tell_126 rfl ?_
        refine aw_bipush (v := (64 : Int32)) S dX5_tell_127 (by decide) ?_
        refine aw_cVv S 177 [.int (64 : Int32)] vw_X5_writes cl_X5 (by decide) (by decide) tw_1306 (s_X5_writes _ _ _ (64 : Int32) I18) ⟨by decide, by decide⟩ rfl rfl (Nat.le_of_ble_eq_true rfl) rfl rfl (by decide) (by decide) dX5_tell_129 (fun x24 I25 => ?_)
        refine aw_aload_n S 0 rfl dX5_tell_132 rfl ?_
        refine aw_aload_n S 0 rfl dX5_tell_133 rfl ?_
        refine aw_iload_n S 1 rfl dX5_tell_134 rfl ?_
        refine aw_iconst (v := (5 : Int32)) S dX5_tell_135 (by decide) ?_
        refine aw_cVi S 177 [.int p1, .int (5 : Int32)] vw_X5_kt cl_X5 (by decide) (by decide) tw_1075 (s_X5_kt _ _ _ p1 (5 : Int32) I25) ⟨by decide, by decide⟩ rfl rfl (Nat.le_of_ble_eq_true rfl) rfl rfl (by decide) (by decide) dX5_tell_136 (fun x25 I26 => ?_)
        refine aw_iconst (v := (1 : Int32)) S dX5_tell_139 (by decide) ?_
        refine aw_isub S dX5_tell_140 ?_
        refine aw_cVv S 177 [.int (x25 - (1 : Int32))] vw_X5_writesNumber cl_X5 (by decide) (by decide) tw_1302 (s_X5_writesNumber_2 _ _ _ (x25 - (1 : Int32)) I26) ⟨by decide, by decide⟩ rfl rfl (Nat.le_of_ble_eq_true rfl) rfl rfl (by decide) (by decide) dX5_tell_141 (fun x26 I27 => ?_)
        exact hj144 I27
      refine aw_icmp_ne (tgt := 118) S dX5_tell_109 (by decide) ?_ ?_
      · exact hj118 I17
      refine aw_aload_n S 0 rfl dX5_tell_112 rfl ?_
      refine aw_bipush (v := (35 : Int32)) S dX5_tell_113 (by decide) ?_
      refine aw_cVv S 177 [.int (35 : Int32)] vw_X5_writes cl_X5 (by decide) (by decide) tw_1306 (s_X5_writes _ _ _ (35 : Int32) I17) ⟨by decide, by decide⟩ rfl rfl (Nat.le_of_ble_eq_true rfl) rfl rfl (by decide) (by decide) dX5_tell_115 (fun x27 I28 => ?_)
      exact hj118 I28
    refine aw_if_ne (y := 0) (tgt := 101) S dX5_tell_92 (by decide) ?_ ?_
    · exact hj101 I16
    refine aw_aload_n S 0 rfl dX5_tell_95 rfl ?_
    refine aw_bipush (v := (95 : Int32)) S dX5_tell_96 (by decide) ?_
    refine aw_cVv S 177 [.int (95 : Int32)] vw_X5_writes cl_X5 (by decide) (by decide) tw_1306 (s_X5_writes _ _ _ (95 : Int32) I16) ⟨by decide, by decide⟩ rfl rfl (Nat.le_of_ble_eq_true rfl) rfl rfl (by decide) (by decide) dX5_tell_98 (fun x28 I29 => ?_)
    exact hj101 I29
  refine aw_sipush (v := (-1011 : Int32)) S dX5_tell_8 (by decide) ?_
  exact aw_ret S hQ (vp_nar_int _) (by decide) (by decide) dX5_tell_11
set_option maxHeartbeats 4000000 in
set_option maxRecDepth 100000 in
theorem s_X5_tellStoves_L7 {X : kgCX (Int32 × kgM)} {w : Option (Nat × Nat)} (S : Cx X cX5_tellStoves RX5 2 4 84 0 0) (hQ : Qxi X w .int)  {K : kgM → Option (Int32 × kgM)} (hK : ∀  (J : kgM), AW X 2 0 0 w (K J) 64 [(0, .ref (kgO (kgHs X) 177))] [] J) : ∀ (q : Nat) (x1h7 : Int32) (Ih7 : kgM), AW X 2 0 0 w (f_X5_tellStoves_L7 K q x1h7 Ih7) 7 [(0, .ref (kgO (kgHs X) 177)), (1, .int x1h7)] [] Ih7 := by
  intro q
  induction q with
  | zero => intros; exact aw_none
  | succ q ih =>
    intro x1h7 Ih7
    rw [f_X5_tellStoves_L7]
    refine aw_iload_n S 1 rfl dX5_tellStoves_7 rfl ?_
    refine aw_bipush (v := (6 : Int32)) S dX5_tellStoves_8 (by decide) ?_
    refine aw_icmp_ge (tgt := 64) S dX5_tellStoves_10 (by decide) ?_ ?_
    · refine aw_sub (L2 := [(0, .ref (kgO (kgHs X) 177))]) [0] rfl ?_
      exact hK Ih7
    refine aw_aload_n S 0 rfl dX5_tellStoves_13 rfl ?_
    refine aw_aload_n S 0 rfl dX5_tellStoves_14 rfl ?_
    refine aw_getR S 177 0 178 cl_X5 (by decide) (by decide) (by decide) (by decide) (by decide) rfl tw_963 dX5_tellStoves_15 ?_
    refine aw_bipush (v := (29 : Int32)) S dX5_tellStoves_18 (by decide) ?_
    refine aw_iload_n S 1 rfl dX5_tellStoves_20 rfl ?_
    refine aw_iadd S dX5_tellStoves_21 ?_
    refine aw_iald S 178 1375 (by decide) (by decide) dX5_tellStoves_22 ?_
    refine aw_cVv S 177 [.int (Ih7 178 ((29 : Int32) + x1h7).toNatClampNeg)] vw_X5_writesNumber cl_X5 (by decide) (by decide) tw_1302 (s_X5_writesNumber_2 _ _ _ (Ih7 178 ((29 : Int32) + x1h7).toNatClampNeg) Ih7) ⟨by decide, by decide⟩ rfl rfl (Nat.le_of_ble_eq_true rfl) rfl rfl (by decide) (by decide) dX5_tellStoves_23 (fun x1 I2 => ?_)
    refine aw_aload_n S 0 rfl dX5_tellStoves_26 rfl ?_
    refine aw_iload_n S 1 rfl dX5_tellStoves_27 rfl ?_
    refine aw_cVi S 177 [.int x1h7] vw_X5_kettleOn cl_X5 (by decide) (by decide) tw_1090 (s_X5_kettleOn _ _ _ x1h7 I2) ⟨by decide, by decide⟩ rfl rfl (Nat.le_of_ble_eq_true rfl) rfl rfl (by decide) (by decide) dX5_tellStoves_28 (fun x2 I3 => ?_)
    refine aw_if_ge (y := 0) (tgt := 37) S dX5_tellStoves_31 (by decide) ?_ ?_
    · refine aw_aload_n S 0 rfl dX5_tellStoves_37 rfl ?_
      refine aw_bipush (v := (40 : Int32)) S dX5_tellStoves_38 (by decide) ?_
      refine aw_cVv S 177 [.int (40 : Int32)] vw_X5_writes cl_X5 (by decide) (by decide) tw_1306 (s_X5_writes _ _ _ (40 : Int32) I3) ⟨by decide, by decide⟩ rfl rfl (Nat.le_of_ble_eq_true rfl) rfl rfl (by decide) (by decide) dX5_tellStoves_40 (fun x3 I4 => ?_)
      refine aw_aload_n S 0 rfl dX5_tellStoves_43 rfl ?_
      refine aw_aload_n S 0 rfl dX5_tellStoves_44 rfl ?_
      refine aw_iload_n S 1 rfl dX5_tellStoves_45 rfl ?_
      refine aw_cVi S 177 [.int x1h7] vw_X5_kettleOn cl_X5 (by decide) (by decide) tw_1090 (s_X5_kettleOn _ _ _ x1h7 I4) ⟨by decide, by decide⟩ rfl rfl (Nat.le_of_ble_eq_true rfl) rfl rfl (by decide) (by decide) dX5_tellStoves_46 (fun x4 I5 => ?_)
      refine aw_cVv S 177 [.int x4] vw_X5_writesNumber cl_X5 (by decide) (by decide) tw_1302 (s_X5_writesNumber_2 _ _ _ x4 I5) ⟨by decide, by decide⟩ rfl rfl (Nat.le_of_ble_eq_true rfl) rfl rfl (by decide) (by decide) dX5_tellStoves_49 (fun x5 I6 => ?_)
      refine aw_aload_n S 0 rfl dX5_tellStoves_52 rfl ?_
      refine aw_bipush (v := (41 : Int32)) S dX5_tellStoves_53 (by decide) ?_
      refine aw_cVv S 177 [.int (41 : Int32)] vw_X5_writes cl_X5 (by decide) (by decide) tw_1306 (s_X5_writes _ _ _ (41 : Int32) I6) ⟨by decide, by decide⟩ rfl rfl (Nat.le_of_ble_eq_true rfl) rfl rfl (by decide) (by decide) dX5_tellStoves_55 (fun x6 I7 => ?_)
      refine aw_iinc (v := x1h7 + (1 : Int32)) (L2 := [(0, .ref (kgO (kgHs X) 177)), (1, .int (x1h7 + (1 : Int32)))]) S [1, 0] 1 dX5_tellStoves_58 rfl rfl (by decide) rfl ?_
      refine aw_let (Lf := fun x7 => [(0, .ref (kgO (kgHs X) 177)), (1, .int x7)]) (x1h7 + (1 : Int32)) (fun x7 => ?_)
      refine aw_goto (tgt := 7) S dX5_tellStoves_61 (by decide) ?_
      exact ih x7 I7
    refine aw_goto (tgt := 58) S dX5_tellStoves_34 (by decide) ?_
    refine aw_iinc (v := x1h7 + (1 : Int32)) (L2 := [(0, .ref (kgO (kgHs X) 177)), (1, .int (x1h7 + (1 : Int32)))]) S [1, 0] 1 dX5_tellStoves_58 rfl rfl (by decide) rfl ?_
    refine aw_let (Lf := fun x8 => [(0, .ref (kgO (kgHs X) 177)), (1, .int x8)]) (x1h7 + (1 : Int32)) (fun x8 => ?_)
    refine aw_goto (tgt := 7) S dX5_tellStoves_61 (by decide) ?_
    exact ih x8 I3
set_option maxHeartbeats 4000000 in
set_option maxRecDepth 100000 in
theorem s_X5_tellStoves (hs : kgH) (l : Launch) (w : Option (Nat × Nat))  (I0 : kgM) : Sdi hs l w yX5_tellStoves (kg_ws yX5_tellStoves cX5_tellStoves 2 (some .int)) { frames := 4, cells := 0, slots := 0, locals := 84 } [.ref (kgO hs 177)] I0 (f_X5_tellStoves I0) := by
  refine sd_i (av := fun hs => [.ref (kgO hs 177)]) (by decide +kernel) (fun hs => Nat.le_of_ble_eq_true rfl) (fun X S hQ => ?_) hs l
  refine aw_sub (L2 := [(0, .ref (kgO (kgHs X) 177))]) [0] rfl ?_
  unfold f_X5_tellStoves
  refine aw_aload_n S 0 rfl dX5_tellStoves_0 rfl ?_
  refine aw_iconst (v := (0 : Int32)) S dX5_tellStoves_1 (by decide) ?_
  refine aw_putI S 177 13 cl_X5 tyX5_ok nmX5 (by decide) (by decide) (by decide) (by decide) rfl (vp_nar_int _) rfl tw_976 dX5_tellStoves_2 ?_
  refine aw_wr (fun I1 => ?_)
  refine aw_iconst (v := (0 : Int32)) S dX5_tellStoves_5 (by decide) ?_
  refine aw_istore_n (L2 := [(0, .ref (kgO (kgHs X) 177)), (1, .int (0 : Int32))]) S [1, 0] dX5_tellStoves_6 rfl (by decide) rfl ?_
  refine s_X5_tellStoves_L7 S hQ  (fun I8 => ?_) 200 (0 : Int32) I1
  refine aw_aload_n S 0 rfl dX5_tellStoves_64 rfl ?_
  refine aw_getI S 177 13 cl_X5 (by decide) (by decide) (by decide) (by decide) rfl tw_976 dX5_tellStoves_65 ?_
  exact aw_ret S hQ (vp_nar_int _) (by decide) (by decide) dX5_tellStoves_68
set_option maxHeartbeats 4000000 in
set_option maxRecDepth 100000 in
theorem s_X5_character (hs : kgH) (l : Launch) (w : Option (Nat × Nat)) (p1 : Int32) (I0 : kgM) : Sdi hs l w yX5_character (kg_ws yX5_character cX5_character 2 (some .int)) { frames := 1, cells := 0, slots := 0, locals := 22 } [.ref (kgO hs 177), .int p1] I0 (f_X5_character p1 I0) := by
  refine sd_i (av := fun hs => [.ref (kgO hs 177), .int p1]) (by decide +kernel) (fun hs => Nat.le_of_ble_eq_true rfl) (fun X S hQ => ?_) hs l
  refine aw_sub (L2 := [(0, .ref (kgO (kgHs X) 177)), (1, .int p1)]) [0, 1] rfl ?_
  unfold f_X5_character
  refine aw_iload_n S 1 rfl dX5_character_0 rfl ?_
  refine aw_iconst (v := (0 : Int32)) S dX5_character_1 (by decide) ?_
  refine aw_aload_n S 0 rfl dX5_character_2 rfl ?_
  refine aw_getI S 177 13 cl_X5 (by decide) (by decide) (by decide) (by decide) rfl tw_976 dX5_character_3 ?_
  refine aw_iconst (v := (1 : Int32)) S dX5_character_6 (by decide) ?_
  refine aw_isub S dX5_character_7 ?_
  refine aw_cSi S [.int p1, .int (0 : Int32), .int ((I0 177 13) - (1 : Int32))] vw_X5_in tw_1010 (s_X5_in _ _ _ p1 (0 : Int32) ((I0 177 13) - (1 : Int32)) I0) ⟨by decide, by decide⟩ rfl rfl (Nat.le_of_ble_eq_true rfl) rfl rfl (by decide) (by decide) dX5_character_8 (fun x1 I1 => ?_)
  refine aw_if_eq (y := 0) (tgt := 23) S dX5_character_11 (by decide) ?_ ?_
  · refine aw_sipush (v := (-1011 : Int32)) S dX5_character_23 (by decide) ?_
    exact aw_ret S hQ (vp_nar_int _) (by decide) (by decide) dX5_character_26
  refine aw_aload_n S 0 rfl dX5_character_14 rfl ?_
  refine aw_getR S 177 12 183 cl_X5 (by decide) (by decide) (by decide) (by decide) (by decide) rfl tw_975 dX5_character_15 ?_
  refine aw_iload_n S 1 rfl dX5_character_18 rfl ?_
  refine aw_cald S 183 40 (by decide) (by decide) dX5_character_19 ?_
  refine aw_goto (tgt := 26) S dX5_character_20 (by decide) ?_
  exact aw_ret S hQ (vp_nar_int _) (by decide) (by decide) dX5_character_26
set_option maxHeartbeats 4000000 in
set_option maxRecDepth 100000 in
theorem s_X5_ofKettles_L4 {X : kgCX (Int32 × kgM)} {w : Option (Nat × Nat)} (S : Cx X cX5_ofKettles RX5 4 4 85 0 0) (hQ : Qxi X w .int) (a1 : Int32) {K : Int32 → kgM → Option (Int32 × kgM)} (hK : ∀ (z2 : Int32) (J : kgM), AW X 4 0 0 w (K z2 J) 59 [(2, .int z2)] [] J) : ∀ (q : Nat) (x2h4 : Int32) (x3h4 : Int32) (Ih4 : kgM), AW X 4 0 0 w (f_X5_ofKettles_L4 a1 K q x2h4 x3h4 Ih4) 4 [(0, .ref (kgO (kgHs X) 177)), (1, .int a1), (2, .int x2h4), (3, .int x3h4)] [] Ih4 := by
  intro q
  induction q with
  | zero => intros; exact aw_none
  | succ q ih =>
    intro x2h4 x3h4 Ih4
    rw [f_X5_ofKettles_L4]
    refine aw_iload_n S 3 rfl dX5_ofKettles_4 rfl ?_
    refine aw_aload_n S 0 rfl dX5_ofKettles_5 rfl ?_
    refine aw_getR S 177 0 178 cl_X5 (by decide) (by decide) (by decide) (by decide) (by decide) rfl tw_963 dX5_ofKettles_6 ?_
    refine aw_iconst (v := (1 : Int32)) S dX5_ofKettles_9 (by decide) ?_
    refine aw_iald S 178 1375 (by decide) (by decide) dX5_ofKettles_10 ?_
    refine aw_icmp_ge (tgt := 59) S dX5_ofKettles_11 (by decide) ?_ ?_
    · refine aw_sub (L2 := [(2, .int x2h4)]) [2] rfl ?_
      exact hK x2h4 Ih4
    refine aw_iload_n S 2 rfl dX5_ofKettles_14 rfl ?_
    refine aw_iload_n S 1 rfl dX5_ofKettles_15 rfl ?_
    refine aw_if_ne (y := 0) (tgt := 35) S dX5_ofKettles_16 (by decide) ?_ ?_
    · refine aw_aload_n S 0 rfl dX5_ofKettles_35 rfl ?_
      refine aw_iload_n S 3 rfl dX5_ofKettles_36 rfl ?_
      refine aw_iload_n S 1 rfl dX5_ofKettles_37 rfl ?_
      refine aw_iconst (v := (1 : Int32)) S dX5_ofKettles_38 (by decide) ?_
      refine aw_icmp_ne (tgt := 47) S dX5_ofKettles_39 (by decide) ?_ ?_
      · refine aw_iconst (v := (2 : Int32)) S dX5_ofKettles_47 (by decide) ?_
        refine aw_cVi S 177 [.int x3h4, .int (2 : Int32)] vw_X5_kt cl_X5 (by decide) (by decide) tw_1075 (s_X5_kt _ _ _ x3h4 (2 : Int32) Ih4) ⟨by decide, by decide⟩ rfl rfl (Nat.le_of_ble_eq_true rfl) rfl rfl (by decide) (by decide) dX5_ofKettles_48 (fun x1 I1 => ?_)
        refine aw_iadd S dX5_ofKettles_51 ?_
        refine aw_istore_n (L2 := [(0, .ref (kgO (kgHs X) 177)), (1, .int a1), (2, .int (x2h4 + x1)), (3, .int x3h4)]) S [1, 2, 0, 3] dX5_ofKettles_52 rfl (by decide) rfl ?_
        refine aw_let (Lf := fun x2 => [(0, .ref (kgO (kgHs X) 177)), (1, .int a1), (2, .int x2), (3, .int x3h4)]) (x2h4 + x1) (fun x2 => ?_)
        refine aw_iinc (v := x3h4 + (1 : Int32)) (L2 := [(0, .ref (kgO (kgHs X) 177)), (1, .int a1), (2, .int x2), (3, .int (x3h4 + (1 : Int32)))]) S [1, 2, 3, 0] 3 dX5_ofKettles_53 rfl rfl (by decide) rfl ?_
        refine aw_let (Lf := fun x3 => [(0, .ref (kgO (kgHs X) 177)), (1, .int a1), (2, .int x2), (3, .int x3)]) (x3h4 + (1 : Int32)) (fun x3 => ?_)
        refine aw_goto (tgt := 4) S dX5_ofKettles_56 (by decide) ?_
        exact ih x2 x3 I1
      refine aw_bipush (v := (7 : Int32)) S dX5_ofKettles_42 (by decide) ?_
      refine aw_goto (tgt := 48) S dX5_ofKettles_44 (by decide) ?_
      refine aw_cVi S 177 [.int x3h4, .int (7 : Int32)] vw_X5_kt cl_X5 (by decide) (by decide) tw_1075 (s_X5_kt _ _ _ x3h4 (7 : Int32) Ih4) ⟨by decide, by decide⟩ rfl rfl (Nat.le_of_ble_eq_true rfl) rfl rfl (by decide) (by decide) dX5_ofKettles_48 (fun x4 I2 => ?_)
      refine aw_iadd S dX5_ofKettles_51 ?_
      refine aw_istore_n (L2 := [(0, .ref (kgO (kgHs X) 177)), (1, .int a1), (2, .int (x2h4 + x4)), (3, .int x3h4)]) S [1, 2, 0, 3] dX5_ofKettles_52 rfl (by decide) rfl ?_
      refine aw_let (Lf := fun x5 => [(0, .ref (kgO (kgHs X) 177)), (1, .int a1), (2, .int x5), (3, .int x3h4)]) (x2h4 + x4) (fun x5 => ?_)
      refine aw_iinc (v := x3h4 + (1 : Int32)) (L2 := [(0, .ref (kgO (kgHs X) 177)), (1, .int a1), (2, .int x5), (3, .int (x3h4 + (1 : Int32)))]) S [1, 2, 3, 0] 3 dX5_ofKettles_53 rfl rfl (by decide) rfl ?_
      refine aw_let (Lf := fun x6 => [(0, .ref (kgO (kgHs X) 177)), (1, .int a1), (2, .int x5), (3, .int x6)]) (x3h4 + (1 : Int32)) (fun x6 => ?_)
      refine aw_goto (tgt := 4) S dX5_ofKettles_56 (by decide) ?_
      exact ih x5 x6 I2
    refine aw_aload_n S 0 rfl dX5_ofKettles_19 rfl ?_
    refine aw_iload_n S 3 rfl dX5_ofKettles_20 rfl ?_
    refine aw_cVi S 177 [.int x3h4] vw_X5_boils cl_X5 (by decide) (by decide) tw_1161 (s_X5_boils _ _ _ x3h4 Ih4) ⟨by decide, by decide⟩ rfl rfl (Nat.le_of_ble_eq_true rfl) rfl rfl (by decide) (by decide) dX5_ofKettles_21 (fun x7 I3 => ?_)
    refine aw_if_eq (y := 0) (tgt := 31) S dX5_ofKettles_24 (by decide) ?_ ?_
    · refine aw_iconst (v := (0 : Int32)) S dX5_ofKettles_31 (by decide) ?_
      refine aw_goto (tgt := 51) S dX5_ofKettles_32 (by decide) ?_
      refine aw_iadd S dX5_ofKettles_51 ?_
      refine aw_istore_n (L2 := [(0, .ref (kgO (kgHs X) 177)), (1, .int a1), (2, .int (x2h4 + (0 : Int32))), (3, .int x3h4)]) S [1, 2, 0, 3] dX5_ofKettles_52 rfl (by decide) rfl ?_
      refine aw_let (Lf := fun x8 => [(0, .ref (kgO (kgHs X) 177)), (1, .int a1), (2, .int x8), (3, .int x3h4)]) (x2h4 + (0 : Int32)) (fun x8 => ?_)
      refine aw_iinc (v := x3h4 + (1 : Int32)) (L2 := [(0, .ref (kgO (kgHs X) 177)), (1, .int a1), (2, .int x8), (3, .int (x3h4 + (1 : Int32)))]) S [1, 2, 3, 0] 3 dX5_ofKettles_53 rfl rfl (by decide) rfl ?_
      refine aw_let (Lf := fun x9 => [(0, .ref (kgO (kgHs X) 177)), (1, .int a1), (2, .int x8), (3, .int x9)]) (x3h4 + (1 : Int32)) (fun x9 => ?_)
      refine aw_goto (tgt := 4) S dX5_ofKettles_56 (by decide) ?_
      exact ih x8 x9 I3
    refine aw_iconst (v := (1 : Int32)) S dX5_ofKettles_27 (by decide) ?_
    refine aw_goto (tgt := 51) S dX5_ofKettles_28 (by decide) ?_
    refine aw_iadd S dX5_ofKettles_51 ?_
    refine aw_istore_n (L2 := [(0, .ref (kgO (kgHs X) 177)), (1, .int a1), (2, .int (x2h4 + (1 : Int32))), (3, .int x3h4)]) S [1, 2, 0, 3] dX5_ofKettles_52 rfl (by decide) rfl ?_
    refine aw_let (Lf := fun x10 => [(0, .ref (kgO (kgHs X) 177)), (1, .int a1), (2, .int x10), (3, .int x3h4)]) (x2h4 + (1 : Int32)) (fun x10 => ?_)
    refine aw_iinc (v := x3h4 + (1 : Int32)) (L2 := [(0, .ref (kgO (kgHs X) 177)), (1, .int a1), (2, .int x10), (3, .int (x3h4 + (1 : Int32)))]) S [1, 2, 3, 0] 3 dX5_ofKettles_53 rfl rfl (by decide) rfl ?_
    refine aw_let (Lf := fun x11 => [(0, .ref (kgO (kgHs X) 177)), (1, .int a1), (2, .int x10), (3, .int x11)]) (x3h4 + (1 : Int32)) (fun x11 => ?_)
    refine aw_goto (tgt := 4) S dX5_ofKettles_56 (by decide) ?_
    exact ih x10 x11 I3
set_option maxHeartbeats 4000000 in
set_option maxRecDepth 100000 in
theorem s_X5_ofKettles (hs : kgH) (l : Launch) (w : Option (Nat × Nat)) (p1 : Int32) (I0 : kgM) : Sdi hs l w yX5_ofKettles (kg_ws yX5_ofKettles cX5_ofKettles 4 (some .int)) { frames := 4, cells := 0, slots := 0, locals := 85 } [.ref (kgO hs 177), .int p1] I0 (f_X5_ofKettles p1 I0) := by
  refine sd_i (av := fun hs => [.ref (kgO hs 177), .int p1]) (by decide +kernel) (fun hs => Nat.le_of_ble_eq_true rfl) (fun X S hQ => ?_) hs l
  refine aw_sub (L2 := [(0, .ref (kgO (kgHs X) 177)), (1, .int p1)]) [0, 1] rfl ?_
  unfold f_X5_ofKettles
  refine aw_iconst (v := (0 : Int32)) S dX5_ofKettles_0 (by decide) ?_
  refine aw_istore_n (L2 := [(0, .ref (kgO (kgHs X) 177)), (1, .int p1), (2, .int (0 : Int32))]) S [1, 2, 0] dX5_ofKettles_1 rfl (by decide) rfl ?_
  refine aw_iconst (v := (0 : Int32)) S dX5_ofKettles_2 (by decide) ?_
  refine aw_istore_n (L2 := [(0, .ref (kgO (kgHs X) 177)), (1, .int p1), (2, .int (0 : Int32)), (3, .int (0 : Int32))]) S [1, 2, 3, 0] dX5_ofKettles_3 rfl (by decide) rfl ?_
  refine s_X5_ofKettles_L4 S hQ p1 (fun x12 I4 => ?_) 200 (0 : Int32) (0 : Int32) I0
  refine aw_iload_n S 0 rfl dX5_ofKettles_59 rfl ?_
  exact aw_ret S hQ (vp_nar_int _) (by decide) (by decide) dX5_ofKettles_60
set_option maxHeartbeats 4000000 in
set_option maxRecDepth 100000 in
theorem s_X5_allPoints_L4 {X : kgCX (Int32 × kgM)} {w : Option (Nat × Nat)} (S : Cx X cX5_allPoints RX5 3 1 22 0 0) (hQ : Qxi X w .int)  {K : Int32 → kgM → Option (Int32 × kgM)} (hK : ∀ (z1 : Int32) (J : kgM), AW X 3 0 0 w (K z1 J) 24 [(1, .int z1)] [] J) : ∀ (q : Nat) (x1h4 : Int32) (x2h4 : Int32) (Ih4 : kgM), AW X 3 0 0 w (f_X5_allPoints_L4 K q x1h4 x2h4 Ih4) 4 [(0, .ref (kgO (kgHs X) 177)), (1, .int x1h4), (2, .int x2h4)] [] Ih4 := by
  intro q
  induction q with
  | zero => intros; exact aw_none
  | succ q ih =>
    intro x1h4 x2h4 Ih4
    rw [f_X5_allPoints_L4]
    refine aw_iload_n S 2 rfl dX5_allPoints_4 rfl ?_
    refine aw_iconst (v := (4 : Int32)) S dX5_allPoints_5 (by decide) ?_
    refine aw_icmp_ge (tgt := 24) S dX5_allPoints_6 (by decide) ?_ ?_
    · refine aw_sub (L2 := [(1, .int x1h4)]) [1] rfl ?_
      exact hK x1h4 Ih4
    refine aw_iload_n S 1 rfl dX5_allPoints_9 rfl ?_
    refine aw_aload_n S 0 rfl dX5_allPoints_10 rfl ?_
    refine aw_iload_n S 2 rfl dX5_allPoints_11 rfl ?_
    refine aw_iconst (v := (0 : Int32)) S dX5_allPoints_12 (by decide) ?_
    refine aw_cVi S 177 [.int x2h4, .int (0 : Int32)] vw_X5_m cl_X5 (by decide) (by decide) tw_1238 (s_X5_m _ _ _ x2h4 (0 : Int32) Ih4) ⟨by decide, by decide⟩ rfl rfl (Nat.le_of_ble_eq_true rfl) rfl rfl (by decide) (by decide) dX5_allPoints_13 (fun x1 I1 => ?_)
    refine aw_iadd S dX5_allPoints_16 ?_
    refine aw_istore_n (L2 := [(0, .ref (kgO (kgHs X) 177)), (1, .int (x1h4 + x1)), (2, .int x2h4)]) S [1, 0, 2] dX5_allPoints_17 rfl (by decide) rfl ?_
    refine aw_let (Lf := fun x2 => [(0, .ref (kgO (kgHs X) 177)), (1, .int x2), (2, .int x2h4)]) (x1h4 + x1) (fun x2 => ?_)
    refine aw_iinc (v := x2h4 + (1 : Int32)) (L2 := [(0, .ref (kgO (kgHs X) 177)), (1, .int x2), (2, .int (x2h4 + (1 : Int32)))]) S [1, 2, 0] 2 dX5_allPoints_18 rfl rfl (by decide) rfl ?_
    refine aw_let (Lf := fun x3 => [(0, .ref (kgO (kgHs X) 177)), (1, .int x2), (2, .int x3)]) (x2h4 + (1 : Int32)) (fun x3 => ?_)
    refine aw_goto (tgt := 4) S dX5_allPoints_21 (by decide) ?_
    exact ih x2 x3 I1
set_option maxHeartbeats 4000000 in
set_option maxRecDepth 100000 in
theorem s_X5_allPoints (hs : kgH) (l : Launch) (w : Option (Nat × Nat))  (I0 : kgM) : Sdi hs l w yX5_allPoints (kg_ws yX5_allPoints cX5_allPoints 3 (some .int)) { frames := 1, cells := 0, slots := 0, locals := 22 } [.ref (kgO hs 177)] I0 (f_X5_allPoints I0) := by
  refine sd_i (av := fun hs => [.ref (kgO hs 177)]) (by decide +kernel) (fun hs => Nat.le_of_ble_eq_true rfl) (fun X S hQ => ?_) hs l
  refine aw_sub (L2 := [(0, .ref (kgO (kgHs X) 177))]) [0] rfl ?_
  unfold f_X5_allPoints
  refine aw_iconst (v := (0 : Int32)) S dX5_allPoints_0 (by decide) ?_
  refine aw_istore_n (L2 := [(0, .ref (kgO (kgHs X) 177)), (1, .int (0 : Int32))]) S [1, 0] dX5_allPoints_1 rfl (by decide) rfl ?_
  refine aw_iconst (v := (0 : Int32)) S dX5_allPoints_2 (by decide) ?_
  refine aw_istore_n (L2 := [(0, .ref (kgO (kgHs X) 177)), (1, .int (0 : Int32)), (2, .int (0 : Int32))]) S [1, 2, 0] dX5_allPoints_3 rfl (by decide) rfl ?_
  refine s_X5_allPoints_L4 S hQ  (fun x4 I2 => ?_) 200 (0 : Int32) (0 : Int32) I0
  refine aw_iload_n S 0 rfl dX5_allPoints_24 rfl ?_
  exact aw_ret S hQ (vp_nar_int _) (by decide) (by decide) dX5_allPoints_25
set_option maxHeartbeats 4000000 in
set_option maxRecDepth 100000 in
theorem s_X5_account (hs : kgH) (l : Launch) (w : Option (Nat × Nat)) (p1 : Int32) (I0 : kgM) : Sdi hs l w yX5_account (kg_ws yX5_account cX5_account 2 (some .int)) { frames := 5, cells := 0, slots := 0, locals := 108 } [.ref (kgO hs 177), .int p1] I0 (f_X5_account p1 I0) := by
  refine sd_i (av := fun hs => [.ref (kgO hs 177), .int p1]) (by decide +kernel) (fun hs => Nat.le_of_ble_eq_true rfl) (fun X S hQ => ?_) hs l
  refine aw_sub (L2 := [(0, .ref (kgO (kgHs X) 177)), (1, .int p1)]) [0, 1] rfl ?_
  unfold f_X5_account
  refine aw_iload_n S 1 rfl dX5_account_0 rfl ?_
  refine aw_tableAt (tgt := 68) S 0 dX5_account_1 (by decide) (by decide) rfl (by decide) ?_ (fun n_0 => ?_)
  · refine aw_aload_n S 0 rfl dX5_account_68 rfl ?_
    refine aw_getR S 177 0 178 cl_X5 (by decide) (by decide) (by decide) (by decide) (by decide) rfl tw_963 dX5_account_69 ?_
    refine aw_iconst (v := (1 : Int32)) S dX5_account_72 (by decide) ?_
    refine aw_iald S 178 1375 (by decide) (by decide) dX5_account_73 ?_
    exact aw_ret S hQ (vp_nar_int _) (by decide) (by decide) dX5_account_74
  refine aw_tableAt (tgt := 75) S 1 dX5_account_1 (by decide) (by decide) rfl (by decide) ?_ (fun n_1 => ?_)
  · refine aw_aload_n S 0 rfl dX5_account_75 rfl ?_
    refine aw_cVi S 177 [] vw_X5_onStoves cl_X5 (by decide) (by decide) tw_1106 (s_X5_onStoves _ _ _ I0) ⟨by decide, by decide⟩ rfl rfl (Nat.le_of_ble_eq_true rfl) rfl rfl (by decide) (by decide) dX5_account_76 (fun x1 I1 => ?_)
    exact aw_ret S hQ (vp_nar_int _) (by decide) (by decide) dX5_account_79
  refine aw_tableAt (tgt := 80) S 2 dX5_account_1 (by decide) (by decide) rfl (by decide) ?_ (fun n_2 => ?_)
  · refine aw_aload_n S 0 rfl dX5_account_80 rfl ?_
    refine aw_iconst (v := (0 : Int32)) S dX5_account_81 (by decide) ?_
    refine aw_cVi S 177 [.int (0 : Int32)] vw_X5_ofKettles cl_X5 (by decide) (by decide) tw_1322 (s_X5_ofKettles _ _ _ (0 : Int32) I0) ⟨by decide, by decide⟩ rfl rfl (Nat.le_of_ble_eq_true rfl) rfl rfl (by decide) (by decide) dX5_account_82 (fun x2 I2 => ?_)
    exact aw_ret S hQ (vp_nar_int _) (by decide) (by decide) dX5_account_85
  refine aw_tableAt (tgt := 86) S 3 dX5_account_1 (by decide) (by decide) rfl (by decide) ?_ (fun n_3 => ?_)
  · refine aw_aload_n S 0 rfl dX5_account_86 rfl ?_
    refine aw_cVi S 177 [] vw_X5_lidsOn cl_X5 (by decide) (by decide) tw_1134 (s_X5_lidsOn _ _ _ I0) ⟨by decide, by decide⟩ rfl rfl (Nat.le_of_ble_eq_true rfl) rfl rfl (by decide) (by decide) dX5_account_87 (fun x3 I3 => ?_)
    exact aw_ret S hQ (vp_nar_int _) (by decide) (by decide) dX5_account_90
  refine aw_tableAt (tgt := 91) S 4 dX5_account_1 (by decide) (by decide) rfl (by decide) ?_ (fun n_4 => ?_)
  · refine aw_aload_n S 0 rfl dX5_account_91 rfl ?_
    refine aw_iconst (v := (1 : Int32)) S dX5_account_92 (by decide) ?_
    refine aw_cVi S 177 [.int (1 : Int32)] vw_X5_ofKettles cl_X5 (by decide) (by decide) tw_1322 (s_X5_ofKettles _ _ _ (1 : Int32) I0) ⟨by decide, by decide⟩ rfl rfl (Nat.le_of_ble_eq_true rfl) rfl rfl (by decide) (by decide) dX5_account_93 (fun x4 I4 => ?_)
    exact aw_ret S hQ (vp_nar_int _) (by decide) (by decide) dX5_account_96
  refine aw_tableAt (tgt := 97) S 5 dX5_account_1 (by decide) (by decide) rfl (by decide) ?_ (fun n_5 => ?_)
  · refine aw_aload_n S 0 rfl dX5_account_97 rfl ?_
    refine aw_getR S 177 0 178 cl_X5 (by decide) (by decide) (by decide) (by decide) (by decide) rfl tw_963 dX5_account_98 ?_
    refine aw_iconst (v := (0 : Int32)) S dX5_account_101 (by decide) ?_
    refine aw_iald S 178 1375 (by decide) (by decide) dX5_account_102 ?_
    exact aw_ret S hQ (vp_nar_int _) (by decide) (by decide) dX5_account_103
  refine aw_tableAt (tgt := 104) S 6 dX5_account_1 (by decide) (by decide) rfl (by decide) ?_ (fun n_6 => ?_)
  · refine aw_aload_n S 0 rfl dX5_account_104 rfl ?_
    refine aw_iconst (v := (2 : Int32)) S dX5_account_105 (by decide) ?_
    refine aw_cVi S 177 [.int (2 : Int32)] vw_X5_ofKettles cl_X5 (by decide) (by decide) tw_1322 (s_X5_ofKettles _ _ _ (2 : Int32) I0) ⟨by decide, by decide⟩ rfl rfl (Nat.le_of_ble_eq_true rfl) rfl rfl (by decide) (by decide) dX5_account_106 (fun x5 I5 => ?_)
    exact aw_ret S hQ (vp_nar_int _) (by decide) (by decide) dX5_account_109
  refine aw_tableAt (tgt := 110) S 7 dX5_account_1 (by decide) (by decide) rfl (by decide) ?_ (fun n_7 => ?_)
  · refine aw_aload_n S 0 rfl dX5_account_110 rfl ?_
    refine aw_getR S 177 0 178 cl_X5 (by decide) (by decide) (by decide) (by decide) (by decide) rfl tw_963 dX5_account_111 ?_
    refine aw_iload_n S 1 rfl dX5_account_114 rfl ?_
    refine aw_iconst (v := (5 : Int32)) S dX5_account_115 (by decide) ?_
    refine aw_isub S dX5_account_116 ?_
    refine aw_iald S 178 1375 (by decide) (by decide) dX5_account_117 ?_
    exact aw_ret S hQ (vp_nar_int _) (by decide) (by decide) dX5_account_118
  refine aw_tableAt (tgt := 110) S 8 dX5_account_1 (by decide) (by decide) rfl (by decide) ?_ (fun n_8 => ?_)
  · refine aw_aload_n S 0 rfl dX5_account_110 rfl ?_
    refine aw_getR S 177 0 178 cl_X5 (by decide) (by decide) (by decide) (by decide) (by decide) rfl tw_963 dX5_account_111 ?_
    refine aw_iload_n S 1 rfl dX5_account_114 rfl ?_
    refine aw_iconst (v := (5 : Int32)) S dX5_account_115 (by decide) ?_
    refine aw_isub S dX5_account_116 ?_
    refine aw_iald S 178 1375 (by decide) (by decide) dX5_account_117 ?_
    exact aw_ret S hQ (vp_nar_int _) (by decide) (by decide) dX5_account_118
  refine aw_tableAt (tgt := 110) S 9 dX5_account_1 (by decide) (by decide) rfl (by decide) ?_ (fun n_9 => ?_)
  · refine aw_aload_n S 0 rfl dX5_account_110 rfl ?_
    refine aw_getR S 177 0 178 cl_X5 (by decide) (by decide) (by decide) (by decide) (by decide) rfl tw_963 dX5_account_111 ?_
    refine aw_iload_n S 1 rfl dX5_account_114 rfl ?_
    refine aw_iconst (v := (5 : Int32)) S dX5_account_115 (by decide) ?_
    refine aw_isub S dX5_account_116 ?_
    refine aw_iald S 178 1375 (by decide) (by decide) dX5_account_117 ?_
    exact aw_ret S hQ (vp_nar_int _) (by decide) (by decide) dX5_account_118
  refine aw_tableAt (tgt := 119) S 10 dX5_account_1 (by decide) (by decide) rfl (by decide) ?_ (fun n_10 => ?_)
  · refine aw_aload_n S 0 rfl dX5_account_119 rfl ?_
    refine aw_cVi S 177 [] vw_X5_allPoints cl_X5 (by decide) (by decide) tw_1326 (s_X5_allPoints _ _ _ I0) ⟨by decide, by decide⟩ rfl rfl (Nat.le_of_ble_eq_true rfl) rfl rfl (by decide) (by decide) dX5_account_120 (fun x6 I6 => ?_)
    exact aw_ret S hQ (vp_nar_int _) (by decide) (by decide) dX5_account_123
  refine aw_tableAt (tgt := 124) S 11 dX5_account_1 (by decide) (by decide) rfl (by decide) ?_ (fun n_11 => ?_)
  · refine aw_aload_n S 0 rfl dX5_account_124 rfl ?_
    refine aw_getI S 177 7 cl_X5 (by decide) (by decide) (by decide) (by decide) rfl tw_970 dX5_account_125 ?_
    exact aw_ret S hQ (vp_nar_int _) (by decide) (by decide) dX5_account_128
  refine aw_tableAt (tgt := 129) S 12 dX5_account_1 (by decide) (by decide) rfl (by decide) ?_ (fun n_12 => ?_)
  · refine aw_aload_n S 0 rfl dX5_account_129 rfl ?_
    refine aw_getI S 177 1 cl_X5 (by decide) (by decide) (by decide) (by decide) rfl tw_964 dX5_account_130 ?_
    exact aw_ret S hQ (vp_nar_int _) (by decide) (by decide) dX5_account_133
  refine aw_tableD (tgt := 134) S [0, 1, 2, 3, 4, 5, 6, 7, 8, 9, 10, 11, 12] dX5_account_1 (by decide) (by decide) (by intro v hv; simp only [List.mem_cons, List.not_mem_nil, or_false] at hv; rcases hv with rfl | rfl | rfl | rfl | rfl | rfl | rfl | rfl | rfl | rfl | rfl | rfl | rfl <;> assumption) (by decide) ?_
  refine aw_sipush (v := (-1012 : Int32)) S dX5_account_134 (by decide) ?_
  exact aw_ret S hQ (vp_nar_int _) (by decide) (by decide) dX5_account_137
set_option maxHeartbeats 4000000 in
set_option maxRecDepth 100000 in
theorem s_X5_isBalanced (hs : kgH) (l : Launch) (w : Option (Nat × Nat))  (I0 : kgM) : Sdi hs l w yX5_isBalanced (kg_ws yX5_isBalanced cX5_isBalanced 1 (some .int)) { frames := 0, cells := 0, slots := 0, locals := 0 } [.ref (kgO hs 177)] I0 (f_X5_isBalanced I0) := by
  refine sd_i (av := fun hs => [.ref (kgO hs 177)]) (by decide +kernel) (fun hs => Nat.le_of_ble_eq_true rfl) (fun X S hQ => ?_) hs l
  refine aw_sub (L2 := []) [] rfl ?_
  unfold f_X5_isBalanced
  refine aw_iconst (v := (1 : Int32)) S dX5_isBalanced_0 (by decide) ?_
  exact aw_ret S hQ (vp_nar_int _) (by decide) (by decide) dX5_isBalanced_1
set_option maxHeartbeats 4000000 in
set_option maxRecDepth 100000 in
theorem s_X5_meanWater (hs : kgH) (l : Launch) (w : Option (Nat × Nat))  (I0 : kgM) : Sdd hs l w yX5_meanWater (kg_ws yX5_meanWater cX5_meanWater 1 (some .double)) { frames := 5, cells := 0, slots := 0, locals := 108 } [.ref (kgO hs 177)] I0 (f_X5_meanWater I0) := by
  refine sd_d (av := fun hs => [.ref (kgO hs 177)]) (by decide +kernel) (fun hs => Nat.le_of_ble_eq_true rfl) (fun X S hQ => ?_) hs l
  refine aw_sub (L2 := [(0, .ref (kgO (kgHs X) 177))]) [0] rfl ?_
  unfold f_X5_meanWater
  refine aw_aload_n S 0 rfl dX5_meanWater_0 rfl ?_
  refine aw_getR S 177 0 178 cl_X5 (by decide) (by decide) (by decide) (by decide) (by decide) rfl tw_963 dX5_meanWater_1 ?_
  refine aw_iconst (v := (1 : Int32)) S dX5_meanWater_4 (by decide) ?_
  refine aw_iald S 178 1375 (by decide) (by decide) dX5_meanWater_5 ?_
  refine aw_if_ne (y := 0) (tgt := 13) S dX5_meanWater_6 (by decide) ?_ ?_
  · refine aw_aload_n S 0 rfl dX5_meanWater_13 rfl ?_
    refine aw_iconst (v := (2 : Int32)) S dX5_meanWater_14 (by decide) ?_
    refine aw_cVi S 177 [.int (2 : Int32)] vw_X5_ofKettles cl_X5 (by decide) (by decide) tw_1322 (s_X5_ofKettles _ _ _ (2 : Int32) I0) ⟨by decide, by decide⟩ rfl rfl (Nat.le_of_ble_eq_true rfl) rfl rfl (by decide) (by decide) dX5_meanWater_15 (fun x1 I1 => ?_)
    refine aw_i2d S dX5_meanWater_18 ?_
    refine aw_aload_n S 0 rfl dX5_meanWater_19 rfl ?_
    refine aw_getR S 177 0 178 cl_X5 (by decide) (by decide) (by decide) (by decide) (by decide) rfl tw_963 dX5_meanWater_20 ?_
    refine aw_iconst (v := (1 : Int32)) S dX5_meanWater_23 (by decide) ?_
    refine aw_iald S 178 1375 (by decide) (by decide) dX5_meanWater_24 ?_
    refine aw_i2d S dX5_meanWater_25 ?_
    refine aw_ddiv S dX5_meanWater_26 ?_
    exact aw_retd S hQ (by decide) (by decide) dX5_meanWater_27
  refine aw_dconst S dX5_meanWater_9 ?_
  refine aw_goto (tgt := 27) S dX5_meanWater_10 (by decide) ?_
  exact aw_retd S hQ (by decide) (by decide) dX5_meanWater_27
set_option maxHeartbeats 4000000 in
set_option maxRecDepth 100000 in
theorem s_X5_whistleShare (hs : kgH) (l : Launch) (w : Option (Nat × Nat))  (I0 : kgM) : Sdf hs l w yX5_whistleShare (kg_ws yX5_whistleShare cX5_whistleShare 1 (some .float)) { frames := 6, cells := 0, slots := 0, locals := 128 } [.ref (kgO hs 177)] I0 (f_X5_whistleShare I0) := by
  refine sd_f (av := fun hs => [.ref (kgO hs 177)]) (by decide +kernel) (fun hs => Nat.le_of_ble_eq_true rfl) (fun X S hQ => ?_) hs l
  refine aw_sub (L2 := [(0, .ref (kgO (kgHs X) 177))]) [0] rfl ?_
  unfold f_X5_whistleShare
  refine aw_aload_n S 0 rfl dX5_whistleShare_0 rfl ?_
  refine aw_cVi S 177 [] vw_X5_onStoves cl_X5 (by decide) (by decide) tw_1106 (s_X5_onStoves _ _ _ I0) ⟨by decide, by decide⟩ rfl rfl (Nat.le_of_ble_eq_true rfl) rfl rfl (by decide) (by decide) dX5_whistleShare_1 (fun x1 I1 => ?_)
  refine aw_if_ne (y := 0) (tgt := 11) S dX5_whistleShare_4 (by decide) ?_ ?_
  · refine aw_aload_n S 0 rfl dX5_whistleShare_11 rfl ?_
    refine aw_cVi S 177 [] vw_X5_whistling cl_X5 (by decide) (by decide) tw_1342 (s_X5_whistling _ _ _ I1) ⟨by decide, by decide⟩ rfl rfl (Nat.le_of_ble_eq_true rfl) rfl rfl (by decide) (by decide) dX5_whistleShare_12 (fun x2 I2 => ?_)
    refine aw_cSi S [.int x2] vw_X5_bits tw_1146 (s_X5_bits _ _ _ x2 I2) ⟨by decide, by decide⟩ rfl rfl (Nat.le_of_ble_eq_true rfl) rfl rfl (by decide) (by decide) dX5_whistleShare_15 (fun x3 I3 => ?_)
    refine aw_i2f S dX5_whistleShare_18 ?_
    refine aw_aload_n S 0 rfl dX5_whistleShare_19 rfl ?_
    refine aw_cVi S 177 [] vw_X5_onStoves cl_X5 (by decide) (by decide) tw_1106 (s_X5_onStoves _ _ _ I3) ⟨by decide, by decide⟩ rfl rfl (Nat.le_of_ble_eq_true rfl) rfl rfl (by decide) (by decide) dX5_whistleShare_20 (fun x4 I4 => ?_)
    refine aw_i2f S dX5_whistleShare_23 ?_
    refine aw_fdiv S dX5_whistleShare_24 ?_
    exact aw_retf S hQ (by decide) (by decide) dX5_whistleShare_25
  refine aw_fconst S dX5_whistleShare_7 ?_
  refine aw_goto (tgt := 25) S dX5_whistleShare_8 (by decide) ?_
  exact aw_retf S hQ (by decide) (by decide) dX5_whistleShare_25
set_option maxHeartbeats 4000000 in
set_option maxRecDepth 100000 in
theorem s_X5_undo (hs : kgH) (l : Launch) (w : Option (Nat × Nat))  (I0 : kgM) : Sdi hs l w yX5_undo (kg_ws yX5_undo cX5_undo 1 (some .int)) { frames := 1, cells := 0, slots := 0, locals := 23 } [.ref (kgO hs 177)] I0 (f_X5_undo I0) := by
  refine sd_i (av := fun hs => [.ref (kgO hs 177)]) (by decide +kernel) (fun hs => Nat.le_of_ble_eq_true rfl) (fun X S hQ => ?_) hs l
  refine aw_sub (L2 := [(0, .ref (kgO (kgHs X) 177))]) [0] rfl ?_
  unfold f_X5_undo
  refine aw_aload_n S 0 rfl dX5_undo_0 rfl ?_
  refine aw_getI S 177 1 cl_X5 (by decide) (by decide) (by decide) (by decide) rfl tw_964 dX5_undo_1 ?_
  refine aw_if_ne (y := 0) (tgt := 11) S dX5_undo_4 (by decide) ?_ ?_
  · refine aw_aload_n S 0 rfl dX5_undo_11 rfl ?_
    refine aw_aload_n S 0 rfl dX5_undo_12 rfl ?_
    refine aw_getI S 177 1 cl_X5 (by decide) (by decide) (by decide) (by decide) rfl tw_964 dX5_undo_13 ?_
    refine aw_iconst (v := (0 : Int32)) S dX5_undo_16 (by decide) ?_
    refine aw_cVv S 177 [.int (I0 177 1), .int (0 : Int32)] vw_X5_copies cl_X5 (by decide) (by decide) tw_1021 (s_X5_copies _ _ _ (I0 177 1) (0 : Int32) I0) ⟨by decide, by decide⟩ rfl rfl (Nat.le_of_ble_eq_true rfl) rfl rfl (by decide) (by decide) dX5_undo_17 (fun x1 I1 => ?_)
    refine aw_aload_n S 0 rfl dX5_undo_20 rfl ?_
    refine aw_dup S dX5_undo_21 rfl ?_
    refine aw_getI S 177 1 cl_X5 (by decide) (by decide) (by decide) (by decide) rfl tw_964 dX5_undo_22 ?_
    refine aw_iconst (v := (1 : Int32)) S dX5_undo_25 (by decide) ?_
    refine aw_isub S dX5_undo_26 ?_
    refine aw_putI S 177 1 cl_X5 tyX5_ok nmX5 (by decide) (by decide) (by decide) (by decide) rfl (vp_nar_int _) rfl tw_964 dX5_undo_27 ?_
    refine aw_wr (fun I2 => ?_)
    refine aw_aload_n S 0 rfl dX5_undo_30 rfl ?_
    refine aw_getI S 177 1 cl_X5 (by decide) (by decide) (by decide) (by decide) rfl tw_964 dX5_undo_31 ?_
    exact aw_ret S hQ (vp_nar_int _) (by decide) (by decide) dX5_undo_34
  refine aw_sipush (v := (-1015 : Int32)) S dX5_undo_7 (by decide) ?_
  exact aw_ret S hQ (vp_nar_int _) (by decide) (by decide) dX5_undo_10
set_option maxHeartbeats 4000000 in
set_option maxRecDepth 100000 in
theorem s_X5_save (hs : kgH) (l : Launch) (w : Option (Nat × Nat))  (I0 : kgM) : Sdi hs l w yX5_save (kg_ws yX5_save cX5_save 1 (some .int)) { frames := 1, cells := 0, slots := 0, locals := 23 } [.ref (kgO hs 177)] I0 (f_X5_save I0) := by
  refine sd_i (av := fun hs => [.ref (kgO hs 177)]) (by decide +kernel) (fun hs => Nat.le_of_ble_eq_true rfl) (fun X S hQ => ?_) hs l
  refine aw_sub (L2 := [(0, .ref (kgO (kgHs X) 177))]) [0] rfl ?_
  unfold f_X5_save
  refine aw_aload_n S 0 rfl dX5_save_0 rfl ?_
  refine aw_iconst (v := (1 : Int32)) S dX5_save_1 (by decide) ?_
  refine aw_putI S 177 2 cl_X5 tyX5_ok nmX5 (by decide) (by decide) (by decide) (by decide) rfl rfl rfl tw_965 dX5_save_2 ?_
  refine aw_wr (fun I1 => ?_)
  refine aw_aload_n S 0 rfl dX5_save_5 rfl ?_
  refine aw_iconst (v := (0 : Int32)) S dX5_save_6 (by decide) ?_
  refine aw_bipush (v := (9 : Int32)) S dX5_save_7 (by decide) ?_
  refine aw_cVv S 177 [.int (0 : Int32), .int (9 : Int32)] vw_X5_copies cl_X5 (by decide) (by decide) tw_1021 (s_X5_copies _ _ _ (0 : Int32) (9 : Int32) I1) ⟨by decide, by decide⟩ rfl rfl (Nat.le_of_ble_eq_true rfl) rfl rfl (by decide) (by decide) dX5_save_9 (fun x1 I2 => ?_)
  refine aw_aload_n S 0 rfl dX5_save_12 rfl ?_
  refine aw_getR S 177 0 178 cl_X5 (by decide) (by decide) (by decide) (by decide) (by decide) rfl tw_963 dX5_save_13 ?_
  refine aw_iconst (v := (1 : Int32)) S dX5_save_16 (by decide) ?_
  refine aw_iald S 178 1375 (by decide) (by decide) dX5_save_17 ?_
  exact aw_ret S hQ (vp_nar_int _) (by decide) (by decide) dX5_save_18
set_option maxHeartbeats 4000000 in
set_option maxRecDepth 100000 in
theorem s_X5_restore (hs : kgH) (l : Launch) (w : Option (Nat × Nat))  (I0 : kgM) : Sdi hs l w yX5_restore (kg_ws yX5_restore cX5_restore 1 (some .int)) { frames := 1, cells := 0, slots := 0, locals := 23 } [.ref (kgO hs 177)] I0 (f_X5_restore I0) := by
  refine sd_i (av := fun hs => [.ref (kgO hs 177)]) (by decide +kernel) (fun hs => Nat.le_of_ble_eq_true rfl) (fun X S hQ => ?_) hs l
  refine aw_sub (L2 := [(0, .ref (kgO (kgHs X) 177))]) [0] rfl ?_
  unfold f_X5_restore
  refine aw_aload_n S 0 rfl dX5_restore_0 rfl ?_
  refine aw_getI S 177 2 cl_X5 (by decide) (by decide) (by decide) (by decide) rfl tw_965 dX5_restore_1 ?_
  refine aw_if_ne (y := 0) (tgt := 11) S dX5_restore_4 (by decide) ?_ ?_
  · refine aw_aload_n S 0 rfl dX5_restore_11 rfl ?_
    refine aw_bipush (v := (9 : Int32)) S dX5_restore_12 (by decide) ?_
    refine aw_iconst (v := (0 : Int32)) S dX5_restore_14 (by decide) ?_
    refine aw_cVv S 177 [.int (9 : Int32), .int (0 : Int32)] vw_X5_copies cl_X5 (by decide) (by decide) tw_1021 (s_X5_copies _ _ _ (9 : Int32) (0 : Int32) I0) ⟨by decide, by decide⟩ rfl rfl (Nat.le_of_ble_eq_true rfl) rfl rfl (by decide) (by decide) dX5_restore_15 (fun x1 I1 => ?_)
    refine aw_aload_n S 0 rfl dX5_restore_18 rfl ?_
    refine aw_iconst (v := (0 : Int32)) S dX5_restore_19 (by decide) ?_
    refine aw_putI S 177 1 cl_X5 tyX5_ok nmX5 (by decide) (by decide) (by decide) (by decide) rfl (vp_nar_int _) rfl tw_964 dX5_restore_20 ?_
    refine aw_wr (fun I2 => ?_)
    refine aw_aload_n S 0 rfl dX5_restore_23 rfl ?_
    refine aw_getR S 177 0 178 cl_X5 (by decide) (by decide) (by decide) (by decide) (by decide) rfl tw_963 dX5_restore_24 ?_
    refine aw_iconst (v := (1 : Int32)) S dX5_restore_27 (by decide) ?_
    refine aw_iald S 178 1375 (by decide) (by decide) dX5_restore_28 ?_
    exact aw_ret S hQ (vp_nar_int _) (by decide) (by decide) dX5_restore_29
  refine aw_sipush (v := (-1015 : Int32)) S dX5_restore_7 (by decide) ?_
  exact aw_ret S hQ (vp_nar_int _) (by decide) (by decide) dX5_restore_10
