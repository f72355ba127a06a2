set_option maxHeartbeats 4000000 in
set_option maxRecDepth 100000 in
theorem s_X4_makeAppeal (hs : kgH) (l : Launch) (w : Option (Nat × Nat)) (p1 : Int32) (p2 : Int32) (I0 : kgM) : Sdi hs l w yX4_makeAppeal (kg_ws yX4_makeAppeal cX4_makeAppeal 3 (some .int)) { frames := 3, cells := 0, slots := 0, locals := 66 } [.ref (kgO hs 0), .int p1, .int p2] I0 (f_X4_makeAppeal p1 p2 I0) := by
  refine sd_i (av := fun hs => [.ref (kgO hs 0), .int p1, .int p2]) (by decide +kernel) (fun hs => Nat.le_of_ble_eq_true rfl) (fun X S hQ => ?_) hs l
  refine aw_sub (L2 := [(0, .ref (kgO (kgHs X) 0)), (1, .int p1), (2, .int p2)]) [0, 1, 2] rfl ?_
  unfold f_X4_makeAppeal
  refine aw_iload_n S 1 rfl dX4_makeAppeal_0 rfl ?_
  refine aw_cSi S [.int p1] vw_X4_isMember tw_358 (s_X4_isMember _ _ _ p1 I0) ⟨by decide, by decide⟩ rfl rfl (Nat.le_of_ble_eq_true rfl) rfl rfl (by decide) (by decide) dX4_makeAppeal_1 (fun x1 I1 => ?_)
  refine aw_if_eq (y := 0) (tgt := 15) S dX4_makeAppeal_4 (by decide) ?_ ?_
  · refine aw_sipush (v := (-1011 : Int32)) S dX4_makeAppeal_15 (by decide) ?_
    exact aw_ret S hQ (vp_nar_int _) (by decide) (by decide) dX4_makeAppeal_18
  refine aw_aload_n S 0 rfl dX4_makeAppeal_7 rfl ?_
  refine aw_iload_n S 2 rfl dX4_makeAppeal_8 rfl ?_
  refine aw_cVi S 0 [.int p2] vw_X4_isKettle cl_X4 (by decide) (by decide) tw_260 (s_X4_isKettle _ _ _ p2 I1) ⟨by decide, by decide⟩ rfl rfl (Nat.le_of_ble_eq_true rfl) rfl rfl (by decide) (by decide) dX4_makeAppeal_9 (fun x2 I2 => ?_)
  refine aw_if_ne (y := 0) (tgt := 19) S dX4_makeAppeal_12 (by decide) ?_ ?_
  · refine aw_aload_n S 0 rfl dX4_makeAppeal_19 rfl ?_
    refine aw_getR S 0 0 1 cl_X4 (by decide) (by decide) (by decide) (by decide) (by decide) rfl tw_225 dX4_makeAppeal_20 ?_
    refine aw_getR S 1 5 7 cl_X3 (by decide) (by decide) (by decide) (by decide) (by decide) rfl tw_68 dX4_makeAppeal_23 ?_
    refine aw_iload_n S 2 rfl dX4_makeAppeal_26 rfl ?_
    refine aw_iald S 7 10 (by decide) (by decide) dX4_makeAppeal_27 ?_
    refine aw_iload_n S 1 rfl dX4_makeAppeal_28 rfl ?_
    refine aw_icmp_ne (tgt := 40) S dX4_makeAppeal_29 (by decide) ?_ ?_
    · refine aw_aload_n S 0 rfl dX4_makeAppeal_40 rfl ?_
      refine aw_getR S 0 0 1 cl_X4 (by decide) (by decide) (by decide) (by decide) (by decide) rfl tw_225 dX4_makeAppeal_41 ?_
      refine aw_getR S 1 11 13 cl_X3 (by decide) (by decide) (by decide) (by decide) (by decide) rfl tw_80 dX4_makeAppeal_44 ?_
      refine aw_iload_n S 2 rfl dX4_makeAppeal_47 rfl ?_
      refine aw_iald S 13 10 (by decide) (by decide) dX4_makeAppeal_48 ?_
      refine aw_if_ne (y := 0) (tgt := 66) S dX4_makeAppeal_49 (by decide) ?_ ?_
      · refine aw_aload_n S 0 rfl dX4_makeAppeal_66 rfl ?_
        refine aw_getR S 0 0 1 cl_X4 (by decide) (by decide) (by decide) (by decide) (by decide) rfl tw_225 dX4_makeAppeal_67 ?_
        refine aw_getR S 1 13 15 cl_X3 (by decide) (by decide) (by decide) (by decide) (by decide) rfl tw_84 dX4_makeAppeal_70 ?_
        refine aw_iload_n S 2 rfl dX4_makeAppeal_73 rfl ?_
        refine aw_iald S 15 10 (by decide) (by decide) dX4_makeAppeal_74 ?_
        refine aw_iload_n S 1 rfl dX4_makeAppeal_75 rfl ?_
        refine aw_cSi S [.int (I2 15 p2.toNatClampNeg), .int p1] vw_X4_isIn tw_310 (s_X4_isIn _ _ _ (I2 15 p2.toNatClampNeg) p1 I2) ⟨by decide, by decide⟩ rfl rfl (Nat.le_of_ble_eq_true rfl) rfl rfl (by decide) (by decide) dX4_makeAppeal_76 (fun x3 I3 => ?_)
        refine aw_if_eq (y := 0) (tgt := 101) S dX4_makeAppeal_79 (by decide) ?_ ?_
        · refine aw_aload_n S 0 rfl dX4_makeAppeal_101 rfl ?_
          refine aw_getR S 0 0 1 cl_X4 (by decide) (by decide) (by decide) (by decide) (by decide) rfl tw_225 dX4_makeAppeal_102 ?_
          refine aw_getR S 1 3 5 cl_X3 (by decide) (by decide) (by decide) (by decide) (by decide) rfl tw_64 dX4_makeAppeal_105 ?_
          refine aw_iload_n S 1 rfl dX4_makeAppeal_108 rfl ?_
          refine aw_dup2 S dX4_makeAppeal_109 rfl rfl ?_
          refine aw_iald S 5 4 (by decide) (by decide) dX4_makeAppeal_110 ?_
          refine aw_iconst (v := (1 : Int32)) S dX4_makeAppeal_111 (by decide) ?_
          refine aw_iadd S dX4_makeAppeal_112 ?_
          refine aw_iast S 5 4 (by decide) (by decide) dX4_makeAppeal_113 ?_
          refine aw_wr (fun I4 => ?_)
          refine aw_aload_n S 0 rfl dX4_makeAppeal_114 rfl ?_
          refine aw_getR S 0 0 1 cl_X4 (by decide) (by decide) (by decide) (by decide) (by decide) rfl tw_225 dX4_makeAppeal_115 ?_
          refine aw_getR S 1 13 15 cl_X3 (by decide) (by decide) (by decide) (by decide) (by decide) rfl tw_84 dX4_makeAppeal_118 ?_
          refine aw_iload_n S 2 rfl dX4_makeAppeal_121 rfl ?_
          refine aw_dup2 S dX4_makeAppeal_122 rfl rfl ?_
          refine aw_iald S 15 10 (by decide) (by decide) dX4_makeAppeal_123 ?_
          refine aw_iconst (v := (1 : Int32)) S dX4_makeAppeal_124 (by decide) ?_
          refine aw_iload_n S 1 rfl dX4_makeAppeal_125 rfl ?_
          refine aw_ishl S dX4_makeAppeal_126 ?_
          refine aw_ior S dX4_makeAppeal_127 ?_
          refine aw_iast S 15 10 (by decide) (by decide) dX4_makeAppeal_128 ?_
          refine aw_wr (fun I5 => ?_)
          refine aw_aload_n S 0 rfl dX4_makeAppeal_129 rfl ?_
          refine aw_getR S 0 0 1 cl_X4 (by decide) (by decide) (by decide) (by decide) (by decide) rfl tw_225 dX4_makeAppeal_130 ?_
          refine aw_getR S 1 13 15 cl_X3 (by decide) (by decide) (by decide) (by decide) (by decide) rfl tw_84 dX4_makeAppeal_133 ?_
          refine aw_iload_n S 2 rfl dX4_makeAppeal_136 rfl ?_
          refine aw_iald S 15 10 (by decide) (by decide) dX4_makeAppeal_137 ?_
          refine aw_cSi S [.int (I5 15 p2.toNatClampNeg)] vw_J6_bitCount_0f7a4 tw_284 (s_J6_bitCount_0f7a4 _ _ _ (I5 15 p2.toNatClampNeg) I5) ⟨by decide, by decide⟩ rfl rfl (Nat.le_of_ble_eq_true rfl) rfl rfl (by decide) (by decide) dX4_makeAppeal_138 (fun x4 I6 => ?_)
          refine aw_iconst (v := (2 : Int32)) S dX4_makeAppeal_141 (by decide) ?_
          refine aw_icmp_ge (tgt := 147) S dX4_makeAppeal_142 (by decide) ?_ ?_
          · refine aw_aload_n S 0 rfl dX4_makeAppeal_147 rfl ?_
            refine aw_getR S 0 0 1 cl_X4 (by decide) (by decide) (by decide) (by decide) (by decide) rfl tw_225 dX4_makeAppeal_148 ?_
            refine aw_iload_n S 2 rfl dX4_makeAppeal_151 rfl ?_
            refine aw_cVv S 1 [.int p2] vw_X3_barLid cl_X3 (by decide) (by decide) tw_736 (s_X3_barLid _ _ _ p2 I6) ⟨by decide, by decide⟩ rfl rfl (Nat.le_of_ble_eq_true rfl) rfl rfl (by decide) (by decide) dX4_makeAppeal_152 (fun x5 I7 => ?_)
            refine aw_iconst (v := (1 : Int32)) S dX4_makeAppeal_155 (by decide) ?_
            exact aw_ret S hQ (vp_nar_int _) (by decide) (by decide) dX4_makeAppeal_156
          refine aw_iconst (v := (0 : Int32)) S dX4_makeAppeal_145 (by decide) ?_
          exact aw_ret S hQ (vp_nar_int _) (by decide) (by decide) dX4_makeAppeal_146
        refine aw_aload_n S 0 rfl dX4_makeAppeal_82 rfl ?_
        refine aw_bipush (v := (14 : Int32)) S dX4_makeAppeal_83 (by decide) ?_
        refine aw_aload_n S 0 rfl dX4_makeAppeal_85 rfl ?_
        refine aw_getR S 0 0 1 cl_X4 (by decide) (by decide) (by decide) (by decide) (by decide) rfl tw_225 dX4_makeAppeal_86 ?_
        refine aw_getR S 1 13 15 cl_X3 (by decide) (by decide) (by decide) (by decide) (by decide) rfl tw_84 dX4_makeAppeal_89 ?_
        refine aw_iload_n S 2 rfl dX4_makeAppeal_92 rfl ?_
        refine aw_iald S 15 10 (by decide) (by decide) dX4_makeAppeal_93 ?_
        refine aw_cSi S [.int (I3 15 p2.toNatClampNeg)] vw_J6_bitCount_0f7a4 tw_284 (s_J6_bitCount_0f7a4 _ _ _ (I3 15 p2.toNatClampNeg) I3) ⟨by decide, by decide⟩ rfl rfl (Nat.le_of_ble_eq_true rfl) rfl rfl (by decide) (by decide) dX4_makeAppeal_94 (fun x6 I8 => ?_)
        refine aw_cVi S 0 [.int (14 : Int32), .int x6] vw_X4_refuse cl_X4 (by decide) (by decide) tw_644 (s_X4_refuse _ _ _ (14 : Int32) x6 I8) ⟨by decide, by decide⟩ rfl rfl (Nat.le_of_ble_eq_true rfl) rfl rfl (by decide) (by decide) dX4_makeAppeal_97 (fun x7 I9 => ?_)
        exact aw_ret S hQ (vp_nar_int _) (by decide) (by decide) dX4_makeAppeal_100
      refine aw_aload_n S 0 rfl dX4_makeAppeal_52 rfl ?_
      refine aw_bipush (v := (15 : Int32)) S dX4_makeAppeal_53 (by decide) ?_
      refine aw_aload_n S 0 rfl dX4_makeAppeal_55 rfl ?_
      refine aw_getR S 0 0 1 cl_X4 (by decide) (by decide) (by decide) (by decide) (by decide) rfl tw_225 dX4_makeAppeal_56 ?_
      refine aw_cVi S 1 [] vw_X3_countLidsOn cl_X3 (by decide) (by decide) tw_576 (s_X3_countLidsOn _ _ _ I2) ⟨by decide, by decide⟩ rfl rfl (Nat.le_of_ble_eq_true rfl) rfl rfl (by decide) (by decide) dX4_makeAppeal_59 (fun x8 I10 => ?_)
      refine aw_cVi S 0 [.int (15 : Int32), .int x8] vw_X4_refuse cl_X4 (by decide) (by decide) tw_644 (s_X4_refuse _ _ _ (15 : Int32) x8 I10) ⟨by decide, by decide⟩ rfl rfl (Nat.le_of_ble_eq_true rfl) rfl rfl (by decide) (by decide) dX4_makeAppeal_62 (fun x9 I11 => ?_)
      exact aw_ret S hQ (vp_nar_int _) (by decide) (by decide) dX4_makeAppeal_65
    refine aw_aload_n S 0 rfl dX4_makeAppeal_32 rfl ?_
    refine aw_bipush (v := (13 : Int32)) S dX4_makeAppeal_33 (by decide) ?_
    refine aw_iload_n S 1 rfl dX4_makeAppeal_35 rfl ?_
    refine aw_cVi S 0 [.int (13 : Int32), .int p1] vw_X4_refuse cl_X4 (by decide) (by decide) tw_644 (s_X4_refuse _ _ _ (13 : Int32) p1 I2) ⟨by decide, by decide⟩ rfl rfl (Nat.le_of_ble_eq_true rfl) rfl rfl (by decide) (by decide) dX4_makeAppeal_36 (fun x10 I12 => ?_)
    exact aw_ret S hQ (vp_nar_int _) (by decide) (by decide) dX4_makeAppeal_39
  refine aw_sipush (v := (-1011 : Int32)) S dX4_makeAppeal_15 (by decide) ?_
  exact aw_ret S hQ (vp_nar_int _) (by decide) (by decide) dX4_makeAppeal_18
set_option maxHeartbeats 4000000 in
set_option maxRecDepth 100000 in
theorem s_X4_appeal (hs : kgH) (l : Launch) (w : Option (Nat × Nat)) (p1 : Int32) (p2 : Int32) (I0 : kgM) : Sdi hs l w yX4_appeal (kg_ws yX4_appeal cX4_appeal 3 (some .int)) { frames := 4, cells := 0, slots := 0, locals := 142 } [.ref (kgO hs 0), .int p1, .int p2] I0 (f_X4_appeal p1 p2 I0) := by
  refine sd_i (av := fun hs => [.ref (kgO hs 0), .int p1, .int p2]) (by decide +kernel) (fun hs => Nat.le_of_ble_eq_true rfl) (fun X S hQ => ?_) hs l
  refine aw_sub (L2 := [(0, .ref (kgO (kgHs X) 0)), (1, .int p1), (2, .int p2)]) [0, 1, 2] rfl ?_
  unfold f_X4_appeal
  refine aw_aload_n S 0 rfl dX4_appeal_0 rfl ?_
  refine aw_getR S 0 2 31 cl_X4 (by decide) (by decide) (by decide) (by decide) (by decide) rfl tw_227 dX4_appeal_1 ?_
  refine aw_aload_n S 0 rfl dX4_appeal_4 rfl ?_
  refine aw_getR S 0 0 1 cl_X4 (by decide) (by decide) (by decide) (by decide) (by decide) rfl tw_225 dX4_appeal_5 ?_
  refine aw_cVv S 31 [.ref (kgO (kgHs X) 1)] vw_X0_begin cl_X0 (by decide) (by decide) tw_627 (s_X0_begin _ _ _ I0) ⟨by decide, by decide⟩ rfl rfl (Nat.le_of_ble_eq_true rfl) rfl rfl (by decide) (by decide) dX4_appeal_8 (fun x1 I1 => ?_)
  refine aw_aload_n S 0 rfl dX4_appeal_11 rfl ?_
  refine aw_aload_n S 0 rfl dX4_appeal_12 rfl ?_
  refine aw_iload_n S 1 rfl dX4_appeal_13 rfl ?_
  refine aw_iload_n S 2 rfl dX4_appeal_14 rfl ?_
  refine aw_cVi S 0 [.int p1, .int p2] vw_X4_makeAppeal cl_X4 (by decide) (by decide) tw_732 (s_X4_makeAppeal _ _ _ p1 p2 I1) ⟨by decide, by decide⟩ rfl rfl (Nat.le_of_ble_eq_true rfl) rfl rfl (by decide) (by decide) dX4_appeal_15 (fun x2 I2 => ?_)
  refine aw_cVi S 0 [.int x2] vw_X4_settle cl_X4 (by decide) (by decide) tw_653 (s_X4_settle _ _ _ x2 I2) ⟨by decide, by decide⟩ rfl rfl (Nat.le_of_ble_eq_true rfl) rfl rfl (by decide) (by decide) dX4_appeal_18 (fun x3 I3 => ?_)
  exact aw_ret S hQ (vp_nar_int _) (by decide) (by decide) dX4_appeal_21
set_option maxHeartbeats 4000000 in
set_option maxRecDepth 100000 in
theorem s_X4_stoveOf (hs : kgH) (l : Launch) (w : Option (Nat × Nat)) (p1 : Int32) (p2 : Int32) (I0 : kgM) : Sdi hs l w yX4_stoveOf (kg_ws yX4_stoveOf cX4_stoveOf 3 (some .int)) { frames := 1, cells := 0, slots := 0, locals := 22 } [.ref (kgO hs 0), .int p1, .int p2] I0 (f_X4_stoveOf p1 p2 I0) := by
  refine sd_i (av := fun hs => [.ref (kgO hs 0), .int p1, .int p2]) (by decide +kernel) (fun hs => Nat.le_of_ble_eq_true rfl) (fun X S hQ => ?_) hs l
  refine aw_sub (L2 := [(0, .ref (kgO (kgHs X) 0)), (1, .int p1), (2, .int p2)]) [0, 1, 2] rfl ?_
  unfold f_X4_stoveOf
  refine aw_iload_n S 1 rfl dX4_stoveOf_0 rfl ?_
  refine aw_cSi S [.int p1] vw_X4_isStove tw_294 (s_X4_isStove _ _ _ p1 I0) ⟨by decide, by decide⟩ rfl rfl (Nat.le_of_ble_eq_true rfl) rfl rfl (by decide) (by decide) dX4_stoveOf_1 (fun x1 I1 => ?_)
  refine aw_if_ne (y := 0) (tgt := 11) S dX4_stoveOf_4 (by decide) ?_ ?_
  · refine aw_iload_n S 2 rfl dX4_stoveOf_11 rfl ?_
    refine aw_if_eq (y := 0) (tgt := 27) S dX4_stoveOf_12 (by decide) ?_ ?_
    · refine aw_aload_n S 0 rfl dX4_stoveOf_27 rfl ?_
      refine aw_getR S 0 0 1 cl_X4 (by decide) (by decide) (by decide) (by decide) (by decide) rfl tw_225 dX4_stoveOf_28 ?_
      refine aw_iload_n S 1 rfl dX4_stoveOf_31 rfl ?_
      refine aw_cVi S 1 [.int p1] vw_X3_kettleOn cl_X3 (by decide) (by decide) tw_297 (s_X3_kettleOn _ _ _ p1 I1) ⟨by decide, by decide⟩ rfl rfl (Nat.le_of_ble_eq_true rfl) rfl rfl (by decide) (by decide) dX4_stoveOf_32 (fun x2 I2 => ?_)
      refine aw_cSi S [.int x2] vw_X4_orNothing tw_253 (s_X4_orNothing _ _ _ x2 I2) ⟨by decide, by decide⟩ rfl rfl (Nat.le_of_ble_eq_true rfl) rfl rfl (by decide) (by decide) dX4_stoveOf_35 (fun x3 I3 => ?_)
      exact aw_ret S hQ (vp_nar_int _) (by decide) (by decide) dX4_stoveOf_38
    refine aw_aload_n S 0 rfl dX4_stoveOf_15 rfl ?_
    refine aw_getR S 0 0 1 cl_X4 (by decide) (by decide) (by decide) (by decide) (by decide) rfl tw_225 dX4_stoveOf_16 ?_
    refine aw_getR S 1 4 6 cl_X3 (by decide) (by decide) (by decide) (by decide) (by decide) rfl tw_66 dX4_stoveOf_19 ?_
    refine aw_iload_n S 1 rfl dX4_stoveOf_22 rfl ?_
    refine aw_iald S 6 6 (by decide) (by decide) dX4_stoveOf_23 ?_
    refine aw_goto (tgt := 38) S dX4_stoveOf_24 (by decide) ?_
    exact aw_ret S hQ (vp_nar_int _) (by decide) (by decide) dX4_stoveOf_38
  refine aw_sipush (v := (-1011 : Int32)) S dX4_stoveOf_7 (by decide) ?_
  exact aw_ret S hQ (vp_nar_int _) (by decide) (by decide) dX4_stoveOf_10
set_option maxHeartbeats 4000000 in
set_option maxRecDepth 100000 in
theorem s_X4_passMinutes_L19 {X : kgCX (Int32 × kgM)} {w : Option (Nat × Nat)} (S : Cx X cX4_passMinutes RX4 4 4 89 0 0) (hQ : Qxi X w .int) (a1 : Int32) {K : Int32 → kgM → Option (Int32 × kgM)} (hK : ∀ (z2 : Int32) (J : kgM), AW X 4 0 0 w (K z2 J) 60 [(2, .int z2)] [] J) : ∀ (q : Nat) (x2h19 : Int32) (x3h19 : Int32) (Ih19 : kgM), AW X 4 0 0 w (f_X4_passMinutes_L19 a1 K q x2h19 x3h19 Ih19) 19 [(0, .ref (kgO (kgHs X) 0)), (1, .int a1), (2, .int x2h19), (3, .int x3h19)] [] Ih19 := by
  intro q
  induction q with
  | zero => intros; exact aw_none
  | succ q ih =>
    intro x2h19 x3h19 Ih19
    rw [f_X4_passMinutes_L19]
    refine aw_iload_n S 3 rfl dX4_passMinutes_19 rfl ?_
    refine aw_iload_n S 1 rfl dX4_passMinutes_20 rfl ?_
    refine aw_icmp_ge (tgt := 60) S dX4_passMinutes_21 (by decide) ?_ ?_
    · refine aw_sub (L2 := [(2, .int x2h19)]) [2] rfl ?_
      exact hK x2h19 Ih19
    refine aw_iload_n S 2 rfl dX4_passMinutes_24 rfl ?_
    refine aw_aload_n S 0 rfl dX4_passMinutes_25 rfl ?_
    refine aw_getR S 0 0 1 cl_X4 (by decide) (by decide) (by decide) (by decide) (by decide) rfl tw_225 dX4_passMinutes_26 ?_
    refine aw_cVi S 1 [] vw_X3_passMinute cl_X3 (by decide) (by decide) tw_748 (s_X3_passMinute _ _ _ Ih19) ⟨by decide, by decide⟩ rfl rfl (Nat.le_of_ble_eq_true rfl) rfl rfl (by decide) (by decide) dX4_passMinutes_29 (fun x1 I1 => ?_)
    refine aw_iadd S dX4_passMinutes_32 ?_
    refine aw_istore_n (L2 := [(0, .ref (kgO (kgHs X) 0)), (1, .int a1), (2, .int (x2h19 + x1)), (3, .int x3h19)]) S [1, 2, 0, 3] dX4_passMinutes_33 rfl (by decide) rfl ?_
    refine aw_let (Lf := fun x2 => [(0, .ref (kgO (kgHs X) 0)), (1, .int a1), (2, .int x2), (3, .int x3h19)]) (x2h19 + x1) (fun x2 => ?_)
    refine aw_aload_n S 0 rfl dX4_passMinutes_34 rfl ?_
    refine aw_getR S 0 0 1 cl_X4 (by decide) (by decide) (by decide) (by decide) (by decide) rfl tw_225 dX4_passMinutes_35 ?_
    refine aw_getI S 1 15 cl_X3 (by decide) (by decide) (by decide) (by decide) rfl tw_88 dX4_passMinutes_38 ?_
    refine aw_bipush (v := (6 : Int32)) S dX4_passMinutes_41 (by decide) ?_
    refine aw_iremK S dX4_passMinutes_43 (by decide) ?_
    refine aw_if_ne (y := 0) (tgt := 54) S dX4_passMinutes_44 (by decide) ?_ ?_
    · refine aw_iinc (v := x3h19 + (1 : Int32)) (L2 := [(0, .ref (kgO (kgHs X) 0)), (1, .int a1), (2, .int x2), (3, .int (x3h19 + (1 : Int32)))]) S [1, 2, 3, 0] 3 dX4_passMinutes_54 rfl rfl (by decide) rfl ?_
      refine aw_let (Lf := fun x3 => [(0, .ref (kgO (kgHs X) 0)), (1, .int a1), (2, .int x2), (3, .int x3)]) (x3h19 + (1 : Int32)) (fun x3 => ?_)
      refine aw_goto (tgt := 19) S dX4_passMinutes_57 (by decide) ?_
      exact ih x2 x3 I1
    refine aw_aload_n S 0 rfl dX4_passMinutes_47 rfl ?_
    refine aw_getR S 0 0 1 cl_X4 (by decide) (by decide) (by decide) (by decide) (by decide) rfl tw_225 dX4_passMinutes_48 ?_
    refine aw_cVv S 1 [] vw_X3_holdHarmony cl_X3 (by decide) (by decide) tw_765 (s_X3_holdHarmony _ _ _ I1) ⟨by decide, by decide⟩ rfl rfl (Nat.le_of_ble_eq_true rfl) rfl rfl (by decide) (by decide) dX4_passMinutes_51 (fun x4 I2 => ?_)
    refine aw_iinc (v := x3h19 + (1 : Int32)) (L2 := [(0, .ref (kgO (kgHs X) 0)), (1, .int a1), (2, .int x2), (3, .int (x3h19 + (1 : Int32)))]) S [1, 2, 3, 0] 3 dX4_passMinutes_54 rfl rfl (by decide) rfl ?_
    refine aw_let (Lf := fun x5 => [(0, .ref (kgO (kgHs X) 0)), (1, .int a1), (2, .int x2), (3, .int x5)]) (x3h19 + (1 : Int32)) (fun x5 => ?_)
    refine aw_goto (tgt := 19) S dX4_passMinutes_57 (by decide) ?_
    exact ih x2 x5 I2
set_option maxHeartbeats 4000000 in
set_option maxRecDepth 100000 in
theorem s_X4_passMinutes (hs : kgH) (l : Launch) (w : Option (Nat × Nat)) (p1 : Int32) (I0 : kgM) : Sdi hs l w yX4_passMinutes (kg_ws yX4_passMinutes cX4_passMinutes 4 (some .int)) { frames := 4, cells := 0, slots := 0, locals := 89 } [.ref (kgO hs 0), .int p1] I0 (f_X4_passMinutes p1 I0) := by
  refine sd_i (av := fun hs => [.ref (kgO hs 0), .int p1]) (by decide +kernel) (fun hs => Nat.le_of_ble_eq_true rfl) (fun X S hQ => ?_) hs l
  refine aw_sub (L2 := [(0, .ref (kgO (kgHs X) 0)), (1, .int p1)]) [0, 1] rfl ?_
  unfold f_X4_passMinutes
  refine aw_iload_n S 1 rfl dX4_passMinutes_0 rfl ?_
  refine aw_iconst (v := (1 : Int32)) S dX4_passMinutes_1 (by decide) ?_
  refine aw_icmp_lt (tgt := 11) S dX4_passMinutes_2 (by decide) ?_ ?_
  · refine aw_sipush (v := (-1012 : Int32)) S dX4_passMinutes_11 (by decide) ?_
    exact aw_ret S hQ (vp_nar_int _) (by decide) (by decide) dX4_passMinutes_14
  refine aw_iload_n S 1 rfl dX4_passMinutes_5 rfl ?_
  refine aw_bipush (v := (9 : Int32)) S dX4_passMinutes_6 (by decide) ?_
  refine aw_icmp_le (tgt := 15) S dX4_passMinutes_8 (by decide) ?_ ?_
  · refine aw_iconst (v := (0 : Int32)) S dX4_passMinutes_15 (by decide) ?_
    refine aw_istore_n (L2 := [(0, .ref (kgO (kgHs X) 0)), (1, .int p1), (2, .int (0 : Int32))]) S [1, 2, 0] dX4_passMinutes_16 rfl (by decide) rfl ?_
    refine aw_iconst (v := (0 : Int32)) S dX4_passMinutes_17 (by decide) ?_
    refine aw_istore_n (L2 := [(0, .ref (kgO (kgHs X) 0)), (1, .int p1), (2, .int (0 : Int32)), (3, .int (0 : Int32))]) S [1, 2, 3, 0] dX4_passMinutes_18 rfl (by decide) rfl ?_
    refine s_X4_passMinutes_L19 S hQ p1 (fun x6 I3 => ?_) 200 (0 : Int32) (0 : Int32) I0
    refine aw_iload_n S 0 rfl dX4_passMinutes_60 rfl ?_
    exact aw_ret S hQ (vp_nar_int _) (by decide) (by decide) dX4_passMinutes_61
  refine aw_sipush (v := (-1012 : Int32)) S dX4_passMinutes_11 (by decide) ?_
  exact aw_ret S hQ (vp_nar_int _) (by decide) (by decide) dX4_passMinutes_14
set_option maxHeartbeats 4000000 in
set_option maxRecDepth 100000 in
theorem s_X4_minute (hs : kgH) (l : Launch) (w : Option (Nat × Nat)) (p1 : Int32) (I0 : kgM) : Sdi hs l w yX4_minute (kg_ws yX4_minute cX4_minute 2 (some .int)) { frames := 5, cells := 0, slots := 0, locals := 142 } [.ref (kgO hs 0), .int p1] I0 (f_X4_minute p1 I0) := by
  refine sd_i (av := fun hs => [.ref (kgO hs 0), .int p1]) (by decide +kernel) (fun hs => Nat.le_of_ble_eq_true rfl) (fun X S hQ => ?_) hs l
  refine aw_sub (L2 := [(0, .ref (kgO (kgHs X) 0)), (1, .int p1)]) [0, 1] rfl ?_
  unfold f_X4_minute
  refine aw_aload_n S 0 rfl dX4_minute_0 rfl ?_
  refine aw_getR S 0 2 31 cl_X4 (by decide) (by decide) (by decide) (by decide) (by decide) rfl tw_227 dX4_minute_1 ?_
  refine aw_aload_n S 0 rfl dX4_minute_4 rfl ?_
  refine aw_getR S 0 0 1 cl_X4 (by decide) (by decide) (by decide) (by decide) (by decide) rfl tw_225 dX4_minute_5 ?_
  refine aw_cVv S 31 [.ref (kgO (kgHs X) 1)] vw_X0_begin cl_X0 (by decide) (by decide) tw_627 (s_X0_begin _ _ _ I0) ⟨by decide, by decide⟩ rfl rfl (Nat.le_of_ble_eq_true rfl) rfl rfl (by decide) (by decide) dX4_minute_8 (fun x1 I1 => ?_)
  refine aw_aload_n S 0 rfl dX4_minute_11 rfl ?_
  refine aw_aload_n S 0 rfl dX4_minute_12 rfl ?_
  refine aw_iload_n S 1 rfl dX4_minute_13 rfl ?_
  refine aw_cVi S 0 [.int p1] vw_X4_passMinutes cl_X4 (by decide) (by decide) tw_744 (s_X4_passMinutes _ _ _ p1 I1) ⟨by decide, by decide⟩ rfl rfl (Nat.le_of_ble_eq_true rfl) rfl rfl (by decide) (by decide) dX4_minute_14 (fun x2 I2 => ?_)
  refine aw_cVi S 0 [.int x2] vw_X4_settle cl_X4 (by decide) (by decide) tw_653 (s_X4_settle _ _ _ x2 I2) ⟨by decide, by decide⟩ rfl rfl (Nat.le_of_ble_eq_true rfl) rfl rfl (by decide) (by decide) dX4_minute_17 (fun x3 I3 => ?_)
  exact aw_ret S hQ (vp_nar_int _) (by decide) (by decide) dX4_minute_20
set_option maxHeartbeats 4000000 in
set_option maxRecDepth 100000 in
theorem s_X4_whistling (hs : kgH) (l : Launch) (w : Option (Nat × Nat))  (I0 : kgM) : Sdi hs l w yX4_whistling (kg_ws yX4_whistling cX4_whistling 1 (some .int)) { frames := 3, cells := 0, slots := 0, locals := 65 } [.ref (kgO hs 0)] I0 (f_X4_whistling I0) := by
  refine sd_i (av := fun hs => [.ref (kgO hs 0)]) (by decide +kernel) (fun hs => Nat.le_of_ble_eq_true rfl) (fun X S hQ => ?_) hs l
  refine aw_sub (L2 := [(0, .ref (kgO (kgHs X) 0))]) [0] rfl ?_
  unfold f_X4_whistling
  refine aw_aload_n S 0 rfl dX4_whistling_0 rfl ?_
  refine aw_getR S 0 0 1 cl_X4 (by decide) (by decide) (by decide) (by decide) (by decide) rfl tw_225 dX4_whistling_1 ?_
  refine aw_cVi S 1 [] vw_X3_whistlers cl_X3 (by decide) (by decide) tw_305 (s_X3_whistlers _ _ _ I0) ⟨by decide, by decide⟩ rfl rfl (Nat.le_of_ble_eq_true rfl) rfl rfl (by decide) (by decide) dX4_whistling_4 (fun x1 I1 => ?_)
  exact aw_ret S hQ (vp_nar_int _) (by decide) (by decide) dX4_whistling_7
set_option maxHeartbeats 4000000 in
set_option maxRecDepth 100000 in
theorem s_X4_harmony_L28 {X : kgCX (Int32 × kgM)} {w : Option (Nat × Nat)} (S : Cx X cX4_harmony RX4 5 3 65 0 0) (hQ : Qxi X w .int) (a1 : Int32) (a3 : Int32) {K : Int32 → kgM → Option (Int32 × kgM)} (hK : ∀ (z2 : Int32) (J : kgM), AW X 5 0 0 w (K z2 J) 88 [(0, .ref (kgO (kgHs X) 0)), (1, .int a1), (2, .int z2), (3, .int a3)] [] J) : ∀ (q : Nat) (x2h28 : Int32) (x4h28 : Int32) (Ih28 : kgM), AW X 5 0 0 w (f_X4_harmony_L28 a1 a3 K q x2h28 x4h28 Ih28) 28 [(0, .ref (kgO (kgHs X) 0)), (1, .int a1), (2, .int x2h28), (3, .int a3), (4, .int x4h28)] [] Ih28 := by
  intro q
  induction q with
  | zero => intros; exact aw_none
  | succ q ih =>
    intro x2h28 x4h28 Ih28
    rw [f_X4_harmony_L28]
    refine aw_iload S 4 rfl dX4_harmony_28 ?_
    refine aw_aload_n S 0 rfl dX4_harmony_30 rfl ?_
    refine aw_getR S 0 0 1 cl_X4 (by decide) (by decide) (by decide) (by decide) (by decide) rfl tw_225 dX4_harmony_31 ?_
    refine aw_getI S 1 14 cl_X3 (by decide) (by decide) (by decide) (by decide) rfl tw_86 dX4_harmony_34 ?_
    refine aw_icmp_ge (tgt := 88) S dX4_harmony_37 (by decide) ?_ ?_
    · refine aw_sub (L2 := [(0, .ref (kgO (kgHs X) 0)), (1, .int a1), (2, .int x2h28), (3, .int a3)]) [0, 1, 2, 3] rfl ?_
      exact hK x2h28 Ih28
    refine aw_iload_n S 1 rfl dX4_harmony_40 rfl ?_
    refine aw_iload_n S 3 rfl dX4_harmony_41 rfl ?_
    refine aw_cSi S [.int a1, .int a3] vw_X4_isIn tw_310 (s_X4_isIn _ _ _ a1 a3 Ih28) ⟨by decide, by decide⟩ rfl rfl (Nat.le_of_ble_eq_true rfl) rfl rfl (by decide) (by decide) dX4_harmony_42 (fun x3 I2 => ?_)
    refine aw_if_eq (y := 0) (tgt := 82) S dX4_harmony_45 (by decide) ?_ ?_
    · refine aw_iinc (v := x4h28 + (1 : Int32)) (L2 := [(0, .ref (kgO (kgHs X) 0)), (1, .int a1), (2, .int x2h28), (3, .int a3), (4, .int (x4h28 + (1 : Int32)))]) S [1, 2, 3, 4, 0] 4 dX4_harmony_82 rfl rfl (by decide) rfl ?_
      refine aw_let (Lf := fun x4 => [(0, .ref (kgO (kgHs X) 0)), (1, .int a1), (2, .int x2h28), (3, .int a3), (4, .int x4)]) (x4h28 + (1 : Int32)) (fun x4 => ?_)
      refine aw_goto (tgt := 28) S dX4_harmony_85 (by decide) ?_
      exact ih x2h28 x4 I2
    refine aw_iload_n S 1 rfl dX4_harmony_48 rfl ?_
    refine aw_iload S 4 rfl dX4_harmony_49 ?_
    refine aw_cSi S [.int a1, .int x4h28] vw_X4_isIn tw_310 (s_X4_isIn _ _ _ a1 x4h28 I2) ⟨by decide, by decide⟩ rfl rfl (Nat.le_of_ble_eq_true rfl) rfl rfl (by decide) (by decide) dX4_harmony_51 (fun x5 I3 => ?_)
    refine aw_if_eq (y := 0) (tgt := 82) S dX4_harmony_54 (by decide) ?_ ?_
    · refine aw_iinc (v := x4h28 + (1 : Int32)) (L2 := [(0, .ref (kgO (kgHs X) 0)), (1, .int a1), (2, .int x2h28), (3, .int a3), (4, .int (x4h28 + (1 : Int32)))]) S [1, 2, 3, 4, 0] 4 dX4_harmony_82 rfl rfl (by decide) rfl ?_
      refine aw_let (Lf := fun x6 => [(0, .ref (kgO (kgHs X) 0)), (1, .int a1), (2, .int x2h28), (3, .int a3), (4, .int x6)]) (x4h28 + (1 : Int32)) (fun x6 => ?_)
      refine aw_goto (tgt := 28) S dX4_harmony_85 (by decide) ?_
      exact ih x2h28 x6 I3
    refine aw_iload_n S 2 rfl dX4_harmony_57 rfl ?_
    refine aw_aload_n S 0 rfl dX4_harmony_58 rfl ?_
    refine aw_getR S 0 0 1 cl_X4 (by decide) (by decide) (by decide) (by decide) (by decide) rfl tw_225 dX4_harmony_59 ?_
    refine aw_getR S 1 6 8 cl_X3 (by decide) (by decide) (by decide) (by decide) (by decide) rfl tw_70 dX4_harmony_62 ?_
    refine aw_iload_n S 3 rfl dX4_harmony_65 rfl ?_
    refine aw_iald S 8 10 (by decide) (by decide) dX4_harmony_66 ?_
    refine aw_aload_n S 0 rfl dX4_harmony_67 rfl ?_
    refine aw_getR S 0 0 1 cl_X4 (by decide) (by decide) (by decide) (by decide) (by decide) rfl tw_225 dX4_harmony_68 ?_
    refine aw_getR S 1 6 8 cl_X3 (by decide) (by decide) (by decide) (by decide) (by decide) rfl tw_70 dX4_harmony_71 ?_
    refine aw_iload S 4 rfl dX4_harmony_74 ?_
    refine aw_iald S 8 10 (by decide) (by decide) dX4_harmony_76 ?_
    refine aw_cSi S [.int (I3 8 a3.toNatClampNeg), .int (I3 8 x4h28.toNatClampNeg)] vw_X4_soundOf tw_311 (s_X4_soundOf _ _ _ (I3 8 a3.toNatClampNeg) (I3 8 x4h28.toNatClampNeg) I3) ⟨by decide, by decide⟩ rfl rfl (Nat.le_of_ble_eq_true rfl) rfl rfl (by decide) (by decide) dX4_harmony_77 (fun x7 I4 => ?_)
    refine aw_iadd S dX4_harmony_80 ?_
    refine aw_istore_n (L2 := [(0, .ref (kgO (kgHs X) 0)), (1, .int a1), (2, .int (x2h28 + x7)), (3, .int a3), (4, .int x4h28)]) S [1, 2, 0, 3, 4] dX4_harmony_81 rfl (by decide) rfl ?_
    refine aw_let (Lf := fun x8 => [(0, .ref (kgO (kgHs X) 0)), (1, .int a1), (2, .int x8), (3, .int a3), (4, .int x4h28)]) (x2h28 + x7) (fun x8 => ?_)
    refine aw_iinc (v := x4h28 + (1 : Int32)) (L2 := [(0, .ref (kgO (kgHs X) 0)), (1, .int a1), (2, .int x8), (3, .int a3), (4, .int (x4h28 + (1 : Int32)))]) S [1, 2, 3, 4, 0] 4 dX4_harmony_82 rfl rfl (by decide) rfl ?_
    refine aw_let (Lf := fun x9 => [(0, .ref (kgO (kgHs X) 0)), (1, .int a1), (2, .int x8), (3, .int a3), (4, .int x9)]) (x4h28 + (1 : Int32)) (fun x9 => ?_)
    refine aw_goto (tgt := 28) S dX4_harmony_85 (by decide) ?_
    exact ih x8 x9 I4
set_option maxHeartbeats 4000000 in
set_option maxRecDepth 100000 in
theorem s_X4_harmony_L12 {X : kgCX (Int32 × kgM)} {w : Option (Nat × Nat)} (S : Cx X cX4_harmony RX4 5 3 65 0 0) (hQ : Qxi X w .int) (a1 : Int32) {K : Int32 → kgM → Option (Int32 × kgM)} (hK : ∀ (z2 : Int32) (J : kgM), AW X 5 0 0 w (K z2 J) 94 [(2, .int z2)] [] J) : ∀ (q : Nat) (x2h12 : Int32) (x3h12 : Int32) (Ih12 : kgM), AW X 5 0 0 w (f_X4_harmony_L12 a1 K q x2h12 x3h12 Ih12) 12 [(0, .ref (kgO (kgHs X) 0)), (1, .int a1), (2, .int x2h12), (3, .int x3h12)] [] Ih12 := by
  intro q
  induction q with
  | zero => intros; exact aw_none
  | succ q ih =>
    intro x2h12 x3h12 Ih12
    rw [f_X4_harmony_L12]
    refine aw_iload_n S 3 rfl dX4_harmony_12 rfl ?_
    refine aw_aload_n S 0 rfl dX4_harmony_13 rfl ?_
    refine aw_getR S 0 0 1 cl_X4 (by decide) (by decide) (by decide) (by decide) (by decide) rfl tw_225 dX4_harmony_14 ?_
    refine aw_getI S 1 14 cl_X3 (by decide) (by decide) (by decide) (by decide) rfl tw_86 dX4_harmony_17 ?_
    refine aw_icmp_ge (tgt := 94) S dX4_harmony_20 (by decide) ?_ ?_
    · refine aw_sub (L2 := [(2, .int x2h12)]) [2] rfl ?_
      exact hK x2h12 Ih12
    refine aw_iload_n S 3 rfl dX4_harmony_23 rfl ?_
    refine aw_iconst (v := (1 : Int32)) S dX4_harmony_24 (by decide) ?_
    refine aw_iadd S dX4_harmony_25 ?_
    refine aw_istore (L2 := [(0, .ref (kgO (kgHs X) 0)), (1, .int a1), (2, .int x2h12), (3, .int x3h12), (4, .int (x3h12 + (1 : Int32)))]) S [1, 2, 3, 4, 0] dX4_harmony_26 (by decide) rfl ?_
    refine aw_let (Lf := fun x2 => [(0, .ref (kgO (kgHs X) 0)), (1, .int a1), (2, .int x2h12), (3, .int x3h12), (4, .int x2)]) (x3h12 + (1 : Int32)) (fun x2 => ?_)
    refine s_X4_harmony_L28 S hQ a1 x3h12 (fun x10 I5 => ?_) 200 x2h12 x2 Ih12
    refine aw_iinc (v := x3h12 + (1 : Int32)) (L2 := [(0, .ref (kgO (kgHs X) 0)), (1, .int a1), (2, .int x10), (3, .int (x3h12 + (1 : Int32)))]) S [1, 2, 3, 0] 3 dX4_harmony_88 rfl rfl (by decide) rfl ?_
    refine aw_let (Lf := fun x11 => [(0, .ref (kgO (kgHs X) 0)), (1, .int a1), (2, .int x10), (3, .int x11)]) (x3h12 + (1 : Int32)) (fun x11 => ?_)
    refine aw_goto (tgt := 12) S dX4_harmony_91 (by decide) ?_
    exact ih x10 x11 I5
set_option maxHeartbeats 4000000 in
set_option maxRecDepth 100000 in
theorem s_X4_harmony (hs : kgH) (l : Launch) (w : Option (Nat × Nat))  (I0 : kgM) : Sdi hs l w yX4_harmony (kg_ws yX4_harmony cX4_harmony 5 (some .int)) { frames := 3, cells := 0, slots := 0, locals := 65 } [.ref (kgO hs 0)] I0 (f_X4_harmony I0) := by
  refine sd_i (av := fun hs => [.ref (kgO hs 0)]) (by decide +kernel) (fun hs => Nat.le_of_ble_eq_true rfl) (fun X S hQ => ?_) hs l
  refine aw_sub (L2 := [(0, .ref (kgO (kgHs X) 0))]) [0] rfl ?_
  unfold f_X4_harmony
  refine aw_aload_n S 0 rfl dX4_harmony_0 rfl ?_
  refine aw_getR S 0 0 1 cl_X4 (by decide) (by decide) (by decide) (by decide) (by decide) rfl tw_225 dX4_harmony_1 ?_
  refine aw_cVi S 1 [] vw_X3_whistlers cl_X3 (by decide) (by decide) tw_305 (s_X3_whistlers _ _ _ I0) ⟨by decide, by decide⟩ rfl rfl (Nat.le_of_ble_eq_true rfl) rfl rfl (by decide) (by decide) dX4_harmony_4 (fun x1 I1 => ?_)
  refine aw_istore_n (L2 := [(0, .ref (kgO (kgHs X) 0)), (1, .int x1)]) S [1, 0] dX4_harmony_7 rfl (by decide) rfl ?_
  refine aw_iconst (v := (0 : Int32)) S dX4_harmony_8 (by decide) ?_
  refine aw_istore_n (L2 := [(0, .ref (kgO (kgHs X) 0)), (1, .int x1), (2, .int (0 : Int32))]) S [1, 2, 0] dX4_harmony_9 rfl (by decide) rfl ?_
  refine aw_iconst (v := (0 : Int32)) S dX4_harmony_10 (by decide) ?_
  refine aw_istore_n (L2 := [(0, .ref (kgO (kgHs X) 0)), (1, .int x1), (2, .int (0 : Int32)), (3, .int (0 : Int32))]) S [1, 2, 3, 0] dX4_harmony_11 rfl (by decide) rfl ?_
  refine s_X4_harmony_L12 S hQ x1 (fun x12 I6 => ?_) 200 (0 : Int32) (0 : Int32) I1
  refine aw_iload_n S 0 rfl dX4_harmony_94 rfl ?_
  exact aw_ret S hQ (vp_nar_int _) (by decide) (by decide) dX4_harmony_95
set_option maxHeartbeats 4000000 in
set_option maxRecDepth 100000 in
theorem s_X4_harmonyAgain_L12 {X : kgCX (Int32 × kgM)} {w : Option (Nat × Nat)} (S : Cx X cX4_harmonyAgain RX4 5 4 88 0 0) (hQ : Qxi X w .int) (a1 : Int32) {K : Int32 → kgM → Option (Int32 × kgM)} (hK : ∀ (z2 : Int32) (J : kgM), AW X 5 0 0 w (K z2 J) 47 [(2, .int z2)] [] J) : ∀ (q : Nat) (x2h12 : Int32) (x3h12 : Int32) (Ih12 : kgM), AW X 5 0 0 w (f_X4_harmonyAgain_L12 a1 K q x2h12 x3h12 Ih12) 12 [(1, .int a1), (2, .int x2h12), (3, .int x3h12)] [] Ih12 := by
  intro q
  induction q with
  | zero => intros; exact aw_none
  | succ q ih =>
    intro x2h12 x3h12 Ih12
    rw [f_X4_harmonyAgain_L12]
    refine aw_iload_n S 2 rfl dX4_harmonyAgain_12 rfl ?_
    refine aw_getS S tw_317 dX4_harmonyAgain_13 ?_
    refine aw_alenS S dX4_harmonyAgain_16 ?_
    refine aw_icmp_ge (tgt := 47) S dX4_harmonyAgain_17 (by decide) ?_ ?_
    · refine aw_sub (L2 := [(2, .int x2h12)]) [1] rfl ?_
      exact hK x2h12 Ih12
    refine aw_iload_n S 0 rfl dX4_harmonyAgain_20 rfl ?_
    refine aw_iload_n S 0 rfl dX4_harmonyAgain_21 rfl ?_
    refine aw_iload_n S 2 rfl dX4_harmonyAgain_22 rfl ?_
    refine aw_ishr S dX4_harmonyAgain_23 ?_
    refine aw_iand S dX4_harmonyAgain_24 ?_
    refine aw_cSi S [.int (a1 &&& (a1 >>> (x3h12 &&& 31)))] vw_J6_bitCount_0f7a4 tw_284 (s_J6_bitCount_0f7a4 _ _ _ (a1 &&& (a1 >>> (x3h12 &&& 31))) Ih12) ⟨by decide, by decide⟩ rfl rfl (Nat.le_of_ble_eq_true rfl) rfl rfl (by decide) (by decide) dX4_harmonyAgain_25 (fun x2 I2 => ?_)
    refine aw_istore (L2 := [(1, .int a1), (2, .int x2h12), (3, .int x3h12), (4, .int x2)]) S [1, 2, 3, 0] dX4_harmonyAgain_28 (by decide) rfl ?_
    refine aw_iload_n S 1 rfl dX4_harmonyAgain_30 rfl ?_
    refine aw_getS S tw_317 dX4_harmonyAgain_31 ?_
    refine aw_iload_n S 2 rfl dX4_harmonyAgain_34 rfl ?_
    refine aw_ialdS S dX4_harmonyAgain_35 ?_
    refine aw_iload S 3 rfl dX4_harmonyAgain_36 ?_
    refine aw_imul S dX4_harmonyAgain_38 ?_
    refine aw_iadd S dX4_harmonyAgain_39 ?_
    refine aw_istore_n (L2 := [(1, .int a1), (2, .int (x2h12 + ((kg_snd x3h12.toNatClampNeg) * x2))), (3, .int x3h12), (4, .int x2)]) S [1, 0, 2, 3] dX4_harmonyAgain_40 rfl (by decide) rfl ?_
    refine aw_let (Lf := fun x3 => [(1, .int a1), (2, .int x3), (3, .int x3h12), (4, .int x2)]) (x2h12 + ((kg_snd x3h12.toNatClampNeg) * x2)) (fun x3 => ?_)
    refine aw_iinc (v := x3h12 + (1 : Int32)) (L2 := [(1, .int a1), (2, .int x3), (3, .int (x3h12 + (1 : Int32))), (4, .int x2)]) S [1, 2, 0, 3] 2 dX4_harmonyAgain_41 rfl rfl (by decide) rfl ?_
    refine aw_let (Lf := fun x4 => [(1, .int a1), (2, .int x3), (3, .int x4), (4, .int x2)]) (x3h12 + (1 : Int32)) (fun x4 => ?_)
    refine aw_goto (tgt := 12) S dX4_harmonyAgain_44 (by decide) ?_
    refine aw_sub (L2 := [(1, .int a1), (2, .int x3), (3, .int x4)]) [0, 1, 2] rfl ?_
    exact ih x3 x4 I2
set_option maxHeartbeats 4000000 in
set_option maxRecDepth 100000 in
theorem s_X4_harmonyAgain (hs : kgH) (l : Launch) (w : Option (Nat × Nat))  (I0 : kgM) : Sdi hs l w yX4_harmonyAgain (kg_ws yX4_harmonyAgain cX4_harmonyAgain 5 (some .int)) { frames := 4, cells := 0, slots := 0, locals := 88 } [.ref (kgO hs 0)] I0 (f_X4_harmonyAgain I0) := by
  refine sd_i (av := fun hs => [.ref (kgO hs 0)]) (by decide +kernel) (fun hs => Nat.le_of_ble_eq_true rfl) (fun X S hQ => ?_) hs l
  refine aw_sub (L2 := [(0, .ref (kgO (kgHs X) 0))]) [0] rfl ?_
  unfold f_X4_harmonyAgain
  refine aw_aload_n S 0 rfl dX4_harmonyAgain_0 rfl ?_
  refine aw_getR S 0 0 1 cl_X4 (by decide) (by decide) (by decide) (by decide) (by decide) rfl tw_225 dX4_harmonyAgain_1 ?_
  refine aw_cVi S 1 [] vw_X3_whistledPitches cl_X3 (by decide) (by decide) tw_323 (s_X3_whistledPitches _ _ _ I0) ⟨by decide, by decide⟩ rfl rfl (Nat.le_of_ble_eq_true rfl) rfl rfl (by decide) (by decide) dX4_harmonyAgain_4 (fun x1 I1 => ?_)
  refine aw_istore_n (L2 := [(0, .ref (kgO (kgHs X) 0)), (1, .int x1)]) S [1, 0] dX4_harmonyAgain_7 rfl (by decide) rfl ?_
  refine aw_iconst (v := (0 : Int32)) S dX4_harmonyAgain_8 (by decide) ?_
  refine aw_istore_n (L2 := [(0, .ref (kgO (kgHs X) 0)), (1, .int x1), (2, .int (0 : Int32))]) S [1, 2, 0] dX4_harmonyAgain_9 rfl (by decide) rfl ?_
  refine aw_iconst (v := (1 : Int32)) S dX4_harmonyAgain_10 (by decide) ?_
  refine aw_istore_n (L2 := [(0, .ref (kgO (kgHs X) 0)), (1, .int x1), (2, .int (0 : Int32)), (3, .int (1 : Int32))]) S [1, 2, 3, 0] dX4_harmonyAgain_11 rfl (by decide) rfl ?_
  refine aw_sub (L2 := [(1, .int x1), (2, .int (0 : Int32)), (3, .int (1 : Int32))]) [1, 2, 3] rfl ?_
  refine s_X4_harmonyAgain_L12 S hQ x1 (fun x5 I3 => ?_) 200 (0 : Int32) (1 : Int32) I1
  refine aw_iload_n S 0 rfl dX4_harmonyAgain_47 rfl ?_
  exact aw_ret S hQ (vp_nar_int _) (by decide) (by decide) dX4_harmonyAgain_48
set_option maxHeartbeats 4000000 in
set_option maxRecDepth 100000 in
theorem s_X4_boilsIn_L34 {X : kgCX (Int32 × kgM)} {w : Option (Nat × Nat)} (S : Cx X cX4_boilsIn RX4 5 1 22 0 0) (hQ : Qxi X w .int) (a2 : Int32) {K : kgM → Option (Int32 × kgM)} (hK : ∀  (J : kgM), AW X 5 0 0 w (K J) 71 [] [] J) : ∀ (q : Nat) (x3h34 : Int32) (x4h34 : Int32) (Ih34 : kgM), AW X 5 0 0 w (f_X4_boilsIn_L34 a2 K q x3h34 x4h34 Ih34) 34 [(2, .int a2), (3, .int x3h34), (4, .int x4h34)] [] Ih34 := by
  intro q
  induction q with
  | zero => intros; exact aw_none
  | succ q ih =>
    intro x3h34 x4h34 Ih34
    rw [f_X4_boilsIn_L34]
    refine aw_iload S 2 rfl dX4_boilsIn_34 ?_
    refine aw_bipush (v := (100 : Int32)) S dX4_boilsIn_36 (by decide) ?_
    refine aw_icmp_gt (tgt := 71) S dX4_boilsIn_38 (by decide) ?_ ?_
    · refine aw_sub (L2 := []) [] rfl ?_
      exact hK Ih34
    refine aw_iload_n S 0 rfl dX4_boilsIn_41 rfl ?_
    refine aw_letJ (fun (j54 : Option (Int32 × kgM)) => AW X 5 0 0 w j54 54 [(2, .int a2), (3, .int x3h34), (4, .int x4h34)] [] Ih34) ?_ (fun j54 hj54 => ?_)
    · skip
      refine aw_bipush (v := (100 : Int32)) S dX4_boilsIn_54 (by decide) ?_
      refine aw_iload_n S 1 rfl dX4_boilsIn_56 rfl ?_
      refine aw_iconst (v := (5 : Int32)) S dX4_boilsIn_57 (by decide) ?_
      refine aw_iload_n S 0 rfl dX4_boilsIn_58 rfl ?_
      refine aw_imul S dX4_boilsIn_59 ?_
      refine aw_iadd S dX4_boilsIn_60 ?_
      refine aw_cSi S [.int (100 : Int32), .int (x3h34 + ((5 : Int32) * a2))] vw_J9_min_7cf53 tw_332 (s_J9_min_7cf53 _ _ _ (100 : Int32) (x3h34 + ((5 : Int32) * a2)) Ih34) ⟨by decide, by decide⟩ rfl rfl (Nat.le_of_ble_eq_true rfl) rfl rfl (by decide) (by decide) dX4_boilsIn_61 (fun x4 I3 => ?_)
      refine aw_istore_n (L2 := [(2, .int a2), (3, .int x4), (4, .int x4h34)]) S [1, 0, 2] dX4_boilsIn_64 rfl (by decide) rfl ?_
      refine aw_iinc (v := x4h34 + (1 : Int32)) (L2 := [(2, .int a2), (3, .int x4), (4, .int (x4h34 + (1 : Int32)))]) S [1, 2, 0] 2 dX4_boilsIn_65 rfl rfl (by decide) rfl ?_
      refine aw_let (Lf := fun x5 => [(2, .int a2), (3, .int x4), (4, .int x5)]) (x4h34 + (1 : Int32)) (fun x5 => ?_)
      refine aw_goto (tgt := 34) S dX4_boilsIn_68 (by decide) ?_
      exact ih x4 x5 I3
    refine aw_if_le (y := 0) (tgt := 54) S dX4_boilsIn_42 (by decide) ?_ ?_
    · exact hj54
    refine aw_iload_n S 1 rfl dX4_boilsIn_45 rfl ?_
    refine aw_bipush (v := (100 : Int32)) S dX4_boilsIn_46 (by decide) ?_
    refine aw_icmp_ne (tgt := 54) S dX4_boilsIn_48 (by decide) ?_ ?_
    · exact hj54
    refine aw_iload S 2 rfl dX4_boilsIn_51 ?_
    exact aw_ret S hQ (vp_nar_int _) (by decide) (by decide) dX4_boilsIn_53
set_option maxHeartbeats 4000000 in
set_option maxRecDepth 100000 in
theorem s_X4_boilsIn (hs : kgH) (l : Launch) (w : Option (Nat × Nat)) (p1 : Int32) (I0 : kgM) : Sdi hs l w yX4_boilsIn (kg_ws yX4_boilsIn cX4_boilsIn 5 (some .int)) { frames := 1, cells := 0, slots := 0, locals := 22 } [.ref (kgO hs 0), .int p1] I0 (f_X4_boilsIn p1 I0) := by
  refine sd_i (av := fun hs => [.ref (kgO hs 0), .int p1]) (by decide +kernel) (fun hs => Nat.le_of_ble_eq_true rfl) (fun X S hQ => ?_) hs l
  refine aw_sub (L2 := [(0, .ref (kgO (kgHs X) 0)), (1, .int p1)]) [0, 1] rfl ?_
  unfold f_X4_boilsIn
  refine aw_aload_n S 0 rfl dX4_boilsIn_0 rfl ?_
  refine aw_iload_n S 1 rfl dX4_boilsIn_1 rfl ?_
  refine aw_cVi S 0 [.int p1] vw_X4_isKettle cl_X4 (by decide) (by decide) tw_260 (s_X4_isKettle _ _ _ p1 I0) ⟨by decide, by decide⟩ rfl rfl (Nat.le_of_ble_eq_true rfl) rfl rfl (by decide) (by decide) dX4_boilsIn_2 (fun x1 I1 => ?_)
  refine aw_if_ne (y := 0) (tgt := 12) S dX4_boilsIn_5 (by decide) ?_ ?_
  · refine aw_aload_n S 0 rfl dX4_boilsIn_12 rfl ?_
    refine aw_getR S 0 0 1 cl_X4 (by decide) (by decide) (by decide) (by decide) (by decide) rfl tw_225 dX4_boilsIn_13 ?_
    refine aw_iload_n S 1 rfl dX4_boilsIn_16 rfl ?_
    refine aw_cVi S 1 [.int p1] vw_X3_heatUnder cl_X3 (by decide) (by decide) tw_331 (s_X3_heatUnder _ _ _ p1 I1) ⟨by decide, by decide⟩ rfl rfl (Nat.le_of_ble_eq_true rfl) rfl rfl (by decide) (by decide) dX4_boilsIn_17 (fun x2 I2 => ?_)
    refine aw_istore_n (L2 := [(0, .ref (kgO (kgHs X) 0)), (1, .int p1), (2, .int x2)]) S [1, 2, 0] dX4_boilsIn_20 rfl (by decide) rfl ?_
    refine aw_aload_n S 0 rfl dX4_boilsIn_21 rfl ?_
    refine aw_getR S 0 0 1 cl_X4 (by decide) (by decide) (by decide) (by decide) (by decide) rfl tw_225 dX4_boilsIn_22 ?_
    refine aw_getR S 1 8 10 cl_X3 (by decide) (by decide) (by decide) (by decide) (by decide) rfl tw_74 dX4_boilsIn_25 ?_
    refine aw_iload_n S 1 rfl dX4_boilsIn_28 rfl ?_
    refine aw_iald S 10 10 (by decide) (by decide) dX4_boilsIn_29 ?_
    refine aw_istore_n (L2 := [(0, .ref (kgO (kgHs X) 0)), (1, .int p1), (2, .int x2), (3, .int (I2 10 p1.toNatClampNeg))]) S [1, 2, 3, 0] dX4_boilsIn_30 rfl (by decide) rfl ?_
    refine aw_let (Lf := fun x3 => [(0, .ref (kgO (kgHs X) 0)), (1, .int p1), (2, .int x2), (3, .int x3)]) (I2 10 p1.toNatClampNeg) (fun x3 => ?_)
    refine aw_iconst (v := (0 : Int32)) S dX4_boilsIn_31 (by decide) ?_
    refine aw_istore (L2 := [(0, .ref (kgO (kgHs X) 0)), (1, .int p1), (2, .int x2), (3, .int x3), (4, .int (0 : Int32))]) S [1, 2, 3, 4, 0] dX4_boilsIn_32 (by decide) rfl ?_
    refine aw_sub (L2 := [(2, .int x2), (3, .int x3), (4, .int (0 : Int32))]) [2, 3, 4] rfl ?_
    refine s_X4_boilsIn_L34 S hQ x2 (fun I4 => ?_) 200 x3 (0 : Int32) I2
    refine aw_sipush (v := (-1015 : Int32)) S dX4_boilsIn_71 (by decide) ?_
    exact aw_ret S hQ (vp_nar_int _) (by decide) (by decide) dX4_boilsIn_74
  refine aw_sipush (v := (-1011 : Int32)) S dX4_boilsIn_8 (by decide) ?_
  exact aw_ret S hQ (vp_nar_int _) (by decide) (by decide) dX4_boilsIn_11
set_option maxHeartbeats 4000000 in
set_option maxRecDepth 100000 in
theorem s_X4_boilsInAgain (hs : kgH) (l : Launch) (w : Option (Nat × Nat)) (p1 : Int32) (I0 : kgM) : Sdi hs l w yX4_boilsInAgain (kg_ws yX4_boilsInAgain cX4_boilsInAgain 4 (some .int)) { frames := 1, cells := 0, slots := 0, locals := 22 } [.ref (kgO hs 0), .int p1] I0 (f_X4_boilsInAgain p1 I0) := by
  refine sd_i (av := fun hs => [.ref (kgO hs 0), .int p1]) (by decide +kernel) (fun hs => Nat.le_of_ble_eq_true rfl) (fun X S hQ => ?_) hs l
  refine aw_sub (L2 := [(0, .ref (kgO (kgHs X) 0)), (1, .int p1)]) [0, 1] rfl ?_
  unfold f_X4_boilsInAgain
  refine aw_aload_n S 0 rfl dX4_boilsInAgain_0 rfl ?_
  refine aw_iload_n S 1 rfl dX4_boilsInAgain_1 rfl ?_
  refine aw_cVi S 0 [.int p1] vw_X4_isKettle cl_X4 (by decide) (by decide) tw_260 (s_X4_isKettle _ _ _ p1 I0) ⟨by decide, by decide⟩ rfl rfl (Nat.le_of_ble_eq_true rfl) rfl rfl (by decide) (by decide) dX4_boilsInAgain_2 (fun x1 I1 => ?_)
  refine aw_if_ne (y := 0) (tgt := 12) S dX4_boilsInAgain_5 (by decide) ?_ ?_
  · refine aw_iconst (v := (5 : Int32)) S dX4_boilsInAgain_12 (by decide) ?_
    refine aw_aload_n S 0 rfl dX4_boilsInAgain_13 rfl ?_
    refine aw_getR S 0 0 1 cl_X4 (by decide) (by decide) (by decide) (by decide) (by decide) rfl tw_225 dX4_boilsInAgain_14 ?_
    refine aw_iload_n S 1 rfl dX4_boilsInAgain_17 rfl ?_
    refine aw_cVi S 1 [.int p1] vw_X3_heatUnder cl_X3 (by decide) (by decide) tw_331 (s_X3_heatUnder _ _ _ p1 I1) ⟨by decide, by decide⟩ rfl rfl (Nat.le_of_ble_eq_true rfl) rfl rfl (by decide) (by decide) dX4_boilsInAgain_18 (fun x2 I2 => ?_)
    refine aw_imul S dX4_boilsInAgain_21 ?_
    refine aw_istore_n (L2 := [(0, .ref (kgO (kgHs X) 0)), (1, .int p1), (2, .int ((5 : Int32) * x2))]) S [1, 2, 0] dX4_boilsInAgain_22 rfl (by decide) rfl ?_
    refine aw_let (Lf := fun x3 => [(0, .ref (kgO (kgHs X) 0)), (1, .int p1), (2, .int x3)]) ((5 : Int32) * x2) (fun x3 => ?_)
    refine aw_iload_n S 2 rfl dX4_boilsInAgain_23 rfl ?_
    refine aw_if_gt (y := 0) (tgt := 31) S dX4_boilsInAgain_24 (by decide) ?_ ?_
    · refine aw_bipush (v := (100 : Int32)) S dX4_boilsInAgain_31 (by decide) ?_
      refine aw_aload_n S 0 rfl dX4_boilsInAgain_33 rfl ?_
      refine aw_getR S 0 0 1 cl_X4 (by decide) (by decide) (by decide) (by decide) (by decide) rfl tw_225 dX4_boilsInAgain_34 ?_
      refine aw_getR S 1 8 10 cl_X3 (by decide) (by decide) (by decide) (by decide) (by decide) rfl tw_74 dX4_boilsInAgain_37 ?_
      refine aw_iload_n S 1 rfl dX4_boilsInAgain_40 rfl ?_
      refine aw_iald S 10 10 (by decide) (by decide) dX4_boilsInAgain_41 ?_
      refine aw_isub S dX4_boilsInAgain_42 ?_
      refine aw_istore_n (L2 := [(0, .ref (kgO (kgHs X) 0)), (1, .int p1), (2, .int x3), (3, .int ((100 : Int32) - (I2 10 p1.toNatClampNeg)))]) S [1, 2, 3, 0] dX4_boilsInAgain_43 rfl (by decide) rfl ?_
      refine aw_let (Lf := fun x4 => [(0, .ref (kgO (kgHs X) 0)), (1, .int p1), (2, .int x3), (3, .int x4)]) ((100 : Int32) - (I2 10 p1.toNatClampNeg)) (fun x4 => ?_)
      refine aw_iload_n S 3 rfl dX4_boilsInAgain_44 rfl ?_
      refine aw_iload_n S 2 rfl dX4_boilsInAgain_45 rfl ?_
      refine aw_iadd S dX4_boilsInAgain_46 ?_
      refine aw_iconst (v := (1 : Int32)) S dX4_boilsInAgain_47 (by decide) ?_
      refine aw_isub S dX4_boilsInAgain_48 ?_
      refine aw_iload_n S 2 rfl dX4_boilsInAgain_49 rfl ?_
      refine aw_idiv S dX4_boilsInAgain_50 ?_
      exact aw_ret S hQ (vp_nar_int _) (by decide) (by decide) dX4_boilsInAgain_51
    refine aw_sipush (v := (-1015 : Int32)) S dX4_boilsInAgain_27 (by decide) ?_
    exact aw_ret S hQ (vp_nar_int _) (by decide) (by decide) dX4_boilsInAgain_30
  refine aw_sipush (v := (-1011 : Int32)) S dX4_boilsInAgain_8 (by decide) ?_
  exact aw_ret S hQ (vp_nar_int _) (by decide) (by decide) dX4_boilsInAgain_11
set_option maxHeartbeats 4000000 in
set_option maxRecDepth 100000 in
theorem s_X4_dryIn (hs : kgH) (l : Launch) (w : Option (Nat × Nat)) (p1 : Int32) (I0 : kgM) : Sdi hs l w yX4_dryIn (kg_ws yX4_dryIn cX4_dryIn 3 (some .int)) { frames := 2, cells := 0, slots := 0, locals := 46 } [.ref (kgO hs 0), .int p1] I0 (f_X4_dryIn p1 I0) := by
  refine sd_i (av := fun hs => [.ref (kgO hs 0), .int p1]) (by decide +kernel) (fun hs => Nat.le_of_ble_eq_true rfl) (fun X S hQ => ?_) hs l
  refine aw_sub (L2 := [(0, .ref (kgO (kgHs X) 0)), (1, .int p1)]) [0, 1] rfl ?_
  unfold f_X4_dryIn
  refine aw_aload_n S 0 rfl dX4_dryIn_0 rfl ?_
  refine aw_iload_n S 1 rfl dX4_dryIn_1 rfl ?_
  refine aw_cVi S 0 [.int p1] vw_X4_boilsIn cl_X4 (by decide) (by decide) tw_343 (s_X4_boilsIn _ _ _ p1 I0) ⟨by decide, by decide⟩ rfl rfl (Nat.le_of_ble_eq_true rfl) rfl rfl (by decide) (by decide) dX4_dryIn_2 (fun x1 I1 => ?_)
  refine aw_istore_n (L2 := [(0, .ref (kgO (kgHs X) 0)), (1, .int p1), (2, .int x1)]) S [1, 2, 0] dX4_dryIn_5 rfl (by decide) rfl ?_
  refine aw_iload_n S 2 rfl dX4_dryIn_6 rfl ?_
  refine aw_if_lt (y := 0) (tgt := 18) S dX4_dryIn_7 (by decide) ?_ ?_
  · refine aw_iload_n S 2 rfl dX4_dryIn_18 rfl ?_
    exact aw_ret S hQ (vp_nar_int _) (by decide) (by decide) dX4_dryIn_19
  refine aw_aload_n S 0 rfl dX4_dryIn_10 rfl ?_
  refine aw_iload_n S 1 rfl dX4_dryIn_11 rfl ?_
  refine aw_cVi S 0 [.int p1] vw_X4_isKettle cl_X4 (by decide) (by decide) tw_260 (s_X4_isKettle _ _ _ p1 I1) ⟨by decide, by decide⟩ rfl rfl (Nat.le_of_ble_eq_true rfl) rfl rfl (by decide) (by decide) dX4_dryIn_12 (fun x2 I2 => ?_)
  refine aw_if_ne (y := 0) (tgt := 20) S dX4_dryIn_15 (by decide) ?_ ?_
  · refine aw_iload_n S 2 rfl dX4_dryIn_20 rfl ?_
    refine aw_iconst (v := (1 : Int32)) S dX4_dryIn_21 (by decide) ?_
    refine aw_aload_n S 0 rfl dX4_dryIn_22 rfl ?_
    refine aw_getR S 0 0 1 cl_X4 (by decide) (by decide) (by decide) (by decide) (by decide) rfl tw_225 dX4_dryIn_23 ?_
    refine aw_getR S 1 7 9 cl_X3 (by decide) (by decide) (by decide) (by decide) (by decide) rfl tw_72 dX4_dryIn_26 ?_
    refine aw_iload_n S 1 rfl dX4_dryIn_29 rfl ?_
    refine aw_iald S 9 10 (by decide) (by decide) dX4_dryIn_30 ?_
    refine aw_cSi S [.int (1 : Int32), .int (I2 9 p1.toNatClampNeg)] vw_J9_max_7cf53 tw_344 (s_J9_max_7cf53 _ _ _ (1 : Int32) (I2 9 p1.toNatClampNeg) I2) ⟨by decide, by decide⟩ rfl rfl (Nat.le_of_ble_eq_true rfl) rfl rfl (by decide) (by decide) dX4_dryIn_31 (fun x3 I3 => ?_)
    refine aw_iadd S dX4_dryIn_34 ?_
    exact aw_ret S hQ (vp_nar_int _) (by decide) (by decide) dX4_dryIn_35
  refine aw_iload_n S 2 rfl dX4_dryIn_18 rfl ?_
  exact aw_ret S hQ (vp_nar_int _) (by decide) (by decide) dX4_dryIn_19
set_option maxHeartbeats 4000000 in
set_option maxRecDepth 100000 in
theorem s_X4_fitOf_L4 {X : kgCX (Int32 × kgM)} {w : Option (Nat × Nat)} (S : Cx X cX4_fitOf RX4 4 2 42 0 0) (hQ : Qxi X w .int) (a0 : Int32) (a1 : Int32) {K : Int32 → kgM → Option (Int32 × kgM)} (hK : ∀ (z2 : Int32) (J : kgM), AW X 4 0 0 w (K z2 J) 32 [(2, .int z2)] [] J) : ∀ (q : Nat) (x2h4 : Int32) (x3h4 : Int32) (Ih4 : kgM), AW X 4 0 0 w (f_X4_fitOf_L4 a0 a1 K q x2h4 x3h4 Ih4) 4 [(0, .int a0), (1, .int a1), (2, .int x2h4), (3, .int x3h4)] [] Ih4 := by
  intro q
  induction q with
  | zero => intros; exact aw_none
  | succ q ih =>
    intro x2h4 x3h4 Ih4
    rw [f_X4_fitOf_L4]
    refine aw_iload_n S 3 rfl dX4_fitOf_4 rfl ?_
    refine aw_bipush (v := (12 : Int32)) S dX4_fitOf_5 (by decide) ?_
    refine aw_icmp_gt (tgt := 32) S dX4_fitOf_7 (by decide) ?_ ?_
    · refine aw_sub (L2 := [(2, .int x2h4)]) [2] rfl ?_
      exact hK x2h4 Ih4
    refine aw_iload_n S 1 rfl dX4_fitOf_10 rfl ?_
    refine aw_iload_n S 3 rfl dX4_fitOf_11 rfl ?_
    refine aw_cSi S [.int a1, .int x3h4] vw_X4_isIn tw_310 (s_X4_isIn _ _ _ a1 x3h4 Ih4) ⟨by decide, by decide⟩ rfl rfl (Nat.le_of_ble_eq_true rfl) rfl rfl (by decide) (by decide) dX4_fitOf_12 (fun x1 I1 => ?_)
    refine aw_if_eq (y := 0) (tgt := 26) S dX4_fitOf_15 (by decide) ?_ ?_
    · refine aw_iinc (v := x3h4 + (1 : Int32)) (L2 := [(0, .int a0), (1, .int a1), (2, .int x2h4), (3, .int (x3h4 + (1 : Int32)))]) S [1, 2, 3, 0] 3 dX4_fitOf_26 rfl rfl (by decide) rfl ?_
      refine aw_let (Lf := fun x2 => [(0, .int a0), (1, .int a1), (2, .int x2h4), (3, .int x2)]) (x3h4 + (1 : Int32)) (fun x2 => ?_)
      refine aw_goto (tgt := 4) S dX4_fitOf_29 (by decide) ?_
      exact ih x2h4 x2 I1
    refine aw_iload_n S 2 rfl dX4_fitOf_18 rfl ?_
    refine aw_iload_n S 0 rfl dX4_fitOf_19 rfl ?_
    refine aw_iload_n S 3 rfl dX4_fitOf_20 rfl ?_
    refine aw_cSi S [.int a0, .int x3h4] vw_X4_soundOf tw_311 (s_X4_soundOf _ _ _ a0 x3h4 I1) ⟨by decide, by decide⟩ rfl rfl (Nat.le_of_ble_eq_true rfl) rfl rfl (by decide) (by decide) dX4_fitOf_21 (fun x3 I2 => ?_)
    refine aw_iadd S dX4_fitOf_24 ?_
    refine aw_istore_n (L2 := [(0, .int a0), (1, .int a1), (2, .int (x2h4 + x3)), (3, .int x3h4)]) S [1, 2, 0, 3] dX4_fitOf_25 rfl (by decide) rfl ?_
    refine aw_let (Lf := fun x4 => [(0, .int a0), (1, .int a1), (2, .int x4), (3, .int x3h4)]) (x2h4 + x3) (fun x4 => ?_)
    refine aw_iinc (v := x3h4 + (1 : Int32)) (L2 := [(0, .int a0), (1, .int a1), (2, .int x4), (3, .int (x3h4 + (1 : Int32)))]) S [1, 2, 3, 0] 3 dX4_fitOf_26 rfl rfl (by decide) rfl ?_
    refine aw_let (Lf := fun x5 => [(0, .int a0), (1, .int a1), (2, .int x4), (3, .int x5)]) (x3h4 + (1 : Int32)) (fun x5 => ?_)
    refine aw_goto (tgt := 4) S dX4_fitOf_29 (by decide) ?_
    exact ih x4 x5 I2
set_option maxHeartbeats 4000000 in
set_option maxRecDepth 100000 in
theorem s_X4_fitOf (hs : kgH) (l : Launch) (w : Option (Nat × Nat)) (p1 : Int32) (p2 : Int32) (I0 : kgM) : Sdi hs l w yX4_fitOf (kg_ws yX4_fitOf cX4_fitOf 4 (some .int)) { frames := 2, cells := 0, slots := 0, locals := 42 } [.int p1, .int p2] I0 (f_X4_fitOf p1 p2 I0) := by
  refine sd_i (av := fun hs => [.int p1, .int p2]) (by decide +kernel) (fun hs => Nat.le_of_ble_eq_true rfl) (fun X S hQ => ?_) hs l
  refine aw_sub (L2 := [(0, .int p1), (1, .int p2)]) [0, 1] rfl ?_
  unfold f_X4_fitOf
  refine aw_iconst (v := (0 : Int32)) S dX4_fitOf_0 (by decide) ?_
  refine aw_istore_n (L2 := [(0, .int p1), (1, .int p2), (2, .int (0 : Int32))]) S [1, 2, 0] dX4_fitOf_1 rfl (by decide) rfl ?_
  refine aw_iconst (v := (1 : Int32)) S dX4_fitOf_2 (by decide) ?_
  refine aw_istore_n (L2 := [(0, .int p1), (1, .int p2), (2, .int (0 : Int32)), (3, .int (1 : Int32))]) S [1, 2, 3, 0] dX4_fitOf_3 rfl (by decide) rfl ?_
  refine s_X4_fitOf_L4 S hQ p1 p2 (fun x6 I3 => ?_) 200 (0 : Int32) (1 : Int32) I0
  refine aw_iload_n S 0 rfl dX4_fitOf_32 rfl ?_
  exact aw_ret S hQ (vp_nar_int _) (by decide) (by decide) dX4_fitOf_33
set_option maxHeartbeats 4000000 in
set_option maxRecDepth 100000 in
theorem s_X4_bestPitch_L15 {X : kgCX (Int32 × kgM)} {w : Option (Nat × Nat)} (S : Cx X cX4_bestPitch RX4 6 4 88 0 0) (hQ : Qxi X w .int) (a1 : Int32) {K : Int32 → kgM → Option (Int32 × kgM)} (hK : ∀ (z2 : Int32) (J : kgM), AW X 6 0 0 w (K z2 J) 62 [(2, .int z2)] [] J) : ∀ (q : Nat) (x2h15 : Int32) (x3h15 : Int32) (x4h15 : Int32) (Ih15 : kgM), AW X 6 0 0 w (f_X4_bestPitch_L15 a1 K q x2h15 x3h15 x4h15 Ih15) 15 [(1, .int a1), (2, .int x2h15), (3, .int x3h15), (4, .int x4h15)] [] Ih15 := by
  intro q
  induction q with
  | zero => intros; exact aw_none
  | succ q ih =>
    intro x2h15 x3h15 x4h15 Ih15
    rw [f_X4_bestPitch_L15]
    refine aw_iload S 3 rfl dX4_bestPitch_15 ?_
    refine aw_bipush (v := (12 : Int32)) S dX4_bestPitch_17 (by decide) ?_
    refine aw_icmp_gt (tgt := 62) S dX4_bestPitch_19 (by decide) ?_ ?_
    · refine aw_sub (L2 := [(2, .int x2h15)]) [1] rfl ?_
      exact hK x2h15 Ih15
    refine aw_iload S 3 rfl dX4_bestPitch_22 ?_
    refine aw_iload_n S 0 rfl dX4_bestPitch_24 rfl ?_
    refine aw_cSi S [.int x4h15, .int a1] vw_X4_fitOf tw_351 (s_X4_fitOf _ _ _ x4h15 a1 Ih15) ⟨by decide, by decide⟩ rfl rfl (Nat.le_of_ble_eq_true rfl) rfl rfl (by decide) (by decide) dX4_bestPitch_25 (fun x2 I2 => ?_)
    refine aw_istore (L2 := [(1, .int a1), (2, .int x2h15), (3, .int x3h15), (4, .int x4h15), (5, .int x2)]) S [1, 2, 3, 4, 0] dX4_bestPitch_28 (by decide) rfl ?_
    refine aw_iload_n S 0 rfl dX4_bestPitch_30 rfl ?_
    refine aw_iload S 3 rfl dX4_bestPitch_31 ?_
    refine aw_cSi S [.int a1, .int x4h15] vw_X4_isIn tw_310 (s_X4_isIn _ _ _ a1 x4h15 I2) ⟨by decide, by decide⟩ rfl rfl (Nat.le_of_ble_eq_true rfl) rfl rfl (by decide) (by decide) dX4_bestPitch_33 (fun x3 I3 => ?_)
    refine aw_if_ne (y := 0) (tgt := 56) S dX4_bestPitch_36 (by decide) ?_ ?_
    · refine aw_iinc (v := x4h15 + (1 : Int32)) (L2 := [(1, .int a1), (2, .int x2h15), (3, .int x3h15), (4, .int (x4h15 + (1 : Int32))), (5, .int x2)]) S [1, 2, 3, 0, 4] 3 dX4_bestPitch_56 rfl rfl (by decide) rfl ?_
      refine aw_let (Lf := fun x4 => [(1, .int a1), (2, .int x2h15), (3, .int x3h15), (4, .int x4), (5, .int x2)]) (x4h15 + (1 : Int32)) (fun x4 => ?_)
      refine aw_goto (tgt := 15) S dX4_bestPitch_59 (by decide) ?_
      refine aw_sub (L2 := [(1, .int a1), (2, .int x2h15), (3, .int x3h15), (4, .int x4)]) [0, 1, 2, 3] rfl ?_
      exact ih x2h15 x3h15 x4 I3
    refine aw_iload_n S 1 rfl dX4_bestPitch_39 rfl ?_
    refine aw_iconst (v := (-1 : Int32)) S dX4_bestPitch_40 (by decide) ?_
    refine aw_icmp_eq (tgt := 50) S dX4_bestPitch_41 (by decide) ?_ ?_
    · refine aw_iload S 3 rfl dX4_bestPitch_50 ?_
      refine aw_istore_n (L2 := [(1, .int a1), (2, .int x4h15), (3, .int x3h15), (4, .int x4h15), (5, .int x2)]) S [1, 0, 2, 3, 4] dX4_bestPitch_52 rfl (by decide) rfl ?_
      refine aw_iload S 4 rfl dX4_bestPitch_53 ?_
      refine aw_istore_n (L2 := [(1, .int a1), (2, .int x4h15), (3, .int x2), (4, .int x4h15), (5, .int x2)]) S [1, 2, 0, 3, 4] dX4_bestPitch_55 rfl (by decide) rfl ?_
      refine aw_iinc (v := x4h15 + (1 : Int32)) (L2 := [(1, .int a1), (2, .int x4h15), (3, .int x2), (4, .int (x4h15 + (1 : Int32))), (5, .int x2)]) S [1, 2, 3, 0, 4] 3 dX4_bestPitch_56 rfl rfl (by decide) rfl ?_
      refine aw_let (Lf := fun x5 => [(1, .int a1), (2, .int x4h15), (3, .int x2), (4, .int x5), (5, .int x2)]) (x4h15 + (1 : Int32)) (fun x5 => ?_)
      refine aw_goto (tgt := 15) S dX4_bestPitch_59 (by decide) ?_
      refine aw_sub (L2 := [(1, .int a1), (2, .int x4h15), (3, .int x2), (4, .int x5)]) [0, 1, 2, 3] rfl ?_
      exact ih x4h15 x2 x5 I3
    refine aw_iload S 4 rfl dX4_bestPitch_44 ?_
    refine aw_iload_n S 2 rfl dX4_bestPitch_46 rfl ?_
    refine aw_icmp_le (tgt := 56) S dX4_bestPitch_47 (by decide) ?_ ?_
    · refine aw_iinc (v := x4h15 + (1 : Int32)) (L2 := [(1, .int a1), (2, .int x2h15), (3, .int x3h15), (4, .int (x4h15 + (1 : Int32))), (5, .int x2)]) S [1, 2, 3, 0, 4] 3 dX4_bestPitch_56 rfl rfl (by decide) rfl ?_
      refine aw_let (Lf := fun x6 => [(1, .int a1), (2, .int x2h15), (3, .int x3h15), (4, .int x6), (5, .int x2)]) (x4h15 + (1 : Int32)) (fun x6 => ?_)
      refine aw_goto (tgt := 15) S dX4_bestPitch_59 (by decide) ?_
      refine aw_sub (L2 := [(1, .int a1), (2, .int x2h15), (3, .int x3h15), (4, .int x6)]) [0, 1, 2, 3] rfl ?_
      exact ih x2h15 x3h15 x6 I3
    refine aw_iload S 3 rfl dX4_bestPitch_50 ?_
    refine aw_istore_n (L2 := [(1, .int a1), (2, .int x4h15), (3, .int x3h15), (4, .int x4h15), (5, .int x2)]) S [1, 0, 2, 3, 4] dX4_bestPitch_52 rfl (by decide) rfl ?_
    refine aw_iload S 4 rfl dX4_bestPitch_53 ?_
    refine aw_istore_n (L2 := [(1, .int a1), (2, .int x4h15), (3, .int x2), (4, .int x4h15), (5, .int x2)]) S [1, 2, 0, 3, 4] dX4_bestPitch_55 rfl (by decide) rfl ?_
    refine aw_iinc (v := x4h15 + (1 : Int32)) (L2 := [(1, .int a1), (2, .int x4h15), (3, .int x2), (4, .int (x4h15 + (1 : Int32))), (5, .int x2)]) S [1, 2, 3, 0, 4] 3 dX4_bestPitch_56 rfl rfl (by decide) rfl ?_
    refine aw_let (Lf := fun x7 => [(1, .int a1), (2, .int x4h15), (3, .int x2), (4, .int x7), (5, .int x2)]) (x4h15 + (1 : Int32)) (fun x7 => ?_)
    refine aw_goto (tgt := 15) S dX4_bestPitch_59 (by decide) ?_
    refine aw_sub (L2 := [(1, .int a1), (2, .int x4h15), (3, .int x2), (4, .int x7)]) [0, 1, 2, 3] rfl ?_
    exact ih x4h15 x2 x7 I3
set_option maxHeartbeats 4000000 in
set_option maxRecDepth 100000 in
theorem s_X4_bestPitch (hs : kgH) (l : Launch) (w : Option (Nat × Nat))  (I0 : kgM) : Sdi hs l w yX4_bestPitch (kg_ws yX4_bestPitch cX4_bestPitch 6 (some .int)) { frames := 4, cells := 0, slots := 0, locals := 88 } [.ref (kgO hs 0)] I0 (f_X4_bestPitch I0) := by
  refine sd_i (av := fun hs => [.ref (kgO hs 0)]) (by decide +kernel) (fun hs => Nat.le_of_ble_eq_true rfl) (fun X S hQ => ?_) hs l
  refine aw_sub (L2 := [(0, .ref (kgO (kgHs X) 0))]) [0] rfl ?_
  unfold f_X4_bestPitch
  refine aw_aload_n S 0 rfl dX4_bestPitch_0 rfl ?_
  refine aw_getR S 0 0 1 cl_X4 (by decide) (by decide) (by decide) (by decide) (by decide) rfl tw_225 dX4_bestPitch_1 ?_
  refine aw_cVi S 1 [] vw_X3_whistledPitches cl_X3 (by decide) (by decide) tw_323 (s_X3_whistledPitches _ _ _ I0) ⟨by decide, by decide⟩ rfl rfl (Nat.le_of_ble_eq_true rfl) rfl rfl (by decide) (by decide) dX4_bestPitch_4 (fun x1 I1 => ?_)
  refine aw_istore_n (L2 := [(0, .ref (kgO (kgHs X) 0)), (1, .int x1)]) S [1, 0] dX4_bestPitch_7 rfl (by decide) rfl ?_
  refine aw_iconst (v := (-1 : Int32)) S dX4_bestPitch_8 (by decide) ?_
  refine aw_istore_n (L2 := [(0, .ref (kgO (kgHs X) 0)), (1, .int x1), (2, .int (-1 : Int32))]) S [1, 2, 0] dX4_bestPitch_9 rfl (by decide) rfl ?_
  refine aw_iconst (v := (0 : Int32)) S dX4_bestPitch_10 (by decide) ?_
  refine aw_istore_n (L2 := [(0, .ref (kgO (kgHs X) 0)), (1, .int x1), (2, .int (-1 : Int32)), (3, .int (0 : Int32))]) S [1, 2, 3, 0] dX4_bestPitch_11 rfl (by decide) rfl ?_
  refine aw_iconst (v := (1 : Int32)) S dX4_bestPitch_12 (by decide) ?_
  refine aw_istore (L2 := [(0, .ref (kgO (kgHs X) 0)), (1, .int x1), (2, .int (-1 : Int32)), (3, .int (0 : Int32)), (4, .int (1 : Int32))]) S [1, 2, 3, 4, 0] dX4_bestPitch_13 (by decide) rfl ?_
  refine aw_sub (L2 := [(1, .int x1), (2, .int (-1 : Int32)), (3, .int (0 : Int32)), (4, .int (1 : Int32))]) [1, 2, 3, 4] rfl ?_
  refine s_X4_bestPitch_L15 S hQ x1 (fun x8 I4 => ?_) 200 (-1 : Int32) (0 : Int32) (1 : Int32) I1
  refine aw_iload_n S 0 rfl dX4_bestPitch_62 rfl ?_
  exact aw_ret S hQ (vp_nar_int _) (by decide) (by decide) dX4_bestPitch_63
set_option maxHeartbeats 4000000 in
set_option maxRecDepth 100000 in
theorem s_X4_memberOf (hs : kgH) (l : Launch) (w : Option (Nat × Nat)) (p1 : Int32) (p2 : Int32) (I0 : kgM) : Sdi hs l w yX4_memberOf (kg_ws yX4_memberOf cX4_memberOf 3 (some .int)) { frames := 4, cells := 0, slots := 0, locals := 89 } [.ref (kgO hs 0), .int p1, .int p2] I0 (f_X4_memberOf p1 p2 I0) := by
  refine sd_i (av := fun hs => [.ref (kgO hs 0), .int p1, .int p2]) (by decide +kernel) (fun hs => Nat.le_of_ble_eq_true rfl) (fun X S hQ => ?_) hs l
  refine aw_sub (L2 := [(0, .ref (kgO (kgHs X) 0)), (1, .int p1), (2, .int p2)]) [0, 1, 2] rfl ?_
  unfold f_X4_memberOf
  refine aw_iload_n S 1 rfl dX4_memberOf_0 rfl ?_
  refine aw_cSi S [.int p1] vw_X4_isMember tw_358 (s_X4_isMember _ _ _ p1 I0) ⟨by decide, by decide⟩ rfl rfl (Nat.le_of_ble_eq_true rfl) rfl rfl (by decide) (by decide) dX4_memberOf_1 (fun x1 I1 => ?_)
  refine aw_if_ne (y := 0) (tgt := 11) S dX4_memberOf_4 (by decide) ?_ ?_
  · refine aw_iload_n S 2 rfl dX4_memberOf_11 rfl ?_
    refine aw_tableAt (tgt := 52) S 0 dX4_memberOf_12 (by decide) (by decide) rfl (by decide) ?_ (fun n_0 => ?_)
    · refine aw_aload_n S 0 rfl dX4_memberOf_52 rfl ?_
      refine aw_getR S 0 0 1 cl_X4 (by decide) (by decide) (by decide) (by decide) (by decide) rfl tw_225 dX4_memberOf_53 ?_
      refine aw_getR S 1 1 3 cl_X3 (by decide) (by decide) (by decide) (by decide) (by decide) rfl tw_60 dX4_memberOf_56 ?_
      refine aw_iload_n S 1 rfl dX4_memberOf_59 rfl ?_
      refine aw_iald S 3 4 (by decide) (by decide) dX4_memberOf_60 ?_
      exact aw_ret S hQ (vp_nar_int _) (by decide) (by decide) dX4_memberOf_61
    refine aw_tableAt (tgt := 62) S 1 dX4_memberOf_12 (by decide) (by decide) rfl (by decide) ?_ (fun n_1 => ?_)
    · refine aw_aload_n S 0 rfl dX4_memberOf_62 rfl ?_
      refine aw_getR S 0 0 1 cl_X4 (by decide) (by decide) (by decide) (by decide) (by decide) rfl tw_225 dX4_memberOf_63 ?_
      refine aw_iload_n S 1 rfl dX4_memberOf_66 rfl ?_
      refine aw_cVi S 1 [.int p1] vw_X3_countPitchesOf cl_X3 (by decide) (by decide) tw_361 (s_X3_countPitchesOf _ _ _ p1 I1) ⟨by decide, by decide⟩ rfl rfl (Nat.le_of_ble_eq_true rfl) rfl rfl (by decide) (by decide) dX4_memberOf_67 (fun x2 I2 => ?_)
      exact aw_ret S hQ (vp_nar_int _) (by decide) (by decide) dX4_memberOf_70
    refine aw_tableAt (tgt := 71) S 2 dX4_memberOf_12 (by decide) (by decide) rfl (by decide) ?_ (fun n_2 => ?_)
    · refine aw_aload_n S 0 rfl dX4_memberOf_71 rfl ?_
      refine aw_getR S 0 0 1 cl_X4 (by decide) (by decide) (by decide) (by decide) (by decide) rfl tw_225 dX4_memberOf_72 ?_
      refine aw_iload_n S 1 rfl dX4_memberOf_75 rfl ?_
      refine aw_cVi S 1 [.int p1] vw_X3_countKettlesOf cl_X3 (by decide) (by decide) tw_365 (s_X3_countKettlesOf _ _ _ p1 I1) ⟨by decide, by decide⟩ rfl rfl (Nat.le_of_ble_eq_true rfl) rfl rfl (by decide) (by decide) dX4_memberOf_76 (fun x3 I3 => ?_)
      exact aw_ret S hQ (vp_nar_int _) (by decide) (by decide) dX4_memberOf_79
    refine aw_tableAt (tgt := 80) S 3 dX4_memberOf_12 (by decide) (by decide) rfl (by decide) ?_ (fun n_3 => ?_)
    · refine aw_aload_n S 0 rfl dX4_memberOf_80 rfl ?_
      refine aw_getR S 0 0 1 cl_X4 (by decide) (by decide) (by decide) (by decide) (by decide) rfl tw_225 dX4_memberOf_81 ?_
      refine aw_iload_n S 1 rfl dX4_memberOf_84 rfl ?_
      refine aw_cVi S 1 [.int p1] vw_X3_countWhistlersOf cl_X3 (by decide) (by decide) tw_369 (s_X3_countWhistlersOf _ _ _ p1 I1) ⟨by decide, by decide⟩ rfl rfl (Nat.le_of_ble_eq_true rfl) rfl rfl (by decide) (by decide) dX4_memberOf_85 (fun x4 I4 => ?_)
      exact aw_ret S hQ (vp_nar_int _) (by decide) (by decide) dX4_memberOf_88
    refine aw_tableAt (tgt := 89) S 4 dX4_memberOf_12 (by decide) (by decide) rfl (by decide) ?_ (fun n_4 => ?_)
    · refine aw_aload_n S 0 rfl dX4_memberOf_89 rfl ?_
      refine aw_getR S 0 0 1 cl_X4 (by decide) (by decide) (by decide) (by decide) (by decide) rfl tw_225 dX4_memberOf_90 ?_
      refine aw_getR S 1 2 4 cl_X3 (by decide) (by decide) (by decide) (by decide) (by decide) rfl tw_62 dX4_memberOf_93 ?_
      refine aw_iload_n S 1 rfl dX4_memberOf_96 rfl ?_
      refine aw_iald S 4 4 (by decide) (by decide) dX4_memberOf_97 ?_
      exact aw_ret S hQ (vp_nar_int _) (by decide) (by decide) dX4_memberOf_98
    refine aw_tableAt (tgt := 99) S 5 dX4_memberOf_12 (by decide) (by decide) rfl (by decide) ?_ (fun n_5 => ?_)
    · refine aw_aload_n S 0 rfl dX4_memberOf_99 rfl ?_
      refine aw_getR S 0 0 1 cl_X4 (by decide) (by decide) (by decide) (by decide) (by decide) rfl tw_225 dX4_memberOf_100 ?_
      refine aw_getR S 1 3 5 cl_X3 (by decide) (by decide) (by decide) (by decide) (by decide) rfl tw_64 dX4_memberOf_103 ?_
      refine aw_iload_n S 1 rfl dX4_memberOf_106 rfl ?_
      refine aw_iald S 5 4 (by decide) (by decide) dX4_memberOf_107 ?_
      exact aw_ret S hQ (vp_nar_int _) (by decide) (by decide) dX4_memberOf_108
    refine aw_tableD (tgt := 109) S [0, 1, 2, 3, 4, 5] dX4_memberOf_12 (by decide) (by decide) (by intro v hv; simp only [List.mem_cons, List.not_mem_nil, or_false] at hv; rcases hv with rfl | rfl | rfl | rfl | rfl | rfl <;> assumption) (by decide) ?_
    refine aw_sipush (v := (-1012 : Int32)) S dX4_memberOf_109 (by decide) ?_
    exact aw_ret S hQ (vp_nar_int _) (by decide) (by decide) dX4_memberOf_112
  refine aw_sipush (v := (-1011 : Int32)) S dX4_memberOf_7 (by decide) ?_
  exact aw_ret S hQ (vp_nar_int _) (by decide) (by decide) dX4_memberOf_10
set_option maxHeartbeats 4000000 in
set_option maxRecDepth 100000 in
theorem s_J6_compare_7cf53 (hs : kgH) (l : Launch) (w : Option (Nat × Nat)) (p1 : Int32) (p2 : Int32) (I0 : kgM) : Sdi hs l w yJ6_compare_7cf53 (kg_ws yJ6_compare_7cf53 cJ6_compare_7cf53 2 (some .int)) { frames := 0, cells := 0, slots := 0, locals := 0 } [.int p1, .int p2] I0 (f_J6_compare_7cf53 p1 p2 I0) := by
  refine sd_i (av := fun hs => [.int p1, .int p2]) (by decide +kernel) (fun hs => Nat.le_of_ble_eq_true rfl) (fun X S hQ => ?_) hs l
  refine aw_sub (L2 := [(0, .int p1), (1, .int p2)]) [0, 1] rfl ?_
  unfold f_J6_compare_7cf53
  refine aw_iload_n S 0 rfl dJ6_compare_7cf53_0 rfl ?_
  refine aw_iload_n S 1 rfl dJ6_compare_7cf53_1 rfl ?_
  refine aw_icmp_ge (tgt := 9) S dJ6_compare_7cf53_2 (by decide) ?_ ?_
  · refine aw_iload_n S 0 rfl dJ6_compare_7cf53_9 rfl ?_
    refine aw_iload_n S 1 rfl dJ6_compare_7cf53_10 rfl ?_
    refine aw_icmp_ne (tgt := 18) S dJ6_compare_7cf53_11 (by decide) ?_ ?_
    · refine aw_iconst (v := (1 : Int32)) S dJ6_compare_7cf53_18 (by decide) ?_
      exact aw_ret S hQ (vp_nar_int _) (by decide) (by decide) dJ6_compare_7cf53_19
    refine aw_iconst (v := (0 : Int32)) S dJ6_compare_7cf53_14 (by decide) ?_
    refine aw_goto (tgt := 19) S dJ6_compare_7cf53_15 (by decide) ?_
    exact aw_ret S hQ (vp_nar_int _) (by decide) (by decide) dJ6_compare_7cf53_19
  refine aw_iconst (v := (-1 : Int32)) S dJ6_compare_7cf53_5 (by decide) ?_
  refine aw_goto (tgt := 19) S dJ6_compare_7cf53_6 (by decide) ?_
  exact aw_ret S hQ (vp_nar_int _) (by decide) (by decide) dJ6_compare_7cf53_19
set_option maxHeartbeats 4000000 in
set_option maxRecDepth 100000 in
theorem s_X4_isMemberAhead (hs : kgH) (l : Launch) (w : Option (Nat × Nat)) (p1 : Int32) (p2 : Int32) (I0 : kgM) : Sdi hs l w yX4_isMemberAhead (kg_ws yX4_isMemberAhead cX4_isMemberAhead 5 (some .boolean)) { frames := 1, cells := 0, slots := 0, locals := 23 } [.ref (kgO hs 0), .int p1, .int p2] I0 (f_X4_isMemberAhead p1 p2 I0) := by
  refine sd_i (av := fun hs => [.ref (kgO hs 0), .int p1, .int p2]) (by decide +kernel) (fun hs => Nat.le_of_ble_eq_true rfl) (fun X S hQ => ?_) hs l
  refine aw_sub (L2 := [(0, .ref (kgO (kgHs X) 0)), (1, .int p1), (2, .int p2)]) [0, 1, 2] rfl ?_
  unfold f_X4_isMemberAhead
  refine aw_aload_n S 0 rfl dX4_isMemberAhead_0 rfl ?_
  refine aw_getR S 0 0 1 cl_X4 (by decide) (by decide) (by decide) (by decide) (by decide) rfl tw_225 dX4_isMemberAhead_1 ?_
  refine aw_getR S 1 1 3 cl_X3 (by decide) (by decide) (by decide) (by decide) (by decide) rfl tw_60 dX4_isMemberAhead_4 ?_
  refine aw_iload_n S 1 rfl dX4_isMemberAhead_7 rfl ?_
  refine aw_iald S 3 4 (by decide) (by decide) dX4_isMemberAhead_8 ?_
  refine aw_aload_n S 0 rfl dX4_isMemberAhead_9 rfl ?_
  refine aw_getR S 0 0 1 cl_X4 (by decide) (by decide) (by decide) (by decide) (by decide) rfl tw_225 dX4_isMemberAhead_10 ?_
  refine aw_getR S 1 1 3 cl_X3 (by decide) (by decide) (by decide) (by decide) (by decide) rfl tw_60 dX4_isMemberAhead_13 ?_
  refine aw_iload_n S 2 rfl dX4_isMemberAhead_16 rfl ?_
  refine aw_iald S 3 4 (by decide) (by decide) dX4_isMemberAhead_17 ?_
  refine aw_cSi S [.int (I0 3 p1.toNatClampNeg), .int (I0 3 p2.toNatClampNeg)] vw_J6_compare_7cf53 tw_385 (s_J6_compare_7cf53 _ _ _ (I0 3 p1.toNatClampNeg) (I0 3 p2.toNatClampNeg) I0) ⟨by decide, by decide⟩ rfl rfl (Nat.le_of_ble_eq_true rfl) rfl rfl (by decide) (by decide) dX4_isMemberAhead_18 (fun x1 I1 => ?_)
  refine aw_istore_n (L2 := [(0, .ref (kgO (kgHs X) 0)), (1, .int p1), (2, .int p2), (3, .int x1)]) S [1, 2, 3, 0] dX4_isMemberAhead_21 rfl (by decide) rfl ?_
  refine aw_iload_n S 3 rfl dX4_isMemberAhead_22 rfl ?_
  refine aw_if_eq (y := 0) (tgt := 36) S dX4_isMemberAhead_23 (by decide) ?_ ?_
  · refine aw_aload_n S 0 rfl dX4_isMemberAhead_36 rfl ?_
    refine aw_getR S 0 0 1 cl_X4 (by decide) (by decide) (by decide) (by decide) (by decide) rfl tw_225 dX4_isMemberAhead_37 ?_
    refine aw_iload_n S 1 rfl dX4_isMemberAhead_40 rfl ?_
    refine aw_cVi S 1 [.int p1] vw_X3_countPitchesOf cl_X3 (by decide) (by decide) tw_361 (s_X3_countPitchesOf _ _ _ p1 I1) ⟨by decide, by decide⟩ rfl rfl (Nat.le_of_ble_eq_true rfl) rfl rfl (by decide) (by decide) dX4_isMemberAhead_41 (fun x2 I2 => ?_)
    refine aw_aload_n S 0 rfl dX4_isMemberAhead_44 rfl ?_
    refine aw_getR S 0 0 1 cl_X4 (by decide) (by decide) (by decide) (by decide) (by decide) rfl tw_225 dX4_isMemberAhead_45 ?_
    refine aw_iload_n S 2 rfl dX4_isMemberAhead_48 rfl ?_
    refine aw_cVi S 1 [.int p2] vw_X3_countPitchesOf cl_X3 (by decide) (by decide) tw_361 (s_X3_countPitchesOf _ _ _ p2 I2) ⟨by decide, by decide⟩ rfl rfl (Nat.le_of_ble_eq_true rfl) rfl rfl (by decide) (by decide) dX4_isMemberAhead_49 (fun x3 I3 => ?_)
    refine aw_cSi S [.int x2, .int x3] vw_J6_compare_7cf53 tw_385 (s_J6_compare_7cf53 _ _ _ x2 x3 I3) ⟨by decide, by decide⟩ rfl rfl (Nat.le_of_ble_eq_true rfl) rfl rfl (by decide) (by decide) dX4_isMemberAhead_52 (fun x4 I4 => ?_)
    refine aw_istore (L2 := [(0, .ref (kgO (kgHs X) 0)), (1, .int p1), (2, .int p2), (3, .int x1), (4, .int x4)]) S [1, 2, 3, 4, 0] dX4_isMemberAhead_55 (by decide) rfl ?_
    refine aw_iload S 4 rfl dX4_isMemberAhead_57 ?_
    refine aw_if_eq (y := 0) (tgt := 75) S dX4_isMemberAhead_59 (by decide) ?_ ?_
    · refine aw_iload_n S 1 rfl dX4_isMemberAhead_75 rfl ?_
      refine aw_iload_n S 2 rfl dX4_isMemberAhead_76 rfl ?_
      refine aw_icmp_ge (tgt := 84) S dX4_isMemberAhead_77 (by decide) ?_ ?_
      · refine aw_iconst (v := (0 : Int32)) S dX4_isMemberAhead_84 (by decide) ?_
        exact aw_ret S hQ rfl (by decide) (by decide) dX4_isMemberAhead_85
      refine aw_iconst (v := (1 : Int32)) S dX4_isMemberAhead_80 (by decide) ?_
      refine aw_goto (tgt := 85) S dX4_isMemberAhead_81 (by decide) ?_
      exact aw_ret S hQ rfl (by decide) (by decide) dX4_isMemberAhead_85
    refine aw_iload S 4 rfl dX4_isMemberAhead_62 ?_
    refine aw_if_le (y := 0) (tgt := 71) S dX4_isMemberAhead_64 (by decide) ?_ ?_
    · refine aw_iconst (v := (0 : Int32)) S dX4_isMemberAhead_71 (by decide) ?_
      refine aw_goto (tgt := 85) S dX4_isMemberAhead_72 (by decide) ?_
      exact aw_ret S hQ rfl (by decide) (by decide) dX4_isMemberAhead_85
    refine aw_iconst (v := (1 : Int32)) S dX4_isMemberAhead_67 (by decide) ?_
    refine aw_goto (tgt := 85) S dX4_isMemberAhead_68 (by decide) ?_
    exact aw_ret S hQ rfl (by decide) (by decide) dX4_isMemberAhead_85
  refine aw_iload_n S 3 rfl dX4_isMemberAhead_26 rfl ?_
  refine aw_if_le (y := 0) (tgt := 34) S dX4_isMemberAhead_27 (by decide) ?_ ?_
  · refine aw_iconst (v := (0 : Int32)) S dX4_isMemberAhead_34 (by decide) ?_
    exact aw_ret S hQ rfl (by decide) (by decide) dX4_isMemberAhead_35
  refine aw_iconst (v := (1 : Int32)) S dX4_isMemberAhead_30 (by decide) ?_
  refine aw_goto (tgt := 35) S dX4_isMemberAhead_31 (by decide) ?_
  exact aw_ret S hQ rfl (by decide) (by decide) dX4_isMemberAhead_35
set_option maxHeartbeats 4000000 in
set_option maxRecDepth 100000 in
theorem s_X4_countAheadOfMember_L4 {X : kgCX (Int32 × kgM)} {w : Option (Nat × Nat)} (S : Cx X cX4_countAheadOfMember RX4 4 2 47 0 0) (hQ : Qxi X w .int) (a1 : Int32) {K : Int32 → kgM → Option (Int32 × kgM)} (hK : ∀ (z2 : Int32) (J : kgM), AW X 4 0 0 w (K z2 J) 27 [(2, .int z2)] [] J) : ∀ (q : Nat) (x2h4 : Int32) (x3h4 : Int32) (Ih4 : kgM), AW X 4 0 0 w (f_X4_countAheadOfMember_L4 a1 K q x2h4 x3h4 Ih4) 4 [(0, .ref (kgO (kgHs X) 0)), (1, .int a1), (2, .int x2h4), (3, .int x3h4)] [] Ih4 := by
  intro q
  induction q with
  | zero => intros; exact aw_none
  | succ q ih =>
    intro x2h4 x3h4 Ih4
    rw [f_X4_countAheadOfMember_L4]
    refine aw_iload_n S 3 rfl dX4_countAheadOfMember_4 rfl ?_
    refine aw_iconst (v := (4 : Int32)) S dX4_countAheadOfMember_5 (by decide) ?_
    refine aw_icmp_ge (tgt := 27) S dX4_countAheadOfMember_6 (by decide) ?_ ?_
    · refine aw_sub (L2 := [(2, .int x2h4)]) [2] rfl ?_
      exact hK x2h4 Ih4
    refine aw_aload_n S 0 rfl dX4_countAheadOfMember_9 rfl ?_
    refine aw_iload_n S 3 rfl dX4_countAheadOfMember_10 rfl ?_
    refine aw_iload_n S 1 rfl dX4_countAheadOfMember_11 rfl ?_
    refine aw_cVi S 0 [.int x3h4, .int a1] vw_X4_isMemberAhead cl_X4 (by decide) (by decide) tw_381 (s_X4_isMemberAhead _ _ _ x3h4 a1 Ih4) ⟨by decide, by decide⟩ rfl rfl (Nat.le_of_ble_eq_true rfl) rfl rfl (by decide) (by decide) dX4_countAheadOfMember_12 (fun x1 I1 => ?_)
    refine aw_if_eq (y := 0) (tgt := 21) S dX4_countAheadOfMember_15 (by decide) ?_ ?_
    · refine aw_iinc (v := x3h4 + (1 : Int32)) (L2 := [(0, .ref (kgO (kgHs X) 0)), (1, .int a1), (2, .int x2h4), (3, .int (x3h4 + (1 : Int32)))]) S [1, 2, 3, 0] 3 dX4_countAheadOfMember_21 rfl rfl (by decide) rfl ?_
      refine aw_let (Lf := fun x2 => [(0, .ref (kgO (kgHs X) 0)), (1, .int a1), (2, .int x2h4), (3, .int x2)]) (x3h4 + (1 : Int32)) (fun x2 => ?_)
      refine aw_goto (tgt := 4) S dX4_countAheadOfMember_24 (by decide) ?_
      exact ih x2h4 x2 I1
    refine aw_iinc (v := x2h4 + (1 : Int32)) (L2 := [(0, .ref (kgO (kgHs X) 0)), (1, .int a1), (2, .int (x2h4 + (1 : Int32))), (3, .int x3h4)]) S [1, 2, 0, 3] 2 dX4_countAheadOfMember_18 rfl rfl (by decide) rfl ?_
    refine aw_let (Lf := fun x3 => [(0, .ref (kgO (kgHs X) 0)), (1, .int a1), (2, .int x3), (3, .int x3h4)]) (x2h4 + (1 : Int32)) (fun x3 => ?_)
    refine aw_iinc (v := x3h4 + (1 : Int32)) (L2 := [(0, .ref (kgO (kgHs X) 0)), (1, .int a1), (2, .int x3), (3, .int (x3h4 + (1 : Int32)))]) S [1, 2, 3, 0] 3 dX4_countAheadOfMember_21 rfl rfl (by decide) rfl ?_
    refine aw_let (Lf := fun x4 => [(0, .ref (kgO (kgHs X) 0)), (1, .int a1), (2, .int x3), (3, .int x4)]) (x3h4 + (1 : Int32)) (fun x4 => ?_)
    refine aw_goto (tgt := 4) S dX4_countAheadOfMember_24 (by decide) ?_
    exact ih x3 x4 I1
set_option maxHeartbeats 4000000 in
set_option maxRecDepth 100000 in
theorem s_X4_countAheadOfMember (hs : kgH) (l : Launch) (w : Option (Nat × Nat)) (p1 : Int32) (I0 : kgM) : Sdi hs l w yX4_countAheadOfMember (kg_ws yX4_countAheadOfMember cX4_countAheadOfMember 4 (some .int)) { frames := 2, cells := 0, slots := 0, locals := 47 } [.ref (kgO hs 0), .int p1] I0 (f_X4_countAheadOfMember p1 I0) := by
  refine sd_i (av := fun hs => [.ref (kgO hs 0), .int p1]) (by decide +kernel) (fun hs => Nat.le_of_ble_eq_true rfl) (fun X S hQ => ?_) hs l
  refine aw_sub (L2 := [(0, .ref (kgO (kgHs X) 0)), (1, .int p1)]) [0, 1] rfl ?_
  unfold f_X4_countAheadOfMember
  refine aw_iconst (v := (0 : Int32)) S dX4_countAheadOfMember_0 (by decide) ?_
  refine aw_istore_n (L2 := [(0, .ref (kgO (kgHs X) 0)), (1, .int p1), (2, .int (0 : Int32))]) S [1, 2, 0] dX4_countAheadOfMember_1 rfl (by decide) rfl ?_
  refine aw_iconst (v := (0 : Int32)) S dX4_countAheadOfMember_2 (by decide) ?_
  refine aw_istore_n (L2 := [(0, .ref (kgO (kgHs X) 0)), (1, .int p1), (2, .int (0 : Int32)), (3, .int (0 : Int32))]) S [1, 2, 3, 0] dX4_countAheadOfMember_3 rfl (by decide) rfl ?_
  refine s_X4_countAheadOfMember_L4 S hQ p1 (fun x5 I2 => ?_) 200 (0 : Int32) (0 : Int32) I0
  refine aw_iload_n S 0 rfl dX4_countAheadOfMember_27 rfl ?_
  exact aw_ret S hQ (vp_nar_int _) (by decide) (by decide) dX4_countAheadOfMember_28
set_option maxHeartbeats 4000000 in
set_option maxRecDepth 100000 in
theorem s_X4_ranked_L2 {X : kgCX (Int32 × kgM)} {w : Option (Nat × Nat)} (S : Cx X cX4_ranked RX4 3 3 70 0 0) (hQ : Qxi X w .int) (a1 : Int32) {K : kgM → Option (Int32 × kgM)} (hK : ∀  (J : kgM), AW X 3 0 0 w (K J) 24 [] [] J) : ∀ (q : Nat) (x2h2 : Int32) (Ih2 : kgM), AW X 3 0 0 w (f_X4_ranked_L2 a1 K q x2h2 Ih2) 2 [(0, .ref (kgO (kgHs X) 0)), (1, .int a1), (2, .int x2h2)] [] Ih2 := by
  intro q
  induction q with
  | zero => intros; exact aw_none
  | succ q ih =>
    intro x2h2 Ih2
    rw [f_X4_ranked_L2]
    refine aw_iload_n S 2 rfl dX4_ranked_2 rfl ?_
    refine aw_iconst (v := (4 : Int32)) S dX4_ranked_3 (by decide) ?_
    refine aw_icmp_ge (tgt := 24) S dX4_ranked_4 (by decide) ?_ ?_
    · refine aw_sub (L2 := []) [] rfl ?_
      exact hK Ih2
    refine aw_aload_n S 0 rfl dX4_ranked_7 rfl ?_
    refine aw_iload_n S 2 rfl dX4_ranked_8 rfl ?_
    refine aw_cVi S 0 [.int x2h2] vw_X4_countAheadOfMember cl_X4 (by decide) (by decide) tw_377 (s_X4_countAheadOfMember _ _ _ x2h2 Ih2) ⟨by decide, by decide⟩ rfl rfl (Nat.le_of_ble_eq_true rfl) rfl rfl (by decide) (by decide) dX4_ranked_9 (fun x1 I1 => ?_)
    refine aw_iload_n S 1 rfl dX4_ranked_12 rfl ?_
    refine aw_icmp_ne (tgt := 18) S dX4_ranked_13 (by decide) ?_ ?_
    · refine aw_iinc (v := x2h2 + (1 : Int32)) (L2 := [(0, .ref (kgO (kgHs X) 0)), (1, .int a1), (2, .int (x2h2 + (1 : Int32)))]) S [1, 2, 0] 2 dX4_ranked_18 rfl rfl (by decide) rfl ?_
      refine aw_let (Lf := fun x2 => [(0, .ref (kgO (kgHs X) 0)), (1, .int a1), (2, .int x2)]) (x2h2 + (1 : Int32)) (fun x2 => ?_)
      refine aw_goto (tgt := 2) S dX4_ranked_21 (by decide) ?_
      exact ih x2 I1
    refine aw_iload_n S 2 rfl dX4_ranked_16 rfl ?_
    exact aw_ret S hQ (vp_nar_int _) (by decide) (by decide) dX4_ranked_17
set_option maxHeartbeats 4000000 in
set_option maxRecDepth 100000 in
theorem s_X4_ranked (hs : kgH) (l : Launch) (w : Option (Nat × Nat)) (p1 : Int32) (I0 : kgM) : Sdi hs l w yX4_ranked (kg_ws yX4_ranked cX4_ranked 3 (some .int)) { frames := 3, cells := 0, slots := 0, locals := 70 } [.ref (kgO hs 0), .int p1] I0 (f_X4_ranked p1 I0) := by
  refine sd_i (av := fun hs => [.ref (kgO hs 0), .int p1]) (by decide +kernel) (fun hs => Nat.le_of_ble_eq_true rfl) (fun X S hQ => ?_) hs l
  refine aw_sub (L2 := [(0, .ref (kgO (kgHs X) 0)), (1, .int p1)]) [0, 1] rfl ?_
  unfold f_X4_ranked
  refine aw_iconst (v := (0 : Int32)) S dX4_ranked_0 (by decide) ?_
  refine aw_istore_n (L2 := [(0, .ref (kgO (kgHs X) 0)), (1, .int p1), (2, .int (0 : Int32))]) S [1, 2, 0] dX4_ranked_1 rfl (by decide) rfl ?_
  refine s_X4_ranked_L2 S hQ p1 (fun I2 => ?_) 200 (0 : Int32) I0
  refine aw_sipush (v := (-1011 : Int32)) S dX4_ranked_24 (by decide) ?_
  exact aw_ret S hQ (vp_nar_int _) (by decide) (by decide) dX4_ranked_27
set_option maxHeartbeats 4000000 in
set_option maxRecDepth 100000 in
theorem s_X4_isKettleAhead (hs : kgH) (l : Launch) (w : Option (Nat × Nat)) (p1 : Int32) (p2 : Int32) (I0 : kgM) : Sdi hs l w yX4_isKettleAhead (kg_ws yX4_isKettleAhead cX4_isKettleAhead 5 (some .boolean)) { frames := 1, cells := 0, slots := 0, locals := 21 } [.ref (kgO hs 0), .int p1, .int p2] I0 (f_X4_isKettleAhead p1 p2 I0) := by
  refine sd_i (av := fun hs => [.ref (kgO hs 0), .int p1, .int p2]) (by decide +kernel) (fun hs => Nat.le_of_ble_eq_true rfl) (fun X S hQ => ?_) hs l
  refine aw_sub (L2 := [(0, .ref (kgO (kgHs X) 0)), (1, .int p1), (2, .int p2)]) [0, 1, 2] rfl ?_
  unfold f_X4_isKettleAhead
  refine aw_aload_n S 0 rfl dX4_isKettleAhead_0 rfl ?_
  refine aw_getR S 0 0 1 cl_X4 (by decide) (by decide) (by decide) (by decide) (by decide) rfl tw_225 dX4_isKettleAhead_1 ?_
  refine aw_getR S 1 8 10 cl_X3 (by decide) (by decide) (by decide) (by decide) (by decide) rfl tw_74 dX4_isKettleAhead_4 ?_
  refine aw_iload_n S 1 rfl dX4_isKettleAhead_7 rfl ?_
  refine aw_iald S 10 10 (by decide) (by decide) dX4_isKettleAhead_8 ?_
  refine aw_aload_n S 0 rfl dX4_isKettleAhead_9 rfl ?_
  refine aw_getR S 0 0 1 cl_X4 (by decide) (by decide) (by decide) (by decide) (by decide) rfl tw_225 dX4_isKettleAhead_10 ?_
  refine aw_getR S 1 8 10 cl_X3 (by decide) (by decide) (by decide) (by decide) (by decide) rfl tw_74 dX4_isKettleAhead_13 ?_
  refine aw_iload_n S 2 rfl dX4_isKettleAhead_16 rfl ?_
  refine aw_iald S 10 10 (by decide) (by decide) dX4_isKettleAhead_17 ?_
  refine aw_cSi S [.int (I0 10 p1.toNatClampNeg), .int (I0 10 p2.toNatClampNeg)] vw_J6_compare_7cf53 tw_385 (s_J6_compare_7cf53 _ _ _ (I0 10 p1.toNatClampNeg) (I0 10 p2.toNatClampNeg) I0) ⟨by decide, by decide⟩ rfl rfl (Nat.le_of_ble_eq_true rfl) rfl rfl (by decide) (by decide) dX4_isKettleAhead_18 (fun x1 I1 => ?_)
  refine aw_istore_n (L2 := [(0, .ref (kgO (kgHs X) 0)), (1, .int p1), (2, .int p2), (3, .int x1)]) S [1, 2, 3, 0] dX4_isKettleAhead_21 rfl (by decide) rfl ?_
  refine aw_iload_n S 3 rfl dX4_isKettleAhead_22 rfl ?_
  refine aw_if_eq (y := 0) (tgt := 36) S dX4_isKettleAhead_23 (by decide) ?_ ?_
  · refine aw_aload_n S 0 rfl dX4_isKettleAhead_36 rfl ?_
    refine aw_getR S 0 0 1 cl_X4 (by decide) (by decide) (by decide) (by decide) (by decide) rfl tw_225 dX4_isKettleAhead_37 ?_
    refine aw_getR S 1 7 9 cl_X3 (by decide) (by decide) (by decide) (by decide) (by decide) rfl tw_72 dX4_isKettleAhead_40 ?_
    refine aw_iload_n S 1 rfl dX4_isKettleAhead_43 rfl ?_
    refine aw_iald S 9 10 (by decide) (by decide) dX4_isKettleAhead_44 ?_
    refine aw_aload_n S 0 rfl dX4_isKettleAhead_45 rfl ?_
    refine aw_getR S 0 0 1 cl_X4 (by decide) (by decide) (by decide) (by decide) (by decide) rfl tw_225 dX4_isKettleAhead_46 ?_
    refine aw_getR S 1 7 9 cl_X3 (by decide) (by decide) (by decide) (by decide) (by decide) rfl tw_72 dX4_isKettleAhead_49 ?_
    refine aw_iload_n S 2 rfl dX4_isKettleAhead_52 rfl ?_
    refine aw_iald S 9 10 (by decide) (by decide) dX4_isKettleAhead_53 ?_
    refine aw_cSi S [.int (I1 9 p1.toNatClampNeg), .int (I1 9 p2.toNatClampNeg)] vw_J6_compare_7cf53 tw_385 (s_J6_compare_7cf53 _ _ _ (I1 9 p1.toNatClampNeg) (I1 9 p2.toNatClampNeg) I1) ⟨by decide, by decide⟩ rfl rfl (Nat.le_of_ble_eq_true rfl) rfl rfl (by decide) (by decide) dX4_isKettleAhead_54 (fun x2 I2 => ?_)
    refine aw_istore (L2 := [(0, .ref (kgO (kgHs X) 0)), (1, .int p1), (2, .int p2), (3, .int x1), (4, .int x2)]) S [1, 2, 3, 4, 0] dX4_isKettleAhead_57 (by decide) rfl ?_
    refine aw_iload S 4 rfl dX4_isKettleAhead_59 ?_
    refine aw_if_eq (y := 0) (tgt := 77) S dX4_isKettleAhead_61 (by decide) ?_ ?_
    · refine aw_iload_n S 1 rfl dX4_isKettleAhead_77 rfl ?_
      refine aw_iload_n S 2 rfl dX4_isKettleAhead_78 rfl ?_
      refine aw_icmp_ge (tgt := 86) S dX4_isKettleAhead_79 (by decide) ?_ ?_
      · refine aw_iconst (v := (0 : Int32)) S dX4_isKettleAhead_86 (by decide) ?_
        exact aw_ret S hQ rfl (by decide) (by decide) dX4_isKettleAhead_87
      refine aw_iconst (v := (1 : Int32)) S dX4_isKettleAhead_82 (by decide) ?_
      refine aw_goto (tgt := 87) S dX4_isKettleAhead_83 (by decide) ?_
      exact aw_ret S hQ rfl (by decide) (by decide) dX4_isKettleAhead_87
    refine aw_iload S 4 rfl dX4_isKettleAhead_64 ?_
    refine aw_if_ge (y := 0) (tgt := 73) S dX4_isKettleAhead_66 (by decide) ?_ ?_
    · refine aw_iconst (v := (0 : Int32)) S dX4_isKettleAhead_73 (by decide) ?_
      refine aw_goto (tgt := 87) S dX4_isKettleAhead_74 (by decide) ?_
      exact aw_ret S hQ rfl (by decide) (by decide) dX4_isKettleAhead_87
    refine aw_iconst (v := (1 : Int32)) S dX4_isKettleAhead_69 (by decide) ?_
    refine aw_goto (tgt := 87) S dX4_isKettleAhead_70 (by decide) ?_
    exact aw_ret S hQ rfl (by decide) (by decide) dX4_isKettleAhead_87
  refine aw_iload_n S 3 rfl dX4_isKettleAhead_26 rfl ?_
  refine aw_if_le (y := 0) (tgt := 34) S dX4_isKettleAhead_27 (by decide) ?_ ?_
  · refine aw_iconst (v := (0 : Int32)) S dX4_isKettleAhead_34 (by decide) ?_
    exact aw_ret S hQ rfl (by decide) (by decide) dX4_isKettleAhead_35
  refine aw_iconst (v := (1 : Int32)) S dX4_isKettleAhead_30 (by decide) ?_
  refine aw_goto (tgt := 35) S dX4_isKettleAhead_31 (by decide) ?_
  exact aw_ret S hQ rfl (by decide) (by decide) dX4_isKettleAhead_35
set_option maxHeartbeats 4000000 in
set_option maxRecDepth 100000 in
theorem s_X4_countAheadOfKettle_L4 {X : kgCX (Int32 × kgM)} {w : Option (Nat × Nat)} (S : Cx X cX4_countAheadOfKettle RX4 4 2 45 0 0) (hQ : Qxi X w .int) (a1 : Int32) {K : Int32 → kgM → Option (Int32 × kgM)} (hK : ∀ (z2 : Int32) (J : kgM), AW X 4 0 0 w (K z2 J) 33 [(2, .int z2)] [] J) : ∀ (q : Nat) (x2h4 : Int32) (x3h4 : Int32) (Ih4 : kgM), AW X 4 0 0 w (f_X4_countAheadOfKettle_L4 a1 K q x2h4 x3h4 Ih4) 4 [(0, .ref (kgO (kgHs X) 0)), (1, .int a1), (2, .int x2h4), (3, .int x3h4)] [] Ih4 := by
  intro q
  induction q with
  | zero => intros; exact aw_none
  | succ q ih =>
    intro x2h4 x3h4 Ih4
    rw [f_X4_countAheadOfKettle_L4]
    refine aw_iload_n S 3 rfl dX4_countAheadOfKettle_4 rfl ?_
    refine aw_aload_n S 0 rfl dX4_countAheadOfKettle_5 rfl ?_
    refine aw_getR S 0 0 1 cl_X4 (by decide) (by decide) (by decide) (by decide) (by decide) rfl tw_225 dX4_countAheadOfKettle_6 ?_
    refine aw_getI S 1 14 cl_X3 (by decide) (by decide) (by decide) (by decide) rfl tw_86 dX4_countAheadOfKettle_9 ?_
    refine aw_icmp_ge (tgt := 33) S dX4_countAheadOfKettle_12 (by decide) ?_ ?_
    · refine aw_sub (L2 := [(2, .int x2h4)]) [2] rfl ?_
      exact hK x2h4 Ih4
    refine aw_aload_n S 0 rfl dX4_countAheadOfKettle_15 rfl ?_
    refine aw_iload_n S 3 rfl dX4_countAheadOfKettle_16 rfl ?_
    refine aw_iload_n S 1 rfl dX4_countAheadOfKettle_17 rfl ?_
    refine aw_cVi S 0 [.int x3h4, .int a1] vw_X4_isKettleAhead cl_X4 (by decide) (by decide) tw_396 (s_X4_isKettleAhead _ _ _ x3h4 a1 Ih4) ⟨by decide, by decide⟩ rfl rfl (Nat.le_of_ble_eq_true rfl) rfl rfl (by decide) (by decide) dX4_countAheadOfKettle_18 (fun x1 I1 => ?_)
    refine aw_if_eq (y := 0) (tgt := 27) S dX4_countAheadOfKettle_21 (by decide) ?_ ?_
    · refine aw_iinc (v := x3h4 + (1 : Int32)) (L2 := [(0, .ref (kgO (kgHs X) 0)), (1, .int a1), (2, .int x2h4), (3, .int (x3h4 + (1 : Int32)))]) S [1, 2, 3, 0] 3 dX4_countAheadOfKettle_27 rfl rfl (by decide) rfl ?_
      refine aw_let (Lf := fun x2 => [(0, .ref (kgO (kgHs X) 0)), (1, .int a1), (2, .int x2h4), (3, .int x2)]) (x3h4 + (1 : Int32)) (fun x2 => ?_)
      refine aw_goto (tgt := 4) S dX4_countAheadOfKettle_30 (by decide) ?_
      exact ih x2h4 x2 I1
    refine aw_iinc (v := x2h4 + (1 : Int32)) (L2 := [(0, .ref (kgO (kgHs X) 0)), (1, .int a1), (2, .int (x2h4 + (1 : Int32))), (3, .int x3h4)]) S [1, 2, 0, 3] 2 dX4_countAheadOfKettle_24 rfl rfl (by decide) rfl ?_
    refine aw_let (Lf := fun x3 => [(0, .ref (kgO (kgHs X) 0)), (1, .int a1), (2, .int x3), (3, .int x3h4)]) (x2h4 + (1 : Int32)) (fun x3 => ?_)
    refine aw_iinc (v := x3h4 + (1 : Int32)) (L2 := [(0, .ref (kgO (kgHs X) 0)), (1, .int a1), (2, .int x3), (3, .int (x3h4 + (1 : Int32)))]) S [1, 2, 3, 0] 3 dX4_countAheadOfKettle_27 rfl rfl (by decide) rfl ?_
    refine aw_let (Lf := fun x4 => [(0, .ref (kgO (kgHs X) 0)), (1, .int a1), (2, .int x3), (3, .int x4)]) (x3h4 + (1 : Int32)) (fun x4 => ?_)
    refine aw_goto (tgt := 4) S dX4_countAheadOfKettle_30 (by decide) ?_
    exact ih x3 x4 I1
set_option maxHeartbeats 4000000 in
set_option maxRecDepth 100000 in
theorem s_X4_countAheadOfKettle (hs : kgH) (l : Launch) (w : Option (Nat × Nat)) (p1 : Int32) (I0 : kgM) : Sdi hs l w yX4_countAheadOfKettle (kg_ws yX4_countAheadOfKettle cX4_countAheadOfKettle 4 (some .int)) { frames := 2, cells := 0, slots := 0, locals := 45 } [.ref (kgO hs 0), .int p1] I0 (f_X4_countAheadOfKettle p1 I0) := by
  refine sd_i (av := fun hs => [.ref (kgO hs 0), .int p1]) (by decide +kernel) (fun hs => Nat.le_of_ble_eq_true rfl) (fun X S hQ => ?_) hs l
  refine aw_sub (L2 := [(0, .ref (kgO (kgHs X) 0)), (1, .int p1)]) [0, 1] rfl ?_
  unfold f_X4_countAheadOfKettle
  refine aw_iconst (v := (0 : Int32)) S dX4_countAheadOfKettle_0 (by decide) ?_
  refine aw_istore_n (L2 := [(0, .ref (kgO (kgHs X) 0)), (1, .int p1), (2, .int (0 : Int32))]) S [1, 2, 0] dX4_countAheadOfKettle_1 rfl (by decide) rfl ?_
  refine aw_iconst (v := (0 : Int32)) S dX4_countAheadOfKettle_2 (by decide) ?_
  refine aw_istore_n (L2 := [(0, .ref (kgO (kgHs X) 0)), (1, .int p1), (2, .int (0 : Int32)), (3, .int (0 : Int32))]) S [1, 2, 3, 0] dX4_countAheadOfKettle_3 rfl (by decide) rfl ?_
  refine s_X4_countAheadOfKettle_L4 S hQ p1 (fun x5 I2 => ?_) 200 (0 : Int32) (0 : Int32) I0
  refine aw_iload_n S 0 rfl dX4_countAheadOfKettle_33 rfl ?_
  exact aw_ret S hQ (vp_nar_int _) (by decide) (by decide) dX4_countAheadOfKettle_34
set_option maxHeartbeats 4000000 in
set_option maxRecDepth 100000 in
theorem s_X4_hottest_L2 {X : kgCX (Int32 × kgM)} {w : Option (Nat × Nat)} (S : Cx X cX4_hottest RX4 3 3 68 0 0) (hQ : Qxi X w .int) (a1 : Int32) {K : kgM → Option (Int32 × kgM)} (hK : ∀  (J : kgM), AW X 3 0 0 w (K J) 30 [] [] J) : ∀ (q : Nat) (x2h2 : Int32) (Ih2 : kgM), AW X 3 0 0 w (f_X4_hottest_L2 a1 K q x2h2 Ih2) 2 [(0, .ref (kgO (kgHs X) 0)), (1, .int a1), (2, .int x2h2)] [] Ih2 := by
  intro q
  induction q with
  | zero => intros; exact aw_none
  | succ q ih =>
    intro x2h2 Ih2
    rw [f_X4_hottest_L2]
    refine aw_iload_n S 2 rfl dX4_hottest_2 rfl ?_
    refine aw_aload_n S 0 rfl dX4_hottest_3 rfl ?_
    refine aw_getR S 0 0 1 cl_X4 (by decide) (by decide) (by decide) (by decide) (by decide) rfl tw_225 dX4_hottest_4 ?_
    refine aw_getI S 1 14 cl_X3 (by decide) (by decide) (by decide) (by decide) rfl tw_86 dX4_hottest_7 ?_
    refine aw_icmp_ge (tgt := 30) S dX4_hottest_10 (by decide) ?_ ?_
    · refine aw_sub (L2 := []) [] rfl ?_
      exact hK Ih2
    refine aw_aload_n S 0 rfl dX4_hottest_13 rfl ?_
    refine aw_iload_n S 2 rfl dX4_hottest_14 rfl ?_
    refine aw_cVi S 0 [.int x2h2] vw_X4_countAheadOfKettle cl_X4 (by decide) (by decide) tw_392 (s_X4_countAheadOfKettle _ _ _ x2h2 Ih2) ⟨by decide, by decide⟩ rfl rfl (Nat.le_of_ble_eq_true rfl) rfl rfl (by decide) (by decide) dX4_hottest_15 (fun x1 I1 => ?_)
    refine aw_iload_n S 1 rfl dX4_hottest_18 rfl ?_
    refine aw_icmp_ne (tgt := 24) S dX4_hottest_19 (by decide) ?_ ?_
    · refine aw_iinc (v := x2h2 + (1 : Int32)) (L2 := [(0, .ref (kgO (kgHs X) 0)), (1, .int a1), (2, .int (x2h2 + (1 : Int32)))]) S [1, 2, 0] 2 dX4_hottest_24 rfl rfl (by decide) rfl ?_
      refine aw_let (Lf := fun x2 => [(0, .ref (kgO (kgHs X) 0)), (1, .int a1), (2, .int x2)]) (x2h2 + (1 : Int32)) (fun x2 => ?_)
      refine aw_goto (tgt := 2) S dX4_hottest_27 (by decide) ?_
      exact ih x2 I1
    refine aw_iload_n S 2 rfl dX4_hottest_22 rfl ?_
    exact aw_ret S hQ (vp_nar_int _) (by decide) (by decide) dX4_hottest_23
set_option maxHeartbeats 4000000 in
set_option maxRecDepth 100000 in
theorem s_X4_hottest (hs : kgH) (l : Launch) (w : Option (Nat × Nat)) (p1 : Int32) (I0 : kgM) : Sdi hs l w yX4_hottest (kg_ws yX4_hottest cX4_hottest 3 (some .int)) { frames := 3, cells := 0, slots := 0, locals := 68 } [.ref (kgO hs 0), .int p1] I0 (f_X4_hottest p1 I0) := by
  refine sd_i (av := fun hs => [.ref (kgO hs 0), .int p1]) (by decide +kernel) (fun hs => Nat.le_of_ble_eq_true rfl) (fun X S hQ => ?_) hs l
  refine aw_sub (L2 := [(0, .ref (kgO (kgHs X) 0)), (1, .int p1)]) [0, 1] rfl ?_
  unfold f_X4_hottest
  refine aw_iconst (v := (0 : Int32)) S dX4_hottest_0 (by decide) ?_
  refine aw_istore_n (L2 := [(0, .ref (kgO (kgHs X) 0)), (1, .int p1), (2, .int (0 : Int32))]) S [1, 2, 0] dX4_hottest_1 rfl (by decide) rfl ?_
  refine s_X4_hottest_L2 S hQ p1 (fun I2 => ?_) 200 (0 : Int32) I0
  refine aw_sipush (v := (-1011 : Int32)) S dX4_hottest_30 (by decide) ?_
  exact aw_ret S hQ (vp_nar_int _) (by decide) (by decide) dX4_hottest_33
set_option maxHeartbeats 4000000 in
set_option maxRecDepth 100000 in
theorem s_X4_sumOf_4_L10 {X : kgCX (Int32 × kgM)} {w : Option (Nat × Nat)} (S : Cx X cX4_sumOf RX4 6 0 0 0 0) (hQ : Qxi X w .int) (a3 : Int32) {K : Int32 → kgM → Option (Int32 × kgM)} (hK : ∀ (z1 : Int32) (J : kgM), AW X 6 0 0 w (K z1 J) 33 [(1, .int z1)] [] J) : ∀ (q : Nat) (x1h10 : Int32) (x4h10 : Int32) (Ih10 : kgM), AW X 6 0 0 w (f_X4_sumOf_4_L10 a3 K q x1h10 x4h10 Ih10) 10 [(1, .int x1h10), (2, .ref (kgO (kgHs X) 4)), (3, .int a3), (4, .int x4h10)] [] Ih10 := by
  intro q
  induction q with
  | zero => intros; exact aw_none
  | succ q ih =>
    intro x1h10 x4h10 Ih10
    rw [f_X4_sumOf_4_L10]
    refine aw_iload S 3 rfl dX4_sumOf_10 ?_
    refine aw_iload_n S 2 rfl dX4_sumOf_12 rfl ?_
    refine aw_icmp_ge (tgt := 33) S dX4_sumOf_13 (by decide) ?_ ?_
    · refine aw_sub (L2 := [(1, .int x1h10)]) [0] rfl ?_
      exact hK x1h10 Ih10
    refine aw_aload_n S 1 rfl dX4_sumOf_16 rfl ?_
    refine aw_iload S 3 rfl dX4_sumOf_17 ?_
    refine aw_iald S 4 4 (by decide) (by decide) dX4_sumOf_19 ?_
    refine aw_istore (L2 := [(1, .int x1h10), (2, .ref (kgO (kgHs X) 4)), (3, .int a3), (4, .int x4h10), (5, .int (Ih10 4 x4h10.toNatClampNeg))]) S [1, 2, 3, 4, 0] dX4_sumOf_20 (by decide) rfl ?_
    refine aw_let (Lf := fun x2 => [(1, .int x1h10), (2, .ref (kgO (kgHs X) 4)), (3, .int a3), (4, .int x4h10), (5, .int x2)]) (Ih10 4 x4h10.toNatClampNeg) (fun x2 => ?_)
    refine aw_iload_n S 0 rfl dX4_sumOf_22 rfl ?_
    refine aw_iload S 4 rfl dX4_sumOf_23 ?_
    refine aw_iadd S dX4_sumOf_25 ?_
    refine aw_istore_n (L2 := [(1, .int (x1h10 + x2)), (2, .ref (kgO (kgHs X) 4)), (3, .int a3), (4, .int x4h10), (5, .int x2)]) S [0, 1, 2, 3, 4] dX4_sumOf_26 rfl (by decide) rfl ?_
    refine aw_let (Lf := fun x3 => [(1, .int x3), (2, .ref (kgO (kgHs X) 4)), (3, .int a3), (4, .int x4h10), (5, .int x2)]) (x1h10 + x2) (fun x3 => ?_)
    refine aw_iinc (v := x4h10 + (1 : Int32)) (L2 := [(1, .int x3), (2, .ref (kgO (kgHs X) 4)), (3, .int a3), (4, .int (x4h10 + (1 : Int32))), (5, .int x2)]) S [1, 2, 3, 0, 4] 3 dX4_sumOf_27 rfl rfl (by decide) rfl ?_
    refine aw_let (Lf := fun x4 => [(1, .int x3), (2, .ref (kgO (kgHs X) 4)), (3, .int a3), (4, .int x4), (5, .int x2)]) (x4h10 + (1 : Int32)) (fun x4 => ?_)
    refine aw_goto (tgt := 10) S dX4_sumOf_30 (by decide) ?_
    refine aw_sub (L2 := [(1, .int x3), (2, .ref (kgO (kgHs X) 4)), (3, .int a3), (4, .int x4)]) [0, 1, 2, 3] rfl ?_
    exact ih x3 x4 Ih10
set_option maxHeartbeats 4000000 in
set_option maxRecDepth 100000 in
theorem s_X4_sumOf_4 (hs : kgH) (l : Launch) (w : Option (Nat × Nat))  (I0 : kgM) : Sdi hs l w yX4_sumOf (kg_ws yX4_sumOf cX4_sumOf 6 (some .int)) { frames := 0, cells := 0, slots := 0, locals := 0 } [.ref (kgO hs 4)] I0 (f_X4_sumOf_4 I0) := by
  refine sd_i (av := fun hs => [.ref (kgO hs 4)]) (by decide +kernel) (fun hs => Nat.le_of_ble_eq_true rfl) (fun X S hQ => ?_) hs l
  refine aw_sub (L2 := [(0, .ref (kgO (kgHs X) 4))]) [0] rfl ?_
  unfold f_X4_sumOf_4
  refine aw_iconst (v := (0 : Int32)) S dX4_sumOf_0 (by decide) ?_
  refine aw_istore_n (L2 := [(0, .ref (kgO (kgHs X) 4)), (1, .int (0 : Int32))]) S [1, 0] dX4_sumOf_1 rfl (by decide) rfl ?_
  refine aw_aload_n S 0 rfl dX4_sumOf_2 rfl ?_
  refine aw_astore_n (L2 := [(0, .ref (kgO (kgHs X) 4)), (1, .int (0 : Int32)), (2, .ref (kgO (kgHs X) 4))]) S [1, 2, 0] dX4_sumOf_3 rfl (by decide) rfl ?_
  refine aw_aload_n S 2 rfl dX4_sumOf_4 rfl ?_
  refine aw_alen S 4 4 0 (by decide) (by decide) (by decide) (by decide) (by decide) rfl dX4_sumOf_5 ?_
  refine aw_istore_n (L2 := [(0, .ref (kgO (kgHs X) 4)), (1, .int (0 : Int32)), (2, .ref (kgO (kgHs X) 4)), (3, .int (Int32.ofNat 4))]) S [1, 2, 3, 0] dX4_sumOf_6 rfl (by decide) rfl ?_
  refine aw_let (Lf := fun x1 => [(0, .ref (kgO (kgHs X) 4)), (1, .int (0 : Int32)), (2, .ref (kgO (kgHs X) 4)), (3, .int x1)]) (Int32.ofNat 4) (fun x1 => ?_)
  refine aw_iconst (v := (0 : Int32)) S dX4_sumOf_7 (by decide) ?_
  refine aw_istore (L2 := [(0, .ref (kgO (kgHs X) 4)), (1, .int (0 : Int32)), (2, .ref (kgO (kgHs X) 4)), (3, .int x1), (4, .int (0 : Int32))]) S [1, 2, 3, 4, 0] dX4_sumOf_8 (by decide) rfl ?_
  refine aw_sub (L2 := [(1, .int (0 : Int32)), (2, .ref (kgO (kgHs X) 4)), (3, .int x1), (4, .int (0 : Int32))]) [1, 2, 3, 4] rfl ?_
  refine s_X4_sumOf_4_L10 S hQ x1 (fun x5 I1 => ?_) 200 (0 : Int32) (0 : Int32) I0
  refine aw_iload_n S 0 rfl dX4_sumOf_33 rfl ?_
  exact aw_ret S hQ (vp_nar_int _) (by decide) (by decide) dX4_sumOf_34
set_option maxHeartbeats 4000000 in
set_option maxRecDepth 100000 in
theorem s_X4_sumOf_3_L10 {X : kgCX (Int32 × kgM)} {w : Option (Nat × Nat)} (S : Cx X cX4_sumOf RX4 6 0 0 0 0) (hQ : Qxi X w .int) (a3 : Int32) {K : Int32 → kgM → Option (Int32 × kgM)} (hK : ∀ (z1 : Int32) (J : kgM), AW X 6 0 0 w (K z1 J) 33 [(1, .int z1)] [] J) : ∀ (q : Nat) (x1h10 : Int32) (x4h10 : Int32) (Ih10 : kgM), AW X 6 0 0 w (f_X4_sumOf_3_L10 a3 K q x1h10 x4h10 Ih10) 10 [(1, .int x1h10), (2, .ref (kgO (kgHs X) 3)), (3, .int a3), (4, .int x4h10)] [] Ih10 := by
  intro q
  induction q with
  | zero => intros; exact aw_none
  | succ q ih =>
    intro x1h10 x4h10 Ih10
    rw [f_X4_sumOf_3_L10]
    refine aw_iload S 3 rfl dX4_sumOf_10 ?_
    refine aw_iload_n S 2 rfl dX4_sumOf_12 rfl ?_
    refine aw_icmp_ge (tgt := 33) S dX4_sumOf_13 (by decide) ?_ ?_
    · refine aw_sub (L2 := [(1, .int x1h10)]) [0] rfl ?_
      exact hK x1h10 Ih10
    refine aw_aload_n S 1 rfl dX4_sumOf_16 rfl ?_
    refine aw_iload S 3 rfl dX4_sumOf_17 ?_
    refine aw_iald S 3 4 (by decide) (by decide) dX4_sumOf_19 ?_
    refine aw_istore (L2 := [(1, .int x1h10), (2, .ref (kgO (kgHs X) 3)), (3, .int a3), (4, .int x4h10), (5, .int (Ih10 3 x4h10.toNatClampNeg))]) S [1, 2, 3, 4, 0] dX4_sumOf_20 (by decide) rfl ?_
    refine aw_let (Lf := fun x2 => [(1, .int x1h10), (2, .ref (kgO (kgHs X) 3)), (3, .int a3), (4, .int x4h10), (5, .int x2)]) (Ih10 3 x4h10.toNatClampNeg) (fun x2 => ?_)
    refine aw_iload_n S 0 rfl dX4_sumOf_22 rfl ?_
    refine aw_iload S 4 rfl dX4_sumOf_23 ?_
    refine aw_iadd S dX4_sumOf_25 ?_
    refine aw_istore_n (L2 := [(1, .int (x1h10 + x2)), (2, .ref (kgO (kgHs X) 3)), (3, .int a3), (4, .int x4h10), (5, .int x2)]) S [0, 1, 2, 3, 4] dX4_sumOf_26 rfl (by decide) rfl ?_
    refine aw_let (Lf := fun x3 => [(1, .int x3), (2, .ref (kgO (kgHs X) 3)), (3, .int a3), (4, .int x4h10), (5, .int x2)]) (x1h10 + x2) (fun x3 => ?_)
    refine aw_iinc (v := x4h10 + (1 : Int32)) (L2 := [(1, .int x3), (2, .ref (kgO (kgHs X) 3)), (3, .int a3), (4, .int (x4h10 + (1 : Int32))), (5, .int x2)]) S [1, 2, 3, 0, 4] 3 dX4_sumOf_27 rfl rfl (by decide) rfl ?_
    refine aw_let (Lf := fun x4 => [(1, .int x3), (2, .ref (kgO (kgHs X) 3)), (3, .int a3), (4, .int x4), (5, .int x2)]) (x4h10 + (1 : Int32)) (fun x4 => ?_)
    refine aw_goto (tgt := 10) S dX4_sumOf_30 (by decide) ?_
    refine aw_sub (L2 := [(1, .int x3), (2, .ref (kgO (kgHs X) 3)), (3, .int a3), (4, .int x4)]) [0, 1, 2, 3] rfl ?_
    exact ih x3 x4 Ih10
set_option maxHeartbeats 4000000 in
set_option maxRecDepth 100000 in
theorem s_X4_sumOf_3 (hs : kgH) (l : Launch) (w : Option (Nat × Nat))  (I0 : kgM) : Sdi hs l w yX4_sumOf (kg_ws yX4_sumOf cX4_sumOf 6 (some .int)) { frames := 0, cells := 0, slots := 0, locals := 0 } [.ref (kgO hs 3)] I0 (f_X4_sumOf_3 I0) := by
  refine sd_i (av := fun hs => [.ref (kgO hs 3)]) (by decide +kernel) (fun hs => Nat.le_of_ble_eq_true rfl) (fun X S hQ => ?_) hs l
  refine aw_sub (L2 := [(0, .ref (kgO (kgHs X) 3))]) [0] rfl ?_
  unfold f_X4_sumOf_3
  refine aw_iconst (v := (0 : Int32)) S dX4_sumOf_0 (by decide) ?_
  refine aw_istore_n (L2 := [(0, .ref (kgO (kgHs X) 3)), (1, .int (0 : Int32))]) S [1, 0] dX4_sumOf_1 rfl (by decide) rfl ?_
  refine aw_aload_n S 0 rfl dX4_sumOf_2 rfl ?_
  refine aw_astore_n (L2 := [(0, .ref (kgO (kgHs X) 3)), (1, .int (0 : Int32)), (2, .ref (kgO (kgHs X) 3))]) S [1, 2, 0] dX4_sumOf_3 rfl (by decide) rfl ?_
  refine aw_aload_n S 2 rfl dX4_sumOf_4 rfl ?_
  refine aw_alen S 3 4 0 (by decide) (by decide) (by decide) (by decide) (by decide) rfl dX4_sumOf_5 ?_
  refine aw_istore_n (L2 := [(0, .ref (kgO (kgHs X) 3)), (1, .int (0 : Int32)), (2, .ref (kgO (kgHs X) 3)), (3, .int (Int32.ofNat 4))]) S [1, 2, 3, 0] dX4_sumOf_6 rfl (by decide) rfl ?_
  refine aw_let (Lf := fun x1 => [(0, .ref (kgO (kgHs X) 3)), (1, .int (0 : Int32)), (2, .ref (kgO (kgHs X) 3)), (3, .int x1)]) (Int32.ofNat 4) (fun x1 => ?_)
  refine aw_iconst (v := (0 : Int32)) S dX4_sumOf_7 (by decide) ?_
  refine aw_istore (L2 := [(0, .ref (kgO (kgHs X) 3)), (1, .int (0 : Int32)), (2, .ref (kgO (kgHs X) 3)), (3, .int x1), (4, .int (0 : Int32))]) S [1, 2, 3, 4, 0] dX4_sumOf_8 (by decide) rfl ?_
  refine aw_sub (L2 := [(1, .int (0 : Int32)), (2, .ref (kgO (kgHs X) 3)), (3, .int x1), (4, .int (0 : Int32))]) [1, 2, 3, 4] rfl ?_
  refine s_X4_sumOf_3_L10 S hQ x1 (fun x5 I1 => ?_) 200 (0 : Int32) (0 : Int32) I0
  refine aw_iload_n S 0 rfl dX4_sumOf_33 rfl ?_
  exact aw_ret S hQ (vp_nar_int _) (by decide) (by decide) dX4_sumOf_34
set_option maxHeartbeats 4000000 in
set_option maxRecDepth 100000 in
theorem s_X4_account (hs : kgH) (l : Launch) (w : Option (Nat × Nat)) (p1 : Int32) (I0 : kgM) : Sdi hs l w yX4_account (kg_ws yX4_account cX4_account 2 (some .int)) { frames := 3, cells := 0, slots := 0, locals := 65 } [.ref (kgO hs 0), .int p1] I0 (f_X4_account p1 I0) := by
  refine sd_i (av := fun hs => [.ref (kgO hs 0), .int p1]) (by decide +kernel) (fun hs => Nat.le_of_ble_eq_true rfl) (fun X S hQ => ?_) hs l
  refine aw_sub (L2 := [(0, .ref (kgO (kgHs X) 0)), (1, .int p1)]) [0, 1] rfl ?_
  unfold f_X4_account
  refine aw_iload_n S 1 rfl dX4_account_0 rfl ?_
  refine aw_tableAt (tgt := 68) S 0 dX4_account_1 (by decide) (by decide) rfl (by decide) ?_ (fun n_0 => ?_)
  · refine aw_aload_n S 0 rfl dX4_account_68 rfl ?_
    refine aw_getR S 0 0 1 cl_X4 (by decide) (by decide) (by decide) (by decide) (by decide) rfl tw_225 dX4_account_69 ?_
    refine aw_getI S 1 14 cl_X3 (by decide) (by decide) (by decide) (by decide) rfl tw_86 dX4_account_72 ?_
    exact aw_ret S hQ (vp_nar_int _) (by decide) (by decide) dX4_account_75
  refine aw_tableAt (tgt := 76) S 1 dX4_account_1 (by decide) (by decide) rfl (by decide) ?_ (fun n_1 => ?_)
  · refine aw_aload_n S 0 rfl dX4_account_76 rfl ?_
    refine aw_getR S 0 0 1 cl_X4 (by decide) (by decide) (by decide) (by decide) (by decide) rfl tw_225 dX4_account_77 ?_
    refine aw_cVi S 1 [] vw_X3_countOnStoves cl_X3 (by decide) (by decide) tw_568 (s_X3_countOnStoves _ _ _ I0) ⟨by decide, by decide⟩ rfl rfl (Nat.le_of_ble_eq_true rfl) rfl rfl (by decide) (by decide) dX4_account_80 (fun x1 I1 => ?_)
    exact aw_ret S hQ (vp_nar_int _) (by decide) (by decide) dX4_account_83
  refine aw_tableAt (tgt := 84) S 2 dX4_account_1 (by decide) (by decide) rfl (by decide) ?_ (fun n_2 => ?_)
  · refine aw_aload_n S 0 rfl dX4_account_84 rfl ?_
    refine aw_getR S 0 0 1 cl_X4 (by decide) (by decide) (by decide) (by decide) (by decide) rfl tw_225 dX4_account_85 ?_
    refine aw_cVi S 1 [] vw_X3_countBoiling cl_X3 (by decide) (by decide) tw_572 (s_X3_countBoiling _ _ _ I0) ⟨by decide, by decide⟩ rfl rfl (Nat.le_of_ble_eq_true rfl) rfl rfl (by decide) (by decide) dX4_account_88 (fun x2 I2 => ?_)
    exact aw_ret S hQ (vp_nar_int _) (by decide) (by decide) dX4_account_91
  refine aw_tableAt (tgt := 92) S 3 dX4_account_1 (by decide) (by decide) rfl (by decide) ?_ (fun n_3 => ?_)
  · refine aw_aload_n S 0 rfl dX4_account_92 rfl ?_
    refine aw_getR S 0 0 1 cl_X4 (by decide) (by decide) (by decide) (by decide) (by decide) rfl tw_225 dX4_account_93 ?_
    refine aw_cVi S 1 [] vw_X3_countLidsOn cl_X3 (by decide) (by decide) tw_576 (s_X3_countLidsOn _ _ _ I0) ⟨by decide, by decide⟩ rfl rfl (Nat.le_of_ble_eq_true rfl) rfl rfl (by decide) (by decide) dX4_account_96 (fun x3 I3 => ?_)
    exact aw_ret S hQ (vp_nar_int _) (by decide) (by decide) dX4_account_99
  refine aw_tableAt (tgt := 100) S 4 dX4_account_1 (by decide) (by decide) rfl (by decide) ?_ (fun n_4 => ?_)
  · refine aw_aload_n S 0 rfl dX4_account_100 rfl ?_
    refine aw_getR S 0 0 1 cl_X4 (by decide) (by decide) (by decide) (by decide) (by decide) rfl tw_225 dX4_account_101 ?_
    refine aw_cVi S 1 [] vw_X3_countLidsBarred cl_X3 (by decide) (by decide) tw_580 (s_X3_countLidsBarred _ _ _ I0) ⟨by decide, by decide⟩ rfl rfl (Nat.le_of_ble_eq_true rfl) rfl rfl (by decide) (by decide) dX4_account_104 (fun x4 I4 => ?_)
    exact aw_ret S hQ (vp_nar_int _) (by decide) (by decide) dX4_account_107
  refine aw_tableAt (tgt := 108) S 5 dX4_account_1 (by decide) (by decide) rfl (by decide) ?_ (fun n_5 => ?_)
  · refine aw_aload_n S 0 rfl dX4_account_108 rfl ?_
    refine aw_getR S 0 0 1 cl_X4 (by decide) (by decide) (by decide) (by decide) (by decide) rfl tw_225 dX4_account_109 ?_
    refine aw_getI S 1 15 cl_X3 (by decide) (by decide) (by decide) (by decide) rfl tw_88 dX4_account_112 ?_
    exact aw_ret S hQ (vp_nar_int _) (by decide) (by decide) dX4_account_115
  refine aw_tableAt (tgt := 116) S 6 dX4_account_1 (by decide) (by decide) rfl (by decide) ?_ (fun n_6 => ?_)
  · refine aw_aload_n S 0 rfl dX4_account_116 rfl ?_
    refine aw_getR S 0 0 1 cl_X4 (by decide) (by decide) (by decide) (by decide) (by decide) rfl tw_225 dX4_account_117 ?_
    refine aw_cVi S 1 [] vw_X3_sumWater cl_X3 (by decide) (by decide) tw_584 (s_X3_sumWater _ _ _ I0) ⟨by decide, by decide⟩ rfl rfl (Nat.le_of_ble_eq_true rfl) rfl rfl (by decide) (by decide) dX4_account_120 (fun x5 I5 => ?_)
    exact aw_ret S hQ (vp_nar_int _) (by decide) (by decide) dX4_account_123
  refine aw_tableAt (tgt := 124) S 7 dX4_account_1 (by decide) (by decide) rfl (by decide) ?_ (fun n_7 => ?_)
  · refine aw_aload_n S 0 rfl dX4_account_124 rfl ?_
    refine aw_getR S 0 0 1 cl_X4 (by decide) (by decide) (by decide) (by decide) (by decide) rfl tw_225 dX4_account_125 ?_
    refine aw_getI S 1 16 cl_X3 (by decide) (by decide) (by decide) (by decide) rfl tw_90 dX4_account_128 ?_
    exact aw_ret S hQ (vp_nar_int _) (by decide) (by decide) dX4_account_131
  refine aw_tableAt (tgt := 132) S 8 dX4_account_1 (by decide) (by decide) rfl (by decide) ?_ (fun n_8 => ?_)
  · refine aw_aload_n S 0 rfl dX4_account_132 rfl ?_
    refine aw_getR S 0 0 1 cl_X4 (by decide) (by decide) (by decide) (by decide) (by decide) rfl tw_225 dX4_account_133 ?_
    refine aw_getI S 1 17 cl_X3 (by decide) (by decide) (by decide) (by decide) rfl tw_92 dX4_account_136 ?_
    exact aw_ret S hQ (vp_nar_int _) (by decide) (by decide) dX4_account_139
  refine aw_tableAt (tgt := 140) S 9 dX4_account_1 (by decide) (by decide) rfl (by decide) ?_ (fun n_9 => ?_)
  · refine aw_aload_n S 0 rfl dX4_account_140 rfl ?_
    refine aw_getR S 0 0 1 cl_X4 (by decide) (by decide) (by decide) (by decide) (by decide) rfl tw_225 dX4_account_141 ?_
    refine aw_getR S 1 2 4 cl_X3 (by decide) (by decide) (by decide) (by decide) (by decide) rfl tw_62 dX4_account_144 ?_
    refine aw_cSi S [.ref (kgO (kgHs X) 4)] vw_X4_sumOf tw_588 (s_X4_sumOf_4 _ _ _ I0) ⟨by decide, by decide⟩ rfl rfl (Nat.le_of_ble_eq_true rfl) rfl rfl (by decide) (by decide) dX4_account_147 (fun x6 I6 => ?_)
    exact aw_ret S hQ (vp_nar_int _) (by decide) (by decide) dX4_account_150
  refine aw_tableAt (tgt := 151) S 10 dX4_account_1 (by decide) (by decide) rfl (by decide) ?_ (fun n_10 => ?_)
  · refine aw_aload_n S 0 rfl dX4_account_151 rfl ?_
    refine aw_getR S 0 0 1 cl_X4 (by decide) (by decide) (by decide) (by decide) (by decide) rfl tw_225 dX4_account_152 ?_
    refine aw_getR S 1 1 3 cl_X3 (by decide) (by decide) (by decide) (by decide) (by decide) rfl tw_60 dX4_account_155 ?_
    refine aw_cSi S [.ref (kgO (kgHs X) 3)] vw_X4_sumOf tw_588 (s_X4_sumOf_3 _ _ _ I0) ⟨by decide, by decide⟩ rfl rfl (Nat.le_of_ble_eq_true rfl) rfl rfl (by decide) (by decide) dX4_account_158 (fun x7 I7 => ?_)
    exact aw_ret S hQ (vp_nar_int _) (by decide) (by decide) dX4_account_161
  refine aw_tableAt (tgt := 162) S 11 dX4_account_1 (by decide) (by decide) rfl (by decide) ?_ (fun n_11 => ?_)
  · refine aw_aload_n S 0 rfl dX4_account_162 rfl ?_
    refine aw_getR S 0 4 171 cl_X4 (by decide) (by decide) (by decide) (by decide) (by decide) rfl tw_229 dX4_account_163 ?_
    refine aw_getI S 171 4 cl_X1 (by decide) (by decide) (by decide) (by decide) rfl tw_177 dX4_account_166 ?_
    exact aw_ret S hQ (vp_nar_int _) (by decide) (by decide) dX4_account_169
  refine aw_tableAt (tgt := 170) S 12 dX4_account_1 (by decide) (by decide) rfl (by decide) ?_ (fun n_12 => ?_)
  · refine aw_aload_n S 0 rfl dX4_account_170 rfl ?_
    refine aw_getR S 0 2 31 cl_X4 (by decide) (by decide) (by decide) (by decide) (by decide) rfl tw_227 dX4_account_171 ?_
    refine aw_getI S 31 2 cl_X0 (by decide) (by decide) (by decide) (by decide) rfl tw_143 dX4_account_174 ?_
    exact aw_ret S hQ (vp_nar_int _) (by decide) (by decide) dX4_account_177
  refine aw_tableD (tgt := 178) S [0, 1, 2, 3, 4, 5, 6, 7, 8, 9, 10, 11, 12] dX4_account_1 (by decide) (by decide) (by intro v hv; simp only [List.mem_cons, List.not_mem_nil, or_false] at hv; rcases hv with rfl | rfl | rfl | rfl | rfl | rfl | rfl | rfl | rfl | rfl | rfl | rfl | rfl <;> assumption) (by decide) ?_
  refine aw_sipush (v := (-1012 : Int32)) S dX4_account_178 (by decide) ?_
  exact aw_ret S hQ (vp_nar_int _) (by decide) (by decide) dX4_account_181
set_option maxHeartbeats 4000000 in
set_option maxRecDepth 100000 in
theorem s_X4_isBoilingSame_L2 {X : kgCX (Int32 × kgM)} {w : Option (Nat × Nat)} (S : Cx X cX4_isBoilingSame RX4 2 2 46 0 0) (hQ : Qxi X w .boolean)  {K : kgM → Option (Int32 × kgM)} (hK : ∀  (J : kgM), AW X 2 0 0 w (K J) 34 [] [] J) : ∀ (q : Nat) (x1h2 : Int32) (Ih2 : kgM), AW X 2 0 0 w (f_X4_isBoilingSame_L2 K q x1h2 Ih2) 2 [(0, .ref (kgO (kgHs X) 0)), (1, .int x1h2)] [] Ih2 := by
  intro q
  induction q with
  | zero => intros; exact aw_none
  | succ q ih =>
    intro x1h2 Ih2
    rw [f_X4_isBoilingSame_L2]
    refine aw_iload_n S 1 rfl dX4_isBoilingSame_2 rfl ?_
    refine aw_aload_n S 0 rfl dX4_isBoilingSame_3 rfl ?_
    refine aw_getR S 0 0 1 cl_X4 (by decide) (by decide) (by decide) (by decide) (by decide) rfl tw_225 dX4_isBoilingSame_4 ?_
    refine aw_getI S 1 14 cl_X3 (by decide) (by decide) (by decide) (by decide) rfl tw_86 dX4_isBoilingSame_7 ?_
    refine aw_icmp_ge (tgt := 34) S dX4_isBoilingSame_10 (by decide) ?_ ?_
    · refine aw_sub (L2 := []) [] rfl ?_
      exact hK Ih2
    refine aw_aload_n S 0 rfl dX4_isBoilingSame_13 rfl ?_
    refine aw_iload_n S 1 rfl dX4_isBoilingSame_14 rfl ?_
    refine aw_cVi S 0 [.int x1h2] vw_X4_boilsIn cl_X4 (by decide) (by decide) tw_343 (s_X4_boilsIn _ _ _ x1h2 Ih2) ⟨by decide, by decide⟩ rfl rfl (Nat.le_of_ble_eq_true rfl) rfl rfl (by decide) (by decide) dX4_isBoilingSame_15 (fun x1 I1 => ?_)
    refine aw_aload_n S 0 rfl dX4_isBoilingSame_18 rfl ?_
    refine aw_iload_n S 1 rfl dX4_isBoilingSame_19 rfl ?_
    refine aw_cVi S 0 [.int x1h2] vw_X4_boilsInAgain cl_X4 (by decide) (by decide) tw_601 (s_X4_boilsInAgain _ _ _ x1h2 I1) ⟨by decide, by decide⟩ rfl rfl (Nat.le_of_ble_eq_true rfl) rfl rfl (by decide) (by decide) dX4_isBoilingSame_20 (fun x2 I2 => ?_)
    refine aw_icmp_eq (tgt := 28) S dX4_isBoilingSame_23 (by decide) ?_ ?_
    · refine aw_iinc (v := x1h2 + (1 : Int32)) (L2 := [(0, .ref (kgO (kgHs X) 0)), (1, .int (x1h2 + (1 : Int32)))]) S [1, 0] 1 dX4_isBoilingSame_28 rfl rfl (by decide) rfl ?_
      refine aw_let (Lf := fun x3 => [(0, .ref (kgO (kgHs X) 0)), (1, .int x3)]) (x1h2 + (1 : Int32)) (fun x3 => ?_)
      refine aw_goto (tgt := 2) S dX4_isBoilingSame_31 (by decide) ?_
      exact ih x3 I2
    refine aw_iconst (v := (0 : Int32)) S dX4_isBoilingSame_26 (by decide) ?_
    exact aw_ret S hQ rfl (by decide) (by decide) dX4_isBoilingSame_27
set_option maxHeartbeats 4000000 in
set_option maxRecDepth 100000 in
theorem s_X4_isBoilingSame (hs : kgH) (l : Launch) (w : Option (Nat × Nat))  (I0 : kgM) : Sdi hs l w yX4_isBoilingSame (kg_ws yX4_isBoilingSame cX4_isBoilingSame 2 (some .boolean)) { frames := 2, cells := 0, slots := 0, locals := 46 } [.ref (kgO hs 0)] I0 (f_X4_isBoilingSame I0) := by
  refine sd_i (av := fun hs => [.ref (kgO hs 0)]) (by decide +kernel) (fun hs => Nat.le_of_ble_eq_true rfl) (fun X S hQ => ?_) hs l
  refine aw_sub (L2 := [(0, .ref (kgO (kgHs X) 0))]) [0] rfl ?_
  unfold f_X4_isBoilingSame
  refine aw_iconst (v := (0 : Int32)) S dX4_isBoilingSame_0 (by decide) ?_
  refine aw_istore_n (L2 := [(0, .ref (kgO (kgHs X) 0)), (1, .int (0 : Int32))]) S [1, 0] dX4_isBoilingSame_1 rfl (by decide) rfl ?_
  refine s_X4_isBoilingSame_L2 S hQ  (fun I3 => ?_) 200 (0 : Int32) I0
  refine aw_iconst (v := (1 : Int32)) S dX4_isBoilingSame_34 (by decide) ?_
  exact aw_ret S hQ rfl (by decide) (by decide) dX4_isBoilingSame_35
set_option maxHeartbeats 4000000 in
set_option maxRecDepth 100000 in
theorem s_X4_isBalanced (hs : kgH) (l : Launch) (w : Option (Nat × Nat))  (I0 : kgM) : Sdi hs l w yX4_isBalanced (kg_ws yX4_isBalanced cX4_isBalanced 3 (some .int)) { frames := 5, cells := 0, slots := 0, locals := 112 } [.ref (kgO hs 0)] I0 (f_X4_isBalanced I0) := by
  refine sd_i (av := fun hs => [.ref (kgO hs 0)]) (by decide +kernel) (fun hs => Nat.le_of_ble_eq_true rfl) (fun X S hQ => ?_) hs l
  refine aw_sub (L2 := [(0, .ref (kgO (kgHs X) 0))]) [0] rfl ?_
  unfold f_X4_isBalanced
  refine aw_aload_n S 0 rfl dX4_isBalanced_0 rfl ?_
  refine aw_getR S 0 0 1 cl_X4 (by decide) (by decide) (by decide) (by decide) (by decide) rfl tw_225 dX4_isBalanced_1 ?_
  refine aw_getI S 1 16 cl_X3 (by decide) (by decide) (by decide) (by decide) rfl tw_90 dX4_isBalanced_4 ?_
  refine aw_aload_n S 0 rfl dX4_isBalanced_7 rfl ?_
  refine aw_getR S 0 0 1 cl_X4 (by decide) (by decide) (by decide) (by decide) (by decide) rfl tw_225 dX4_isBalanced_8 ?_
  refine aw_cVi S 1 [] vw_X3_sumWater cl_X3 (by decide) (by decide) tw_584 (s_X3_sumWater _ _ _ I0) ⟨by decide, by decide⟩ rfl rfl (Nat.le_of_ble_eq_true rfl) rfl rfl (by decide) (by decide) dX4_isBalanced_11 (fun x1 I1 => ?_)
  refine aw_aload_n S 0 rfl dX4_isBalanced_14 rfl ?_
  refine aw_getR S 0 0 1 cl_X4 (by decide) (by decide) (by decide) (by decide) (by decide) rfl tw_225 dX4_isBalanced_15 ?_
  refine aw_getI S 1 17 cl_X3 (by decide) (by decide) (by decide) (by decide) rfl tw_92 dX4_isBalanced_18 ?_
  refine aw_iadd S dX4_isBalanced_21 ?_
  refine aw_letJ (fun (j30 : Int32 → Option (Int32 × kgM)) => ∀ (y0j30 : Int32), AW X 3 0 0 w (j30 y0j30) 30 [(0, .ref (kgO (kgHs X) 0))] [.int y0j30] I1) ?_ (fun j30 hj30 => ?_)
  · intro y0j30
    refine aw_istore_n (L2 := [(0, .ref (kgO (kgHs X) 0)), (1, .int y0j30)]) S [1, 0] dX4_isBalanced_30 rfl (by decide) rfl ?_
    refine aw_aload_n S 0 rfl dX4_isBalanced_31 rfl ?_
    refine aw_cVi S 0 [] vw_X4_harmony cl_X4 (by decide) (by decide) tw_595 (s_X4_harmony _ _ _ I1) ⟨by decide, by decide⟩ rfl rfl (Nat.le_of_ble_eq_true rfl) rfl rfl (by decide) (by decide) dX4_isBalanced_32 (fun x2 I2 => ?_)
    refine aw_aload_n S 0 rfl dX4_isBalanced_35 rfl ?_
    refine aw_cVi S 0 [] vw_X4_harmonyAgain cl_X4 (by decide) (by decide) tw_596 (s_X4_harmonyAgain _ _ _ I2) ⟨by decide, by decide⟩ rfl rfl (Nat.le_of_ble_eq_true rfl) rfl rfl (by decide) (by decide) dX4_isBalanced_36 (fun x3 I3 => ?_)
    refine aw_letJ (fun (j47 : Int32 → Option (Int32 × kgM)) => ∀ (y0j47 : Int32), AW X 3 0 0 w (j47 y0j47) 47 [(0, .ref (kgO (kgHs X) 0)), (1, .int y0j30)] [.int y0j47] I3) ?_ (fun j47 hj47 => ?_)
    · intro y0j47
      refine aw_istore_n (L2 := [(0, .ref (kgO (kgHs X) 0)), (1, .int y0j30), (2, .int y0j47)]) S [1, 2, 0] dX4_isBalanced_47 rfl (by decide) rfl ?_
      refine aw_iload_n S 1 rfl dX4_isBalanced_48 rfl ?_
      refine aw_if_eq (y := 0) (tgt := 77) S dX4_isBalanced_49 (by decide) ?_ ?_
      · refine aw_iconst (v := (0 : Int32)) S dX4_isBalanced_77 (by decide) ?_
        exact aw_ret S hQ (vp_nar_int _) (by decide) (by decide) dX4_isBalanced_78
      refine aw_iload_n S 2 rfl dX4_isBalanced_52 rfl ?_
      refine aw_if_eq (y := 0) (tgt := 77) S dX4_isBalanced_53 (by decide) ?_ ?_
      · refine aw_iconst (v := (0 : Int32)) S dX4_isBalanced_77 (by decide) ?_
        exact aw_ret S hQ (vp_nar_int _) (by decide) (by decide) dX4_isBalanced_78
      refine aw_aload_n S 0 rfl dX4_isBalanced_56 rfl ?_
      refine aw_cVi S 0 [] vw_X4_isBoilingSame cl_X4 (by decide) (by decide) tw_597 (s_X4_isBoilingSame _ _ _ I3) ⟨by decide, by decide⟩ rfl rfl (Nat.le_of_ble_eq_true rfl) rfl rfl (by decide) (by decide) dX4_isBalanced_57 (fun x4 I4 => ?_)
      refine aw_if_eq (y := 0) (tgt := 77) S dX4_isBalanced_60 (by decide) ?_ ?_
      · refine aw_iconst (v := (0 : Int32)) S dX4_isBalanced_77 (by decide) ?_
        exact aw_ret S hQ (vp_nar_int _) (by decide) (by decide) dX4_isBalanced_78
      refine aw_aload_n S 0 rfl dX4_isBalanced_63 rfl ?_
      refine aw_getR S 0 0 1 cl_X4 (by decide) (by decide) (by decide) (by decide) (by decide) rfl tw_225 dX4_isBalanced_64 ?_
      refine aw_cVi S 1 [] vw_X3_hasPitchOnTwoStoves cl_X3 (by decide) (by decide) tw_602 (s_X3_hasPitchOnTwoStoves _ _ _ I4) ⟨by decide, by decide⟩ rfl rfl (Nat.le_of_ble_eq_true rfl) rfl rfl (by decide) (by decide) dX4_isBalanced_67 (fun x5 I5 => ?_)
      refine aw_if_ne (y := 0) (tgt := 77) S dX4_isBalanced_70 (by decide) ?_ ?_
      · refine aw_iconst (v := (0 : Int32)) S dX4_isBalanced_77 (by decide) ?_
        exact aw_ret S hQ (vp_nar_int _) (by decide) (by decide) dX4_isBalanced_78
      refine aw_iconst (v := (1 : Int32)) S dX4_isBalanced_73 (by decide) ?_
      refine aw_goto (tgt := 78) S dX4_isBalanced_74 (by decide) ?_
      exact aw_ret S hQ (vp_nar_int _) (by decide) (by decide) dX4_isBalanced_78
    refine aw_icmp_ne (tgt := 46) S dX4_isBalanced_39 (by decide) ?_ ?_
    · refine aw_iconst (v := (0 : Int32)) S dX4_isBalanced_46 (by decide) ?_
      exact hj47 (0 : Int32)
    refine aw_iconst (v := (1 : Int32)) S dX4_isBalanced_42 (by decide) ?_
    refine aw_goto (tgt := 47) S dX4_isBalanced_43 (by decide) ?_
    exact hj47 (1 : Int32)
  refine aw_icmp_ne (tgt := 29) S dX4_isBalanced_22 (by decide) ?_ ?_
  · refine aw_iconst (v := (0 : Int32)) S dX4_isBalanced_29 (by decide) ?_
    exact hj30 (0 : Int32)
  refine aw_iconst (v := (1 : Int32)) S dX4_isBalanced_25 (by decide) ?_
  refine aw_goto (tgt := 30) S dX4_isBalanced_26 (by decide) ?_
  exact hj30 (1 : Int32)
set_option maxHeartbeats 4000000 in
set_option maxRecDepth 100000 in
theorem s_X4_meanWater (hs : kgH) (l : Launch) (w : Option (Nat × Nat))  (I0 : kgM) : Sdd hs l w yX4_meanWater (kg_ws yX4_meanWater cX4_meanWater 1 (some .double)) { frames := 1, cells := 0, slots := 0, locals := 22 } [.ref (kgO hs 0)] I0 (f_X4_meanWater I0) := by
  refine sd_d (av := fun hs => [.ref (kgO hs 0)]) (by decide +kernel) (fun hs => Nat.le_of_ble_eq_true rfl) (fun X S hQ => ?_) hs l
  refine aw_sub (L2 := [(0, .ref (kgO (kgHs X) 0))]) [0] rfl ?_
  unfold f_X4_meanWater
  refine aw_aload_n S 0 rfl dX4_meanWater_0 rfl ?_
  refine aw_getR S 0 0 1 cl_X4 (by decide) (by decide) (by decide) (by decide) (by decide) rfl tw_225 dX4_meanWater_1 ?_
  refine aw_getI S 1 14 cl_X3 (by decide) (by decide) (by decide) (by decide) rfl tw_86 dX4_meanWater_4 ?_
  refine aw_if_ne (y := 0) (tgt := 14) S dX4_meanWater_7 (by decide) ?_ ?_
  · refine aw_aload_n S 0 rfl dX4_meanWater_14 rfl ?_
    refine aw_getR S 0 0 1 cl_X4 (by decide) (by decide) (by decide) (by decide) (by decide) rfl tw_225 dX4_meanWater_15 ?_
    refine aw_cVi S 1 [] vw_X3_sumWater cl_X3 (by decide) (by decide) tw_584 (s_X3_sumWater _ _ _ I0) ⟨by decide, by decide⟩ rfl rfl (Nat.le_of_ble_eq_true rfl) rfl rfl (by decide) (by decide) dX4_meanWater_18 (fun x1 I1 => ?_)
    refine aw_i2d S dX4_meanWater_21 ?_
    refine aw_aload_n S 0 rfl dX4_meanWater_22 rfl ?_
    refine aw_getR S 0 0 1 cl_X4 (by decide) (by decide) (by decide) (by decide) (by decide) rfl tw_225 dX4_meanWater_23 ?_
    refine aw_getI S 1 14 cl_X3 (by decide) (by decide) (by decide) (by decide) rfl tw_86 dX4_meanWater_26 ?_
    refine aw_i2d S dX4_meanWater_29 ?_
    refine aw_ddiv S dX4_meanWater_30 ?_
    exact aw_retd S hQ (by decide) (by decide) dX4_meanWater_31
  refine aw_dconst S dX4_meanWater_10 ?_
  refine aw_goto (tgt := 31) S dX4_meanWater_11 (by decide) ?_
  exact aw_retd S hQ (by decide) (by decide) dX4_meanWater_31
set_option maxHeartbeats 4000000 in
set_option maxRecDepth 100000 in
theorem s_X4_whistleShare (hs : kgH) (l : Launch) (w : Option (Nat × Nat))  (I0 : kgM) : Sdf hs l w yX4_whistleShare (kg_ws yX4_whistleShare cX4_whistleShare 2 (some .float)) { frames := 3, cells := 0, slots := 0, locals := 65 } [.ref (kgO hs 0)] I0 (f_X4_whistleShare I0) := by
  refine sd_f (av := fun hs => [.ref (kgO hs 0)]) (by decide +kernel) (fun hs => Nat.le_of_ble_eq_true rfl) (fun X S hQ => ?_) hs l
  refine aw_sub (L2 := [(0, .ref (kgO (kgHs X) 0))]) [0] rfl ?_
  unfold f_X4_whistleShare
  refine aw_aload_n S 0 rfl dX4_whistleShare_0 rfl ?_
  refine aw_getR S 0 0 1 cl_X4 (by decide) (by decide) (by decide) (by decide) (by decide) rfl tw_225 dX4_whistleShare_1 ?_
  refine aw_cVi S 1 [] vw_X3_countOnStoves cl_X3 (by decide) (by decide) tw_568 (s_X3_countOnStoves _ _ _ I0) ⟨by decide, by decide⟩ rfl rfl (Nat.le_of_ble_eq_true rfl) rfl rfl (by decide) (by decide) dX4_whistleShare_4 (fun x1 I1 => ?_)
  refine aw_istore_n (L2 := [(0, .ref (kgO (kgHs X) 0)), (1, .int x1)]) S [1, 0] dX4_whistleShare_7 rfl (by decide) rfl ?_
  refine aw_iload_n S 1 rfl dX4_whistleShare_8 rfl ?_
  refine aw_if_ne (y := 0) (tgt := 16) S dX4_whistleShare_9 (by decide) ?_ ?_
  · refine aw_aload_n S 0 rfl dX4_whistleShare_16 rfl ?_
    refine aw_getR S 0 0 1 cl_X4 (by decide) (by decide) (by decide) (by decide) (by decide) rfl tw_225 dX4_whistleShare_17 ?_
    refine aw_cVi S 1 [] vw_X3_whistlers cl_X3 (by decide) (by decide) tw_305 (s_X3_whistlers _ _ _ I1) ⟨by decide, by decide⟩ rfl rfl (Nat.le_of_ble_eq_true rfl) rfl rfl (by decide) (by decide) dX4_whistleShare_20 (fun x2 I2 => ?_)
    refine aw_cSi S [.int x2] vw_J6_bitCount_0f7a4 tw_284 (s_J6_bitCount_0f7a4 _ _ _ x2 I2) ⟨by decide, by decide⟩ rfl rfl (Nat.le_of_ble_eq_true rfl) rfl rfl (by decide) (by decide) dX4_whistleShare_23 (fun x3 I3 => ?_)
    refine aw_i2f S dX4_whistleShare_26 ?_
    refine aw_iload_n S 1 rfl dX4_whistleShare_27 rfl ?_
    refine aw_i2f S dX4_whistleShare_28 ?_
    refine aw_fdiv S dX4_whistleShare_29 ?_
    exact aw_retf S hQ (by decide) (by decide) dX4_whistleShare_30
  refine aw_fconst S dX4_whistleShare_12 ?_
  refine aw_goto (tgt := 30) S dX4_whistleShare_13 (by decide) ?_
  exact aw_retf S hQ (by decide) (by decide) dX4_whistleShare_30
