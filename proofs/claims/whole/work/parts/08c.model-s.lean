set_option maxHeartbeats 4000000 in
set_option maxRecDepth 100000 in
theorem s_X5_heatUnder (hs : kgH) (l : Launch) (p1 : Int32) (I0 : kgM) : Sdi hs l yX5_heatUnder (kg_ws yX5_heatUnder cX5_heatUnder 2 (some .int)) { frames := 2, cells := 0, slots := 0, locals := 43 } [.ref (kgB hs + 177), .int p1] I0 (f_X5_heatUnder p1 I0) := by
  refine sd_i (av := fun hs => [.ref (kgB hs + 177), .int p1]) (by decide) (fun hs => Nat.le_of_ble_eq_true rfl) (fun X S hQ => ?_) hs l
  refine aw_sub (L2 := [(0, .ref (kgB (kgHs X) + 177)), (1, .int p1)]) [0, 1] rfl ?_
  unfold f_X5_heatUnder
  refine aw_aload_n S 0 rfl dX5_heatUnder_0 rfl ?_
  refine aw_iload_n S 1 rfl dX5_heatUnder_1 rfl ?_
  refine aw_cVi S 177 [.int p1] vw_X5_isOnStove cl_X5 (by decide) (by decide) tw_1098 (s_X5_isOnStove _ _ p1 I0) ⟨by decide, by decide⟩ rfl rfl (Nat.le_of_ble_eq_true rfl) rfl rfl (by decide) (by decide) dX5_heatUnder_2 (fun x1 I1 => ?_)
  refine aw_if_eq (y := 0) (tgt := 27) S dX5_heatUnder_5 (by decide) ?_ ?_
  · refine aw_iconst (v := (0 : Int32)) S dX5_heatUnder_27 (by decide) ?_
    exact aw_ret S hQ (vp_nar_int _) (by decide) (by decide) dX5_heatUnder_28
  refine aw_aload_n S 0 rfl dX5_heatUnder_8 rfl ?_
  refine aw_getR S 177 0 178 cl_X5 (by decide) (by decide) (by decide) (by decide) (by decide) rfl tw_963 dX5_heatUnder_9 ?_
  refine aw_bipush (v := (29 : Int32)) S dX5_heatUnder_12 (by decide) ?_
  refine aw_aload_n S 0 rfl dX5_heatUnder_14 rfl ?_
  refine aw_iload_n S 1 rfl dX5_heatUnder_15 rfl ?_
  refine aw_iconst (v := (5 : Int32)) S dX5_heatUnder_16 (by decide) ?_
  refine aw_cVi S 177 [.int p1, .int (5 : Int32)] vw_X5_kt cl_X5 (by decide) (by decide) tw_1075 (s_X5_kt _ _ p1 (5 : Int32) I1) ⟨by decide, by decide⟩ rfl rfl (Nat.le_of_ble_eq_true rfl) rfl rfl (by decide) (by decide) dX5_heatUnder_17 (fun x2 I2 => ?_)
  refine aw_iadd S dX5_heatUnder_20 ?_
  refine aw_iconst (v := (1 : Int32)) S dX5_heatUnder_21 (by decide) ?_
  refine aw_isub S dX5_heatUnder_22 ?_
  refine aw_iald S 178 1375 (by decide) (by decide) dX5_heatUnder_23 ?_
  refine aw_goto (tgt := 28) S dX5_heatUnder_24 (by decide) ?_
  exact aw_ret S hQ (vp_nar_int _) (by decide) (by decide) dX5_heatUnder_28
set_option maxHeartbeats 4000000 in
set_option maxRecDepth 100000 in
theorem s_X5_boils (hs : kgH) (l : Launch) (p1 : Int32) (I0 : kgM) : Sdi hs l yX5_boils (kg_ws yX5_boils cX5_boils 2 (some .boolean)) { frames := 3, cells := 0, slots := 0, locals := 64 } [.ref (kgB hs + 177), .int p1] I0 (f_X5_boils p1 I0) := by
  refine sd_i (av := fun hs => [.ref (kgB hs + 177), .int p1]) (by decide) (fun hs => Nat.le_of_ble_eq_true rfl) (fun X S hQ => ?_) hs l
  refine aw_sub (L2 := [(0, .ref (kgB (kgHs X) + 177)), (1, .int p1)]) [0, 1] rfl ?_
  unfold f_X5_boils
  refine aw_aload_n S 0 rfl dX5_boils_0 rfl ?_
  refine aw_iload_n S 1 rfl dX5_boils_1 rfl ?_
  refine aw_cVi S 177 [.int p1] vw_X5_heatUnder cl_X5 (by decide) (by decide) tw_1165 (s_X5_heatUnder _ _ p1 I0) ⟨by decide, by decide⟩ rfl rfl (Nat.le_of_ble_eq_true rfl) rfl rfl (by decide) (by decide) dX5_boils_2 (fun x1 I1 => ?_)
  refine aw_if_le (y := 0) (tgt := 23) S dX5_boils_5 (by decide) ?_ ?_
  · refine aw_iconst (v := (0 : Int32)) S dX5_boils_23 (by decide) ?_
    exact aw_ret S hQ rfl (by decide) (by decide) dX5_boils_24
  refine aw_aload_n S 0 rfl dX5_boils_8 rfl ?_
  refine aw_iload_n S 1 rfl dX5_boils_9 rfl ?_
  refine aw_iconst (v := (3 : Int32)) S dX5_boils_10 (by decide) ?_
  refine aw_cVi S 177 [.int p1, .int (3 : Int32)] vw_X5_kt cl_X5 (by decide) (by decide) tw_1075 (s_X5_kt _ _ p1 (3 : Int32) I1) ⟨by decide, by decide⟩ rfl rfl (Nat.le_of_ble_eq_true rfl) rfl rfl (by decide) (by decide) dX5_boils_11 (fun x2 I2 => ?_)
  refine aw_bipush (v := (100 : Int32)) S dX5_boils_14 (by decide) ?_
  refine aw_icmp_ne (tgt := 23) S dX5_boils_16 (by decide) ?_ ?_
  · refine aw_iconst (v := (0 : Int32)) S dX5_boils_23 (by decide) ?_
    exact aw_ret S hQ rfl (by decide) (by decide) dX5_boils_24
  refine aw_iconst (v := (1 : Int32)) S dX5_boils_19 (by decide) ?_
  refine aw_goto (tgt := 24) S dX5_boils_20 (by decide) ?_
  exact aw_ret S hQ rfl (by decide) (by decide) dX5_boils_24
set_option maxHeartbeats 4000000 in
set_option maxRecDepth 100000 in
theorem s_X5_whistles (hs : kgH) (l : Launch) (p1 : Int32) (I0 : kgM) : Sdi hs l yX5_whistles (kg_ws yX5_whistles cX5_whistles 2 (some .boolean)) { frames := 4, cells := 0, slots := 0, locals := 85 } [.ref (kgB hs + 177), .int p1] I0 (f_X5_whistles p1 I0) := by
  refine sd_i (av := fun hs => [.ref (kgB hs + 177), .int p1]) (by decide) (fun hs => Nat.le_of_ble_eq_true rfl) (fun X S hQ => ?_) hs l
  refine aw_sub (L2 := [(0, .ref (kgB (kgHs X) + 177)), (1, .int p1)]) [0, 1] rfl ?_
  unfold f_X5_whistles
  refine aw_aload_n S 0 rfl dX5_whistles_0 rfl ?_
  refine aw_iload_n S 1 rfl dX5_whistles_1 rfl ?_
  refine aw_cVi S 177 [.int p1] vw_X5_boils cl_X5 (by decide) (by decide) tw_1161 (s_X5_boils _ _ p1 I0) ⟨by decide, by decide⟩ rfl rfl (Nat.le_of_ble_eq_true rfl) rfl rfl (by decide) (by decide) dX5_whistles_2 (fun x1 I1 => ?_)
  refine aw_if_eq (y := 0) (tgt := 31) S dX5_whistles_5 (by decide) ?_ ?_
  · refine aw_iconst (v := (0 : Int32)) S dX5_whistles_31 (by decide) ?_
    exact aw_ret S hQ rfl (by decide) (by decide) dX5_whistles_32
  refine aw_aload_n S 0 rfl dX5_whistles_8 rfl ?_
  refine aw_iload_n S 1 rfl dX5_whistles_9 rfl ?_
  refine aw_iconst (v := (2 : Int32)) S dX5_whistles_10 (by decide) ?_
  refine aw_cVi S 177 [.int p1, .int (2 : Int32)] vw_X5_kt cl_X5 (by decide) (by decide) tw_1075 (s_X5_kt _ _ p1 (2 : Int32) I1) ⟨by decide, by decide⟩ rfl rfl (Nat.le_of_ble_eq_true rfl) rfl rfl (by decide) (by decide) dX5_whistles_11 (fun x2 I2 => ?_)
  refine aw_if_le (y := 0) (tgt := 31) S dX5_whistles_14 (by decide) ?_ ?_
  · refine aw_iconst (v := (0 : Int32)) S dX5_whistles_31 (by decide) ?_
    exact aw_ret S hQ rfl (by decide) (by decide) dX5_whistles_32
  refine aw_aload_n S 0 rfl dX5_whistles_17 rfl ?_
  refine aw_iload_n S 1 rfl dX5_whistles_18 rfl ?_
  refine aw_iconst (v := (4 : Int32)) S dX5_whistles_19 (by decide) ?_
  refine aw_cVi S 177 [.int p1, .int (4 : Int32)] vw_X5_kt cl_X5 (by decide) (by decide) tw_1075 (s_X5_kt _ _ p1 (4 : Int32) I2) ⟨by decide, by decide⟩ rfl rfl (Nat.le_of_ble_eq_true rfl) rfl rfl (by decide) (by decide) dX5_whistles_20 (fun x3 I3 => ?_)
  refine aw_iconst (v := (1 : Int32)) S dX5_whistles_23 (by decide) ?_
  refine aw_icmp_ne (tgt := 31) S dX5_whistles_24 (by decide) ?_ ?_
  · refine aw_iconst (v := (0 : Int32)) S dX5_whistles_31 (by decide) ?_
    exact aw_ret S hQ rfl (by decide) (by decide) dX5_whistles_32
  refine aw_iconst (v := (1 : Int32)) S dX5_whistles_27 (by decide) ?_
  refine aw_goto (tgt := 32) S dX5_whistles_28 (by decide) ?_
  exact aw_ret S hQ rfl (by decide) (by decide) dX5_whistles_32
set_option maxHeartbeats 4000000 in
set_option maxRecDepth 100000 in
theorem s_X5_kettleOn_L2 {X : kgCX (Int32 × kgM)} (S : Cx X cX5_kettleOn RX5 3 1 22 0 0) (hQ : Qxi X .int) (a1 : Int32) {K : kgM → Option (Int32 × kgM)} (hK : ∀  (J : kgM), AW X 3 0 0 (K J) 32 [] [] J) : ∀ (q : Nat) (x2h2 : Int32) (Ih2 : kgM), AW X 3 0 0 (f_X5_kettleOn_L2 a1 K q x2h2 Ih2) 2 [(0, .ref (kgB (kgHs X) + 177)), (1, .int a1), (2, .int x2h2)] [] Ih2 := by
  intro q
  induction q with
  | zero => intros; exact aw_none
  | succ q ih =>
    intro x2h2 Ih2
    rw [f_X5_kettleOn_L2]
    refine aw_iload_n S 2 rfl dX5_kettleOn_2 rfl ?_
    refine aw_aload_n S 0 rfl dX5_kettleOn_3 rfl ?_
    refine aw_getR S 177 0 178 cl_X5 (by decide) (by decide) (by decide) (by decide) (by decide) rfl tw_963 dX5_kettleOn_4 ?_
    refine aw_iconst (v := (1 : Int32)) S dX5_kettleOn_7 (by decide) ?_
    refine aw_iald S 178 1375 (by decide) (by decide) dX5_kettleOn_8 ?_
    refine aw_icmp_ge (tgt := 32) S dX5_kettleOn_9 (by decide) ?_ ?_
    · refine aw_sub (L2 := []) [] rfl ?_
      exact hK Ih2
    refine aw_aload_n S 0 rfl dX5_kettleOn_12 rfl ?_
    refine aw_iload_n S 2 rfl dX5_kettleOn_13 rfl ?_
    refine aw_iconst (v := (5 : Int32)) S dX5_kettleOn_14 (by decide) ?_
    refine aw_cVi S 177 [.int x2h2, .int (5 : Int32)] vw_X5_kt cl_X5 (by decide) (by decide) tw_1075 (s_X5_kt _ _ x2h2 (5 : Int32) Ih2) ⟨by decide, by decide⟩ rfl rfl (Nat.le_of_ble_eq_true rfl) rfl rfl (by decide) (by decide) dX5_kettleOn_15 (fun x1 I1 => ?_)
    refine aw_iload_n S 1 rfl dX5_kettleOn_18 rfl ?_
    refine aw_iconst (v := (1 : Int32)) S dX5_kettleOn_19 (by decide) ?_
    refine aw_iadd S dX5_kettleOn_20 ?_
    refine aw_icmp_ne (tgt := 26) S dX5_kettleOn_21 (by decide) ?_ ?_
    · refine aw_iinc (v := x2h2 + (1 : Int32)) (L2 := [(0, .ref (kgB (kgHs X) + 177)), (1, .int a1), (2, .int (x2h2 + (1 : Int32)))]) S [1, 2, 0] 2 dX5_kettleOn_26 rfl rfl (by decide) rfl ?_
      refine aw_let (Lf := fun x2 => [(0, .ref (kgB (kgHs X) + 177)), (1, .int a1), (2, .int x2)]) (x2h2 + (1 : Int32)) (fun x2 => ?_)
      refine aw_goto (tgt := 2) S dX5_kettleOn_29 (by decide) ?_
      exact ih x2 I1
    refine aw_iload_n S 2 rfl dX5_kettleOn_24 rfl ?_
    exact aw_ret S hQ (vp_nar_int _) (by decide) (by decide) dX5_kettleOn_25
set_option maxHeartbeats 4000000 in
set_option maxRecDepth 100000 in
theorem s_X5_kettleOn (hs : kgH) (l : Launch) (p1 : Int32) (I0 : kgM) : Sdi hs l yX5_kettleOn (kg_ws yX5_kettleOn cX5_kettleOn 3 (some .int)) { frames := 1, cells := 0, slots := 0, locals := 22 } [.ref (kgB hs + 177), .int p1] I0 (f_X5_kettleOn p1 I0) := by
  refine sd_i (av := fun hs => [.ref (kgB hs + 177), .int p1]) (by decide) (fun hs => Nat.le_of_ble_eq_true rfl) (fun X S hQ => ?_) hs l
  refine aw_sub (L2 := [(0, .ref (kgB (kgHs X) + 177)), (1, .int p1)]) [0, 1] rfl ?_
  unfold f_X5_kettleOn
  refine aw_iconst (v := (0 : Int32)) S dX5_kettleOn_0 (by decide) ?_
  refine aw_istore_n (L2 := [(0, .ref (kgB (kgHs X) + 177)), (1, .int p1), (2, .int (0 : Int32))]) S [1, 2, 0] dX5_kettleOn_1 rfl (by decide) rfl ?_
  refine s_X5_kettleOn_L2 S hQ p1 (fun I2 => ?_) 200 (0 : Int32) I0
  refine aw_iconst (v := (-1 : Int32)) S dX5_kettleOn_32 (by decide) ?_
  exact aw_ret S hQ (vp_nar_int _) (by decide) (by decide) dX5_kettleOn_33
set_option maxHeartbeats 4000000 in
set_option maxRecDepth 100000 in
theorem s_X5_isMember (hs : kgH) (l : Launch) (p1 : Int32) (I0 : kgM) : Sdi hs l yX5_isMember (kg_ws yX5_isMember cX5_isMember 1 (some .boolean)) { frames := 1, cells := 0, slots := 0, locals := 22 } [.int p1] I0 (f_X5_isMember p1 I0) := by
  refine sd_i (av := fun hs => [.int p1]) (by decide) (fun hs => Nat.le_of_ble_eq_true rfl) (fun X S hQ => ?_) hs l
  refine aw_sub (L2 := [(0, .int p1)]) [0] rfl ?_
  unfold f_X5_isMember
  refine aw_iload_n S 0 rfl dX5_isMember_0 rfl ?_
  refine aw_iconst (v := (0 : Int32)) S dX5_isMember_1 (by decide) ?_
  refine aw_iconst (v := (3 : Int32)) S dX5_isMember_2 (by decide) ?_
  refine aw_cSi S [.int p1, .int (0 : Int32), .int (3 : Int32)] vw_X5_in tw_1010 (s_X5_in _ _ p1 (0 : Int32) (3 : Int32) I0) ⟨by decide, by decide⟩ rfl rfl (Nat.le_of_ble_eq_true rfl) rfl rfl (by decide) (by decide) dX5_isMember_3 (fun x1 I1 => ?_)
  exact aw_retz S hQ (by decide) (by decide) dX5_isMember_6
set_option maxHeartbeats 4000000 in
set_option maxRecDepth 100000 in
theorem s_X5_isPitch (hs : kgH) (l : Launch) (p1 : Int32) (I0 : kgM) : Sdi hs l yX5_isPitch (kg_ws yX5_isPitch cX5_isPitch 1 (some .boolean)) { frames := 1, cells := 0, slots := 0, locals := 22 } [.int p1] I0 (f_X5_isPitch p1 I0) := by
  refine sd_i (av := fun hs => [.int p1]) (by decide) (fun hs => Nat.le_of_ble_eq_true rfl) (fun X S hQ => ?_) hs l
  refine aw_sub (L2 := [(0, .int p1)]) [0] rfl ?_
  unfold f_X5_isPitch
  refine aw_iload_n S 0 rfl dX5_isPitch_0 rfl ?_
  refine aw_iconst (v := (1 : Int32)) S dX5_isPitch_1 (by decide) ?_
  refine aw_bipush (v := (12 : Int32)) S dX5_isPitch_2 (by decide) ?_
  refine aw_cSi S [.int p1, .int (1 : Int32), .int (12 : Int32)] vw_X5_in tw_1010 (s_X5_in _ _ p1 (1 : Int32) (12 : Int32) I0) ⟨by decide, by decide⟩ rfl rfl (Nat.le_of_ble_eq_true rfl) rfl rfl (by decide) (by decide) dX5_isPitch_4 (fun x1 I1 => ?_)
  exact aw_retz S hQ (by decide) (by decide) dX5_isPitch_7
