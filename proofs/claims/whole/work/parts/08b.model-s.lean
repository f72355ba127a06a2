set_option maxHeartbeats 4000000 in
set_option maxRecDepth 100000 in
theorem s_X5_in (hs : kgH) (l : Launch) (p1 : Int32) (p2 : Int32) (p3 : Int32) (I0 : kgM) : Sdi hs l yX5_in (kg_ws yX5_in cX5_in 3 (some .boolean)) { frames := 0, cells := 0, slots := 0, locals := 0 } [.int p1, .int p2, .int p3] I0 (f_X5_in p1 p2 p3 I0) := by
  refine sd_i (av := fun hs => [.int p1, .int p2, .int p3]) (by decide) (fun hs => Nat.le_of_ble_eq_true rfl) (fun X S hQ => ?_) hs l
  refine aw_sub (L2 := [(0, .int p1), (1, .int p2), (2, .int p3)]) [0, 1, 2] rfl ?_
  unfold f_X5_in
  refine aw_iload_n S 0 rfl dX5_in_0 rfl ?_
  refine aw_iload_n S 1 rfl dX5_in_1 rfl ?_
  refine aw_icmp_lt (tgt := 14) S dX5_in_2 (by decide) ?_ ?_
  · refine aw_iconst (v := (0 : Int32)) S dX5_in_14 (by decide) ?_
    exact aw_ret S hQ rfl (by decide) (by decide) dX5_in_15
  refine aw_iload_n S 0 rfl dX5_in_5 rfl ?_
  refine aw_iload_n S 2 rfl dX5_in_6 rfl ?_
  refine aw_icmp_gt (tgt := 14) S dX5_in_7 (by decide) ?_ ?_
  · refine aw_iconst (v := (0 : Int32)) S dX5_in_14 (by decide) ?_
    exact aw_ret S hQ rfl (by decide) (by decide) dX5_in_15
  refine aw_iconst (v := (1 : Int32)) S dX5_in_10 (by decide) ?_
  refine aw_goto (tgt := 15) S dX5_in_11 (by decide) ?_
  exact aw_ret S hQ rfl (by decide) (by decide) dX5_in_15
set_option maxHeartbeats 4000000 in
set_option maxRecDepth 100000 in
theorem s_X5_isKettle (hs : kgH) (l : Launch) (p1 : Int32) (I0 : kgM) : Sdi hs l yX5_isKettle (kg_ws yX5_isKettle cX5_isKettle 2 (some .boolean)) { frames := 1, cells := 0, slots := 0, locals := 22 } [.ref (kgB hs + 177), .int p1] I0 (f_X5_isKettle p1 I0) := by
  refine sd_i (av := fun hs => [.ref (kgB hs + 177), .int p1]) (by decide) (fun hs => Nat.le_of_ble_eq_true rfl) (fun X S hQ => ?_) hs l
  refine aw_sub (L2 := [(0, .ref (kgB (kgHs X) + 177)), (1, .int p1)]) [0, 1] rfl ?_
  unfold f_X5_isKettle
  refine aw_iload_n S 1 rfl dX5_isKettle_0 rfl ?_
  refine aw_iconst (v := (0 : Int32)) S dX5_isKettle_1 (by decide) ?_
  refine aw_aload_n S 0 rfl dX5_isKettle_2 rfl ?_
  refine aw_getR S 177 0 178 cl_X5 (by decide) (by decide) (by decide) (by decide) (by decide) rfl tw_963 dX5_isKettle_3 ?_
  refine aw_iconst (v := (1 : Int32)) S dX5_isKettle_6 (by decide) ?_
  refine aw_iald S 178 1375 (by decide) (by decide) dX5_isKettle_7 ?_
  refine aw_iconst (v := (1 : Int32)) S dX5_isKettle_8 (by decide) ?_
  refine aw_isub S dX5_isKettle_9 ?_
  refine aw_cSi S [.int p1, .int (0 : Int32), .int ((I0 178 (1 : Int32).toNatClampNeg) - (1 : Int32))] vw_X5_in tw_1010 (s_X5_in _ _ p1 (0 : Int32) ((I0 178 (1 : Int32).toNatClampNeg) - (1 : Int32)) I0) ⟨by decide, by decide⟩ rfl rfl (Nat.le_of_ble_eq_true rfl) rfl rfl (by decide) (by decide) dX5_isKettle_10 (fun x1 I1 => ?_)
  exact aw_retz S hQ (by decide) (by decide) dX5_isKettle_13
set_option maxHeartbeats 4000000 in
set_option maxRecDepth 100000 in
theorem s_X5_ownerOf (hs : kgH) (l : Launch) (p1 : Int32) (I0 : kgM) : Sdi hs l yX5_ownerOf (kg_ws yX5_ownerOf cX5_ownerOf 2 (some .int)) { frames := 0, cells := 0, slots := 0, locals := 0 } [.ref (kgB hs + 177), .int p1] I0 (f_X5_ownerOf p1 I0) := by
  refine sd_i (av := fun hs => [.ref (kgB hs + 177), .int p1]) (by decide) (fun hs => Nat.le_of_ble_eq_true rfl) (fun X S hQ => ?_) hs l
  refine aw_sub (L2 := [(0, .ref (kgB (kgHs X) + 177)), (1, .int p1)]) [0, 1] rfl ?_
  unfold f_X5_ownerOf
  refine aw_aload_n S 0 rfl dX5_ownerOf_0 rfl ?_
  refine aw_getR S 177 0 178 cl_X5 (by decide) (by decide) (by decide) (by decide) (by decide) rfl tw_963 dX5_ownerOf_1 ?_
  refine aw_bipush (v := (17 : Int32)) S dX5_ownerOf_4 (by decide) ?_
  refine aw_iload_n S 1 rfl dX5_ownerOf_6 rfl ?_
  refine aw_iadd S dX5_ownerOf_7 ?_
  refine aw_iconst (v := (1 : Int32)) S dX5_ownerOf_8 (by decide) ?_
  refine aw_isub S dX5_ownerOf_9 ?_
  refine aw_iald S 178 1375 (by decide) (by decide) dX5_ownerOf_10 ?_
  refine aw_iconst (v := (1 : Int32)) S dX5_ownerOf_11 (by decide) ?_
  refine aw_isub S dX5_ownerOf_12 ?_
  exact aw_ret S hQ (vp_nar_int _) (by decide) (by decide) dX5_ownerOf_13
set_option maxHeartbeats 4000000 in
set_option maxRecDepth 100000 in
theorem s_X5_pitchesOf_L4 {X : kgCX (Int32 × kgM)} (S : Cx X cX5_pitchesOf RX5 4 1 21 0 0) (hQ : Qxi X .int) (a1 : Int32) {K : Int32 → kgM → Option (Int32 × kgM)} (hK : ∀ (z2 : Int32) (J : kgM), AW X 4 0 0 (K z2 J) 33 [(2, .int z2)] [] J) : ∀ (q : Nat) (x2h4 : Int32) (x3h4 : Int32) (Ih4 : kgM), AW X 4 0 0 (f_X5_pitchesOf_L4 a1 K q x2h4 x3h4 Ih4) 4 [(0, .ref (kgB (kgHs X) + 177)), (1, .int a1), (2, .int x2h4), (3, .int x3h4)] [] Ih4 := by
  intro q
  induction q with
  | zero => intros; exact aw_none
  | succ q ih =>
    intro x2h4 x3h4 Ih4
    rw [f_X5_pitchesOf_L4]
    refine aw_iload_n S 3 rfl dX5_pitchesOf_4 rfl ?_
    refine aw_bipush (v := (13 : Int32)) S dX5_pitchesOf_5 (by decide) ?_
    refine aw_icmp_ge (tgt := 33) S dX5_pitchesOf_7 (by decide) ?_ ?_
    · refine aw_sub (L2 := [(2, .int x2h4)]) [2] rfl ?_
      exact hK x2h4 Ih4
    refine aw_iload_n S 2 rfl dX5_pitchesOf_10 rfl ?_
    refine aw_aload_n S 0 rfl dX5_pitchesOf_11 rfl ?_
    refine aw_iload_n S 3 rfl dX5_pitchesOf_12 rfl ?_
    refine aw_cVi S 177 [.int x3h4] vw_X5_ownerOf cl_X5 (by decide) (by decide) tw_1035 (s_X5_ownerOf _ _ x3h4 Ih4) ⟨by decide, by decide⟩ rfl rfl (Nat.le_of_ble_eq_true rfl) rfl rfl (by decide) (by decide) dX5_pitchesOf_13 (fun x1 I1 => ?_)
    refine aw_iload_n S 1 rfl dX5_pitchesOf_16 rfl ?_
    refine aw_icmp_ne (tgt := 24) S dX5_pitchesOf_17 (by decide) ?_ ?_
    · refine aw_iconst (v := (0 : Int32)) S dX5_pitchesOf_24 (by decide) ?_
      refine aw_iadd S dX5_pitchesOf_25 ?_
      refine aw_istore_n (L2 := [(0, .ref (kgB (kgHs X) + 177)), (1, .int a1), (2, .int (x2h4 + (0 : Int32))), (3, .int x3h4)]) S [1, 2, 0, 3] dX5_pitchesOf_26 rfl (by decide) rfl ?_
      refine aw_let (Lf := fun x2 => [(0, .ref (kgB (kgHs X) + 177)), (1, .int a1), (2, .int x2), (3, .int x3h4)]) (x2h4 + (0 : Int32)) (fun x2 => ?_)
      refine aw_iinc (v := x3h4 + (1 : Int32)) (L2 := [(0, .ref (kgB (kgHs X) + 177)), (1, .int a1), (2, .int x2), (3, .int (x3h4 + (1 : Int32)))]) S [1, 2, 3, 0] 3 dX5_pitchesOf_27 rfl rfl (by decide) rfl ?_
      refine aw_let (Lf := fun x3 => [(0, .ref (kgB (kgHs X) + 177)), (1, .int a1), (2, .int x2), (3, .int x3)]) (x3h4 + (1 : Int32)) (fun x3 => ?_)
      refine aw_goto (tgt := 4) S dX5_pitchesOf_30 (by decide) ?_
      exact ih x2 x3 I1
    refine aw_iconst (v := (1 : Int32)) S dX5_pitchesOf_20 (by decide) ?_
    refine aw_goto (tgt := 25) S dX5_pitchesOf_21 (by decide) ?_
    refine aw_iadd S dX5_pitchesOf_25 ?_
    refine aw_istore_n (L2 := [(0, .ref (kgB (kgHs X) + 177)), (1, .int a1), (2, .int (x2h4 + (1 : Int32))), (3, .int x3h4)]) S [1, 2, 0, 3] dX5_pitchesOf_26 rfl (by decide) rfl ?_
    refine aw_let (Lf := fun x4 => [(0, .ref (kgB (kgHs X) + 177)), (1, .int a1), (2, .int x4), (3, .int x3h4)]) (x2h4 + (1 : Int32)) (fun x4 => ?_)
    refine aw_iinc (v := x3h4 + (1 : Int32)) (L2 := [(0, .ref (kgB (kgHs X) + 177)), (1, .int a1), (2, .int x4), (3, .int (x3h4 + (1 : Int32)))]) S [1, 2, 3, 0] 3 dX5_pitchesOf_27 rfl rfl (by decide) rfl ?_
    refine aw_let (Lf := fun x5 => [(0, .ref (kgB (kgHs X) + 177)), (1, .int a1), (2, .int x4), (3, .int x5)]) (x3h4 + (1 : Int32)) (fun x5 => ?_)
    refine aw_goto (tgt := 4) S dX5_pitchesOf_30 (by decide) ?_
    exact ih x4 x5 I1
set_option maxHeartbeats 4000000 in
set_option maxRecDepth 100000 in
theorem s_X5_pitchesOf (hs : kgH) (l : Launch) (p1 : Int32) (I0 : kgM) : Sdi hs l yX5_pitchesOf (kg_ws yX5_pitchesOf cX5_pitchesOf 4 (some .int)) { frames := 1, cells := 0, slots := 0, locals := 21 } [.ref (kgB hs + 177), .int p1] I0 (f_X5_pitchesOf p1 I0) := by
  refine sd_i (av := fun hs => [.ref (kgB hs + 177), .int p1]) (by decide) (fun hs => Nat.le_of_ble_eq_true rfl) (fun X S hQ => ?_) hs l
  refine aw_sub (L2 := [(0, .ref (kgB (kgHs X) + 177)), (1, .int p1)]) [0, 1] rfl ?_
  unfold f_X5_pitchesOf
  refine aw_iconst (v := (0 : Int32)) S dX5_pitchesOf_0 (by decide) ?_
  refine aw_istore_n (L2 := [(0, .ref (kgB (kgHs X) + 177)), (1, .int p1), (2, .int (0 : Int32))]) S [1, 2, 0] dX5_pitchesOf_1 rfl (by decide) rfl ?_
  refine aw_iconst (v := (1 : Int32)) S dX5_pitchesOf_2 (by decide) ?_
  refine aw_istore_n (L2 := [(0, .ref (kgB (kgHs X) + 177)), (1, .int p1), (2, .int (0 : Int32)), (3, .int (1 : Int32))]) S [1, 2, 3, 0] dX5_pitchesOf_3 rfl (by decide) rfl ?_
  refine s_X5_pitchesOf_L4 S hQ p1 (fun x6 I2 => ?_) 200 (0 : Int32) (1 : Int32) I0
  refine aw_iload_n S 0 rfl dX5_pitchesOf_33 rfl ?_
  exact aw_ret S hQ (vp_nar_int _) (by decide) (by decide) dX5_pitchesOf_34
set_option maxHeartbeats 4000000 in
set_option maxRecDepth 100000 in
theorem s_X5_kt (hs : kgH) (l : Launch) (p1 : Int32) (p2 : Int32) (I0 : kgM) : Sdi hs l yX5_kt (kg_ws yX5_kt cX5_kt 3 (some .int)) { frames := 0, cells := 0, slots := 0, locals := 0 } [.ref (kgB hs + 177), .int p1, .int p2] I0 (f_X5_kt p1 p2 I0) := by
  refine sd_i (av := fun hs => [.ref (kgB hs + 177), .int p1, .int p2]) (by decide) (fun hs => Nat.le_of_ble_eq_true rfl) (fun X S hQ => ?_) hs l
  refine aw_sub (L2 := [(0, .ref (kgB (kgHs X) + 177)), (1, .int p1), (2, .int p2)]) [0, 1, 2] rfl ?_
  unfold f_X5_kt
  refine aw_aload_n S 0 rfl dX5_kt_0 rfl ?_
  refine aw_getR S 177 0 178 cl_X5 (by decide) (by decide) (by decide) (by decide) (by decide) rfl tw_963 dX5_kt_1 ?_
  refine aw_bipush (v := (35 : Int32)) S dX5_kt_4 (by decide) ?_
  refine aw_bipush (v := (9 : Int32)) S dX5_kt_6 (by decide) ?_
  refine aw_iload_n S 1 rfl dX5_kt_8 rfl ?_
  refine aw_imul S dX5_kt_9 ?_
  refine aw_iadd S dX5_kt_10 ?_
  refine aw_iload_n S 2 rfl dX5_kt_11 rfl ?_
  refine aw_iadd S dX5_kt_12 ?_
  refine aw_iald S 178 1375 (by decide) (by decide) dX5_kt_13 ?_
  exact aw_ret S hQ (vp_nar_int _) (by decide) (by decide) dX5_kt_14
set_option maxHeartbeats 4000000 in
set_option maxRecDepth 100000 in
theorem s_X5_isOnStove (hs : kgH) (l : Launch) (p1 : Int32) (I0 : kgM) : Sdi hs l yX5_isOnStove (kg_ws yX5_isOnStove cX5_isOnStove 2 (some .boolean)) { frames := 1, cells := 0, slots := 0, locals := 22 } [.ref (kgB hs + 177), .int p1] I0 (f_X5_isOnStove p1 I0) := by
  refine sd_i (av := fun hs => [.ref (kgB hs + 177), .int p1]) (by decide) (fun hs => Nat.le_of_ble_eq_true rfl) (fun X S hQ => ?_) hs l
  refine aw_sub (L2 := [(0, .ref (kgB (kgHs X) + 177)), (1, .int p1)]) [0, 1] rfl ?_
  unfold f_X5_isOnStove
  refine aw_aload_n S 0 rfl dX5_isOnStove_0 rfl ?_
  refine aw_iload_n S 1 rfl dX5_isOnStove_1 rfl ?_
  refine aw_iconst (v := (5 : Int32)) S dX5_isOnStove_2 (by decide) ?_
  refine aw_cVi S 177 [.int p1, .int (5 : Int32)] vw_X5_kt cl_X5 (by decide) (by decide) tw_1075 (s_X5_kt _ _ p1 (5 : Int32) I0) ⟨by decide, by decide⟩ rfl rfl (Nat.le_of_ble_eq_true rfl) rfl rfl (by decide) (by decide) dX5_isOnStove_3 (fun x1 I1 => ?_)
  refine aw_if_le (y := 0) (tgt := 13) S dX5_isOnStove_6 (by decide) ?_ ?_
  · refine aw_iconst (v := (0 : Int32)) S dX5_isOnStove_13 (by decide) ?_
    exact aw_ret S hQ rfl (by decide) (by decide) dX5_isOnStove_14
  refine aw_iconst (v := (1 : Int32)) S dX5_isOnStove_9 (by decide) ?_
  refine aw_goto (tgt := 14) S dX5_isOnStove_10 (by decide) ?_
  exact aw_ret S hQ rfl (by decide) (by decide) dX5_isOnStove_14
