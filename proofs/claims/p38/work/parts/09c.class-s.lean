set_option maxHeartbeats 4000000 in
set_option maxRecDepth 100000 in
theorem s_X3_whistles (hs : kgH) (l : Launch) (w : Option (Nat × Nat)) (p1 : Int32) (I0 : kgM) : Sdi hs l w yX3_whistles (kg_ws yX3_whistles cX3_whistles 2 (some .boolean)) { frames := 3, cells := 0, slots := 0, locals := 65 } [.ref (kgO hs 1), .int p1] I0 (f_X3_whistles p1 I0) := by
  refine sd_i (av := fun hs => [.ref (kgO hs 1), .int p1]) (by decide +kernel) (fun hs => Nat.le_of_ble_eq_true rfl) (fun X S hQ => ?_) hs l
  refine aw_sub (L2 := [(0, .ref (kgO (kgHs X) 1)), (1, .int p1)]) [0, 1] rfl ?_
  unfold f_X3_whistles
  refine aw_aload_n S 0 rfl dX3_whistles_0 rfl ?_
  refine aw_cVi S 1 [] vw_X3_whistlers cl_X3 (by decide) (by decide) tw_276 (s_X3_whistlers _ _ _ I0) ⟨by decide, by decide⟩ rfl rfl (Nat.le_of_ble_eq_true rfl) rfl rfl (by decide) (by decide) dX3_whistles_1 (fun x1 I1 => ?_)
  refine aw_iload_n S 1 rfl dX3_whistles_4 rfl ?_
  refine aw_cNi (host := RX4) S [.int x1, .int p1] vw_X4_isIn (fun h => h.2.2.2.2.2.2.1) (s_X4_isIn _ _ _ x1 p1 I1) ⟨by decide, by decide⟩ rfl rfl (Nat.le_of_ble_eq_true rfl) rfl rfl (by decide) (by decide) dX3_whistles_5 (fun x2 I2 => ?_)
  exact aw_retz S hQ (by decide) (by decide) dX3_whistles_8
set_option maxHeartbeats 4000000 in
set_option maxRecDepth 100000 in
theorem s_X3_whistledPitches_L9 {X : kgCX (Int32 × kgM)} {w : Option (Nat × Nat)} (S : Cx X cX3_whistledPitches RX3 4 3 65 0 0) (hQ : Qxi X w .int) (a1 : Int32) {K : Int32 → kgM → Option (Int32 × kgM)} (hK : ∀ (z2 : Int32) (J : kgM), AW X 4 0 0 w (K z2 J) 42 [(2, .int z2)] [] J) : ∀ (q : Nat) (x2h9 : Int32) (x3h9 : Int32) (Ih9 : kgM), AW X 4 0 0 w (f_X3_whistledPitches_L9 a1 K q x2h9 x3h9 Ih9) 9 [(0, .ref (kgO (kgHs X) 1)), (1, .int a1), (2, .int x2h9), (3, .int x3h9)] [] Ih9 := by
  intro q
  induction q with
  | zero => intros; exact aw_none
  | succ q ih =>
    intro x2h9 x3h9 Ih9
    rw [f_X3_whistledPitches_L9]
    refine aw_iload_n S 3 rfl dX3_whistledPitches_9 rfl ?_
    refine aw_aload_n S 0 rfl dX3_whistledPitches_10 rfl ?_
    refine aw_getI S 1 14 cl_X3 (by decide) (by decide) (by decide) (by decide) rfl tw_85 dX3_whistledPitches_11 ?_
    refine aw_icmp_ge (tgt := 42) S dX3_whistledPitches_14 (by decide) ?_ ?_
    · refine aw_sub (L2 := [(2, .int x2h9)]) [2] rfl ?_
      exact hK x2h9 Ih9
    refine aw_iload_n S 1 rfl dX3_whistledPitches_17 rfl ?_
    refine aw_iload_n S 3 rfl dX3_whistledPitches_18 rfl ?_
    refine aw_cNi (host := RX4) S [.int a1, .int x3h9] vw_X4_isIn (fun h => h.2.2.2.2.2.2.1) (s_X4_isIn _ _ _ a1 x3h9 Ih9) ⟨by decide, by decide⟩ rfl rfl (Nat.le_of_ble_eq_true rfl) rfl rfl (by decide) (by decide) dX3_whistledPitches_19 (fun x2 I2 => ?_)
    refine aw_if_eq (y := 0) (tgt := 36) S dX3_whistledPitches_22 (by decide) ?_ ?_
    · refine aw_iinc (v := x3h9 + (1 : Int32)) (L2 := [(0, .ref (kgO (kgHs X) 1)), (1, .int a1), (2, .int x2h9), (3, .int (x3h9 + (1 : Int32)))]) S [1, 2, 3, 0] 3 dX3_whistledPitches_36 rfl rfl (by decide) rfl ?_
      refine aw_let (Lf := fun x3 => [(0, .ref (kgO (kgHs X) 1)), (1, .int a1), (2, .int x2h9), (3, .int x3)]) (x3h9 + (1 : Int32)) (fun x3 => ?_)
      refine aw_goto (tgt := 9) S dX3_whistledPitches_39 (by decide) ?_
      exact ih x2h9 x3 I2
    refine aw_iload_n S 2 rfl dX3_whistledPitches_25 rfl ?_
    refine aw_iconst (v := (1 : Int32)) S dX3_whistledPitches_26 (by decide) ?_
    refine aw_aload_n S 0 rfl dX3_whistledPitches_27 rfl ?_
    refine aw_getR S 1 6 8 cl_X3 (by decide) (by decide) (by decide) (by decide) (by decide) rfl tw_69 dX3_whistledPitches_28 ?_
    refine aw_iload_n S 3 rfl dX3_whistledPitches_31 rfl ?_
    refine aw_iald S 8 10 (by decide) (by decide) dX3_whistledPitches_32 ?_
    refine aw_ishl S dX3_whistledPitches_33 ?_
    refine aw_ior S dX3_whistledPitches_34 ?_
    refine aw_istore_n (L2 := [(0, .ref (kgO (kgHs X) 1)), (1, .int a1), (2, .int (x2h9 ||| ((1 : Int32) <<< ((I2 8 x3h9.toNatClampNeg) &&& 31)))), (3, .int x3h9)]) S [1, 2, 0, 3] dX3_whistledPitches_35 rfl (by decide) rfl ?_
    refine aw_let (Lf := fun x4 => [(0, .ref (kgO (kgHs X) 1)), (1, .int a1), (2, .int x4), (3, .int x3h9)]) (x2h9 ||| ((1 : Int32) <<< ((I2 8 x3h9.toNatClampNeg) &&& 31))) (fun x4 => ?_)
    refine aw_iinc (v := x3h9 + (1 : Int32)) (L2 := [(0, .ref (kgO (kgHs X) 1)), (1, .int a1), (2, .int x4), (3, .int (x3h9 + (1 : Int32)))]) S [1, 2, 3, 0] 3 dX3_whistledPitches_36 rfl rfl (by decide) rfl ?_
    refine aw_let (Lf := fun x5 => [(0, .ref (kgO (kgHs X) 1)), (1, .int a1), (2, .int x4), (3, .int x5)]) (x3h9 + (1 : Int32)) (fun x5 => ?_)
    refine aw_goto (tgt := 9) S dX3_whistledPitches_39 (by decide) ?_
    exact ih x4 x5 I2
set_option maxHeartbeats 4000000 in
set_option maxRecDepth 100000 in
theorem s_X3_whistledPitches (hs : kgH) (l : Launch) (w : Option (Nat × Nat))  (I0 : kgM) : Sdi hs l w yX3_whistledPitches (kg_ws yX3_whistledPitches cX3_whistledPitches 4 (some .int)) { frames := 3, cells := 0, slots := 0, locals := 65 } [.ref (kgO hs 1)] I0 (f_X3_whistledPitches I0) := by
  refine sd_i (av := fun hs => [.ref (kgO hs 1)]) (by decide +kernel) (fun hs => Nat.le_of_ble_eq_true rfl) (fun X S hQ => ?_) hs l
  refine aw_sub (L2 := [(0, .ref (kgO (kgHs X) 1))]) [0] rfl ?_
  unfold f_X3_whistledPitches
  refine aw_aload_n S 0 rfl dX3_whistledPitches_0 rfl ?_
  refine aw_cVi S 1 [] vw_X3_whistlers cl_X3 (by decide) (by decide) tw_276 (s_X3_whistlers _ _ _ I0) ⟨by decide, by decide⟩ rfl rfl (Nat.le_of_ble_eq_true rfl) rfl rfl (by decide) (by decide) dX3_whistledPitches_1 (fun x1 I1 => ?_)
  refine aw_istore_n (L2 := [(0, .ref (kgO (kgHs X) 1)), (1, .int x1)]) S [1, 0] dX3_whistledPitches_4 rfl (by decide) rfl ?_
  refine aw_iconst (v := (0 : Int32)) S dX3_whistledPitches_5 (by decide) ?_
  refine aw_istore_n (L2 := [(0, .ref (kgO (kgHs X) 1)), (1, .int x1), (2, .int (0 : Int32))]) S [1, 2, 0] dX3_whistledPitches_6 rfl (by decide) rfl ?_
  refine aw_iconst (v := (0 : Int32)) S dX3_whistledPitches_7 (by decide) ?_
  refine aw_istore_n (L2 := [(0, .ref (kgO (kgHs X) 1)), (1, .int x1), (2, .int (0 : Int32)), (3, .int (0 : Int32))]) S [1, 2, 3, 0] dX3_whistledPitches_8 rfl (by decide) rfl ?_
  refine s_X3_whistledPitches_L9 S hQ x1 (fun x6 I3 => ?_) 200 (0 : Int32) (0 : Int32) I1
  refine aw_iload_n S 0 rfl dX3_whistledPitches_42 rfl ?_
  exact aw_ret S hQ (vp_nar_int _) (by decide) (by decide) dX3_whistledPitches_43
set_option maxHeartbeats 4000000 in
set_option maxRecDepth 100000 in
theorem s_X3_kettleOn_L2 {X : kgCX (Int32 × kgM)} {w : Option (Nat × Nat)} (S : Cx X cX3_kettleOn RX3 3 0 0 0 0) (hQ : Qxi X w .int) (a1 : Int32) {K : kgM → Option (Int32 × kgM)} (hK : ∀  (J : kgM), AW X 3 0 0 w (K J) 28 [] [] J) : ∀ (q : Nat) (x2h2 : Int32) (Ih2 : kgM), AW X 3 0 0 w (f_X3_kettleOn_L2 a1 K q x2h2 Ih2) 2 [(0, .ref (kgO (kgHs X) 1)), (1, .int a1), (2, .int x2h2)] [] Ih2 := by
  intro q
  induction q with
  | zero => intros; exact aw_none
  | succ q ih =>
    intro x2h2 Ih2
    rw [f_X3_kettleOn_L2]
    refine aw_iload_n S 2 rfl dX3_kettleOn_2 rfl ?_
    refine aw_aload_n S 0 rfl dX3_kettleOn_3 rfl ?_
    refine aw_getI S 1 14 cl_X3 (by decide) (by decide) (by decide) (by decide) rfl tw_85 dX3_kettleOn_4 ?_
    refine aw_icmp_ge (tgt := 28) S dX3_kettleOn_7 (by decide) ?_ ?_
    · refine aw_sub (L2 := []) [] rfl ?_
      exact hK Ih2
    refine aw_aload_n S 0 rfl dX3_kettleOn_10 rfl ?_
    refine aw_getR S 1 9 11 cl_X3 (by decide) (by decide) (by decide) (by decide) (by decide) rfl tw_75 dX3_kettleOn_11 ?_
    refine aw_iload_n S 2 rfl dX3_kettleOn_14 rfl ?_
    refine aw_iald S 11 10 (by decide) (by decide) dX3_kettleOn_15 ?_
    refine aw_iload_n S 1 rfl dX3_kettleOn_16 rfl ?_
    refine aw_icmp_ne (tgt := 22) S dX3_kettleOn_17 (by decide) ?_ ?_
    · refine aw_iinc (v := x2h2 + (1 : Int32)) (L2 := [(0, .ref (kgO (kgHs X) 1)), (1, .int a1), (2, .int (x2h2 + (1 : Int32)))]) S [1, 2, 0] 2 dX3_kettleOn_22 rfl rfl (by decide) rfl ?_
      refine aw_let (Lf := fun x1 => [(0, .ref (kgO (kgHs X) 1)), (1, .int a1), (2, .int x1)]) (x2h2 + (1 : Int32)) (fun x1 => ?_)
      refine aw_goto (tgt := 2) S dX3_kettleOn_25 (by decide) ?_
      exact ih x1 Ih2
    refine aw_iload_n S 2 rfl dX3_kettleOn_20 rfl ?_
    exact aw_ret S hQ (vp_nar_int _) (by decide) (by decide) dX3_kettleOn_21
set_option maxHeartbeats 4000000 in
set_option maxRecDepth 100000 in
theorem s_X3_kettleOn (hs : kgH) (l : Launch) (w : Option (Nat × Nat)) (p1 : Int32) (I0 : kgM) : Sdi hs l w yX3_kettleOn (kg_ws yX3_kettleOn cX3_kettleOn 3 (some .int)) { frames := 0, cells := 0, slots := 0, locals := 0 } [.ref (kgO hs 1), .int p1] I0 (f_X3_kettleOn p1 I0) := by
  refine sd_i (av := fun hs => [.ref (kgO hs 1), .int p1]) (by decide +kernel) (fun hs => Nat.le_of_ble_eq_true rfl) (fun X S hQ => ?_) hs l
  refine aw_sub (L2 := [(0, .ref (kgO (kgHs X) 1)), (1, .int p1)]) [0, 1] rfl ?_
  unfold f_X3_kettleOn
  refine aw_iconst (v := (0 : Int32)) S dX3_kettleOn_0 (by decide) ?_
  refine aw_istore_n (L2 := [(0, .ref (kgO (kgHs X) 1)), (1, .int p1), (2, .int (0 : Int32))]) S [1, 2, 0] dX3_kettleOn_1 rfl (by decide) rfl ?_
  refine s_X3_kettleOn_L2 S hQ p1 (fun I1 => ?_) 200 (0 : Int32) I0
  refine aw_iconst (v := (-1 : Int32)) S dX3_kettleOn_28 (by decide) ?_
  exact aw_ret S hQ (vp_nar_int _) (by decide) (by decide) dX3_kettleOn_29
set_option maxHeartbeats 4000000 in
set_option maxRecDepth 100000 in
theorem s_X3_stoveWithPitch_L2 {X : kgCX (Int32 × kgM)} {w : Option (Nat × Nat)} (S : Cx X cX3_stoveWithPitch RX3 3 0 0 0 0) (hQ : Qxi X w .int) (a1 : Int32) {K : kgM → Option (Int32 × kgM)} (hK : ∀  (J : kgM), AW X 3 0 0 w (K J) 43 [] [] J) : ∀ (q : Nat) (x2h2 : Int32) (Ih2 : kgM), AW X 3 0 0 w (f_X3_stoveWithPitch_L2 a1 K q x2h2 Ih2) 2 [(0, .ref (kgO (kgHs X) 1)), (1, .int a1), (2, .int x2h2)] [] Ih2 := by
  intro q
  induction q with
  | zero => intros; exact aw_none
  | succ q ih =>
    intro x2h2 Ih2
    rw [f_X3_stoveWithPitch_L2]
    refine aw_iload_n S 2 rfl dX3_stoveWithPitch_2 rfl ?_
    refine aw_aload_n S 0 rfl dX3_stoveWithPitch_3 rfl ?_
    refine aw_getI S 1 14 cl_X3 (by decide) (by decide) (by decide) (by decide) rfl tw_85 dX3_stoveWithPitch_4 ?_
    refine aw_icmp_ge (tgt := 43) S dX3_stoveWithPitch_7 (by decide) ?_ ?_
    · refine aw_sub (L2 := []) [] rfl ?_
      exact hK Ih2
    refine aw_aload_n S 0 rfl dX3_stoveWithPitch_10 rfl ?_
    refine aw_getR S 1 6 8 cl_X3 (by decide) (by decide) (by decide) (by decide) (by decide) rfl tw_69 dX3_stoveWithPitch_11 ?_
    refine aw_iload_n S 2 rfl dX3_stoveWithPitch_14 rfl ?_
    refine aw_iald S 8 10 (by decide) (by decide) dX3_stoveWithPitch_15 ?_
    refine aw_iload_n S 1 rfl dX3_stoveWithPitch_16 rfl ?_
    refine aw_icmp_ne (tgt := 37) S dX3_stoveWithPitch_17 (by decide) ?_ ?_
    · refine aw_iinc (v := x2h2 + (1 : Int32)) (L2 := [(0, .ref (kgO (kgHs X) 1)), (1, .int a1), (2, .int (x2h2 + (1 : Int32)))]) S [1, 2, 0] 2 dX3_stoveWithPitch_37 rfl rfl (by decide) rfl ?_
      refine aw_let (Lf := fun x1 => [(0, .ref (kgO (kgHs X) 1)), (1, .int a1), (2, .int x1)]) (x2h2 + (1 : Int32)) (fun x1 => ?_)
      refine aw_goto (tgt := 2) S dX3_stoveWithPitch_40 (by decide) ?_
      exact ih x1 Ih2
    refine aw_aload_n S 0 rfl dX3_stoveWithPitch_20 rfl ?_
    refine aw_getR S 1 9 11 cl_X3 (by decide) (by decide) (by decide) (by decide) (by decide) rfl tw_75 dX3_stoveWithPitch_21 ?_
    refine aw_iload_n S 2 rfl dX3_stoveWithPitch_24 rfl ?_
    refine aw_iald S 11 10 (by decide) (by decide) dX3_stoveWithPitch_25 ?_
    refine aw_iconst (v := (-1 : Int32)) S dX3_stoveWithPitch_26 (by decide) ?_
    refine aw_icmp_eq (tgt := 37) S dX3_stoveWithPitch_27 (by decide) ?_ ?_
    · refine aw_iinc (v := x2h2 + (1 : Int32)) (L2 := [(0, .ref (kgO (kgHs X) 1)), (1, .int a1), (2, .int (x2h2 + (1 : Int32)))]) S [1, 2, 0] 2 dX3_stoveWithPitch_37 rfl rfl (by decide) rfl ?_
      refine aw_let (Lf := fun x2 => [(0, .ref (kgO (kgHs X) 1)), (1, .int a1), (2, .int x2)]) (x2h2 + (1 : Int32)) (fun x2 => ?_)
      refine aw_goto (tgt := 2) S dX3_stoveWithPitch_40 (by decide) ?_
      exact ih x2 Ih2
    refine aw_aload_n S 0 rfl dX3_stoveWithPitch_30 rfl ?_
    refine aw_getR S 1 9 11 cl_X3 (by decide) (by decide) (by decide) (by decide) (by decide) rfl tw_75 dX3_stoveWithPitch_31 ?_
    refine aw_iload_n S 2 rfl dX3_stoveWithPitch_34 rfl ?_
    refine aw_iald S 11 10 (by decide) (by decide) dX3_stoveWithPitch_35 ?_
    exact aw_ret S hQ (vp_nar_int _) (by decide) (by decide) dX3_stoveWithPitch_36
set_option maxHeartbeats 4000000 in
set_option maxRecDepth 100000 in
theorem s_X3_stoveWithPitch (hs : kgH) (l : Launch) (w : Option (Nat × Nat)) (p1 : Int32) (I0 : kgM) : Sdi hs l w yX3_stoveWithPitch (kg_ws yX3_stoveWithPitch cX3_stoveWithPitch 3 (some .int)) { frames := 0, cells := 0, slots := 0, locals := 0 } [.ref (kgO hs 1), .int p1] I0 (f_X3_stoveWithPitch p1 I0) := by
  refine sd_i (av := fun hs => [.ref (kgO hs 1), .int p1]) (by decide +kernel) (fun hs => Nat.le_of_ble_eq_true rfl) (fun X S hQ => ?_) hs l
  refine aw_sub (L2 := [(0, .ref (kgO (kgHs X) 1)), (1, .int p1)]) [0, 1] rfl ?_
  unfold f_X3_stoveWithPitch
  refine aw_iconst (v := (0 : Int32)) S dX3_stoveWithPitch_0 (by decide) ?_
  refine aw_istore_n (L2 := [(0, .ref (kgO (kgHs X) 1)), (1, .int p1), (2, .int (0 : Int32))]) S [1, 2, 0] dX3_stoveWithPitch_1 rfl (by decide) rfl ?_
  refine s_X3_stoveWithPitch_L2 S hQ p1 (fun I1 => ?_) 200 (0 : Int32) I0
  refine aw_iconst (v := (-1 : Int32)) S dX3_stoveWithPitch_43 (by decide) ?_
  exact aw_ret S hQ (vp_nar_int _) (by decide) (by decide) dX3_stoveWithPitch_44
set_option maxHeartbeats 4000000 in
set_option maxRecDepth 100000 in
theorem s_X3_hasPitchOnTwoStoves_L4 {X : kgCX (Int32 × kgM)} {w : Option (Nat × Nat)} (S : Cx X cX3_hasPitchOnTwoStoves RX3 3 1 21 0 0) (hQ : Qxi X w .boolean)  {K : kgM → Option (Int32 × kgM)} (hK : ∀  (J : kgM), AW X 3 0 0 w (K J) 54 [] [] J) : ∀ (q : Nat) (x1h4 : Int32) (x2h4 : Int32) (Ih4 : kgM), AW X 3 0 0 w (f_X3_hasPitchOnTwoStoves_L4 K q x1h4 x2h4 Ih4) 4 [(0, .ref (kgO (kgHs X) 1)), (1, .int x1h4), (2, .int x2h4)] [] Ih4 := by
  intro q
  induction q with
  | zero => intros; exact aw_none
  | succ q ih =>
    intro x1h4 x2h4 Ih4
    rw [f_X3_hasPitchOnTwoStoves_L4]
    refine aw_iload_n S 2 rfl dX3_hasPitchOnTwoStoves_4 rfl ?_
    refine aw_aload_n S 0 rfl dX3_hasPitchOnTwoStoves_5 rfl ?_
    refine aw_getI S 1 14 cl_X3 (by decide) (by decide) (by decide) (by decide) rfl tw_85 dX3_hasPitchOnTwoStoves_6 ?_
    refine aw_icmp_ge (tgt := 54) S dX3_hasPitchOnTwoStoves_9 (by decide) ?_ ?_
    · refine aw_sub (L2 := []) [] rfl ?_
      exact hK Ih4
    refine aw_aload_n S 0 rfl dX3_hasPitchOnTwoStoves_12 rfl ?_
    refine aw_getR S 1 9 11 cl_X3 (by decide) (by decide) (by decide) (by decide) (by decide) rfl tw_75 dX3_hasPitchOnTwoStoves_13 ?_
    refine aw_iload_n S 2 rfl dX3_hasPitchOnTwoStoves_16 rfl ?_
    refine aw_iald S 11 10 (by decide) (by decide) dX3_hasPitchOnTwoStoves_17 ?_
    refine aw_iconst (v := (-1 : Int32)) S dX3_hasPitchOnTwoStoves_18 (by decide) ?_
    refine aw_icmp_eq (tgt := 48) S dX3_hasPitchOnTwoStoves_19 (by decide) ?_ ?_
    · refine aw_iinc (v := x2h4 + (1 : Int32)) (L2 := [(0, .ref (kgO (kgHs X) 1)), (1, .int x1h4), (2, .int (x2h4 + (1 : Int32)))]) S [1, 2, 0] 2 dX3_hasPitchOnTwoStoves_48 rfl rfl (by decide) rfl ?_
      refine aw_let (Lf := fun x1 => [(0, .ref (kgO (kgHs X) 1)), (1, .int x1h4), (2, .int x1)]) (x2h4 + (1 : Int32)) (fun x1 => ?_)
      refine aw_goto (tgt := 4) S dX3_hasPitchOnTwoStoves_51 (by decide) ?_
      exact ih x1h4 x1 Ih4
    refine aw_iload_n S 1 rfl dX3_hasPitchOnTwoStoves_22 rfl ?_
    refine aw_aload_n S 0 rfl dX3_hasPitchOnTwoStoves_23 rfl ?_
    refine aw_getR S 1 6 8 cl_X3 (by decide) (by decide) (by decide) (by decide) (by decide) rfl tw_69 dX3_hasPitchOnTwoStoves_24 ?_
    refine aw_iload_n S 2 rfl dX3_hasPitchOnTwoStoves_27 rfl ?_
    refine aw_iald S 8 10 (by decide) (by decide) dX3_hasPitchOnTwoStoves_28 ?_
    refine aw_cNi (host := RX4) S [.int x1h4, .int (Ih4 8 x2h4.toNatClampNeg)] vw_X4_isIn (fun h => h.2.2.2.2.2.2.1) (s_X4_isIn _ _ _ x1h4 (Ih4 8 x2h4.toNatClampNeg) Ih4) ⟨by decide, by decide⟩ rfl rfl (Nat.le_of_ble_eq_true rfl) rfl rfl (by decide) (by decide) dX3_hasPitchOnTwoStoves_29 (fun x2 I1 => ?_)
    refine aw_if_eq (y := 0) (tgt := 37) S dX3_hasPitchOnTwoStoves_32 (by decide) ?_ ?_
    · refine aw_iload_n S 1 rfl dX3_hasPitchOnTwoStoves_37 rfl ?_
      refine aw_iconst (v := (1 : Int32)) S dX3_hasPitchOnTwoStoves_38 (by decide) ?_
      refine aw_aload_n S 0 rfl dX3_hasPitchOnTwoStoves_39 rfl ?_
      refine aw_getR S 1 6 8 cl_X3 (by decide) (by decide) (by decide) (by decide) (by decide) rfl tw_69 dX3_hasPitchOnTwoStoves_40 ?_
      refine aw_iload_n S 2 rfl dX3_hasPitchOnTwoStoves_43 rfl ?_
      refine aw_iald S 8 10 (by decide) (by decide) dX3_hasPitchOnTwoStoves_44 ?_
      refine aw_ishl S dX3_hasPitchOnTwoStoves_45 ?_
      refine aw_ior S dX3_hasPitchOnTwoStoves_46 ?_
      refine aw_istore_n (L2 := [(0, .ref (kgO (kgHs X) 1)), (1, .int (x1h4 ||| ((1 : Int32) <<< ((I1 8 x2h4.toNatClampNeg) &&& 31)))), (2, .int x2h4)]) S [1, 0, 2] dX3_hasPitchOnTwoStoves_47 rfl (by decide) rfl ?_
      refine aw_let (Lf := fun x3 => [(0, .ref (kgO (kgHs X) 1)), (1, .int x3), (2, .int x2h4)]) (x1h4 ||| ((1 : Int32) <<< ((I1 8 x2h4.toNatClampNeg) &&& 31))) (fun x3 => ?_)
      refine aw_iinc (v := x2h4 + (1 : Int32)) (L2 := [(0, .ref (kgO (kgHs X) 1)), (1, .int x3), (2, .int (x2h4 + (1 : Int32)))]) S [1, 2, 0] 2 dX3_hasPitchOnTwoStoves_48 rfl rfl (by decide) rfl ?_
      refine aw_let (Lf := fun x4 => [(0, .ref (kgO (kgHs X) 1)), (1, .int x3), (2, .int x4)]) (x2h4 + (1 : Int32)) (fun x4 => ?_)
      refine aw_goto (tgt := 4) S dX3_hasPitchOnTwoStoves_51 (by decide) ?_
      exact ih x3 x4 I1
    refine aw_iconst (v := (1 : Int32)) S dX3_hasPitchOnTwoStoves_35 (by decide) ?_
    exact aw_ret S hQ rfl (by decide) (by decide) dX3_hasPitchOnTwoStoves_36
set_option maxHeartbeats 4000000 in
set_option maxRecDepth 100000 in
theorem s_X3_hasPitchOnTwoStoves (hs : kgH) (l : Launch) (w : Option (Nat × Nat))  (I0 : kgM) : Sdi hs l w yX3_hasPitchOnTwoStoves (kg_ws yX3_hasPitchOnTwoStoves cX3_hasPitchOnTwoStoves 3 (some .boolean)) { frames := 1, cells := 0, slots := 0, locals := 21 } [.ref (kgO hs 1)] I0 (f_X3_hasPitchOnTwoStoves I0) := by
  refine sd_i (av := fun hs => [.ref (kgO hs 1)]) (by decide +kernel) (fun hs => Nat.le_of_ble_eq_true rfl) (fun X S hQ => ?_) hs l
  refine aw_sub (L2 := [(0, .ref (kgO (kgHs X) 1))]) [0] rfl ?_
  unfold f_X3_hasPitchOnTwoStoves
  refine aw_iconst (v := (0 : Int32)) S dX3_hasPitchOnTwoStoves_0 (by decide) ?_
  refine aw_istore_n (L2 := [(0, .ref (kgO (kgHs X) 1)), (1, .int (0 : Int32))]) S [1, 0] dX3_hasPitchOnTwoStoves_1 rfl (by decide) rfl ?_
  refine aw_iconst (v := (0 : Int32)) S dX3_hasPitchOnTwoStoves_2 (by decide) ?_
  refine aw_istore_n (L2 := [(0, .ref (kgO (kgHs X) 1)), (1, .int (0 : Int32)), (2, .int (0 : Int32))]) S [1, 2, 0] dX3_hasPitchOnTwoStoves_3 rfl (by decide) rfl ?_
  refine s_X3_hasPitchOnTwoStoves_L4 S hQ  (fun I2 => ?_) 200 (0 : Int32) (0 : Int32) I0
  refine aw_iconst (v := (0 : Int32)) S dX3_hasPitchOnTwoStoves_54 (by decide) ?_
  exact aw_ret S hQ rfl (by decide) (by decide) dX3_hasPitchOnTwoStoves_55
set_option maxHeartbeats 4000000 in
set_option maxRecDepth 100000 in
theorem s_X3_countPitchesOf_L4 {X : kgCX (Int32 × kgM)} {w : Option (Nat × Nat)} (S : Cx X cX3_countPitchesOf RX3 4 0 0 0 0) (hQ : Qxi X w .int) (a1 : Int32) {K : Int32 → kgM → Option (Int32 × kgM)} (hK : ∀ (z2 : Int32) (J : kgM), AW X 4 0 0 w (K z2 J) 29 [(2, .int z2)] [] J) : ∀ (q : Nat) (x2h4 : Int32) (x3h4 : Int32) (Ih4 : kgM), AW X 4 0 0 w (f_X3_countPitchesOf_L4 a1 K q x2h4 x3h4 Ih4) 4 [(0, .ref (kgO (kgHs X) 1)), (1, .int a1), (2, .int x2h4), (3, .int x3h4)] [] Ih4 := by
  intro q
  induction q with
  | zero => intros; exact aw_none
  | succ q ih =>
    intro x2h4 x3h4 Ih4
    rw [f_X3_countPitchesOf_L4]
    refine aw_iload_n S 3 rfl dX3_countPitchesOf_4 rfl ?_
    refine aw_bipush (v := (12 : Int32)) S dX3_countPitchesOf_5 (by decide) ?_
    refine aw_icmp_gt (tgt := 29) S dX3_countPitchesOf_7 (by decide) ?_ ?_
    · refine aw_sub (L2 := [(2, .int x2h4)]) [2] rfl ?_
      exact hK x2h4 Ih4
    refine aw_aload_n S 0 rfl dX3_countPitchesOf_10 rfl ?_
    refine aw_getR S 1 0 2 cl_X3 (by decide) (by decide) (by decide) (by decide) (by decide) rfl tw_57 dX3_countPitchesOf_11 ?_
    refine aw_iload_n S 3 rfl dX3_countPitchesOf_14 rfl ?_
    refine aw_iald S 2 13 (by decide) (by decide) dX3_countPitchesOf_15 ?_
    refine aw_iload_n S 1 rfl dX3_countPitchesOf_16 rfl ?_
    refine aw_icmp_ne (tgt := 23) S dX3_countPitchesOf_17 (by decide) ?_ ?_
    · refine aw_iinc (v := x3h4 + (1 : Int32)) (L2 := [(0, .ref (kgO (kgHs X) 1)), (1, .int a1), (2, .int x2h4), (3, .int (x3h4 + (1 : Int32)))]) S [1, 2, 3, 0] 3 dX3_countPitchesOf_23 rfl rfl (by decide) rfl ?_
      refine aw_let (Lf := fun x1 => [(0, .ref (kgO (kgHs X) 1)), (1, .int a1), (2, .int x2h4), (3, .int x1)]) (x3h4 + (1 : Int32)) (fun x1 => ?_)
      refine aw_goto (tgt := 4) S dX3_countPitchesOf_26 (by decide) ?_
      exact ih x2h4 x1 Ih4
    refine aw_iinc (v := x2h4 + (1 : Int32)) (L2 := [(0, .ref (kgO (kgHs X) 1)), (1, .int a1), (2, .int (x2h4 + (1 : Int32))), (3, .int x3h4)]) S [1, 2, 0, 3] 2 dX3_countPitchesOf_20 rfl rfl (by decide) rfl ?_
    refine aw_let (Lf := fun x2 => [(0, .ref (kgO (kgHs X) 1)), (1, .int a1), (2, .int x2), (3, .int x3h4)]) (x2h4 + (1 : Int32)) (fun x2 => ?_)
    refine aw_iinc (v := x3h4 + (1 : Int32)) (L2 := [(0, .ref (kgO (kgHs X) 1)), (1, .int a1), (2, .int x2), (3, .int (x3h4 + (1 : Int32)))]) S [1, 2, 3, 0] 3 dX3_countPitchesOf_23 rfl rfl (by decide) rfl ?_
    refine aw_let (Lf := fun x3 => [(0, .ref (kgO (kgHs X) 1)), (1, .int a1), (2, .int x2), (3, .int x3)]) (x3h4 + (1 : Int32)) (fun x3 => ?_)
    refine aw_goto (tgt := 4) S dX3_countPitchesOf_26 (by decide) ?_
    exact ih x2 x3 Ih4
set_option maxHeartbeats 4000000 in
set_option maxRecDepth 100000 in
theorem s_X3_countPitchesOf (hs : kgH) (l : Launch) (w : Option (Nat × Nat)) (p1 : Int32) (I0 : kgM) : Sdi hs l w yX3_countPitchesOf (kg_ws yX3_countPitchesOf cX3_countPitchesOf 4 (some .int)) { frames := 0, cells := 0, slots := 0, locals := 0 } [.ref (kgO hs 1), .int p1] I0 (f_X3_countPitchesOf p1 I0) := by
  refine sd_i (av := fun hs => [.ref (kgO hs 1), .int p1]) (by decide +kernel) (fun hs => Nat.le_of_ble_eq_true rfl) (fun X S hQ => ?_) hs l
  refine aw_sub (L2 := [(0, .ref (kgO (kgHs X) 1)), (1, .int p1)]) [0, 1] rfl ?_
  unfold f_X3_countPitchesOf
  refine aw_iconst (v := (0 : Int32)) S dX3_countPitchesOf_0 (by decide) ?_
  refine aw_istore_n (L2 := [(0, .ref (kgO (kgHs X) 1)), (1, .int p1), (2, .int (0 : Int32))]) S [1, 2, 0] dX3_countPitchesOf_1 rfl (by decide) rfl ?_
  refine aw_iconst (v := (1 : Int32)) S dX3_countPitchesOf_2 (by decide) ?_
  refine aw_istore_n (L2 := [(0, .ref (kgO (kgHs X) 1)), (1, .int p1), (2, .int (0 : Int32)), (3, .int (1 : Int32))]) S [1, 2, 3, 0] dX3_countPitchesOf_3 rfl (by decide) rfl ?_
  refine s_X3_countPitchesOf_L4 S hQ p1 (fun x4 I1 => ?_) 200 (0 : Int32) (1 : Int32) I0
  refine aw_iload_n S 0 rfl dX3_countPitchesOf_29 rfl ?_
  exact aw_ret S hQ (vp_nar_int _) (by decide) (by decide) dX3_countPitchesOf_30
set_option maxHeartbeats 4000000 in
set_option maxRecDepth 100000 in
theorem s_X3_countKettlesOf_L4 {X : kgCX (Int32 × kgM)} {w : Option (Nat × Nat)} (S : Cx X cX3_countKettlesOf RX3 4 0 0 0 0) (hQ : Qxi X w .int) (a1 : Int32) {K : Int32 → kgM → Option (Int32 × kgM)} (hK : ∀ (z2 : Int32) (J : kgM), AW X 4 0 0 w (K z2 J) 31 [(2, .int z2)] [] J) : ∀ (q : Nat) (x2h4 : Int32) (x3h4 : Int32) (Ih4 : kgM), AW X 4 0 0 w (f_X3_countKettlesOf_L4 a1 K q x2h4 x3h4 Ih4) 4 [(0, .ref (kgO (kgHs X) 1)), (1, .int a1), (2, .int x2h4), (3, .int x3h4)] [] Ih4 := by
  intro q
  induction q with
  | zero => intros; exact aw_none
  | succ q ih =>
    intro x2h4 x3h4 Ih4
    rw [f_X3_countKettlesOf_L4]
    refine aw_iload_n S 3 rfl dX3_countKettlesOf_4 rfl ?_
    refine aw_aload_n S 0 rfl dX3_countKettlesOf_5 rfl ?_
    refine aw_getI S 1 14 cl_X3 (by decide) (by decide) (by decide) (by decide) rfl tw_85 dX3_countKettlesOf_6 ?_
    refine aw_icmp_ge (tgt := 31) S dX3_countKettlesOf_9 (by decide) ?_ ?_
    · refine aw_sub (L2 := [(2, .int x2h4)]) [2] rfl ?_
      exact hK x2h4 Ih4
    refine aw_aload_n S 0 rfl dX3_countKettlesOf_12 rfl ?_
    refine aw_getR S 1 5 7 cl_X3 (by decide) (by decide) (by decide) (by decide) (by decide) rfl tw_67 dX3_countKettlesOf_13 ?_
    refine aw_iload_n S 3 rfl dX3_countKettlesOf_16 rfl ?_
    refine aw_iald S 7 10 (by decide) (by decide) dX3_countKettlesOf_17 ?_
    refine aw_iload_n S 1 rfl dX3_countKettlesOf_18 rfl ?_
    refine aw_icmp_ne (tgt := 25) S dX3_countKettlesOf_19 (by decide) ?_ ?_
    · refine aw_iinc (v := x3h4 + (1 : Int32)) (L2 := [(0, .ref (kgO (kgHs X) 1)), (1, .int a1), (2, .int x2h4), (3, .int (x3h4 + (1 : Int32)))]) S [1, 2, 3, 0] 3 dX3_countKettlesOf_25 rfl rfl (by decide) rfl ?_
      refine aw_let (Lf := fun x1 => [(0, .ref (kgO (kgHs X) 1)), (1, .int a1), (2, .int x2h4), (3, .int x1)]) (x3h4 + (1 : Int32)) (fun x1 => ?_)
      refine aw_goto (tgt := 4) S dX3_countKettlesOf_28 (by decide) ?_
      exact ih x2h4 x1 Ih4
    refine aw_iinc (v := x2h4 + (1 : Int32)) (L2 := [(0, .ref (kgO (kgHs X) 1)), (1, .int a1), (2, .int (x2h4 + (1 : Int32))), (3, .int x3h4)]) S [1, 2, 0, 3] 2 dX3_countKettlesOf_22 rfl rfl (by decide) rfl ?_
    refine aw_let (Lf := fun x2 => [(0, .ref (kgO (kgHs X) 1)), (1, .int a1), (2, .int x2), (3, .int x3h4)]) (x2h4 + (1 : Int32)) (fun x2 => ?_)
    refine aw_iinc (v := x3h4 + (1 : Int32)) (L2 := [(0, .ref (kgO (kgHs X) 1)), (1, .int a1), (2, .int x2), (3, .int (x3h4 + (1 : Int32)))]) S [1, 2, 3, 0] 3 dX3_countKettlesOf_25 rfl rfl (by decide) rfl ?_
    refine aw_let (Lf := fun x3 => [(0, .ref (kgO (kgHs X) 1)), (1, .int a1), (2, .int x2), (3, .int x3)]) (x3h4 + (1 : Int32)) (fun x3 => ?_)
    refine aw_goto (tgt := 4) S dX3_countKettlesOf_28 (by decide) ?_
    exact ih x2 x3 Ih4
set_option maxHeartbeats 4000000 in
set_option maxRecDepth 100000 in
theorem s_X3_countKettlesOf (hs : kgH) (l : Launch) (w : Option (Nat × Nat)) (p1 : Int32) (I0 : kgM) : Sdi hs l w yX3_countKettlesOf (kg_ws yX3_countKettlesOf cX3_countKettlesOf 4 (some .int)) { frames := 0, cells := 0, slots := 0, locals := 0 } [.ref (kgO hs 1), .int p1] I0 (f_X3_countKettlesOf p1 I0) := by
  refine sd_i (av := fun hs => [.ref (kgO hs 1), .int p1]) (by decide +kernel) (fun hs => Nat.le_of_ble_eq_true rfl) (fun X S hQ => ?_) hs l
  refine aw_sub (L2 := [(0, .ref (kgO (kgHs X) 1)), (1, .int p1)]) [0, 1] rfl ?_
  unfold f_X3_countKettlesOf
  refine aw_iconst (v := (0 : Int32)) S dX3_countKettlesOf_0 (by decide) ?_
  refine aw_istore_n (L2 := [(0, .ref (kgO (kgHs X) 1)), (1, .int p1), (2, .int (0 : Int32))]) S [1, 2, 0] dX3_countKettlesOf_1 rfl (by decide) rfl ?_
  refine aw_iconst (v := (0 : Int32)) S dX3_countKettlesOf_2 (by decide) ?_
  refine aw_istore_n (L2 := [(0, .ref (kgO (kgHs X) 1)), (1, .int p1), (2, .int (0 : Int32)), (3, .int (0 : Int32))]) S [1, 2, 3, 0] dX3_countKettlesOf_3 rfl (by decide) rfl ?_
  refine s_X3_countKettlesOf_L4 S hQ p1 (fun x4 I1 => ?_) 200 (0 : Int32) (0 : Int32) I0
  refine aw_iload_n S 0 rfl dX3_countKettlesOf_31 rfl ?_
  exact aw_ret S hQ (vp_nar_int _) (by decide) (by decide) dX3_countKettlesOf_32
set_option maxHeartbeats 4000000 in
set_option maxRecDepth 100000 in
theorem s_X3_countWhistlersOf_L10 {X : kgCX (Int32 × kgM)} {w : Option (Nat × Nat)} (S : Cx X cX3_countWhistlersOf RX3 5 3 65 0 0) (hQ : Qxi X w .int) (a1 : Int32) (a2 : Int32) {K : Int32 → kgM → Option (Int32 × kgM)} (hK : ∀ (z3 : Int32) (J : kgM), AW X 5 0 0 w (K z3 J) 48 [(3, .int z3)] [] J) : ∀ (q : Nat) (x3h10 : Int32) (x4h10 : Int32) (Ih10 : kgM), AW X 5 0 0 w (f_X3_countWhistlersOf_L10 a1 a2 K q x3h10 x4h10 Ih10) 10 [(0, .ref (kgO (kgHs X) 1)), (1, .int a1), (2, .int a2), (3, .int x3h10), (4, .int x4h10)] [] Ih10 := by
  intro q
  induction q with
  | zero => intros; exact aw_none
  | succ q ih =>
    intro x3h10 x4h10 Ih10
    rw [f_X3_countWhistlersOf_L10]
    refine aw_iload S 4 rfl dX3_countWhistlersOf_10 ?_
    refine aw_aload_n S 0 rfl dX3_countWhistlersOf_12 rfl ?_
    refine aw_getI S 1 14 cl_X3 (by decide) (by decide) (by decide) (by decide) rfl tw_85 dX3_countWhistlersOf_13 ?_
    refine aw_icmp_ge (tgt := 48) S dX3_countWhistlersOf_16 (by decide) ?_ ?_
    · refine aw_sub (L2 := [(3, .int x3h10)]) [3] rfl ?_
      exact hK x3h10 Ih10
    refine aw_aload_n S 0 rfl dX3_countWhistlersOf_19 rfl ?_
    refine aw_getR S 1 5 7 cl_X3 (by decide) (by decide) (by decide) (by decide) (by decide) rfl tw_67 dX3_countWhistlersOf_20 ?_
    refine aw_iload S 4 rfl dX3_countWhistlersOf_23 ?_
    refine aw_iald S 7 10 (by decide) (by decide) dX3_countWhistlersOf_25 ?_
    refine aw_iload_n S 1 rfl dX3_countWhistlersOf_26 rfl ?_
    refine aw_icmp_ne (tgt := 42) S dX3_countWhistlersOf_27 (by decide) ?_ ?_
    · refine aw_iinc (v := x4h10 + (1 : Int32)) (L2 := [(0, .ref (kgO (kgHs X) 1)), (1, .int a1), (2, .int a2), (3, .int x3h10), (4, .int (x4h10 + (1 : Int32)))]) S [1, 2, 3, 4, 0] 4 dX3_countWhistlersOf_42 rfl rfl (by decide) rfl ?_
      refine aw_let (Lf := fun x2 => [(0, .ref (kgO (kgHs X) 1)), (1, .int a1), (2, .int a2), (3, .int x3h10), (4, .int x2)]) (x4h10 + (1 : Int32)) (fun x2 => ?_)
      refine aw_goto (tgt := 10) S dX3_countWhistlersOf_45 (by decide) ?_
      exact ih x3h10 x2 Ih10
    refine aw_iload_n S 2 rfl dX3_countWhistlersOf_30 rfl ?_
    refine aw_iload S 4 rfl dX3_countWhistlersOf_31 ?_
    refine aw_cNi (host := RX4) S [.int a2, .int x4h10] vw_X4_isIn (fun h => h.2.2.2.2.2.2.1) (s_X4_isIn _ _ _ a2 x4h10 Ih10) ⟨by decide, by decide⟩ rfl rfl (Nat.le_of_ble_eq_true rfl) rfl rfl (by decide) (by decide) dX3_countWhistlersOf_33 (fun x3 I2 => ?_)
    refine aw_if_eq (y := 0) (tgt := 42) S dX3_countWhistlersOf_36 (by decide) ?_ ?_
    · refine aw_iinc (v := x4h10 + (1 : Int32)) (L2 := [(0, .ref (kgO (kgHs X) 1)), (1, .int a1), (2, .int a2), (3, .int x3h10), (4, .int (x4h10 + (1 : Int32)))]) S [1, 2, 3, 4, 0] 4 dX3_countWhistlersOf_42 rfl rfl (by decide) rfl ?_
      refine aw_let (Lf := fun x4 => [(0, .ref (kgO (kgHs X) 1)), (1, .int a1), (2, .int a2), (3, .int x3h10), (4, .int x4)]) (x4h10 + (1 : Int32)) (fun x4 => ?_)
      refine aw_goto (tgt := 10) S dX3_countWhistlersOf_45 (by decide) ?_
      exact ih x3h10 x4 I2
    refine aw_iinc (v := x3h10 + (1 : Int32)) (L2 := [(0, .ref (kgO (kgHs X) 1)), (1, .int a1), (2, .int a2), (3, .int (x3h10 + (1 : Int32))), (4, .int x4h10)]) S [1, 2, 3, 0, 4] 3 dX3_countWhistlersOf_39 rfl rfl (by decide) rfl ?_
    refine aw_let (Lf := fun x5 => [(0, .ref (kgO (kgHs X) 1)), (1, .int a1), (2, .int a2), (3, .int x5), (4, .int x4h10)]) (x3h10 + (1 : Int32)) (fun x5 => ?_)
    refine aw_iinc (v := x4h10 + (1 : Int32)) (L2 := [(0, .ref (kgO (kgHs X) 1)), (1, .int a1), (2, .int a2), (3, .int x5), (4, .int (x4h10 + (1 : Int32)))]) S [1, 2, 3, 4, 0] 4 dX3_countWhistlersOf_42 rfl rfl (by decide) rfl ?_
    refine aw_let (Lf := fun x6 => [(0, .ref (kgO (kgHs X) 1)), (1, .int a1), (2, .int a2), (3, .int x5), (4, .int x6)]) (x4h10 + (1 : Int32)) (fun x6 => ?_)
    refine aw_goto (tgt := 10) S dX3_countWhistlersOf_45 (by decide) ?_
    exact ih x5 x6 I2
set_option maxHeartbeats 4000000 in
set_option maxRecDepth 100000 in
theorem s_X3_countWhistlersOf (hs : kgH) (l : Launch) (w : Option (Nat × Nat)) (p1 : Int32) (I0 : kgM) : Sdi hs l w yX3_countWhistlersOf (kg_ws yX3_countWhistlersOf cX3_countWhistlersOf 5 (some .int)) { frames := 3, cells := 0, slots := 0, locals := 65 } [.ref (kgO hs 1), .int p1] I0 (f_X3_countWhistlersOf p1 I0) := by
  refine sd_i (av := fun hs => [.ref (kgO hs 1), .int p1]) (by decide +kernel) (fun hs => Nat.le_of_ble_eq_true rfl) (fun X S hQ => ?_) hs l
  refine aw_sub (L2 := [(0, .ref (kgO (kgHs X) 1)), (1, .int p1)]) [0, 1] rfl ?_
  unfold f_X3_countWhistlersOf
  refine aw_aload_n S 0 rfl dX3_countWhistlersOf_0 rfl ?_
  refine aw_cVi S 1 [] vw_X3_whistlers cl_X3 (by decide) (by decide) tw_276 (s_X3_whistlers _ _ _ I0) ⟨by decide, by decide⟩ rfl rfl (Nat.le_of_ble_eq_true rfl) rfl rfl (by decide) (by decide) dX3_countWhistlersOf_1 (fun x1 I1 => ?_)
  refine aw_istore_n (L2 := [(0, .ref (kgO (kgHs X) 1)), (1, .int p1), (2, .int x1)]) S [1, 2, 0] dX3_countWhistlersOf_4 rfl (by decide) rfl ?_
  refine aw_iconst (v := (0 : Int32)) S dX3_countWhistlersOf_5 (by decide) ?_
  refine aw_istore_n (L2 := [(0, .ref (kgO (kgHs X) 1)), (1, .int p1), (2, .int x1), (3, .int (0 : Int32))]) S [1, 2, 3, 0] dX3_countWhistlersOf_6 rfl (by decide) rfl ?_
  refine aw_iconst (v := (0 : Int32)) S dX3_countWhistlersOf_7 (by decide) ?_
  refine aw_istore (L2 := [(0, .ref (kgO (kgHs X) 1)), (1, .int p1), (2, .int x1), (3, .int (0 : Int32)), (4, .int (0 : Int32))]) S [1, 2, 3, 4, 0] dX3_countWhistlersOf_8 (by decide) rfl ?_
  refine s_X3_countWhistlersOf_L10 S hQ p1 x1 (fun x7 I3 => ?_) 200 (0 : Int32) (0 : Int32) I1
  refine aw_iload_n S 0 rfl dX3_countWhistlersOf_48 rfl ?_
  exact aw_ret S hQ (vp_nar_int _) (by decide) (by decide) dX3_countWhistlersOf_49
set_option maxHeartbeats 4000000 in
set_option maxRecDepth 100000 in
theorem s_X3_countOnStoves_L4 {X : kgCX (Int32 × kgM)} {w : Option (Nat × Nat)} (S : Cx X cX3_countOnStoves RX3 3 0 0 0 0) (hQ : Qxi X w .int)  {K : Int32 → kgM → Option (Int32 × kgM)} (hK : ∀ (z1 : Int32) (J : kgM), AW X 3 0 0 w (K z1 J) 31 [(1, .int z1)] [] J) : ∀ (q : Nat) (x1h4 : Int32) (x2h4 : Int32) (Ih4 : kgM), AW X 3 0 0 w (f_X3_countOnStoves_L4 K q x1h4 x2h4 Ih4) 4 [(0, .ref (kgO (kgHs X) 1)), (1, .int x1h4), (2, .int x2h4)] [] Ih4 := by
  intro q
  induction q with
  | zero => intros; exact aw_none
  | succ q ih =>
    intro x1h4 x2h4 Ih4
    rw [f_X3_countOnStoves_L4]
    refine aw_iload_n S 2 rfl dX3_countOnStoves_4 rfl ?_
    refine aw_aload_n S 0 rfl dX3_countOnStoves_5 rfl ?_
    refine aw_getI S 1 14 cl_X3 (by decide) (by decide) (by decide) (by decide) rfl tw_85 dX3_countOnStoves_6 ?_
    refine aw_icmp_ge (tgt := 31) S dX3_countOnStoves_9 (by decide) ?_ ?_
    · refine aw_sub (L2 := [(1, .int x1h4)]) [1] rfl ?_
      exact hK x1h4 Ih4
    refine aw_aload_n S 0 rfl dX3_countOnStoves_12 rfl ?_
    refine aw_getR S 1 9 11 cl_X3 (by decide) (by decide) (by decide) (by decide) (by decide) rfl tw_75 dX3_countOnStoves_13 ?_
    refine aw_iload_n S 2 rfl dX3_countOnStoves_16 rfl ?_
    refine aw_iald S 11 10 (by decide) (by decide) dX3_countOnStoves_17 ?_
    refine aw_iconst (v := (-1 : Int32)) S dX3_countOnStoves_18 (by decide) ?_
    refine aw_icmp_eq (tgt := 25) S dX3_countOnStoves_19 (by decide) ?_ ?_
    · refine aw_iinc (v := x2h4 + (1 : Int32)) (L2 := [(0, .ref (kgO (kgHs X) 1)), (1, .int x1h4), (2, .int (x2h4 + (1 : Int32)))]) S [1, 2, 0] 2 dX3_countOnStoves_25 rfl rfl (by decide) rfl ?_
      refine aw_let (Lf := fun x1 => [(0, .ref (kgO (kgHs X) 1)), (1, .int x1h4), (2, .int x1)]) (x2h4 + (1 : Int32)) (fun x1 => ?_)
      refine aw_goto (tgt := 4) S dX3_countOnStoves_28 (by decide) ?_
      exact ih x1h4 x1 Ih4
    refine aw_iinc (v := x1h4 + (1 : Int32)) (L2 := [(0, .ref (kgO (kgHs X) 1)), (1, .int (x1h4 + (1 : Int32))), (2, .int x2h4)]) S [1, 0, 2] 1 dX3_countOnStoves_22 rfl rfl (by decide) rfl ?_
    refine aw_let (Lf := fun x2 => [(0, .ref (kgO (kgHs X) 1)), (1, .int x2), (2, .int x2h4)]) (x1h4 + (1 : Int32)) (fun x2 => ?_)
    refine aw_iinc (v := x2h4 + (1 : Int32)) (L2 := [(0, .ref (kgO (kgHs X) 1)), (1, .int x2), (2, .int (x2h4 + (1 : Int32)))]) S [1, 2, 0] 2 dX3_countOnStoves_25 rfl rfl (by decide) rfl ?_
    refine aw_let (Lf := fun x3 => [(0, .ref (kgO (kgHs X) 1)), (1, .int x2), (2, .int x3)]) (x2h4 + (1 : Int32)) (fun x3 => ?_)
    refine aw_goto (tgt := 4) S dX3_countOnStoves_28 (by decide) ?_
    exact ih x2 x3 Ih4
set_option maxHeartbeats 4000000 in
set_option maxRecDepth 100000 in
theorem s_X3_countOnStoves (hs : kgH) (l : Launch) (w : Option (Nat × Nat))  (I0 : kgM) : Sdi hs l w yX3_countOnStoves (kg_ws yX3_countOnStoves cX3_countOnStoves 3 (some .int)) { frames := 0, cells := 0, slots := 0, locals := 0 } [.ref (kgO hs 1)] I0 (f_X3_countOnStoves I0) := by
  refine sd_i (av := fun hs => [.ref (kgO hs 1)]) (by decide +kernel) (fun hs => Nat.le_of_ble_eq_true rfl) (fun X S hQ => ?_) hs l
  refine aw_sub (L2 := [(0, .ref (kgO (kgHs X) 1))]) [0] rfl ?_
  unfold f_X3_countOnStoves
  refine aw_iconst (v := (0 : Int32)) S dX3_countOnStoves_0 (by decide) ?_
  refine aw_istore_n (L2 := [(0, .ref (kgO (kgHs X) 1)), (1, .int (0 : Int32))]) S [1, 0] dX3_countOnStoves_1 rfl (by decide) rfl ?_
  refine aw_iconst (v := (0 : Int32)) S dX3_countOnStoves_2 (by decide) ?_
  refine aw_istore_n (L2 := [(0, .ref (kgO (kgHs X) 1)), (1, .int (0 : Int32)), (2, .int (0 : Int32))]) S [1, 2, 0] dX3_countOnStoves_3 rfl (by decide) rfl ?_
  refine s_X3_countOnStoves_L4 S hQ  (fun x4 I1 => ?_) 200 (0 : Int32) (0 : Int32) I0
  refine aw_iload_n S 0 rfl dX3_countOnStoves_31 rfl ?_
  exact aw_ret S hQ (vp_nar_int _) (by decide) (by decide) dX3_countOnStoves_32
set_option maxHeartbeats 4000000 in
set_option maxRecDepth 100000 in
theorem s_X3_countBoiling_L4 {X : kgCX (Int32 × kgM)} {w : Option (Nat × Nat)} (S : Cx X cX3_countBoiling RX3 3 2 43 0 0) (hQ : Qxi X w .int)  {K : Int32 → kgM → Option (Int32 × kgM)} (hK : ∀ (z1 : Int32) (J : kgM), AW X 3 0 0 w (K z1 J) 29 [(1, .int z1)] [] J) : ∀ (q : Nat) (x1h4 : Int32) (x2h4 : Int32) (Ih4 : kgM), AW X 3 0 0 w (f_X3_countBoiling_L4 K q x1h4 x2h4 Ih4) 4 [(0, .ref (kgO (kgHs X) 1)), (1, .int x1h4), (2, .int x2h4)] [] Ih4 := by
  intro q
  induction q with
  | zero => intros; exact aw_none
  | succ q ih =>
    intro x1h4 x2h4 Ih4
    rw [f_X3_countBoiling_L4]
    refine aw_iload_n S 2 rfl dX3_countBoiling_4 rfl ?_
    refine aw_aload_n S 0 rfl dX3_countBoiling_5 rfl ?_
    refine aw_getI S 1 14 cl_X3 (by decide) (by decide) (by decide) (by decide) rfl tw_85 dX3_countBoiling_6 ?_
    refine aw_icmp_ge (tgt := 29) S dX3_countBoiling_9 (by decide) ?_ ?_
    · refine aw_sub (L2 := [(1, .int x1h4)]) [1] rfl ?_
      exact hK x1h4 Ih4
    refine aw_aload_n S 0 rfl dX3_countBoiling_12 rfl ?_
    refine aw_iload_n S 2 rfl dX3_countBoiling_13 rfl ?_
    refine aw_cVi S 1 [.int x2h4] vw_X3_boils cl_X3 (by decide) (by decide) tw_280 (s_X3_boils _ _ _ x2h4 Ih4) ⟨by decide, by decide⟩ rfl rfl (Nat.le_of_ble_eq_true rfl) rfl rfl (by decide) (by decide) dX3_countBoiling_14 (fun x1 I1 => ?_)
    refine aw_if_eq (y := 0) (tgt := 23) S dX3_countBoiling_17 (by decide) ?_ ?_
    · refine aw_iinc (v := x2h4 + (1 : Int32)) (L2 := [(0, .ref (kgO (kgHs X) 1)), (1, .int x1h4), (2, .int (x2h4 + (1 : Int32)))]) S [1, 2, 0] 2 dX3_countBoiling_23 rfl rfl (by decide) rfl ?_
      refine aw_let (Lf := fun x2 => [(0, .ref (kgO (kgHs X) 1)), (1, .int x1h4), (2, .int x2)]) (x2h4 + (1 : Int32)) (fun x2 => ?_)
      refine aw_goto (tgt := 4) S dX3_countBoiling_26 (by decide) ?_
      exact ih x1h4 x2 I1
    refine aw_iinc (v := x1h4 + (1 : Int32)) (L2 := [(0, .ref (kgO (kgHs X) 1)), (1, .int (x1h4 + (1 : Int32))), (2, .int x2h4)]) S [1, 0, 2] 1 dX3_countBoiling_20 rfl rfl (by decide) rfl ?_
    refine aw_let (Lf := fun x3 => [(0, .ref (kgO (kgHs X) 1)), (1, .int x3), (2, .int x2h4)]) (x1h4 + (1 : Int32)) (fun x3 => ?_)
    refine aw_iinc (v := x2h4 + (1 : Int32)) (L2 := [(0, .ref (kgO (kgHs X) 1)), (1, .int x3), (2, .int (x2h4 + (1 : Int32)))]) S [1, 2, 0] 2 dX3_countBoiling_23 rfl rfl (by decide) rfl ?_
    refine aw_let (Lf := fun x4 => [(0, .ref (kgO (kgHs X) 1)), (1, .int x3), (2, .int x4)]) (x2h4 + (1 : Int32)) (fun x4 => ?_)
    refine aw_goto (tgt := 4) S dX3_countBoiling_26 (by decide) ?_
    exact ih x3 x4 I1
set_option maxHeartbeats 4000000 in
set_option maxRecDepth 100000 in
theorem s_X3_countBoiling (hs : kgH) (l : Launch) (w : Option (Nat × Nat))  (I0 : kgM) : Sdi hs l w yX3_countBoiling (kg_ws yX3_countBoiling cX3_countBoiling 3 (some .int)) { frames := 2, cells := 0, slots := 0, locals := 43 } [.ref (kgO hs 1)] I0 (f_X3_countBoiling I0) := by
  refine sd_i (av := fun hs => [.ref (kgO hs 1)]) (by decide +kernel) (fun hs => Nat.le_of_ble_eq_true rfl) (fun X S hQ => ?_) hs l
  refine aw_sub (L2 := [(0, .ref (kgO (kgHs X) 1))]) [0] rfl ?_
  unfold f_X3_countBoiling
  refine aw_iconst (v := (0 : Int32)) S dX3_countBoiling_0 (by decide) ?_
  refine aw_istore_n (L2 := [(0, .ref (kgO (kgHs X) 1)), (1, .int (0 : Int32))]) S [1, 0] dX3_countBoiling_1 rfl (by decide) rfl ?_
  refine aw_iconst (v := (0 : Int32)) S dX3_countBoiling_2 (by decide) ?_
  refine aw_istore_n (L2 := [(0, .ref (kgO (kgHs X) 1)), (1, .int (0 : Int32)), (2, .int (0 : Int32))]) S [1, 2, 0] dX3_countBoiling_3 rfl (by decide) rfl ?_
  refine s_X3_countBoiling_L4 S hQ  (fun x5 I2 => ?_) 200 (0 : Int32) (0 : Int32) I0
  refine aw_iload_n S 0 rfl dX3_countBoiling_29 rfl ?_
  exact aw_ret S hQ (vp_nar_int _) (by decide) (by decide) dX3_countBoiling_30
set_option maxHeartbeats 4000000 in
set_option maxRecDepth 100000 in
theorem s_X3_countLidsOn_L4 {X : kgCX (Int32 × kgM)} {w : Option (Nat × Nat)} (S : Cx X cX3_countLidsOn RX3 3 0 0 0 0) (hQ : Qxi X w .int)  {K : Int32 → kgM → Option (Int32 × kgM)} (hK : ∀ (z1 : Int32) (J : kgM), AW X 3 0 0 w (K z1 J) 27 [(1, .int z1)] [] J) : ∀ (q : Nat) (x1h4 : Int32) (x2h4 : Int32) (Ih4 : kgM), AW X 3 0 0 w (f_X3_countLidsOn_L4 K q x1h4 x2h4 Ih4) 4 [(0, .ref (kgO (kgHs X) 1)), (1, .int x1h4), (2, .int x2h4)] [] Ih4 := by
  intro q
  induction q with
  | zero => intros; exact aw_none
  | succ q ih =>
    intro x1h4 x2h4 Ih4
    rw [f_X3_countLidsOn_L4]
    refine aw_iload_n S 2 rfl dX3_countLidsOn_4 rfl ?_
    refine aw_aload_n S 0 rfl dX3_countLidsOn_5 rfl ?_
    refine aw_getI S 1 14 cl_X3 (by decide) (by decide) (by decide) (by decide) rfl tw_85 dX3_countLidsOn_6 ?_
    refine aw_icmp_ge (tgt := 27) S dX3_countLidsOn_9 (by decide) ?_ ?_
    · refine aw_sub (L2 := [(1, .int x1h4)]) [1] rfl ?_
      exact hK x1h4 Ih4
    refine aw_iload_n S 1 rfl dX3_countLidsOn_12 rfl ?_
    refine aw_aload_n S 0 rfl dX3_countLidsOn_13 rfl ?_
    refine aw_getR S 1 11 13 cl_X3 (by decide) (by decide) (by decide) (by decide) (by decide) rfl tw_79 dX3_countLidsOn_14 ?_
    refine aw_iload_n S 2 rfl dX3_countLidsOn_17 rfl ?_
    refine aw_iald S 13 10 (by decide) (by decide) dX3_countLidsOn_18 ?_
    refine aw_iadd S dX3_countLidsOn_19 ?_
    refine aw_istore_n (L2 := [(0, .ref (kgO (kgHs X) 1)), (1, .int (x1h4 + (Ih4 13 x2h4.toNatClampNeg))), (2, .int x2h4)]) S [1, 0, 2] dX3_countLidsOn_20 rfl (by decide) rfl ?_
    refine aw_let (Lf := fun x1 => [(0, .ref (kgO (kgHs X) 1)), (1, .int x1), (2, .int x2h4)]) (x1h4 + (Ih4 13 x2h4.toNatClampNeg)) (fun x1 => ?_)
    refine aw_iinc (v := x2h4 + (1 : Int32)) (L2 := [(0, .ref (kgO (kgHs X) 1)), (1, .int x1), (2, .int (x2h4 + (1 : Int32)))]) S [1, 2, 0] 2 dX3_countLidsOn_21 rfl rfl (by decide) rfl ?_
    refine aw_let (Lf := fun x2 => [(0, .ref (kgO (kgHs X) 1)), (1, .int x1), (2, .int x2)]) (x2h4 + (1 : Int32)) (fun x2 => ?_)
    refine aw_goto (tgt := 4) S dX3_countLidsOn_24 (by decide) ?_
    exact ih x1 x2 Ih4
set_option maxHeartbeats 4000000 in
set_option maxRecDepth 100000 in
theorem s_X3_countLidsOn (hs : kgH) (l : Launch) (w : Option (Nat × Nat))  (I0 : kgM) : Sdi hs l w yX3_countLidsOn (kg_ws yX3_countLidsOn cX3_countLidsOn 3 (some .int)) { frames := 0, cells := 0, slots := 0, locals := 0 } [.ref (kgO hs 1)] I0 (f_X3_countLidsOn I0) := by
  refine sd_i (av := fun hs => [.ref (kgO hs 1)]) (by decide +kernel) (fun hs => Nat.le_of_ble_eq_true rfl) (fun X S hQ => ?_) hs l
  refine aw_sub (L2 := [(0, .ref (kgO (kgHs X) 1))]) [0] rfl ?_
  unfold f_X3_countLidsOn
  refine aw_iconst (v := (0 : Int32)) S dX3_countLidsOn_0 (by decide) ?_
  refine aw_istore_n (L2 := [(0, .ref (kgO (kgHs X) 1)), (1, .int (0 : Int32))]) S [1, 0] dX3_countLidsOn_1 rfl (by decide) rfl ?_
  refine aw_iconst (v := (0 : Int32)) S dX3_countLidsOn_2 (by decide) ?_
  refine aw_istore_n (L2 := [(0, .ref (kgO (kgHs X) 1)), (1, .int (0 : Int32)), (2, .int (0 : Int32))]) S [1, 2, 0] dX3_countLidsOn_3 rfl (by decide) rfl ?_
  refine s_X3_countLidsOn_L4 S hQ  (fun x3 I1 => ?_) 200 (0 : Int32) (0 : Int32) I0
  refine aw_iload_n S 0 rfl dX3_countLidsOn_27 rfl ?_
  exact aw_ret S hQ (vp_nar_int _) (by decide) (by decide) dX3_countLidsOn_28
set_option maxHeartbeats 4000000 in
set_option maxRecDepth 100000 in
theorem s_X3_countLidsBarred_L4 {X : kgCX (Int32 × kgM)} {w : Option (Nat × Nat)} (S : Cx X cX3_countLidsBarred RX3 3 0 0 0 0) (hQ : Qxi X w .int)  {K : Int32 → kgM → Option (Int32 × kgM)} (hK : ∀ (z1 : Int32) (J : kgM), AW X 3 0 0 w (K z1 J) 27 [(1, .int z1)] [] J) : ∀ (q : Nat) (x1h4 : Int32) (x2h4 : Int32) (Ih4 : kgM), AW X 3 0 0 w (f_X3_countLidsBarred_L4 K q x1h4 x2h4 Ih4) 4 [(0, .ref (kgO (kgHs X) 1)), (1, .int x1h4), (2, .int x2h4)] [] Ih4 := by
  intro q
  induction q with
  | zero => intros; exact aw_none
  | succ q ih =>
    intro x1h4 x2h4 Ih4
    rw [f_X3_countLidsBarred_L4]
    refine aw_iload_n S 2 rfl dX3_countLidsBarred_4 rfl ?_
    refine aw_aload_n S 0 rfl dX3_countLidsBarred_5 rfl ?_
    refine aw_getI S 1 14 cl_X3 (by decide) (by decide) (by decide) (by decide) rfl tw_85 dX3_countLidsBarred_6 ?_
    refine aw_icmp_ge (tgt := 27) S dX3_countLidsBarred_9 (by decide) ?_ ?_
    · refine aw_sub (L2 := [(1, .int x1h4)]) [1] rfl ?_
      exact hK x1h4 Ih4
    refine aw_iload_n S 1 rfl dX3_countLidsBarred_12 rfl ?_
    refine aw_aload_n S 0 rfl dX3_countLidsBarred_13 rfl ?_
    refine aw_getR S 1 12 14 cl_X3 (by decide) (by decide) (by decide) (by decide) (by decide) rfl tw_81 dX3_countLidsBarred_14 ?_
    refine aw_iload_n S 2 rfl dX3_countLidsBarred_17 rfl ?_
    refine aw_iald S 14 10 (by decide) (by decide) dX3_countLidsBarred_18 ?_
    refine aw_iadd S dX3_countLidsBarred_19 ?_
    refine aw_istore_n (L2 := [(0, .ref (kgO (kgHs X) 1)), (1, .int (x1h4 + (Ih4 14 x2h4.toNatClampNeg))), (2, .int x2h4)]) S [1, 0, 2] dX3_countLidsBarred_20 rfl (by decide) rfl ?_
    refine aw_let (Lf := fun x1 => [(0, .ref (kgO (kgHs X) 1)), (1, .int x1), (2, .int x2h4)]) (x1h4 + (Ih4 14 x2h4.toNatClampNeg)) (fun x1 => ?_)
    refine aw_iinc (v := x2h4 + (1 : Int32)) (L2 := [(0, .ref (kgO (kgHs X) 1)), (1, .int x1), (2, .int (x2h4 + (1 : Int32)))]) S [1, 2, 0] 2 dX3_countLidsBarred_21 rfl rfl (by decide) rfl ?_
    refine aw_let (Lf := fun x2 => [(0, .ref (kgO (kgHs X) 1)), (1, .int x1), (2, .int x2)]) (x2h4 + (1 : Int32)) (fun x2 => ?_)
    refine aw_goto (tgt := 4) S dX3_countLidsBarred_24 (by decide) ?_
    exact ih x1 x2 Ih4
set_option maxHeartbeats 4000000 in
set_option maxRecDepth 100000 in
theorem s_X3_countLidsBarred (hs : kgH) (l : Launch) (w : Option (Nat × Nat))  (I0 : kgM) : Sdi hs l w yX3_countLidsBarred (kg_ws yX3_countLidsBarred cX3_countLidsBarred 3 (some .int)) { frames := 0, cells := 0, slots := 0, locals := 0 } [.ref (kgO hs 1)] I0 (f_X3_countLidsBarred I0) := by
  refine sd_i (av := fun hs => [.ref (kgO hs 1)]) (by decide +kernel) (fun hs => Nat.le_of_ble_eq_true rfl) (fun X S hQ => ?_) hs l
  refine aw_sub (L2 := [(0, .ref (kgO (kgHs X) 1))]) [0] rfl ?_
  unfold f_X3_countLidsBarred
  refine aw_iconst (v := (0 : Int32)) S dX3_countLidsBarred_0 (by decide) ?_
  refine aw_istore_n (L2 := [(0, .ref (kgO (kgHs X) 1)), (1, .int (0 : Int32))]) S [1, 0] dX3_countLidsBarred_1 rfl (by decide) rfl ?_
  refine aw_iconst (v := (0 : Int32)) S dX3_countLidsBarred_2 (by decide) ?_
  refine aw_istore_n (L2 := [(0, .ref (kgO (kgHs X) 1)), (1, .int (0 : Int32)), (2, .int (0 : Int32))]) S [1, 2, 0] dX3_countLidsBarred_3 rfl (by decide) rfl ?_
  refine s_X3_countLidsBarred_L4 S hQ  (fun x3 I1 => ?_) 200 (0 : Int32) (0 : Int32) I0
  refine aw_iload_n S 0 rfl dX3_countLidsBarred_27 rfl ?_
  exact aw_ret S hQ (vp_nar_int _) (by decide) (by decide) dX3_countLidsBarred_28
set_option maxHeartbeats 4000000 in
set_option maxRecDepth 100000 in
theorem s_X3_sumWater_L4 {X : kgCX (Int32 × kgM)} {w : Option (Nat × Nat)} (S : Cx X cX3_sumWater RX3 3 0 0 0 0) (hQ : Qxi X w .int)  {K : Int32 → kgM → Option (Int32 × kgM)} (hK : ∀ (z1 : Int32) (J : kgM), AW X 3 0 0 w (K z1 J) 27 [(1, .int z1)] [] J) : ∀ (q : Nat) (x1h4 : Int32) (x2h4 : Int32) (Ih4 : kgM), AW X 3 0 0 w (f_X3_sumWater_L4 K q x1h4 x2h4 Ih4) 4 [(0, .ref (kgO (kgHs X) 1)), (1, .int x1h4), (2, .int x2h4)] [] Ih4 := by
  intro q
  induction q with
  | zero => intros; exact aw_none
  | succ q ih =>
    intro x1h4 x2h4 Ih4
    rw [f_X3_sumWater_L4]
    refine aw_iload_n S 2 rfl dX3_sumWater_4 rfl ?_
    refine aw_aload_n S 0 rfl dX3_sumWater_5 rfl ?_
    refine aw_getI S 1 14 cl_X3 (by decide) (by decide) (by decide) (by decide) rfl tw_85 dX3_sumWater_6 ?_
    refine aw_icmp_ge (tgt := 27) S dX3_sumWater_9 (by decide) ?_ ?_
    · refine aw_sub (L2 := [(1, .int x1h4)]) [1] rfl ?_
      exact hK x1h4 Ih4
    refine aw_iload_n S 1 rfl dX3_sumWater_12 rfl ?_
    refine aw_aload_n S 0 rfl dX3_sumWater_13 rfl ?_
    refine aw_getR S 1 7 9 cl_X3 (by decide) (by decide) (by decide) (by decide) (by decide) rfl tw_71 dX3_sumWater_14 ?_
    refine aw_iload_n S 2 rfl dX3_sumWater_17 rfl ?_
    refine aw_iald S 9 10 (by decide) (by decide) dX3_sumWater_18 ?_
    refine aw_iadd S dX3_sumWater_19 ?_
    refine aw_istore_n (L2 := [(0, .ref (kgO (kgHs X) 1)), (1, .int (x1h4 + (Ih4 9 x2h4.toNatClampNeg))), (2, .int x2h4)]) S [1, 0, 2] dX3_sumWater_20 rfl (by decide) rfl ?_
    refine aw_let (Lf := fun x1 => [(0, .ref (kgO (kgHs X) 1)), (1, .int x1), (2, .int x2h4)]) (x1h4 + (Ih4 9 x2h4.toNatClampNeg)) (fun x1 => ?_)
    refine aw_iinc (v := x2h4 + (1 : Int32)) (L2 := [(0, .ref (kgO (kgHs X) 1)), (1, .int x1), (2, .int (x2h4 + (1 : Int32)))]) S [1, 2, 0] 2 dX3_sumWater_21 rfl rfl (by decide) rfl ?_
    refine aw_let (Lf := fun x2 => [(0, .ref (kgO (kgHs X) 1)), (1, .int x1), (2, .int x2)]) (x2h4 + (1 : Int32)) (fun x2 => ?_)
    refine aw_goto (tgt := 4) S dX3_sumWater_24 (by decide) ?_
    exact ih x1 x2 Ih4
set_option maxHeartbeats 4000000 in
set_option maxRecDepth 100000 in
theorem s_X3_sumWater (hs : kgH) (l : Launch) (w : Option (Nat × Nat))  (I0 : kgM) : Sdi hs l w yX3_sumWater (kg_ws yX3_sumWater cX3_sumWater 3 (some .int)) { frames := 0, cells := 0, slots := 0, locals := 0 } [.ref (kgO hs 1)] I0 (f_X3_sumWater I0) := by
  refine sd_i (av := fun hs => [.ref (kgO hs 1)]) (by decide +kernel) (fun hs => Nat.le_of_ble_eq_true rfl) (fun X S hQ => ?_) hs l
  refine aw_sub (L2 := [(0, .ref (kgO (kgHs X) 1))]) [0] rfl ?_
  unfold f_X3_sumWater
  refine aw_iconst (v := (0 : Int32)) S dX3_sumWater_0 (by decide) ?_
  refine aw_istore_n (L2 := [(0, .ref (kgO (kgHs X) 1)), (1, .int (0 : Int32))]) S [1, 0] dX3_sumWater_1 rfl (by decide) rfl ?_
  refine aw_iconst (v := (0 : Int32)) S dX3_sumWater_2 (by decide) ?_
  refine aw_istore_n (L2 := [(0, .ref (kgO (kgHs X) 1)), (1, .int (0 : Int32)), (2, .int (0 : Int32))]) S [1, 2, 0] dX3_sumWater_3 rfl (by decide) rfl ?_
  refine s_X3_sumWater_L4 S hQ  (fun x3 I1 => ?_) 200 (0 : Int32) (0 : Int32) I0
  refine aw_iload_n S 0 rfl dX3_sumWater_27 rfl ?_
  exact aw_ret S hQ (vp_nar_int _) (by decide) (by decide) dX3_sumWater_28
set_option maxHeartbeats 4000000 in
set_option maxRecDepth 100000 in
theorem s_X4_isMember (hs : kgH) (l : Launch) (w : Option (Nat × Nat)) (p1 : Int32) (I0 : kgM) : Sdi hs l w yX4_isMember (kg_ws yX4_isMember cX4_isMember 1 (some .boolean)) { frames := 0, cells := 0, slots := 0, locals := 0 } [.int p1] I0 (f_X4_isMember p1 I0) := by
  refine sd_i (av := fun hs => [.int p1]) (by decide +kernel) (fun hs => Nat.le_of_ble_eq_true rfl) (fun X S hQ => ?_) hs l
  refine aw_sub (L2 := [(0, .int p1)]) [0] rfl ?_
  unfold f_X4_isMember
  refine aw_iload_n S 0 rfl dX4_isMember_0 rfl ?_
  refine aw_if_lt (y := 0) (tgt := 13) S dX4_isMember_1 (by decide) ?_ ?_
  · refine aw_iconst (v := (0 : Int32)) S dX4_isMember_13 (by decide) ?_
    exact aw_ret S hQ rfl (by decide) (by decide) dX4_isMember_14
  refine aw_iload_n S 0 rfl dX4_isMember_4 rfl ?_
  refine aw_iconst (v := (4 : Int32)) S dX4_isMember_5 (by decide) ?_
  refine aw_icmp_ge (tgt := 13) S dX4_isMember_6 (by decide) ?_ ?_
  · refine aw_iconst (v := (0 : Int32)) S dX4_isMember_13 (by decide) ?_
    exact aw_ret S hQ rfl (by decide) (by decide) dX4_isMember_14
  refine aw_iconst (v := (1 : Int32)) S dX4_isMember_9 (by decide) ?_
  refine aw_goto (tgt := 14) S dX4_isMember_10 (by decide) ?_
  exact aw_ret S hQ rfl (by decide) (by decide) dX4_isMember_14
set_option maxHeartbeats 4000000 in
set_option maxRecDepth 100000 in
theorem s_X4_isPitch (hs : kgH) (l : Launch) (w : Option (Nat × Nat)) (p1 : Int32) (I0 : kgM) : Sdi hs l w yX4_isPitch (kg_ws yX4_isPitch cX4_isPitch 1 (some .boolean)) { frames := 0, cells := 0, slots := 0, locals := 0 } [.int p1] I0 (f_X4_isPitch p1 I0) := by
  refine sd_i (av := fun hs => [.int p1]) (by decide +kernel) (fun hs => Nat.le_of_ble_eq_true rfl) (fun X S hQ => ?_) hs l
  refine aw_sub (L2 := [(0, .int p1)]) [0] rfl ?_
  unfold f_X4_isPitch
  refine aw_iload_n S 0 rfl dX4_isPitch_0 rfl ?_
  refine aw_iconst (v := (1 : Int32)) S dX4_isPitch_1 (by decide) ?_
  refine aw_icmp_lt (tgt := 15) S dX4_isPitch_2 (by decide) ?_ ?_
  · refine aw_iconst (v := (0 : Int32)) S dX4_isPitch_15 (by decide) ?_
    exact aw_ret S hQ rfl (by decide) (by decide) dX4_isPitch_16
  refine aw_iload_n S 0 rfl dX4_isPitch_5 rfl ?_
  refine aw_bipush (v := (12 : Int32)) S dX4_isPitch_6 (by decide) ?_
  refine aw_icmp_gt (tgt := 15) S dX4_isPitch_8 (by decide) ?_ ?_
  · refine aw_iconst (v := (0 : Int32)) S dX4_isPitch_15 (by decide) ?_
    exact aw_ret S hQ rfl (by decide) (by decide) dX4_isPitch_16
  refine aw_iconst (v := (1 : Int32)) S dX4_isPitch_11 (by decide) ?_
  refine aw_goto (tgt := 16) S dX4_isPitch_12 (by decide) ?_
  exact aw_ret S hQ rfl (by decide) (by decide) dX4_isPitch_16
set_option maxHeartbeats 4000000 in
set_option maxRecDepth 100000 in
theorem s_X4_refuse (hs : kgH) (l : Launch) (w : Option (Nat × Nat)) (p1 : Int32) (p2 : Int32) (I0 : kgM) : Sdi hs l w yX4_refuse (kg_ws yX4_refuse cX4_refuse 3 (some .int)) { frames := 2, cells := 0, slots := 0, locals := 44 } [.ref (kgO hs 0), .int p1, .int p2] I0 (f_X4_refuse p1 p2 I0) := by
  refine sd_i (av := fun hs => [.ref (kgO hs 0), .int p1, .int p2]) (by decide +kernel) (fun hs => Nat.le_of_ble_eq_true rfl) (fun X S hQ => ?_) hs l
  refine aw_sub (L2 := [(0, .ref (kgO (kgHs X) 0)), (1, .int p1), (2, .int p2)]) [0, 1, 2] rfl ?_
  unfold f_X4_refuse
  refine aw_aload_n S 0 rfl dX4_refuse_0 rfl ?_
  refine aw_getR S 0 3 168 cl_X4 (by decide) (by decide) (by decide) (by decide) (by decide) rfl tw_228 dX4_refuse_1 ?_
  refine aw_iconst (v := (0 : Int32)) S dX4_refuse_4 (by decide) ?_
  refine aw_putI S 168 2 cl_X2 tyX2_ok nmX2 (by decide) (by decide) (by decide) (by decide) rfl (vp_nar_int _) rfl tw_160 dX4_refuse_5 ?_
  refine aw_wr (fun I1 => ?_)
  refine aw_aload_n S 0 rfl dX4_refuse_8 rfl ?_
  refine aw_getR S 0 3 168 cl_X4 (by decide) (by decide) (by decide) (by decide) (by decide) rfl tw_228 dX4_refuse_9 ?_
  refine aw_iload_n S 1 rfl dX4_refuse_12 rfl ?_
  refine aw_iload_n S 2 rfl dX4_refuse_13 rfl ?_
  refine aw_cVv S 168 [.int p1, .int p2] vw_X2_putAhead cl_X2 (by decide) (by decide) tw_648 (s_X2_putAhead _ _ _ p1 p2 I1) ⟨by decide, by decide⟩ rfl rfl (Nat.le_of_ble_eq_true rfl) rfl rfl (by decide) (by decide) dX4_refuse_14 (fun x1 I2 => ?_)
  refine aw_sipush (v := (-1014 : Int32)) S dX4_refuse_17 (by decide) ?_
  exact aw_ret S hQ (vp_nar_int _) (by decide) (by decide) dX4_refuse_20
set_option maxHeartbeats 4000000 in
set_option maxRecDepth 100000 in
theorem s_X4_takePitch (hs : kgH) (l : Launch) (w : Option (Nat × Nat)) (p1 : Int32) (p2 : Int32) (I0 : kgM) : Sdi hs l w yX4_takePitch (kg_ws yX4_takePitch cX4_takePitch 4 (some .int)) { frames := 3, cells := 0, slots := 0, locals := 66 } [.ref (kgO hs 0), .int p1, .int p2] I0 (f_X4_takePitch p1 p2 I0) := by
  refine sd_i (av := fun hs => [.ref (kgO hs 0), .int p1, .int p2]) (by decide +kernel) (fun hs => Nat.le_of_ble_eq_true rfl) (fun X S hQ => ?_) hs l
  refine aw_sub (L2 := [(0, .ref (kgO (kgHs X) 0)), (1, .int p1), (2, .int p2)]) [0, 1, 2] rfl ?_
  unfold f_X4_takePitch
  refine aw_iload_n S 1 rfl dX4_takePitch_0 rfl ?_
  refine aw_cSi S [.int p1] vw_X4_isMember tw_358 (s_X4_isMember _ _ _ p1 I0) ⟨by decide, by decide⟩ rfl rfl (Nat.le_of_ble_eq_true rfl) rfl rfl (by decide) (by decide) dX4_takePitch_1 (fun x1 I1 => ?_)
  refine aw_if_ne (y := 0) (tgt := 11) S dX4_takePitch_4 (by decide) ?_ ?_
  · refine aw_iload_n S 2 rfl dX4_takePitch_11 rfl ?_
    refine aw_cSi S [.int p2] vw_X4_isPitch tw_250 (s_X4_isPitch _ _ _ p2 I1) ⟨by decide, by decide⟩ rfl rfl (Nat.le_of_ble_eq_true rfl) rfl rfl (by decide) (by decide) dX4_takePitch_12 (fun x2 I2 => ?_)
    refine aw_if_ne (y := 0) (tgt := 22) S dX4_takePitch_15 (by decide) ?_ ?_
    · refine aw_aload_n S 0 rfl dX4_takePitch_22 rfl ?_
      refine aw_getR S 0 0 1 cl_X4 (by decide) (by decide) (by decide) (by decide) (by decide) rfl tw_225 dX4_takePitch_23 ?_
      refine aw_getR S 1 0 2 cl_X3 (by decide) (by decide) (by decide) (by decide) (by decide) rfl tw_58 dX4_takePitch_26 ?_
      refine aw_iload_n S 2 rfl dX4_takePitch_29 rfl ?_
      refine aw_iald S 2 13 (by decide) (by decide) dX4_takePitch_30 ?_
      refine aw_iconst (v := (-1 : Int32)) S dX4_takePitch_31 (by decide) ?_
      refine aw_icmp_eq (tgt := 50) S dX4_takePitch_32 (by decide) ?_ ?_
      · refine aw_aload_n S 0 rfl dX4_takePitch_50 rfl ?_
        refine aw_getR S 0 0 1 cl_X4 (by decide) (by decide) (by decide) (by decide) (by decide) rfl tw_225 dX4_takePitch_51 ?_
        refine aw_iload_n S 1 rfl dX4_takePitch_54 rfl ?_
        refine aw_cVi S 1 [.int p1] vw_X3_countPitchesOf cl_X3 (by decide) (by decide) tw_361 (s_X3_countPitchesOf _ _ _ p1 I2) ⟨by decide, by decide⟩ rfl rfl (Nat.le_of_ble_eq_true rfl) rfl rfl (by decide) (by decide) dX4_takePitch_55 (fun x3 I3 => ?_)
        refine aw_istore_n (L2 := [(0, .ref (kgO (kgHs X) 0)), (1, .int p1), (2, .int p2), (3, .int x3)]) S [1, 2, 3, 0] dX4_takePitch_58 rfl (by decide) rfl ?_
        refine aw_iload_n S 3 rfl dX4_takePitch_59 rfl ?_
        refine aw_iconst (v := (4 : Int32)) S dX4_takePitch_60 (by decide) ?_
        refine aw_icmp_lt (tgt := 71) S dX4_takePitch_61 (by decide) ?_ ?_
        · refine aw_aload_n S 0 rfl dX4_takePitch_71 rfl ?_
          refine aw_getR S 0 0 1 cl_X4 (by decide) (by decide) (by decide) (by decide) (by decide) rfl tw_225 dX4_takePitch_72 ?_
          refine aw_getR S 1 0 2 cl_X3 (by decide) (by decide) (by decide) (by decide) (by decide) rfl tw_58 dX4_takePitch_75 ?_
          refine aw_iload_n S 2 rfl dX4_takePitch_78 rfl ?_
          refine aw_iload_n S 1 rfl dX4_takePitch_79 rfl ?_
          refine aw_iast S 2 13 (by decide) (by decide) dX4_takePitch_80 ?_
          refine aw_wr (fun I4 => ?_)
          refine aw_iload_n S 3 rfl dX4_takePitch_81 rfl ?_
          refine aw_iconst (v := (1 : Int32)) S dX4_takePitch_82 (by decide) ?_
          refine aw_iadd S dX4_takePitch_83 ?_
          exact aw_ret S hQ (vp_nar_int _) (by decide) (by decide) dX4_takePitch_84
        refine aw_aload_n S 0 rfl dX4_takePitch_64 rfl ?_
        refine aw_iconst (v := (1 : Int32)) S dX4_takePitch_65 (by decide) ?_
        refine aw_iload_n S 3 rfl dX4_takePitch_66 rfl ?_
        refine aw_cVi S 0 [.int (1 : Int32), .int x3] vw_X4_refuse cl_X4 (by decide) (by decide) tw_644 (s_X4_refuse _ _ _ (1 : Int32) x3 I3) ⟨by decide, by decide⟩ rfl rfl (Nat.le_of_ble_eq_true rfl) rfl rfl (by decide) (by decide) dX4_takePitch_67 (fun x4 I5 => ?_)
        exact aw_ret S hQ (vp_nar_int _) (by decide) (by decide) dX4_takePitch_70
      refine aw_aload_n S 0 rfl dX4_takePitch_35 rfl ?_
      refine aw_iconst (v := (2 : Int32)) S dX4_takePitch_36 (by decide) ?_
      refine aw_aload_n S 0 rfl dX4_takePitch_37 rfl ?_
      refine aw_getR S 0 0 1 cl_X4 (by decide) (by decide) (by decide) (by decide) (by decide) rfl tw_225 dX4_takePitch_38 ?_
      refine aw_getR S 1 0 2 cl_X3 (by decide) (by decide) (by decide) (by decide) (by decide) rfl tw_58 dX4_takePitch_41 ?_
      refine aw_iload_n S 2 rfl dX4_takePitch_44 rfl ?_
      refine aw_iald S 2 13 (by decide) (by decide) dX4_takePitch_45 ?_
      refine aw_cVi S 0 [.int (2 : Int32), .int (I2 2 p2.toNatClampNeg)] vw_X4_refuse cl_X4 (by decide) (by decide) tw_644 (s_X4_refuse _ _ _ (2 : Int32) (I2 2 p2.toNatClampNeg) I2) ⟨by decide, by decide⟩ rfl rfl (Nat.le_of_ble_eq_true rfl) rfl rfl (by decide) (by decide) dX4_takePitch_46 (fun x5 I6 => ?_)
      exact aw_ret S hQ (vp_nar_int _) (by decide) (by decide) dX4_takePitch_49
    refine aw_sipush (v := (-1012 : Int32)) S dX4_takePitch_18 (by decide) ?_
    exact aw_ret S hQ (vp_nar_int _) (by decide) (by decide) dX4_takePitch_21
  refine aw_sipush (v := (-1011 : Int32)) S dX4_takePitch_7 (by decide) ?_
  exact aw_ret S hQ (vp_nar_int _) (by decide) (by decide) dX4_takePitch_10
set_option maxHeartbeats 4000000 in
set_option maxRecDepth 100000 in
theorem s_X4_settle (hs : kgH) (l : Launch) (w : Option (Nat × Nat)) (p1 : Int32) (I0 : kgM) : Sdi hs l w yX4_settle (kg_ws yX4_settle cX4_settle 2 (some .int)) { frames := 2, cells := 0, slots := 0, locals := 41 } [.ref (kgO hs 0), .int p1] I0 (f_X4_settle p1 I0) := by
  refine sd_i (av := fun hs => [.ref (kgO hs 0), .int p1]) (by decide +kernel) (fun hs => Nat.le_of_ble_eq_true rfl) (fun X S hQ => ?_) hs l
  refine aw_sub (L2 := [(0, .ref (kgO (kgHs X) 0)), (1, .int p1)]) [0, 1] rfl ?_
  unfold f_X4_settle
  refine aw_iload_n S 1 rfl dX4_settle_0 rfl ?_
  refine aw_if_lt (y := 0) (tgt := 11) S dX4_settle_1 (by decide) ?_ ?_
  · refine aw_iload_n S 1 rfl dX4_settle_11 rfl ?_
    exact aw_ret S hQ (vp_nar_int _) (by decide) (by decide) dX4_settle_12
  refine aw_aload_n S 0 rfl dX4_settle_4 rfl ?_
  refine aw_getR S 0 2 31 cl_X4 (by decide) (by decide) (by decide) (by decide) (by decide) rfl tw_227 dX4_settle_5 ?_
  refine aw_cVv S 31 [] vw_X0_keepBegun cl_X0 (by decide) (by decide) tw_657 (s_X0_keepBegun _ _ _ I0) ⟨by decide, by decide⟩ rfl rfl (Nat.le_of_ble_eq_true rfl) rfl rfl (by decide) (by decide) dX4_settle_8 (fun x1 I1 => ?_)
  refine aw_iload_n S 1 rfl dX4_settle_11 rfl ?_
  exact aw_ret S hQ (vp_nar_int _) (by decide) (by decide) dX4_settle_12
set_option maxHeartbeats 4000000 in
set_option maxRecDepth 100000 in
theorem s_X4_own (hs : kgH) (l : Launch) (w : Option (Nat × Nat)) (p1 : Int32) (p2 : Int32) (I0 : kgM) : Sdi hs l w yX4_own (kg_ws yX4_own cX4_own 3 (some .int)) { frames := 4, cells := 0, slots := 0, locals := 142 } [.ref (kgO hs 0), .int p1, .int p2] I0 (f_X4_own p1 p2 I0) := by
  refine sd_i (av := fun hs => [.ref (kgO hs 0), .int p1, .int p2]) (by decide +kernel) (fun hs => Nat.le_of_ble_eq_true rfl) (fun X S hQ => ?_) hs l
  refine aw_sub (L2 := [(0, .ref (kgO (kgHs X) 0)), (1, .int p1), (2, .int p2)]) [0, 1, 2] rfl ?_
  unfold f_X4_own
  refine aw_aload_n S 0 rfl dX4_own_0 rfl ?_
  refine aw_getR S 0 2 31 cl_X4 (by decide) (by decide) (by decide) (by decide) (by decide) rfl tw_227 dX4_own_1 ?_
  refine aw_aload_n S 0 rfl dX4_own_4 rfl ?_
  refine aw_getR S 0 0 1 cl_X4 (by decide) (by decide) (by decide) (by decide) (by decide) rfl tw_225 dX4_own_5 ?_
  refine aw_cVv S 31 [.ref (kgO (kgHs X) 1)] vw_X0_begin cl_X0 (by decide) (by decide) tw_627 (s_X0_begin _ _ _ I0) ⟨by decide, by decide⟩ rfl rfl (Nat.le_of_ble_eq_true rfl) rfl rfl (by decide) (by decide) dX4_own_8 (fun x1 I1 => ?_)
  refine aw_aload_n S 0 rfl dX4_own_11 rfl ?_
  refine aw_aload_n S 0 rfl dX4_own_12 rfl ?_
  refine aw_iload_n S 1 rfl dX4_own_13 rfl ?_
  refine aw_iload_n S 2 rfl dX4_own_14 rfl ?_
  refine aw_cVi S 0 [.int p1, .int p2] vw_X4_takePitch cl_X4 (by decide) (by decide) tw_640 (s_X4_takePitch _ _ _ p1 p2 I1) ⟨by decide, by decide⟩ rfl rfl (Nat.le_of_ble_eq_true rfl) rfl rfl (by decide) (by decide) dX4_own_15 (fun x2 I2 => ?_)
  refine aw_cVi S 0 [.int x2] vw_X4_settle cl_X4 (by decide) (by decide) tw_653 (s_X4_settle _ _ _ x2 I2) ⟨by decide, by decide⟩ rfl rfl (Nat.le_of_ble_eq_true rfl) rfl rfl (by decide) (by decide) dX4_own_18 (fun x3 I3 => ?_)
  exact aw_ret S hQ (vp_nar_int _) (by decide) (by decide) dX4_own_21
set_option maxHeartbeats 4000000 in
set_option maxRecDepth 100000 in
theorem s_X4_orNothing (hs : kgH) (l : Launch) (w : Option (Nat × Nat)) (p1 : Int32) (I0 : kgM) : Sdi hs l w yX4_orNothing (kg_ws yX4_orNothing cX4_orNothing 1 (some .int)) { frames := 0, cells := 0, slots := 0, locals := 0 } [.int p1] I0 (f_X4_orNothing p1 I0) := by
  refine sd_i (av := fun hs => [.int p1]) (by decide +kernel) (fun hs => Nat.le_of_ble_eq_true rfl) (fun X S hQ => ?_) hs l
  refine aw_sub (L2 := [(0, .int p1)]) [0] rfl ?_
  unfold f_X4_orNothing
  refine aw_iload_n S 0 rfl dX4_orNothing_0 rfl ?_
  refine aw_iconst (v := (-1 : Int32)) S dX4_orNothing_1 (by decide) ?_
  refine aw_icmp_ne (tgt := 11) S dX4_orNothing_2 (by decide) ?_ ?_
  · refine aw_iload_n S 0 rfl dX4_orNothing_11 rfl ?_
    exact aw_ret S hQ (vp_nar_int _) (by decide) (by decide) dX4_orNothing_12
  refine aw_sipush (v := (-1015 : Int32)) S dX4_orNothing_5 (by decide) ?_
  refine aw_goto (tgt := 12) S dX4_orNothing_8 (by decide) ?_
  exact aw_ret S hQ (vp_nar_int _) (by decide) (by decide) dX4_orNothing_12
set_option maxHeartbeats 4000000 in
set_option maxRecDepth 100000 in
theorem s_X4_owner (hs : kgH) (l : Launch) (w : Option (Nat × Nat)) (p1 : Int32) (I0 : kgM) : Sdi hs l w yX4_owner (kg_ws yX4_owner cX4_owner 2 (some .int)) { frames := 1, cells := 0, slots := 0, locals := 20 } [.ref (kgO hs 0), .int p1] I0 (f_X4_owner p1 I0) := by
  refine sd_i (av := fun hs => [.ref (kgO hs 0), .int p1]) (by decide +kernel) (fun hs => Nat.le_of_ble_eq_true rfl) (fun X S hQ => ?_) hs l
  refine aw_sub (L2 := [(0, .ref (kgO (kgHs X) 0)), (1, .int p1)]) [0, 1] rfl ?_
  unfold f_X4_owner
  refine aw_iload_n S 1 rfl dX4_owner_0 rfl ?_
  refine aw_cSi S [.int p1] vw_X4_isPitch tw_250 (s_X4_isPitch _ _ _ p1 I0) ⟨by decide, by decide⟩ rfl rfl (Nat.le_of_ble_eq_true rfl) rfl rfl (by decide) (by decide) dX4_owner_1 (fun x1 I1 => ?_)
  refine aw_if_ne (y := 0) (tgt := 11) S dX4_owner_4 (by decide) ?_ ?_
  · refine aw_aload_n S 0 rfl dX4_owner_11 rfl ?_
    refine aw_getR S 0 0 1 cl_X4 (by decide) (by decide) (by decide) (by decide) (by decide) rfl tw_225 dX4_owner_12 ?_
    refine aw_getR S 1 0 2 cl_X3 (by decide) (by decide) (by decide) (by decide) (by decide) rfl tw_58 dX4_owner_15 ?_
    refine aw_iload_n S 1 rfl dX4_owner_18 rfl ?_
    refine aw_iald S 2 13 (by decide) (by decide) dX4_owner_19 ?_
    refine aw_cSi S [.int (I1 2 p1.toNatClampNeg)] vw_X4_orNothing tw_253 (s_X4_orNothing _ _ _ (I1 2 p1.toNatClampNeg) I1) ⟨by decide, by decide⟩ rfl rfl (Nat.le_of_ble_eq_true rfl) rfl rfl (by decide) (by decide) dX4_owner_20 (fun x2 I2 => ?_)
    exact aw_ret S hQ (vp_nar_int _) (by decide) (by decide) dX4_owner_23
  refine aw_sipush (v := (-1012 : Int32)) S dX4_owner_7 (by decide) ?_
  exact aw_ret S hQ (vp_nar_int _) (by decide) (by decide) dX4_owner_10
set_option maxHeartbeats 4000000 in
set_option maxRecDepth 100000 in
theorem s_X4_bringKettle (hs : kgH) (l : Launch) (w : Option (Nat × Nat)) (p1 : Int32) (p2 : Int32) (p3 : Int32) (I0 : kgM) : Sdi hs l w yX4_bringKettle (kg_ws yX4_bringKettle cX4_bringKettle 4 (some .int)) { frames := 3, cells := 0, slots := 0, locals := 66 } [.ref (kgO hs 0), .int p1, .int p2, .int p3] I0 (f_X4_bringKettle p1 p2 p3 I0) := by
  refine sd_i (av := fun hs => [.ref (kgO hs 0), .int p1, .int p2, .int p3]) (by decide +kernel) (fun hs => Nat.le_of_ble_eq_true rfl) (fun X S hQ => ?_) hs l
  refine aw_sub (L2 := [(0, .ref (kgO (kgHs X) 0)), (1, .int p1), (2, .int p2), (3, .int p3)]) [0, 1, 2, 3] rfl ?_
  unfold f_X4_bringKettle
  refine aw_iload_n S 1 rfl dX4_bringKettle_0 rfl ?_
  refine aw_cSi S [.int p1] vw_X4_isMember tw_358 (s_X4_isMember _ _ _ p1 I0) ⟨by decide, by decide⟩ rfl rfl (Nat.le_of_ble_eq_true rfl) rfl rfl (by decide) (by decide) dX4_bringKettle_1 (fun x1 I1 => ?_)
  refine aw_if_ne (y := 0) (tgt := 11) S dX4_bringKettle_4 (by decide) ?_ ?_
  · refine aw_iload_n S 2 rfl dX4_bringKettle_11 rfl ?_
    refine aw_cSi S [.int p2] vw_X4_isPitch tw_250 (s_X4_isPitch _ _ _ p2 I1) ⟨by decide, by decide⟩ rfl rfl (Nat.le_of_ble_eq_true rfl) rfl rfl (by decide) (by decide) dX4_bringKettle_12 (fun x2 I2 => ?_)
    refine aw_if_eq (y := 0) (tgt := 28) S dX4_bringKettle_15 (by decide) ?_ ?_
    · refine aw_sipush (v := (-1012 : Int32)) S dX4_bringKettle_28 (by decide) ?_
      exact aw_ret S hQ (vp_nar_int _) (by decide) (by decide) dX4_bringKettle_31
    refine aw_iload_n S 3 rfl dX4_bringKettle_18 rfl ?_
    refine aw_if_lt (y := 0) (tgt := 28) S dX4_bringKettle_19 (by decide) ?_ ?_
    · refine aw_sipush (v := (-1012 : Int32)) S dX4_bringKettle_28 (by decide) ?_
      exact aw_ret S hQ (vp_nar_int _) (by decide) (by decide) dX4_bringKettle_31
    refine aw_iload_n S 3 rfl dX4_bringKettle_22 rfl ?_
    refine aw_bipush (v := (20 : Int32)) S dX4_bringKettle_23 (by decide) ?_
    refine aw_icmp_le (tgt := 32) S dX4_bringKettle_25 (by decide) ?_ ?_
    · refine aw_aload_n S 0 rfl dX4_bringKettle_32 rfl ?_
      refine aw_getR S 0 0 1 cl_X4 (by decide) (by decide) (by decide) (by decide) (by decide) rfl tw_225 dX4_bringKettle_33 ?_
      refine aw_getR S 1 0 2 cl_X3 (by decide) (by decide) (by decide) (by decide) (by decide) rfl tw_58 dX4_bringKettle_36 ?_
      refine aw_iload_n S 2 rfl dX4_bringKettle_39 rfl ?_
      refine aw_iald S 2 13 (by decide) (by decide) dX4_bringKettle_40 ?_
      refine aw_iload_n S 1 rfl dX4_bringKettle_41 rfl ?_
      refine aw_icmp_eq (tgt := 60) S dX4_bringKettle_42 (by decide) ?_ ?_
      · refine aw_aload_n S 0 rfl dX4_bringKettle_60 rfl ?_
        refine aw_getR S 0 0 1 cl_X4 (by decide) (by decide) (by decide) (by decide) (by decide) rfl tw_225 dX4_bringKettle_61 ?_
        refine aw_getI S 1 14 cl_X3 (by decide) (by decide) (by decide) (by decide) rfl tw_86 dX4_bringKettle_64 ?_
        refine aw_bipush (v := (10 : Int32)) S dX4_bringKettle_67 (by decide) ?_
        refine aw_icmp_lt (tgt := 85) S dX4_bringKettle_69 (by decide) ?_ ?_
        · refine aw_aload_n S 0 rfl dX4_bringKettle_85 rfl ?_
          refine aw_getR S 0 0 1 cl_X4 (by decide) (by decide) (by decide) (by decide) (by decide) rfl tw_225 dX4_bringKettle_86 ?_
          refine aw_iload_n S 1 rfl dX4_bringKettle_89 rfl ?_
          refine aw_iload_n S 2 rfl dX4_bringKettle_90 rfl ?_
          refine aw_iload_n S 3 rfl dX4_bringKettle_91 rfl ?_
          refine aw_cVi S 1 [.int p1, .int p2, .int p3] vw_X3_addKettle cl_X3 (by decide) (by decide) tw_673 (s_X3_addKettle _ _ _ p1 p2 p3 I2) ⟨by decide, by decide⟩ rfl rfl (Nat.le_of_ble_eq_true rfl) rfl rfl (by decide) (by decide) dX4_bringKettle_92 (fun x3 I3 => ?_)
          exact aw_ret S hQ (vp_nar_int _) (by decide) (by decide) dX4_bringKettle_95
        refine aw_aload_n S 0 rfl dX4_bringKettle_72 rfl ?_
        refine aw_iconst (v := (1 : Int32)) S dX4_bringKettle_73 (by decide) ?_
        refine aw_aload_n S 0 rfl dX4_bringKettle_74 rfl ?_
        refine aw_getR S 0 0 1 cl_X4 (by decide) (by decide) (by decide) (by decide) (by decide) rfl tw_225 dX4_bringKettle_75 ?_
        refine aw_getI S 1 14 cl_X3 (by decide) (by decide) (by decide) (by decide) rfl tw_86 dX4_bringKettle_78 ?_
        refine aw_cVi S 0 [.int (1 : Int32), .int (I2 1 14)] vw_X4_refuse cl_X4 (by decide) (by decide) tw_644 (s_X4_refuse _ _ _ (1 : Int32) (I2 1 14) I2) ⟨by decide, by decide⟩ rfl rfl (Nat.le_of_ble_eq_true rfl) rfl rfl (by decide) (by decide) dX4_bringKettle_81 (fun x4 I4 => ?_)
        exact aw_ret S hQ (vp_nar_int _) (by decide) (by decide) dX4_bringKettle_84
      refine aw_aload_n S 0 rfl dX4_bringKettle_45 rfl ?_
      refine aw_iconst (v := (3 : Int32)) S dX4_bringKettle_46 (by decide) ?_
      refine aw_aload_n S 0 rfl dX4_bringKettle_47 rfl ?_
      refine aw_getR S 0 0 1 cl_X4 (by decide) (by decide) (by decide) (by decide) (by decide) rfl tw_225 dX4_bringKettle_48 ?_
      refine aw_getR S 1 0 2 cl_X3 (by decide) (by decide) (by decide) (by decide) (by decide) rfl tw_58 dX4_bringKettle_51 ?_
      refine aw_iload_n S 2 rfl dX4_bringKettle_54 rfl ?_
      refine aw_iald S 2 13 (by decide) (by decide) dX4_bringKettle_55 ?_
      refine aw_cVi S 0 [.int (3 : Int32), .int (I2 2 p2.toNatClampNeg)] vw_X4_refuse cl_X4 (by decide) (by decide) tw_644 (s_X4_refuse _ _ _ (3 : Int32) (I2 2 p2.toNatClampNeg) I2) ⟨by decide, by decide⟩ rfl rfl (Nat.le_of_ble_eq_true rfl) rfl rfl (by decide) (by decide) dX4_bringKettle_56 (fun x5 I5 => ?_)
      exact aw_ret S hQ (vp_nar_int _) (by decide) (by decide) dX4_bringKettle_59
    refine aw_sipush (v := (-1012 : Int32)) S dX4_bringKettle_28 (by decide) ?_
    exact aw_ret S hQ (vp_nar_int _) (by decide) (by decide) dX4_bringKettle_31
  refine aw_sipush (v := (-1011 : Int32)) S dX4_bringKettle_7 (by decide) ?_
  exact aw_ret S hQ (vp_nar_int _) (by decide) (by decide) dX4_bringKettle_10
set_option maxHeartbeats 4000000 in
set_option maxRecDepth 100000 in
theorem s_X4_kettle (hs : kgH) (l : Launch) (w : Option (Nat × Nat)) (p1 : Int32) (p2 : Int32) (p3 : Int32) (I0 : kgM) : Sdi hs l w yX4_kettle (kg_ws yX4_kettle cX4_kettle 4 (some .int)) { frames := 4, cells := 0, slots := 0, locals := 142 } [.ref (kgO hs 0), .int p1, .int p2, .int p3] I0 (f_X4_kettle p1 p2 p3 I0) := by
  refine sd_i (av := fun hs => [.ref (kgO hs 0), .int p1, .int p2, .int p3]) (by decide +kernel) (fun hs => Nat.le_of_ble_eq_true rfl) (fun X S hQ => ?_) hs l
  refine aw_sub (L2 := [(0, .ref (kgO (kgHs X) 0)), (1, .int p1), (2, .int p2), (3, .int p3)]) [0, 1, 2, 3] rfl ?_
  unfold f_X4_kettle
  refine aw_aload_n S 0 rfl dX4_kettle_0 rfl ?_
  refine aw_getR S 0 2 31 cl_X4 (by decide) (by decide) (by decide) (by decide) (by decide) rfl tw_227 dX4_kettle_1 ?_
  refine aw_aload_n S 0 rfl dX4_kettle_4 rfl ?_
  refine aw_getR S 0 0 1 cl_X4 (by decide) (by decide) (by decide) (by decide) (by decide) rfl tw_225 dX4_kettle_5 ?_
  refine aw_cVv S 31 [.ref (kgO (kgHs X) 1)] vw_X0_begin cl_X0 (by decide) (by decide) tw_627 (s_X0_begin _ _ _ I0) ⟨by decide, by decide⟩ rfl rfl (Nat.le_of_ble_eq_true rfl) rfl rfl (by decide) (by decide) dX4_kettle_8 (fun x1 I1 => ?_)
  refine aw_aload_n S 0 rfl dX4_kettle_11 rfl ?_
  refine aw_aload_n S 0 rfl dX4_kettle_12 rfl ?_
  refine aw_iload_n S 1 rfl dX4_kettle_13 rfl ?_
  refine aw_iload_n S 2 rfl dX4_kettle_14 rfl ?_
  refine aw_iload_n S 3 rfl dX4_kettle_15 rfl ?_
  refine aw_cVi S 0 [.int p1, .int p2, .int p3] vw_X4_bringKettle cl_X4 (by decide) (by decide) tw_669 (s_X4_bringKettle _ _ _ p1 p2 p3 I1) ⟨by decide, by decide⟩ rfl rfl (Nat.le_of_ble_eq_true rfl) rfl rfl (by decide) (by decide) dX4_kettle_16 (fun x2 I2 => ?_)
  refine aw_cVi S 0 [.int x2] vw_X4_settle cl_X4 (by decide) (by decide) tw_653 (s_X4_settle _ _ _ x2 I2) ⟨by decide, by decide⟩ rfl rfl (Nat.le_of_ble_eq_true rfl) rfl rfl (by decide) (by decide) dX4_kettle_19 (fun x3 I3 => ?_)
  exact aw_ret S hQ (vp_nar_int _) (by decide) (by decide) dX4_kettle_22
set_option maxHeartbeats 4000000 in
set_option maxRecDepth 100000 in
theorem s_X4_isKettle (hs : kgH) (l : Launch) (w : Option (Nat × Nat)) (p1 : Int32) (I0 : kgM) : Sdi hs l w yX4_isKettle (kg_ws yX4_isKettle cX4_isKettle 2 (some .boolean)) { frames := 0, cells := 0, slots := 0, locals := 0 } [.ref (kgO hs 0), .int p1] I0 (f_X4_isKettle p1 I0) := by
  refine sd_i (av := fun hs => [.ref (kgO hs 0), .int p1]) (by decide +kernel) (fun hs => Nat.le_of_ble_eq_true rfl) (fun X S hQ => ?_) hs l
  refine aw_sub (L2 := [(0, .ref (kgO (kgHs X) 0)), (1, .int p1)]) [0, 1] rfl ?_
  unfold f_X4_isKettle
  refine aw_iload_n S 1 rfl dX4_isKettle_0 rfl ?_
  refine aw_if_lt (y := 0) (tgt := 19) S dX4_isKettle_1 (by decide) ?_ ?_
  · refine aw_iconst (v := (0 : Int32)) S dX4_isKettle_19 (by decide) ?_
    exact aw_ret S hQ rfl (by decide) (by decide) dX4_isKettle_20
  refine aw_iload_n S 1 rfl dX4_isKettle_4 rfl ?_
  refine aw_aload_n S 0 rfl dX4_isKettle_5 rfl ?_
  refine aw_getR S 0 0 1 cl_X4 (by decide) (by decide) (by decide) (by decide) (by decide) rfl tw_225 dX4_isKettle_6 ?_
  refine aw_getI S 1 14 cl_X3 (by decide) (by decide) (by decide) (by decide) rfl tw_86 dX4_isKettle_9 ?_
  refine aw_icmp_ge (tgt := 19) S dX4_isKettle_12 (by decide) ?_ ?_
  · refine aw_iconst (v := (0 : Int32)) S dX4_isKettle_19 (by decide) ?_
    exact aw_ret S hQ rfl (by decide) (by decide) dX4_isKettle_20
  refine aw_iconst (v := (1 : Int32)) S dX4_isKettle_15 (by decide) ?_
  refine aw_goto (tgt := 20) S dX4_isKettle_16 (by decide) ?_
  exact aw_ret S hQ rfl (by decide) (by decide) dX4_isKettle_20
set_option maxHeartbeats 4000000 in
set_option maxRecDepth 100000 in
theorem s_X4_pourWater (hs : kgH) (l : Launch) (w : Option (Nat × Nat)) (p1 : Int32) (p2 : Int32) (I0 : kgM) : Sdi hs l w yX4_pourWater (kg_ws yX4_pourWater cX4_pourWater 4 (some .int)) { frames := 3, cells := 0, slots := 0, locals := 66 } [.ref (kgO hs 0), .int p1, .int p2] I0 (f_X4_pourWater p1 p2 I0) := by
  refine sd_i (av := fun hs => [.ref (kgO hs 0), .int p1, .int p2]) (by decide +kernel) (fun hs => Nat.le_of_ble_eq_true rfl) (fun X S hQ => ?_) hs l
  refine aw_sub (L2 := [(0, .ref (kgO (kgHs X) 0)), (1, .int p1), (2, .int p2)]) [0, 1, 2] rfl ?_
  unfold f_X4_pourWater
  refine aw_aload_n S 0 rfl dX4_pourWater_0 rfl ?_
  refine aw_iload_n S 1 rfl dX4_pourWater_1 rfl ?_
  refine aw_cVi S 0 [.int p1] vw_X4_isKettle cl_X4 (by decide) (by decide) tw_260 (s_X4_isKettle _ _ _ p1 I0) ⟨by decide, by decide⟩ rfl rfl (Nat.le_of_ble_eq_true rfl) rfl rfl (by decide) (by decide) dX4_pourWater_2 (fun x1 I1 => ?_)
  refine aw_if_ne (y := 0) (tgt := 12) S dX4_pourWater_5 (by decide) ?_ ?_
  · refine aw_iload_n S 2 rfl dX4_pourWater_12 rfl ?_
    refine aw_iconst (v := (1 : Int32)) S dX4_pourWater_13 (by decide) ?_
    refine aw_icmp_lt (tgt := 23) S dX4_pourWater_14 (by decide) ?_ ?_
    · refine aw_sipush (v := (-1012 : Int32)) S dX4_pourWater_23 (by decide) ?_
      exact aw_ret S hQ (vp_nar_int _) (by decide) (by decide) dX4_pourWater_26
    refine aw_iload_n S 2 rfl dX4_pourWater_17 rfl ?_
    refine aw_bipush (v := (20 : Int32)) S dX4_pourWater_18 (by decide) ?_
    refine aw_icmp_le (tgt := 27) S dX4_pourWater_20 (by decide) ?_ ?_
    · refine aw_aload_n S 0 rfl dX4_pourWater_27 rfl ?_
      refine aw_getR S 0 0 1 cl_X4 (by decide) (by decide) (by decide) (by decide) (by decide) rfl tw_225 dX4_pourWater_28 ?_
      refine aw_getR S 1 7 9 cl_X3 (by decide) (by decide) (by decide) (by decide) (by decide) rfl tw_72 dX4_pourWater_31 ?_
      refine aw_iload_n S 1 rfl dX4_pourWater_34 rfl ?_
      refine aw_iald S 9 10 (by decide) (by decide) dX4_pourWater_35 ?_
      refine aw_iload_n S 2 rfl dX4_pourWater_36 rfl ?_
      refine aw_iadd S dX4_pourWater_37 ?_
      refine aw_istore_n (L2 := [(0, .ref (kgO (kgHs X) 0)), (1, .int p1), (2, .int p2), (3, .int ((I1 9 p1.toNatClampNeg) + p2))]) S [1, 2, 3, 0] dX4_pourWater_38 rfl (by decide) rfl ?_
      refine aw_let (Lf := fun x2 => [(0, .ref (kgO (kgHs X) 0)), (1, .int p1), (2, .int p2), (3, .int x2)]) ((I1 9 p1.toNatClampNeg) + p2) (fun x2 => ?_)
      refine aw_iload_n S 3 rfl dX4_pourWater_39 rfl ?_
      refine aw_bipush (v := (20 : Int32)) S dX4_pourWater_40 (by decide) ?_
      refine aw_icmp_le (tgt := 53) S dX4_pourWater_42 (by decide) ?_ ?_
      · refine aw_aload_n S 0 rfl dX4_pourWater_53 rfl ?_
        refine aw_getR S 0 0 1 cl_X4 (by decide) (by decide) (by decide) (by decide) (by decide) rfl tw_225 dX4_pourWater_54 ?_
        refine aw_getR S 1 7 9 cl_X3 (by decide) (by decide) (by decide) (by decide) (by decide) rfl tw_72 dX4_pourWater_57 ?_
        refine aw_iload_n S 1 rfl dX4_pourWater_60 rfl ?_
        refine aw_iload_n S 3 rfl dX4_pourWater_61 rfl ?_
        refine aw_iast S 9 10 (by decide) (by decide) dX4_pourWater_62 ?_
        refine aw_wr (fun I2 => ?_)
        refine aw_aload_n S 0 rfl dX4_pourWater_63 rfl ?_
        refine aw_getR S 0 0 1 cl_X4 (by decide) (by decide) (by decide) (by decide) (by decide) rfl tw_225 dX4_pourWater_64 ?_
        refine aw_dup S dX4_pourWater_67 rfl ?_
        refine aw_getI S 1 16 cl_X3 (by decide) (by decide) (by decide) (by decide) rfl tw_90 dX4_pourWater_68 ?_
        refine aw_iload_n S 2 rfl dX4_pourWater_71 rfl ?_
        refine aw_iadd S dX4_pourWater_72 ?_
        refine aw_putI S 1 16 cl_X3 tyX3_ok nmX3 (by decide) (by decide) (by decide) (by decide) rfl (vp_nar_int _) rfl tw_90 dX4_pourWater_73 ?_
        refine aw_wr (fun I3 => ?_)
        refine aw_iload_n S 3 rfl dX4_pourWater_76 rfl ?_
        exact aw_ret S hQ (vp_nar_int _) (by decide) (by decide) dX4_pourWater_77
      refine aw_aload_n S 0 rfl dX4_pourWater_45 rfl ?_
      refine aw_bipush (v := (11 : Int32)) S dX4_pourWater_46 (by decide) ?_
      refine aw_iload_n S 3 rfl dX4_pourWater_48 rfl ?_
      refine aw_cVi S 0 [.int (11 : Int32), .int x2] vw_X4_refuse cl_X4 (by decide) (by decide) tw_644 (s_X4_refuse _ _ _ (11 : Int32) x2 I1) ⟨by decide, by decide⟩ rfl rfl (Nat.le_of_ble_eq_true rfl) rfl rfl (by decide) (by decide) dX4_pourWater_49 (fun x3 I4 => ?_)
      exact aw_ret S hQ (vp_nar_int _) (by decide) (by decide) dX4_pourWater_52
    refine aw_sipush (v := (-1012 : Int32)) S dX4_pourWater_23 (by decide) ?_
    exact aw_ret S hQ (vp_nar_int _) (by decide) (by decide) dX4_pourWater_26
  refine aw_sipush (v := (-1011 : Int32)) S dX4_pourWater_8 (by decide) ?_
  exact aw_ret S hQ (vp_nar_int _) (by decide) (by decide) dX4_pourWater_11
set_option maxHeartbeats 4000000 in
set_option maxRecDepth 100000 in
theorem s_X4_fill (hs : kgH) (l : Launch) (w : Option (Nat × Nat)) (p1 : Int32) (p2 : Int32) (I0 : kgM) : Sdi hs l w yX4_fill (kg_ws yX4_fill cX4_fill 3 (some .int)) { frames := 4, cells := 0, slots := 0, locals := 142 } [.ref (kgO hs 0), .int p1, .int p2] I0 (f_X4_fill p1 p2 I0) := by
  refine sd_i (av := fun hs => [.ref (kgO hs 0), .int p1, .int p2]) (by decide +kernel) (fun hs => Nat.le_of_ble_eq_true rfl) (fun X S hQ => ?_) hs l
  refine aw_sub (L2 := [(0, .ref (kgO (kgHs X) 0)), (1, .int p1), (2, .int p2)]) [0, 1, 2] rfl ?_
  unfold f_X4_fill
  refine aw_aload_n S 0 rfl dX4_fill_0 rfl ?_
  refine aw_getR S 0 2 31 cl_X4 (by decide) (by decide) (by decide) (by decide) (by decide) rfl tw_227 dX4_fill_1 ?_
  refine aw_aload_n S 0 rfl dX4_fill_4 rfl ?_
  refine aw_getR S 0 0 1 cl_X4 (by decide) (by decide) (by decide) (by decide) (by decide) rfl tw_225 dX4_fill_5 ?_
  refine aw_cVv S 31 [.ref (kgO (kgHs X) 1)] vw_X0_begin cl_X0 (by decide) (by decide) tw_627 (s_X0_begin _ _ _ I0) ⟨by decide, by decide⟩ rfl rfl (Nat.le_of_ble_eq_true rfl) rfl rfl (by decide) (by decide) dX4_fill_8 (fun x1 I1 => ?_)
  refine aw_aload_n S 0 rfl dX4_fill_11 rfl ?_
  refine aw_aload_n S 0 rfl dX4_fill_12 rfl ?_
  refine aw_iload_n S 1 rfl dX4_fill_13 rfl ?_
  refine aw_iload_n S 2 rfl dX4_fill_14 rfl ?_
  refine aw_cVi S 0 [.int p1, .int p2] vw_X4_pourWater cl_X4 (by decide) (by decide) tw_716 (s_X4_pourWater _ _ _ p1 p2 I1) ⟨by decide, by decide⟩ rfl rfl (Nat.le_of_ble_eq_true rfl) rfl rfl (by decide) (by decide) dX4_fill_15 (fun x2 I2 => ?_)
  refine aw_cVi S 0 [.int x2] vw_X4_settle cl_X4 (by decide) (by decide) tw_653 (s_X4_settle _ _ _ x2 I2) ⟨by decide, by decide⟩ rfl rfl (Nat.le_of_ble_eq_true rfl) rfl rfl (by decide) (by decide) dX4_fill_18 (fun x3 I3 => ?_)
  exact aw_ret S hQ (vp_nar_int _) (by decide) (by decide) dX4_fill_21
set_option maxHeartbeats 4000000 in
set_option maxRecDepth 100000 in
theorem s_J6_bitCount_0f7a4 (hs : kgH) (l : Launch) (w : Option (Nat × Nat)) (p1 : Int32) (I0 : kgM) : Sdi hs l w yJ6_bitCount_0f7a4 (kg_ws yJ6_bitCount_0f7a4 cJ6_bitCount_0f7a4 1 (some .int)) { frames := 0, cells := 0, slots := 0, locals := 0 } [.int p1] I0 (f_J6_bitCount_0f7a4 p1 I0) := by
  refine sd_i (av := fun hs => [.int p1]) (by decide +kernel) (fun hs => Nat.le_of_ble_eq_true rfl) (fun X S hQ => ?_) hs l
  refine aw_sub (L2 := [(0, .int p1)]) [0] rfl ?_
  unfold f_J6_bitCount_0f7a4
  refine aw_iload_n S 0 rfl dJ6_bitCount_0f7a4_0 rfl ?_
  refine aw_iload_n S 0 rfl dJ6_bitCount_0f7a4_1 rfl ?_
  refine aw_iconst (v := (1 : Int32)) S dJ6_bitCount_0f7a4_2 (by decide) ?_
  refine aw_iushr S dJ6_bitCount_0f7a4_3 ?_
  refine aw_ldcw S tw_287 dJ6_bitCount_0f7a4_4 ?_
  refine aw_iand S dJ6_bitCount_0f7a4_7 ?_
  refine aw_isub S dJ6_bitCount_0f7a4_8 ?_
  refine aw_istore_n (L2 := [(0, .int (p1 - (((p1.toUInt32 >>> ((1 : Int32).toUInt32 &&& Int32.toUInt32 31)).toInt32) &&& (1431655765 : Int32))))]) S [0] dJ6_bitCount_0f7a4_9 rfl (by decide) rfl ?_
  refine aw_let (Lf := fun x1 => [(0, .int x1)]) (p1 - (((p1.toUInt32 >>> ((1 : Int32).toUInt32 &&& Int32.toUInt32 31)).toInt32) &&& (1431655765 : Int32))) (fun x1 => ?_)
  refine aw_iload_n S 0 rfl dJ6_bitCount_0f7a4_10 rfl ?_
  refine aw_ldcw S tw_288 dJ6_bitCount_0f7a4_11 ?_
  refine aw_iand S dJ6_bitCount_0f7a4_14 ?_
  refine aw_iload_n S 0 rfl dJ6_bitCount_0f7a4_15 rfl ?_
  refine aw_iconst (v := (2 : Int32)) S dJ6_bitCount_0f7a4_16 (by decide) ?_
  refine aw_iushr S dJ6_bitCount_0f7a4_17 ?_
  refine aw_ldcw S tw_288 dJ6_bitCount_0f7a4_18 ?_
  refine aw_iand S dJ6_bitCount_0f7a4_21 ?_
  refine aw_iadd S dJ6_bitCount_0f7a4_22 ?_
  refine aw_istore_n (L2 := [(0, .int ((x1 &&& (858993459 : Int32)) + (((x1.toUInt32 >>> ((2 : Int32).toUInt32 &&& Int32.toUInt32 31)).toInt32) &&& (858993459 : Int32))))]) S [0] dJ6_bitCount_0f7a4_23 rfl (by decide) rfl ?_
  refine aw_let (Lf := fun x2 => [(0, .int x2)]) ((x1 &&& (858993459 : Int32)) + (((x1.toUInt32 >>> ((2 : Int32).toUInt32 &&& Int32.toUInt32 31)).toInt32) &&& (858993459 : Int32))) (fun x2 => ?_)
  refine aw_iload_n S 0 rfl dJ6_bitCount_0f7a4_24 rfl ?_
  refine aw_iload_n S 0 rfl dJ6_bitCount_0f7a4_25 rfl ?_
  refine aw_iconst (v := (4 : Int32)) S dJ6_bitCount_0f7a4_26 (by decide) ?_
  refine aw_iushr S dJ6_bitCount_0f7a4_27 ?_
  refine aw_iadd S dJ6_bitCount_0f7a4_28 ?_
  refine aw_ldcw S tw_289 dJ6_bitCount_0f7a4_29 ?_
  refine aw_iand S dJ6_bitCount_0f7a4_32 ?_
  refine aw_istore_n (L2 := [(0, .int ((x2 + ((x2.toUInt32 >>> ((4 : Int32).toUInt32 &&& Int32.toUInt32 31)).toInt32)) &&& (252645135 : Int32)))]) S [0] dJ6_bitCount_0f7a4_33 rfl (by decide) rfl ?_
  refine aw_let (Lf := fun x3 => [(0, .int x3)]) ((x2 + ((x2.toUInt32 >>> ((4 : Int32).toUInt32 &&& Int32.toUInt32 31)).toInt32)) &&& (252645135 : Int32)) (fun x3 => ?_)
  refine aw_iload_n S 0 rfl dJ6_bitCount_0f7a4_34 rfl ?_
  refine aw_iload_n S 0 rfl dJ6_bitCount_0f7a4_35 rfl ?_
  refine aw_bipush (v := (8 : Int32)) S dJ6_bitCount_0f7a4_36 (by decide) ?_
  refine aw_iushr S dJ6_bitCount_0f7a4_38 ?_
  refine aw_iadd S dJ6_bitCount_0f7a4_39 ?_
  refine aw_istore_n (L2 := [(0, .int (x3 + ((x3.toUInt32 >>> ((8 : Int32).toUInt32 &&& Int32.toUInt32 31)).toInt32)))]) S [0] dJ6_bitCount_0f7a4_40 rfl (by decide) rfl ?_
  refine aw_let (Lf := fun x4 => [(0, .int x4)]) (x3 + ((x3.toUInt32 >>> ((8 : Int32).toUInt32 &&& Int32.toUInt32 31)).toInt32)) (fun x4 => ?_)
  refine aw_iload_n S 0 rfl dJ6_bitCount_0f7a4_41 rfl ?_
  refine aw_iload_n S 0 rfl dJ6_bitCount_0f7a4_42 rfl ?_
  refine aw_bipush (v := (16 : Int32)) S dJ6_bitCount_0f7a4_43 (by decide) ?_
  refine aw_iushr S dJ6_bitCount_0f7a4_45 ?_
  refine aw_iadd S dJ6_bitCount_0f7a4_46 ?_
  refine aw_istore_n (L2 := [(0, .int (x4 + ((x4.toUInt32 >>> ((16 : Int32).toUInt32 &&& Int32.toUInt32 31)).toInt32)))]) S [0] dJ6_bitCount_0f7a4_47 rfl (by decide) rfl ?_
  refine aw_let (Lf := fun x5 => [(0, .int x5)]) (x4 + ((x4.toUInt32 >>> ((16 : Int32).toUInt32 &&& Int32.toUInt32 31)).toInt32)) (fun x5 => ?_)
  refine aw_iload_n S 0 rfl dJ6_bitCount_0f7a4_48 rfl ?_
  refine aw_bipush (v := (63 : Int32)) S dJ6_bitCount_0f7a4_49 (by decide) ?_
  refine aw_iand S dJ6_bitCount_0f7a4_51 ?_
  exact aw_ret S hQ (vp_nar_int _) (by decide) (by decide) dJ6_bitCount_0f7a4_52
set_option maxHeartbeats 4000000 in
set_option maxRecDepth 100000 in
theorem s_X4_kettleOf (hs : kgH) (l : Launch) (w : Option (Nat × Nat)) (p1 : Int32) (p2 : Int32) (I0 : kgM) : Sdi hs l w yX4_kettleOf (kg_ws yX4_kettleOf cX4_kettleOf 3 (some .int)) { frames := 4, cells := 0, slots := 0, locals := 86 } [.ref (kgO hs 0), .int p1, .int p2] I0 (f_X4_kettleOf p1 p2 I0) := by
  refine sd_i (av := fun hs => [.ref (kgO hs 0), .int p1, .int p2]) (by decide +kernel) (fun hs => Nat.le_of_ble_eq_true rfl) (fun X S hQ => ?_) hs l
  refine aw_sub (L2 := [(0, .ref (kgO (kgHs X) 0)), (1, .int p1), (2, .int p2)]) [0, 1, 2] rfl ?_
  unfold f_X4_kettleOf
  refine aw_aload_n S 0 rfl dX4_kettleOf_0 rfl ?_
  refine aw_iload_n S 1 rfl dX4_kettleOf_1 rfl ?_
  refine aw_cVi S 0 [.int p1] vw_X4_isKettle cl_X4 (by decide) (by decide) tw_260 (s_X4_isKettle _ _ _ p1 I0) ⟨by decide, by decide⟩ rfl rfl (Nat.le_of_ble_eq_true rfl) rfl rfl (by decide) (by decide) dX4_kettleOf_2 (fun x1 I1 => ?_)
  refine aw_if_ne (y := 0) (tgt := 12) S dX4_kettleOf_5 (by decide) ?_ ?_
  · refine aw_iload_n S 2 rfl dX4_kettleOf_12 rfl ?_
    refine aw_tableAt (tgt := 68) S 0 dX4_kettleOf_13 (by decide) (by decide) rfl (by decide) ?_ (fun n_0 => ?_)
    · refine aw_aload_n S 0 rfl dX4_kettleOf_68 rfl ?_
      refine aw_getR S 0 0 1 cl_X4 (by decide) (by decide) (by decide) (by decide) (by decide) rfl tw_225 dX4_kettleOf_69 ?_
      refine aw_getR S 1 5 7 cl_X3 (by decide) (by decide) (by decide) (by decide) (by decide) rfl tw_68 dX4_kettleOf_72 ?_
      refine aw_iload_n S 1 rfl dX4_kettleOf_75 rfl ?_
      refine aw_iald S 7 10 (by decide) (by decide) dX4_kettleOf_76 ?_
      exact aw_ret S hQ (vp_nar_int _) (by decide) (by decide) dX4_kettleOf_77
    refine aw_tableAt (tgt := 78) S 1 dX4_kettleOf_13 (by decide) (by decide) rfl (by decide) ?_ (fun n_1 => ?_)
    · refine aw_aload_n S 0 rfl dX4_kettleOf_78 rfl ?_
      refine aw_getR S 0 0 1 cl_X4 (by decide) (by decide) (by decide) (by decide) (by decide) rfl tw_225 dX4_kettleOf_79 ?_
      refine aw_getR S 1 6 8 cl_X3 (by decide) (by decide) (by decide) (by decide) (by decide) rfl tw_70 dX4_kettleOf_82 ?_
      refine aw_iload_n S 1 rfl dX4_kettleOf_85 rfl ?_
      refine aw_iald S 8 10 (by decide) (by decide) dX4_kettleOf_86 ?_
      exact aw_ret S hQ (vp_nar_int _) (by decide) (by decide) dX4_kettleOf_87
    refine aw_tableAt (tgt := 88) S 2 dX4_kettleOf_13 (by decide) (by decide) rfl (by decide) ?_ (fun n_2 => ?_)
    · refine aw_aload_n S 0 rfl dX4_kettleOf_88 rfl ?_
      refine aw_getR S 0 0 1 cl_X4 (by decide) (by decide) (by decide) (by decide) (by decide) rfl tw_225 dX4_kettleOf_89 ?_
      refine aw_getR S 1 7 9 cl_X3 (by decide) (by decide) (by decide) (by decide) (by decide) rfl tw_72 dX4_kettleOf_92 ?_
      refine aw_iload_n S 1 rfl dX4_kettleOf_95 rfl ?_
      refine aw_iald S 9 10 (by decide) (by decide) dX4_kettleOf_96 ?_
      exact aw_ret S hQ (vp_nar_int _) (by decide) (by decide) dX4_kettleOf_97
    refine aw_tableAt (tgt := 98) S 3 dX4_kettleOf_13 (by decide) (by decide) rfl (by decide) ?_ (fun n_3 => ?_)
    · refine aw_aload_n S 0 rfl dX4_kettleOf_98 rfl ?_
      refine aw_getR S 0 0 1 cl_X4 (by decide) (by decide) (by decide) (by decide) (by decide) rfl tw_225 dX4_kettleOf_99 ?_
      refine aw_getR S 1 8 10 cl_X3 (by decide) (by decide) (by decide) (by decide) (by decide) rfl tw_74 dX4_kettleOf_102 ?_
      refine aw_iload_n S 1 rfl dX4_kettleOf_105 rfl ?_
      refine aw_iald S 10 10 (by decide) (by decide) dX4_kettleOf_106 ?_
      exact aw_ret S hQ (vp_nar_int _) (by decide) (by decide) dX4_kettleOf_107
    refine aw_tableAt (tgt := 108) S 4 dX4_kettleOf_13 (by decide) (by decide) rfl (by decide) ?_ (fun n_4 => ?_)
    · refine aw_aload_n S 0 rfl dX4_kettleOf_108 rfl ?_
      refine aw_getR S 0 0 1 cl_X4 (by decide) (by decide) (by decide) (by decide) (by decide) rfl tw_225 dX4_kettleOf_109 ?_
      refine aw_getR S 1 11 13 cl_X3 (by decide) (by decide) (by decide) (by decide) (by decide) rfl tw_80 dX4_kettleOf_112 ?_
      refine aw_iload_n S 1 rfl dX4_kettleOf_115 rfl ?_
      refine aw_iald S 13 10 (by decide) (by decide) dX4_kettleOf_116 ?_
      exact aw_ret S hQ (vp_nar_int _) (by decide) (by decide) dX4_kettleOf_117
    refine aw_tableAt (tgt := 118) S 5 dX4_kettleOf_13 (by decide) (by decide) rfl (by decide) ?_ (fun n_5 => ?_)
    · refine aw_aload_n S 0 rfl dX4_kettleOf_118 rfl ?_
      refine aw_getR S 0 0 1 cl_X4 (by decide) (by decide) (by decide) (by decide) (by decide) rfl tw_225 dX4_kettleOf_119 ?_
      refine aw_getR S 1 9 11 cl_X3 (by decide) (by decide) (by decide) (by decide) (by decide) rfl tw_76 dX4_kettleOf_122 ?_
      refine aw_iload_n S 1 rfl dX4_kettleOf_125 rfl ?_
      refine aw_iald S 11 10 (by decide) (by decide) dX4_kettleOf_126 ?_
      refine aw_cSi S [.int (I1 11 p1.toNatClampNeg)] vw_X4_orNothing tw_253 (s_X4_orNothing _ _ _ (I1 11 p1.toNatClampNeg) I1) ⟨by decide, by decide⟩ rfl rfl (Nat.le_of_ble_eq_true rfl) rfl rfl (by decide) (by decide) dX4_kettleOf_127 (fun x2 I2 => ?_)
      exact aw_ret S hQ (vp_nar_int _) (by decide) (by decide) dX4_kettleOf_130
    refine aw_tableAt (tgt := 131) S 6 dX4_kettleOf_13 (by decide) (by decide) rfl (by decide) ?_ (fun n_6 => ?_)
    · refine aw_aload_n S 0 rfl dX4_kettleOf_131 rfl ?_
      refine aw_getR S 0 0 1 cl_X4 (by decide) (by decide) (by decide) (by decide) (by decide) rfl tw_225 dX4_kettleOf_132 ?_
      refine aw_iload_n S 1 rfl dX4_kettleOf_135 rfl ?_
      refine aw_cVi S 1 [.int p1] vw_X3_boils cl_X3 (by decide) (by decide) tw_264 (s_X3_boils _ _ _ p1 I1) ⟨by decide, by decide⟩ rfl rfl (Nat.le_of_ble_eq_true rfl) rfl rfl (by decide) (by decide) dX4_kettleOf_136 (fun x3 I3 => ?_)
      refine aw_if_eq (y := 0) (tgt := 146) S dX4_kettleOf_139 (by decide) ?_ ?_
      · refine aw_iconst (v := (0 : Int32)) S dX4_kettleOf_146 (by decide) ?_
        exact aw_ret S hQ (vp_nar_int _) (by decide) (by decide) dX4_kettleOf_147
      refine aw_iconst (v := (1 : Int32)) S dX4_kettleOf_142 (by decide) ?_
      refine aw_goto (tgt := 147) S dX4_kettleOf_143 (by decide) ?_
      exact aw_ret S hQ (vp_nar_int _) (by decide) (by decide) dX4_kettleOf_147
    refine aw_tableAt (tgt := 148) S 7 dX4_kettleOf_13 (by decide) (by decide) rfl (by decide) ?_ (fun n_7 => ?_)
    · refine aw_aload_n S 0 rfl dX4_kettleOf_148 rfl ?_
      refine aw_getR S 0 0 1 cl_X4 (by decide) (by decide) (by decide) (by decide) (by decide) rfl tw_225 dX4_kettleOf_149 ?_
      refine aw_iload_n S 1 rfl dX4_kettleOf_152 rfl ?_
      refine aw_cVi S 1 [.int p1] vw_X3_whistles cl_X3 (by decide) (by decide) tw_272 (s_X3_whistles _ _ _ p1 I1) ⟨by decide, by decide⟩ rfl rfl (Nat.le_of_ble_eq_true rfl) rfl rfl (by decide) (by decide) dX4_kettleOf_153 (fun x4 I4 => ?_)
      refine aw_if_eq (y := 0) (tgt := 163) S dX4_kettleOf_156 (by decide) ?_ ?_
      · refine aw_iconst (v := (0 : Int32)) S dX4_kettleOf_163 (by decide) ?_
        exact aw_ret S hQ (vp_nar_int _) (by decide) (by decide) dX4_kettleOf_164
      refine aw_iconst (v := (1 : Int32)) S dX4_kettleOf_159 (by decide) ?_
      refine aw_goto (tgt := 164) S dX4_kettleOf_160 (by decide) ?_
      exact aw_ret S hQ (vp_nar_int _) (by decide) (by decide) dX4_kettleOf_164
    refine aw_tableAt (tgt := 165) S 8 dX4_kettleOf_13 (by decide) (by decide) rfl (by decide) ?_ (fun n_8 => ?_)
    · refine aw_aload_n S 0 rfl dX4_kettleOf_165 rfl ?_
      refine aw_getR S 0 0 1 cl_X4 (by decide) (by decide) (by decide) (by decide) (by decide) rfl tw_225 dX4_kettleOf_166 ?_
      refine aw_getR S 1 10 12 cl_X3 (by decide) (by decide) (by decide) (by decide) (by decide) rfl tw_78 dX4_kettleOf_169 ?_
      refine aw_iload_n S 1 rfl dX4_kettleOf_172 rfl ?_
      refine aw_iald S 12 10 (by decide) (by decide) dX4_kettleOf_173 ?_
      exact aw_ret S hQ (vp_nar_int _) (by decide) (by decide) dX4_kettleOf_174
    refine aw_tableAt (tgt := 175) S 9 dX4_kettleOf_13 (by decide) (by decide) rfl (by decide) ?_ (fun n_9 => ?_)
    · refine aw_aload_n S 0 rfl dX4_kettleOf_175 rfl ?_
      refine aw_getR S 0 0 1 cl_X4 (by decide) (by decide) (by decide) (by decide) (by decide) rfl tw_225 dX4_kettleOf_176 ?_
      refine aw_getR S 1 13 15 cl_X3 (by decide) (by decide) (by decide) (by decide) (by decide) rfl tw_84 dX4_kettleOf_179 ?_
      refine aw_iload_n S 1 rfl dX4_kettleOf_182 rfl ?_
      refine aw_iald S 15 10 (by decide) (by decide) dX4_kettleOf_183 ?_
      refine aw_cSi S [.int (I1 15 p1.toNatClampNeg)] vw_J6_bitCount_0f7a4 tw_284 (s_J6_bitCount_0f7a4 _ _ _ (I1 15 p1.toNatClampNeg) I1) ⟨by decide, by decide⟩ rfl rfl (Nat.le_of_ble_eq_true rfl) rfl rfl (by decide) (by decide) dX4_kettleOf_184 (fun x5 I5 => ?_)
      exact aw_ret S hQ (vp_nar_int _) (by decide) (by decide) dX4_kettleOf_187
    refine aw_tableD (tgt := 188) S [0, 1, 2, 3, 4, 5, 6, 7, 8, 9] dX4_kettleOf_13 (by decide) (by decide) (by intro v hv; simp only [List.mem_cons, List.not_mem_nil, or_false] at hv; rcases hv with rfl | rfl | rfl | rfl | rfl | rfl | rfl | rfl | rfl | rfl <;> assumption) (by decide) ?_
    refine aw_sipush (v := (-1012 : Int32)) S dX4_kettleOf_188 (by decide) ?_
    exact aw_ret S hQ (vp_nar_int _) (by decide) (by decide) dX4_kettleOf_191
  refine aw_sipush (v := (-1011 : Int32)) S dX4_kettleOf_8 (by decide) ?_
  exact aw_ret S hQ (vp_nar_int _) (by decide) (by decide) dX4_kettleOf_11
set_option maxHeartbeats 4000000 in
set_option maxRecDepth 100000 in
theorem s_X4_isStove (hs : kgH) (l : Launch) (w : Option (Nat × Nat)) (p1 : Int32) (I0 : kgM) : Sdi hs l w yX4_isStove (kg_ws yX4_isStove cX4_isStove 1 (some .boolean)) { frames := 0, cells := 0, slots := 0, locals := 0 } [.int p1] I0 (f_X4_isStove p1 I0) := by
  refine sd_i (av := fun hs => [.int p1]) (by decide +kernel) (fun hs => Nat.le_of_ble_eq_true rfl) (fun X S hQ => ?_) hs l
  refine aw_sub (L2 := [(0, .int p1)]) [0] rfl ?_
  unfold f_X4_isStove
  refine aw_iload_n S 0 rfl dX4_isStove_0 rfl ?_
  refine aw_if_lt (y := 0) (tgt := 14) S dX4_isStove_1 (by decide) ?_ ?_
  · refine aw_iconst (v := (0 : Int32)) S dX4_isStove_14 (by decide) ?_
    exact aw_ret S hQ rfl (by decide) (by decide) dX4_isStove_15
  refine aw_iload_n S 0 rfl dX4_isStove_4 rfl ?_
  refine aw_bipush (v := (6 : Int32)) S dX4_isStove_5 (by decide) ?_
  refine aw_icmp_ge (tgt := 14) S dX4_isStove_7 (by decide) ?_ ?_
  · refine aw_iconst (v := (0 : Int32)) S dX4_isStove_14 (by decide) ?_
    exact aw_ret S hQ rfl (by decide) (by decide) dX4_isStove_15
  refine aw_iconst (v := (1 : Int32)) S dX4_isStove_10 (by decide) ?_
  refine aw_goto (tgt := 15) S dX4_isStove_11 (by decide) ?_
  exact aw_ret S hQ rfl (by decide) (by decide) dX4_isStove_15
set_option maxHeartbeats 4000000 in
set_option maxRecDepth 100000 in
theorem s_X4_refuseStove (hs : kgH) (l : Launch) (w : Option (Nat × Nat)) (p1 : Int32) (p2 : Int32) (p3 : Int32) (I0 : kgM) : Sdi hs l w yX4_refuseStove (kg_ws yX4_refuseStove cX4_refuseStove 4 (some .int)) { frames := 3, cells := 0, slots := 0, locals := 66 } [.ref (kgO hs 0), .int p1, .int p2, .int p3] I0 (f_X4_refuseStove p1 p2 p3 I0) := by
  refine sd_i (av := fun hs => [.ref (kgO hs 0), .int p1, .int p2, .int p3]) (by decide +kernel) (fun hs => Nat.le_of_ble_eq_true rfl) (fun X S hQ => ?_) hs l
  refine aw_sub (L2 := [(0, .ref (kgO (kgHs X) 0)), (1, .int p1), (2, .int p2), (3, .int p3)]) [0, 1, 2, 3] rfl ?_
  unfold f_X4_refuseStove
  refine aw_aload_n S 0 rfl dX4_refuseStove_0 rfl ?_
  refine aw_iload_n S 2 rfl dX4_refuseStove_1 rfl ?_
  refine aw_iload_n S 3 rfl dX4_refuseStove_2 rfl ?_
  refine aw_cVi S 0 [.int p2, .int p3] vw_X4_refuse cl_X4 (by decide) (by decide) tw_644 (s_X4_refuse _ _ _ p2 p3 I0) ⟨by decide, by decide⟩ rfl rfl (Nat.le_of_ble_eq_true rfl) rfl rfl (by decide) (by decide) dX4_refuseStove_3 (fun x1 I1 => ?_)
  refine aw_pop S dX4_refuseStove_6 rfl ?_
  refine aw_aload_n S 0 rfl dX4_refuseStove_7 rfl ?_
  refine aw_getR S 0 3 168 cl_X4 (by decide) (by decide) (by decide) (by decide) (by decide) rfl tw_228 dX4_refuseStove_8 ?_
  refine aw_iconst (v := (4 : Int32)) S dX4_refuseStove_11 (by decide) ?_
  refine aw_iload_n S 1 rfl dX4_refuseStove_12 rfl ?_
  refine aw_cVv S 168 [.int (4 : Int32), .int p1] vw_X2_putAhead cl_X2 (by decide) (by decide) tw_648 (s_X2_putAhead _ _ _ (4 : Int32) p1 I1) ⟨by decide, by decide⟩ rfl rfl (Nat.le_of_ble_eq_true rfl) rfl rfl (by decide) (by decide) dX4_refuseStove_13 (fun x2 I2 => ?_)
  refine aw_sipush (v := (-1014 : Int32)) S dX4_refuseStove_16 (by decide) ?_
  exact aw_ret S hQ (vp_nar_int _) (by decide) (by decide) dX4_refuseStove_19
set_option maxHeartbeats 4000000 in
set_option maxRecDepth 100000 in
theorem s_X4_putOnStove (hs : kgH) (l : Launch) (w : Option (Nat × Nat)) (p1 : Int32) (p2 : Int32) (I0 : kgM) : Sdi hs l w yX4_putOnStove (kg_ws yX4_putOnStove cX4_putOnStove 5 (some .int)) { frames := 4, cells := 0, slots := 0, locals := 89 } [.ref (kgO hs 0), .int p1, .int p2] I0 (f_X4_putOnStove p1 p2 I0) := by
  refine sd_i (av := fun hs => [.ref (kgO hs 0), .int p1, .int p2]) (by decide +kernel) (fun hs => Nat.le_of_ble_eq_true rfl) (fun X S hQ => ?_) hs l
  refine aw_sub (L2 := [(0, .ref (kgO (kgHs X) 0)), (1, .int p1), (2, .int p2)]) [0, 1, 2] rfl ?_
  unfold f_X4_putOnStove
  refine aw_aload_n S 0 rfl dX4_putOnStove_0 rfl ?_
  refine aw_iload_n S 1 rfl dX4_putOnStove_1 rfl ?_
  refine aw_cVi S 0 [.int p1] vw_X4_isKettle cl_X4 (by decide) (by decide) tw_260 (s_X4_isKettle _ _ _ p1 I0) ⟨by decide, by decide⟩ rfl rfl (Nat.le_of_ble_eq_true rfl) rfl rfl (by decide) (by decide) dX4_putOnStove_2 (fun x1 I1 => ?_)
  refine aw_if_eq (y := 0) (tgt := 15) S dX4_putOnStove_5 (by decide) ?_ ?_
  · refine aw_sipush (v := (-1011 : Int32)) S dX4_putOnStove_15 (by decide) ?_
    exact aw_ret S hQ (vp_nar_int _) (by decide) (by decide) dX4_putOnStove_18
  refine aw_iload_n S 2 rfl dX4_putOnStove_8 rfl ?_
  refine aw_cSi S [.int p2] vw_X4_isStove tw_294 (s_X4_isStove _ _ _ p2 I1) ⟨by decide, by decide⟩ rfl rfl (Nat.le_of_ble_eq_true rfl) rfl rfl (by decide) (by decide) dX4_putOnStove_9 (fun x2 I2 => ?_)
  refine aw_if_ne (y := 0) (tgt := 19) S dX4_putOnStove_12 (by decide) ?_ ?_
  · refine aw_aload_n S 0 rfl dX4_putOnStove_19 rfl ?_
    refine aw_getR S 0 0 1 cl_X4 (by decide) (by decide) (by decide) (by decide) (by decide) rfl tw_225 dX4_putOnStove_20 ?_
    refine aw_getR S 1 9 11 cl_X3 (by decide) (by decide) (by decide) (by decide) (by decide) rfl tw_76 dX4_putOnStove_23 ?_
    refine aw_iload_n S 1 rfl dX4_putOnStove_26 rfl ?_
    refine aw_iald S 11 10 (by decide) (by decide) dX4_putOnStove_27 ?_
    refine aw_iconst (v := (-1 : Int32)) S dX4_putOnStove_28 (by decide) ?_
    refine aw_icmp_eq (tgt := 48) S dX4_putOnStove_29 (by decide) ?_ ?_
    · refine aw_aload_n S 0 rfl dX4_putOnStove_48 rfl ?_
      refine aw_getR S 0 0 1 cl_X4 (by decide) (by decide) (by decide) (by decide) (by decide) rfl tw_225 dX4_putOnStove_49 ?_
      refine aw_iload_n S 2 rfl dX4_putOnStove_52 rfl ?_
      refine aw_cVi S 1 [.int p2] vw_X3_kettleOn cl_X3 (by decide) (by decide) tw_297 (s_X3_kettleOn _ _ _ p2 I2) ⟨by decide, by decide⟩ rfl rfl (Nat.le_of_ble_eq_true rfl) rfl rfl (by decide) (by decide) dX4_putOnStove_53 (fun x3 I3 => ?_)
      refine aw_istore_n (L2 := [(0, .ref (kgO (kgHs X) 0)), (1, .int p1), (2, .int p2), (3, .int x3)]) S [1, 2, 3, 0] dX4_putOnStove_56 rfl (by decide) rfl ?_
      refine aw_iload_n S 3 rfl dX4_putOnStove_57 rfl ?_
      refine aw_iconst (v := (-1 : Int32)) S dX4_putOnStove_58 (by decide) ?_
      refine aw_icmp_eq (tgt := 71) S dX4_putOnStove_59 (by decide) ?_ ?_
      · refine aw_aload_n S 0 rfl dX4_putOnStove_71 rfl ?_
        refine aw_getR S 0 0 1 cl_X4 (by decide) (by decide) (by decide) (by decide) (by decide) rfl tw_225 dX4_putOnStove_72 ?_
        refine aw_aload_n S 0 rfl dX4_putOnStove_75 rfl ?_
        refine aw_getR S 0 0 1 cl_X4 (by decide) (by decide) (by decide) (by decide) (by decide) rfl tw_225 dX4_putOnStove_76 ?_
        refine aw_getR S 1 6 8 cl_X3 (by decide) (by decide) (by decide) (by decide) (by decide) rfl tw_70 dX4_putOnStove_79 ?_
        refine aw_iload_n S 1 rfl dX4_putOnStove_82 rfl ?_
        refine aw_iald S 8 10 (by decide) (by decide) dX4_putOnStove_83 ?_
        refine aw_cVi S 1 [.int (I3 8 p1.toNatClampNeg)] vw_X3_stoveWithPitch cl_X3 (by decide) (by decide) tw_697 (s_X3_stoveWithPitch _ _ _ (I3 8 p1.toNatClampNeg) I3) ⟨by decide, by decide⟩ rfl rfl (Nat.le_of_ble_eq_true rfl) rfl rfl (by decide) (by decide) dX4_putOnStove_84 (fun x4 I4 => ?_)
        refine aw_istore (L2 := [(0, .ref (kgO (kgHs X) 0)), (1, .int p1), (2, .int p2), (3, .int x3), (4, .int x4)]) S [1, 2, 3, 4, 0] dX4_putOnStove_87 (by decide) rfl ?_
        refine aw_iload S 4 rfl dX4_putOnStove_89 ?_
        refine aw_iconst (v := (-1 : Int32)) S dX4_putOnStove_91 (by decide) ?_
        refine aw_icmp_eq (tgt := 105) S dX4_putOnStove_92 (by decide) ?_ ?_
        · refine aw_aload_n S 0 rfl dX4_putOnStove_105 rfl ?_
          refine aw_getR S 0 0 1 cl_X4 (by decide) (by decide) (by decide) (by decide) (by decide) rfl tw_225 dX4_putOnStove_106 ?_
          refine aw_getR S 1 10 12 cl_X3 (by decide) (by decide) (by decide) (by decide) (by decide) rfl tw_78 dX4_putOnStove_109 ?_
          refine aw_iload_n S 1 rfl dX4_putOnStove_112 rfl ?_
          refine aw_iald S 12 10 (by decide) (by decide) dX4_putOnStove_113 ?_
          refine aw_if_le (y := 0) (tgt := 134) S dX4_putOnStove_114 (by decide) ?_ ?_
          · refine aw_aload_n S 0 rfl dX4_putOnStove_134 rfl ?_
            refine aw_getR S 0 0 1 cl_X4 (by decide) (by decide) (by decide) (by decide) (by decide) rfl tw_225 dX4_putOnStove_135 ?_
            refine aw_getR S 1 9 11 cl_X3 (by decide) (by decide) (by decide) (by decide) (by decide) rfl tw_76 dX4_putOnStove_138 ?_
            refine aw_iload_n S 1 rfl dX4_putOnStove_141 rfl ?_
            refine aw_iload_n S 2 rfl dX4_putOnStove_142 rfl ?_
            refine aw_iast S 11 10 (by decide) (by decide) dX4_putOnStove_143 ?_
            refine aw_wr (fun I5 => ?_)
            refine aw_aload_n S 0 rfl dX4_putOnStove_144 rfl ?_
            refine aw_getR S 0 0 1 cl_X4 (by decide) (by decide) (by decide) (by decide) (by decide) rfl tw_225 dX4_putOnStove_145 ?_
            refine aw_cVi S 1 [] vw_X3_countOnStoves cl_X3 (by decide) (by decide) tw_568 (s_X3_countOnStoves _ _ _ I5) ⟨by decide, by decide⟩ rfl rfl (Nat.le_of_ble_eq_true rfl) rfl rfl (by decide) (by decide) dX4_putOnStove_148 (fun x5 I6 => ?_)
            exact aw_ret S hQ (vp_nar_int _) (by decide) (by decide) dX4_putOnStove_151
          refine aw_aload_n S 0 rfl dX4_putOnStove_117 rfl ?_
          refine aw_iload_n S 1 rfl dX4_putOnStove_118 rfl ?_
          refine aw_bipush (v := (8 : Int32)) S dX4_putOnStove_119 (by decide) ?_
          refine aw_aload_n S 0 rfl dX4_putOnStove_121 rfl ?_
          refine aw_getR S 0 0 1 cl_X4 (by decide) (by decide) (by decide) (by decide) (by decide) rfl tw_225 dX4_putOnStove_122 ?_
          refine aw_getR S 1 10 12 cl_X3 (by decide) (by decide) (by decide) (by decide) (by decide) rfl tw_78 dX4_putOnStove_125 ?_
          refine aw_iload_n S 1 rfl dX4_putOnStove_128 rfl ?_
          refine aw_iald S 12 10 (by decide) (by decide) dX4_putOnStove_129 ?_
          refine aw_cVi S 0 [.int p1, .int (8 : Int32), .int (I4 12 p1.toNatClampNeg)] vw_X4_refuseStove cl_X4 (by decide) (by decide) tw_693 (s_X4_refuseStove _ _ _ p1 (8 : Int32) (I4 12 p1.toNatClampNeg) I4) ⟨by decide, by decide⟩ rfl rfl (Nat.le_of_ble_eq_true rfl) rfl rfl (by decide) (by decide) dX4_putOnStove_130 (fun x6 I7 => ?_)
          exact aw_ret S hQ (vp_nar_int _) (by decide) (by decide) dX4_putOnStove_133
        refine aw_aload_n S 0 rfl dX4_putOnStove_95 rfl ?_
        refine aw_iload_n S 1 rfl dX4_putOnStove_96 rfl ?_
        refine aw_bipush (v := (7 : Int32)) S dX4_putOnStove_97 (by decide) ?_
        refine aw_iload S 4 rfl dX4_putOnStove_99 ?_
        refine aw_cVi S 0 [.int p1, .int (7 : Int32), .int x4] vw_X4_refuseStove cl_X4 (by decide) (by decide) tw_693 (s_X4_refuseStove _ _ _ p1 (7 : Int32) x4 I4) ⟨by decide, by decide⟩ rfl rfl (Nat.le_of_ble_eq_true rfl) rfl rfl (by decide) (by decide) dX4_putOnStove_101 (fun x7 I8 => ?_)
        exact aw_ret S hQ (vp_nar_int _) (by decide) (by decide) dX4_putOnStove_104
      refine aw_aload_n S 0 rfl dX4_putOnStove_62 rfl ?_
      refine aw_iload_n S 1 rfl dX4_putOnStove_63 rfl ?_
      refine aw_bipush (v := (6 : Int32)) S dX4_putOnStove_64 (by decide) ?_
      refine aw_iload_n S 3 rfl dX4_putOnStove_66 rfl ?_
      refine aw_cVi S 0 [.int p1, .int (6 : Int32), .int x3] vw_X4_refuseStove cl_X4 (by decide) (by decide) tw_693 (s_X4_refuseStove _ _ _ p1 (6 : Int32) x3 I3) ⟨by decide, by decide⟩ rfl rfl (Nat.le_of_ble_eq_true rfl) rfl rfl (by decide) (by decide) dX4_putOnStove_67 (fun x8 I9 => ?_)
      exact aw_ret S hQ (vp_nar_int _) (by decide) (by decide) dX4_putOnStove_70
    refine aw_aload_n S 0 rfl dX4_putOnStove_32 rfl ?_
    refine aw_iload_n S 1 rfl dX4_putOnStove_33 rfl ?_
    refine aw_iconst (v := (5 : Int32)) S dX4_putOnStove_34 (by decide) ?_
    refine aw_aload_n S 0 rfl dX4_putOnStove_35 rfl ?_
    refine aw_getR S 0 0 1 cl_X4 (by decide) (by decide) (by decide) (by decide) (by decide) rfl tw_225 dX4_putOnStove_36 ?_
    refine aw_getR S 1 9 11 cl_X3 (by decide) (by decide) (by decide) (by decide) (by decide) rfl tw_76 dX4_putOnStove_39 ?_
    refine aw_iload_n S 1 rfl dX4_putOnStove_42 rfl ?_
    refine aw_iald S 11 10 (by decide) (by decide) dX4_putOnStove_43 ?_
    refine aw_cVi S 0 [.int p1, .int (5 : Int32), .int (I2 11 p1.toNatClampNeg)] vw_X4_refuseStove cl_X4 (by decide) (by decide) tw_693 (s_X4_refuseStove _ _ _ p1 (5 : Int32) (I2 11 p1.toNatClampNeg) I2) ⟨by decide, by decide⟩ rfl rfl (Nat.le_of_ble_eq_true rfl) rfl rfl (by decide) (by decide) dX4_putOnStove_44 (fun x9 I10 => ?_)
    exact aw_ret S hQ (vp_nar_int _) (by decide) (by decide) dX4_putOnStove_47
  refine aw_sipush (v := (-1011 : Int32)) S dX4_putOnStove_15 (by decide) ?_
  exact aw_ret S hQ (vp_nar_int _) (by decide) (by decide) dX4_putOnStove_18
set_option maxHeartbeats 4000000 in
set_option maxRecDepth 100000 in
theorem s_X4_set (hs : kgH) (l : Launch) (w : Option (Nat × Nat)) (p1 : Int32) (p2 : Int32) (I0 : kgM) : Sdi hs l w yX4_set (kg_ws yX4_set cX4_set 3 (some .int)) { frames := 5, cells := 0, slots := 0, locals := 142 } [.ref (kgO hs 0), .int p1, .int p2] I0 (f_X4_set p1 p2 I0) := by
  refine sd_i (av := fun hs => [.ref (kgO hs 0), .int p1, .int p2]) (by decide +kernel) (fun hs => Nat.le_of_ble_eq_true rfl) (fun X S hQ => ?_) hs l
  refine aw_sub (L2 := [(0, .ref (kgO (kgHs X) 0)), (1, .int p1), (2, .int p2)]) [0, 1, 2] rfl ?_
  unfold f_X4_set
  refine aw_aload_n S 0 rfl dX4_set_0 rfl ?_
  refine aw_getR S 0 2 31 cl_X4 (by decide) (by decide) (by decide) (by decide) (by decide) rfl tw_227 dX4_set_1 ?_
  refine aw_aload_n S 0 rfl dX4_set_4 rfl ?_
  refine aw_getR S 0 0 1 cl_X4 (by decide) (by decide) (by decide) (by decide) (by decide) rfl tw_225 dX4_set_5 ?_
  refine aw_cVv S 31 [.ref (kgO (kgHs X) 1)] vw_X0_begin cl_X0 (by decide) (by decide) tw_627 (s_X0_begin _ _ _ I0) ⟨by decide, by decide⟩ rfl rfl (Nat.le_of_ble_eq_true rfl) rfl rfl (by decide) (by decide) dX4_set_8 (fun x1 I1 => ?_)
  refine aw_aload_n S 0 rfl dX4_set_11 rfl ?_
  refine aw_aload_n S 0 rfl dX4_set_12 rfl ?_
  refine aw_iload_n S 1 rfl dX4_set_13 rfl ?_
  refine aw_iload_n S 2 rfl dX4_set_14 rfl ?_
  refine aw_cVi S 0 [.int p1, .int p2] vw_X4_putOnStove cl_X4 (by decide) (by decide) tw_689 (s_X4_putOnStove _ _ _ p1 p2 I1) ⟨by decide, by decide⟩ rfl rfl (Nat.le_of_ble_eq_true rfl) rfl rfl (by decide) (by decide) dX4_set_15 (fun x2 I2 => ?_)
  refine aw_cVi S 0 [.int x2] vw_X4_settle cl_X4 (by decide) (by decide) tw_653 (s_X4_settle _ _ _ x2 I2) ⟨by decide, by decide⟩ rfl rfl (Nat.le_of_ble_eq_true rfl) rfl rfl (by decide) (by decide) dX4_set_18 (fun x3 I3 => ?_)
  exact aw_ret S hQ (vp_nar_int _) (by decide) (by decide) dX4_set_21
set_option maxHeartbeats 4000000 in
set_option maxRecDepth 100000 in
theorem s_X4_takeOffStove (hs : kgH) (l : Launch) (w : Option (Nat × Nat)) (p1 : Int32) (I0 : kgM) : Sdi hs l w yX4_takeOffStove (kg_ws yX4_takeOffStove cX4_takeOffStove 3 (some .int)) { frames := 3, cells := 0, slots := 0, locals := 66 } [.ref (kgO hs 0), .int p1] I0 (f_X4_takeOffStove p1 I0) := by
  refine sd_i (av := fun hs => [.ref (kgO hs 0), .int p1]) (by decide +kernel) (fun hs => Nat.le_of_ble_eq_true rfl) (fun X S hQ => ?_) hs l
  refine aw_sub (L2 := [(0, .ref (kgO (kgHs X) 0)), (1, .int p1)]) [0, 1] rfl ?_
  unfold f_X4_takeOffStove
  refine aw_aload_n S 0 rfl dX4_takeOffStove_0 rfl ?_
  refine aw_iload_n S 1 rfl dX4_takeOffStove_1 rfl ?_
  refine aw_cVi S 0 [.int p1] vw_X4_isKettle cl_X4 (by decide) (by decide) tw_260 (s_X4_isKettle _ _ _ p1 I0) ⟨by decide, by decide⟩ rfl rfl (Nat.le_of_ble_eq_true rfl) rfl rfl (by decide) (by decide) dX4_takeOffStove_2 (fun x1 I1 => ?_)
  refine aw_if_ne (y := 0) (tgt := 12) S dX4_takeOffStove_5 (by decide) ?_ ?_
  · refine aw_aload_n S 0 rfl dX4_takeOffStove_12 rfl ?_
    refine aw_getR S 0 0 1 cl_X4 (by decide) (by decide) (by decide) (by decide) (by decide) rfl tw_225 dX4_takeOffStove_13 ?_
    refine aw_getR S 1 9 11 cl_X3 (by decide) (by decide) (by decide) (by decide) (by decide) rfl tw_76 dX4_takeOffStove_16 ?_
    refine aw_iload_n S 1 rfl dX4_takeOffStove_19 rfl ?_
    refine aw_iald S 11 10 (by decide) (by decide) dX4_takeOffStove_20 ?_
    refine aw_istore_n (L2 := [(0, .ref (kgO (kgHs X) 0)), (1, .int p1), (2, .int (I1 11 p1.toNatClampNeg))]) S [1, 2, 0] dX4_takeOffStove_21 rfl (by decide) rfl ?_
    refine aw_let (Lf := fun x2 => [(0, .ref (kgO (kgHs X) 0)), (1, .int p1), (2, .int x2)]) (I1 11 p1.toNatClampNeg) (fun x2 => ?_)
    refine aw_iload_n S 2 rfl dX4_takeOffStove_22 rfl ?_
    refine aw_iconst (v := (-1 : Int32)) S dX4_takeOffStove_23 (by decide) ?_
    refine aw_icmp_ne (tgt := 41) S dX4_takeOffStove_24 (by decide) ?_ ?_
    · refine aw_aload_n S 0 rfl dX4_takeOffStove_41 rfl ?_
      refine aw_getR S 0 0 1 cl_X4 (by decide) (by decide) (by decide) (by decide) (by decide) rfl tw_225 dX4_takeOffStove_42 ?_
      refine aw_getR S 1 9 11 cl_X3 (by decide) (by decide) (by decide) (by decide) (by decide) rfl tw_76 dX4_takeOffStove_45 ?_
      refine aw_iload_n S 1 rfl dX4_takeOffStove_48 rfl ?_
      refine aw_iconst (v := (-1 : Int32)) S dX4_takeOffStove_49 (by decide) ?_
      refine aw_iast S 11 10 (by decide) (by decide) dX4_takeOffStove_50 ?_
      refine aw_wr (fun I2 => ?_)
      refine aw_iload_n S 2 rfl dX4_takeOffStove_51 rfl ?_
      exact aw_ret S hQ (vp_nar_int _) (by decide) (by decide) dX4_takeOffStove_52
    refine aw_aload_n S 0 rfl dX4_takeOffStove_27 rfl ?_
    refine aw_bipush (v := (10 : Int32)) S dX4_takeOffStove_28 (by decide) ?_
    refine aw_aload_n S 0 rfl dX4_takeOffStove_30 rfl ?_
    refine aw_getR S 0 0 1 cl_X4 (by decide) (by decide) (by decide) (by decide) (by decide) rfl tw_225 dX4_takeOffStove_31 ?_
    refine aw_cVi S 1 [] vw_X3_countOnStoves cl_X3 (by decide) (by decide) tw_568 (s_X3_countOnStoves _ _ _ I1) ⟨by decide, by decide⟩ rfl rfl (Nat.le_of_ble_eq_true rfl) rfl rfl (by decide) (by decide) dX4_takeOffStove_34 (fun x3 I3 => ?_)
    refine aw_cVi S 0 [.int (10 : Int32), .int x3] vw_X4_refuse cl_X4 (by decide) (by decide) tw_644 (s_X4_refuse _ _ _ (10 : Int32) x3 I3) ⟨by decide, by decide⟩ rfl rfl (Nat.le_of_ble_eq_true rfl) rfl rfl (by decide) (by decide) dX4_takeOffStove_37 (fun x4 I4 => ?_)
    exact aw_ret S hQ (vp_nar_int _) (by decide) (by decide) dX4_takeOffStove_40
  refine aw_sipush (v := (-1011 : Int32)) S dX4_takeOffStove_8 (by decide) ?_
  exact aw_ret S hQ (vp_nar_int _) (by decide) (by decide) dX4_takeOffStove_11
set_option maxHeartbeats 4000000 in
set_option maxRecDepth 100000 in
theorem s_X4_off (hs : kgH) (l : Launch) (w : Option (Nat × Nat)) (p1 : Int32) (I0 : kgM) : Sdi hs l w yX4_off (kg_ws yX4_off cX4_off 2 (some .int)) { frames := 4, cells := 0, slots := 0, locals := 142 } [.ref (kgO hs 0), .int p1] I0 (f_X4_off p1 I0) := by
  refine sd_i (av := fun hs => [.ref (kgO hs 0), .int p1]) (by decide +kernel) (fun hs => Nat.le_of_ble_eq_true rfl) (fun X S hQ => ?_) hs l
  refine aw_sub (L2 := [(0, .ref (kgO (kgHs X) 0)), (1, .int p1)]) [0, 1] rfl ?_
  unfold f_X4_off
  refine aw_aload_n S 0 rfl dX4_off_0 rfl ?_
  refine aw_getR S 0 2 31 cl_X4 (by decide) (by decide) (by decide) (by decide) (by decide) rfl tw_227 dX4_off_1 ?_
  refine aw_aload_n S 0 rfl dX4_off_4 rfl ?_
  refine aw_getR S 0 0 1 cl_X4 (by decide) (by decide) (by decide) (by decide) (by decide) rfl tw_225 dX4_off_5 ?_
  refine aw_cVv S 31 [.ref (kgO (kgHs X) 1)] vw_X0_begin cl_X0 (by decide) (by decide) tw_627 (s_X0_begin _ _ _ I0) ⟨by decide, by decide⟩ rfl rfl (Nat.le_of_ble_eq_true rfl) rfl rfl (by decide) (by decide) dX4_off_8 (fun x1 I1 => ?_)
  refine aw_aload_n S 0 rfl dX4_off_11 rfl ?_
  refine aw_aload_n S 0 rfl dX4_off_12 rfl ?_
  refine aw_iload_n S 1 rfl dX4_off_13 rfl ?_
  refine aw_cVi S 0 [.int p1] vw_X4_takeOffStove cl_X4 (by decide) (by decide) tw_708 (s_X4_takeOffStove _ _ _ p1 I1) ⟨by decide, by decide⟩ rfl rfl (Nat.le_of_ble_eq_true rfl) rfl rfl (by decide) (by decide) dX4_off_14 (fun x2 I2 => ?_)
  refine aw_cVi S 0 [.int x2] vw_X4_settle cl_X4 (by decide) (by decide) tw_653 (s_X4_settle _ _ _ x2 I2) ⟨by decide, by decide⟩ rfl rfl (Nat.le_of_ble_eq_true rfl) rfl rfl (by decide) (by decide) dX4_off_17 (fun x3 I3 => ?_)
  exact aw_ret S hQ (vp_nar_int _) (by decide) (by decide) dX4_off_20
set_option maxHeartbeats 4000000 in
set_option maxRecDepth 100000 in
theorem s_X4_turnStove (hs : kgH) (l : Launch) (w : Option (Nat × Nat)) (p1 : Int32) (p2 : Int32) (I0 : kgM) : Sdi hs l w yX4_turnStove (kg_ws yX4_turnStove cX4_turnStove 4 (some .int)) { frames := 3, cells := 0, slots := 0, locals := 66 } [.ref (kgO hs 0), .int p1, .int p2] I0 (f_X4_turnStove p1 p2 I0) := by
  refine sd_i (av := fun hs => [.ref (kgO hs 0), .int p1, .int p2]) (by decide +kernel) (fun hs => Nat.le_of_ble_eq_true rfl) (fun X S hQ => ?_) hs l
  refine aw_sub (L2 := [(0, .ref (kgO (kgHs X) 0)), (1, .int p1), (2, .int p2)]) [0, 1, 2] rfl ?_
  unfold f_X4_turnStove
  refine aw_iload_n S 1 rfl dX4_turnStove_0 rfl ?_
  refine aw_cSi S [.int p1] vw_X4_isStove tw_294 (s_X4_isStove _ _ _ p1 I0) ⟨by decide, by decide⟩ rfl rfl (Nat.le_of_ble_eq_true rfl) rfl rfl (by decide) (by decide) dX4_turnStove_1 (fun x1 I1 => ?_)
  refine aw_if_ne (y := 0) (tgt := 11) S dX4_turnStove_4 (by decide) ?_ ?_
  · refine aw_iload_n S 2 rfl dX4_turnStove_11 rfl ?_
    refine aw_if_lt (y := 0) (tgt := 20) S dX4_turnStove_12 (by decide) ?_ ?_
    · refine aw_sipush (v := (-1012 : Int32)) S dX4_turnStove_20 (by decide) ?_
      exact aw_ret S hQ (vp_nar_int _) (by decide) (by decide) dX4_turnStove_23
    refine aw_iload_n S 2 rfl dX4_turnStove_15 rfl ?_
    refine aw_iconst (v := (5 : Int32)) S dX4_turnStove_16 (by decide) ?_
    refine aw_icmp_le (tgt := 24) S dX4_turnStove_17 (by decide) ?_ ?_
    · refine aw_aload_n S 0 rfl dX4_turnStove_24 rfl ?_
      refine aw_getR S 0 0 1 cl_X4 (by decide) (by decide) (by decide) (by decide) (by decide) rfl tw_225 dX4_turnStove_25 ?_
      refine aw_getR S 1 4 6 cl_X3 (by decide) (by decide) (by decide) (by decide) (by decide) rfl tw_66 dX4_turnStove_28 ?_
      refine aw_iload_n S 1 rfl dX4_turnStove_31 rfl ?_
      refine aw_iald S 6 6 (by decide) (by decide) dX4_turnStove_32 ?_
      refine aw_istore_n (L2 := [(0, .ref (kgO (kgHs X) 0)), (1, .int p1), (2, .int p2), (3, .int (I1 6 p1.toNatClampNeg))]) S [1, 2, 3, 0] dX4_turnStove_33 rfl (by decide) rfl ?_
      refine aw_let (Lf := fun x2 => [(0, .ref (kgO (kgHs X) 0)), (1, .int p1), (2, .int p2), (3, .int x2)]) (I1 6 p1.toNatClampNeg) (fun x2 => ?_)
      refine aw_iload_n S 3 rfl dX4_turnStove_34 rfl ?_
      refine aw_iload_n S 2 rfl dX4_turnStove_35 rfl ?_
      refine aw_icmp_ne (tgt := 47) S dX4_turnStove_36 (by decide) ?_ ?_
      · refine aw_aload_n S 0 rfl dX4_turnStove_47 rfl ?_
        refine aw_getR S 0 0 1 cl_X4 (by decide) (by decide) (by decide) (by decide) (by decide) rfl tw_225 dX4_turnStove_48 ?_
        refine aw_getR S 1 4 6 cl_X3 (by decide) (by decide) (by decide) (by decide) (by decide) rfl tw_66 dX4_turnStove_51 ?_
        refine aw_iload_n S 1 rfl dX4_turnStove_54 rfl ?_
        refine aw_iload_n S 2 rfl dX4_turnStove_55 rfl ?_
        refine aw_iast S 6 6 (by decide) (by decide) dX4_turnStove_56 ?_
        refine aw_wr (fun I2 => ?_)
        refine aw_iload_n S 3 rfl dX4_turnStove_57 rfl ?_
        exact aw_ret S hQ (vp_nar_int _) (by decide) (by decide) dX4_turnStove_58
      refine aw_aload_n S 0 rfl dX4_turnStove_39 rfl ?_
      refine aw_bipush (v := (9 : Int32)) S dX4_turnStove_40 (by decide) ?_
      refine aw_iload_n S 2 rfl dX4_turnStove_42 rfl ?_
      refine aw_cVi S 0 [.int (9 : Int32), .int p2] vw_X4_refuse cl_X4 (by decide) (by decide) tw_644 (s_X4_refuse _ _ _ (9 : Int32) p2 I1) ⟨by decide, by decide⟩ rfl rfl (Nat.le_of_ble_eq_true rfl) rfl rfl (by decide) (by decide) dX4_turnStove_43 (fun x3 I3 => ?_)
      exact aw_ret S hQ (vp_nar_int _) (by decide) (by decide) dX4_turnStove_46
    refine aw_sipush (v := (-1012 : Int32)) S dX4_turnStove_20 (by decide) ?_
    exact aw_ret S hQ (vp_nar_int _) (by decide) (by decide) dX4_turnStove_23
  refine aw_sipush (v := (-1011 : Int32)) S dX4_turnStove_7 (by decide) ?_
  exact aw_ret S hQ (vp_nar_int _) (by decide) (by decide) dX4_turnStove_10
set_option maxHeartbeats 4000000 in
set_option maxRecDepth 100000 in
theorem s_X4_heat (hs : kgH) (l : Launch) (w : Option (Nat × Nat)) (p1 : Int32) (p2 : Int32) (I0 : kgM) : Sdi hs l w yX4_heat (kg_ws yX4_heat cX4_heat 3 (some .int)) { frames := 4, cells := 0, slots := 0, locals := 142 } [.ref (kgO hs 0), .int p1, .int p2] I0 (f_X4_heat p1 p2 I0) := by
  refine sd_i (av := fun hs => [.ref (kgO hs 0), .int p1, .int p2]) (by decide +kernel) (fun hs => Nat.le_of_ble_eq_true rfl) (fun X S hQ => ?_) hs l
  refine aw_sub (L2 := [(0, .ref (kgO (kgHs X) 0)), (1, .int p1), (2, .int p2)]) [0, 1, 2] rfl ?_
  unfold f_X4_heat
  refine aw_aload_n S 0 rfl dX4_heat_0 rfl ?_
  refine aw_getR S 0 2 31 cl_X4 (by decide) (by decide) (by decide) (by decide) (by decide) rfl tw_227 dX4_heat_1 ?_
  refine aw_aload_n S 0 rfl dX4_heat_4 rfl ?_
  refine aw_getR S 0 0 1 cl_X4 (by decide) (by decide) (by decide) (by decide) (by decide) rfl tw_225 dX4_heat_5 ?_
  refine aw_cVv S 31 [.ref (kgO (kgHs X) 1)] vw_X0_begin cl_X0 (by decide) (by decide) tw_627 (s_X0_begin _ _ _ I0) ⟨by decide, by decide⟩ rfl rfl (Nat.le_of_ble_eq_true rfl) rfl rfl (by decide) (by decide) dX4_heat_8 (fun x1 I1 => ?_)
  refine aw_aload_n S 0 rfl dX4_heat_11 rfl ?_
  refine aw_aload_n S 0 rfl dX4_heat_12 rfl ?_
  refine aw_iload_n S 1 rfl dX4_heat_13 rfl ?_
  refine aw_iload_n S 2 rfl dX4_heat_14 rfl ?_
  refine aw_cVi S 0 [.int p1, .int p2] vw_X4_turnStove cl_X4 (by decide) (by decide) tw_681 (s_X4_turnStove _ _ _ p1 p2 I1) ⟨by decide, by decide⟩ rfl rfl (Nat.le_of_ble_eq_true rfl) rfl rfl (by decide) (by decide) dX4_heat_15 (fun x2 I2 => ?_)
  refine aw_cVi S 0 [.int x2] vw_X4_settle cl_X4 (by decide) (by decide) tw_653 (s_X4_settle _ _ _ x2 I2) ⟨by decide, by decide⟩ rfl rfl (Nat.le_of_ble_eq_true rfl) rfl rfl (by decide) (by decide) dX4_heat_18 (fun x3 I3 => ?_)
  exact aw_ret S hQ (vp_nar_int _) (by decide) (by decide) dX4_heat_21
set_option maxHeartbeats 4000000 in
set_option maxRecDepth 100000 in
theorem s_X4_moveLid (hs : kgH) (l : Launch) (w : Option (Nat × Nat)) (p1 : Int32) (p2 : Int32) (I0 : kgM) : Sdi hs l w yX4_moveLid (kg_ws yX4_moveLid cX4_moveLid 3 (some .int)) { frames := 3, cells := 0, slots := 0, locals := 66 } [.ref (kgO hs 0), .int p1, .int p2] I0 (f_X4_moveLid p1 p2 I0) := by
  refine sd_i (av := fun hs => [.ref (kgO hs 0), .int p1, .int p2]) (by decide +kernel) (fun hs => Nat.le_of_ble_eq_true rfl) (fun X S hQ => ?_) hs l
  refine aw_sub (L2 := [(0, .ref (kgO (kgHs X) 0)), (1, .int p1), (2, .int p2)]) [0, 1, 2] rfl ?_
  unfold f_X4_moveLid
  refine aw_aload_n S 0 rfl dX4_moveLid_0 rfl ?_
  refine aw_iload_n S 1 rfl dX4_moveLid_1 rfl ?_
  refine aw_cVi S 0 [.int p1] vw_X4_isKettle cl_X4 (by decide) (by decide) tw_260 (s_X4_isKettle _ _ _ p1 I0) ⟨by decide, by decide⟩ rfl rfl (Nat.le_of_ble_eq_true rfl) rfl rfl (by decide) (by decide) dX4_moveLid_2 (fun x1 I1 => ?_)
  refine aw_if_ne (y := 0) (tgt := 12) S dX4_moveLid_5 (by decide) ?_ ?_
  · refine aw_iload_n S 2 rfl dX4_moveLid_12 rfl ?_
    refine aw_letJ (fun (j25 : Option (Int32 × kgM)) => AW X 3 0 0 w j25 25 [(0, .ref (kgO (kgHs X) 0)), (1, .int p1), (2, .int p2)] [] I1) ?_ (fun j25 hj25 => ?_)
    · skip
      refine aw_aload_n S 0 rfl dX4_moveLid_25 rfl ?_
      refine aw_getR S 0 0 1 cl_X4 (by decide) (by decide) (by decide) (by decide) (by decide) rfl tw_225 dX4_moveLid_26 ?_
      refine aw_getR S 1 11 13 cl_X3 (by decide) (by decide) (by decide) (by decide) (by decide) rfl tw_80 dX4_moveLid_29 ?_
      refine aw_iload_n S 1 rfl dX4_moveLid_32 rfl ?_
      refine aw_iald S 13 10 (by decide) (by decide) dX4_moveLid_33 ?_
      refine aw_iload_n S 2 rfl dX4_moveLid_34 rfl ?_
      refine aw_icmp_ne (tgt := 46) S dX4_moveLid_35 (by decide) ?_ ?_
      · refine aw_iload_n S 2 rfl dX4_moveLid_46 rfl ?_
        refine aw_iconst (v := (1 : Int32)) S dX4_moveLid_47 (by decide) ?_
        refine aw_letJ (fun (j84 : Option (Int32 × kgM)) => AW X 3 0 0 w j84 84 [(0, .ref (kgO (kgHs X) 0)), (1, .int p1), (2, .int p2)] [] I1) ?_ (fun j84 hj84 => ?_)
        · skip
          refine aw_aload_n S 0 rfl dX4_moveLid_84 rfl ?_
          refine aw_getR S 0 0 1 cl_X4 (by decide) (by decide) (by decide) (by decide) (by decide) rfl tw_225 dX4_moveLid_85 ?_
          refine aw_getR S 1 11 13 cl_X3 (by decide) (by decide) (by decide) (by decide) (by decide) rfl tw_80 dX4_moveLid_88 ?_
          refine aw_iload_n S 1 rfl dX4_moveLid_91 rfl ?_
          refine aw_iload_n S 2 rfl dX4_moveLid_92 rfl ?_
          refine aw_iast S 13 10 (by decide) (by decide) dX4_moveLid_93 ?_
          refine aw_wr (fun I2 => ?_)
          refine aw_aload_n S 0 rfl dX4_moveLid_94 rfl ?_
          refine aw_getR S 0 0 1 cl_X4 (by decide) (by decide) (by decide) (by decide) (by decide) rfl tw_225 dX4_moveLid_95 ?_
          refine aw_cVi S 1 [] vw_X3_countLidsOn cl_X3 (by decide) (by decide) tw_576 (s_X3_countLidsOn _ _ _ I2) ⟨by decide, by decide⟩ rfl rfl (Nat.le_of_ble_eq_true rfl) rfl rfl (by decide) (by decide) dX4_moveLid_98 (fun x2 I3 => ?_)
          exact aw_ret S hQ (vp_nar_int _) (by decide) (by decide) dX4_moveLid_101
        refine aw_icmp_ne (tgt := 84) S dX4_moveLid_48 (by decide) ?_ ?_
        · exact hj84
        refine aw_aload_n S 0 rfl dX4_moveLid_51 rfl ?_
        refine aw_getR S 0 0 1 cl_X4 (by decide) (by decide) (by decide) (by decide) (by decide) rfl tw_225 dX4_moveLid_52 ?_
        refine aw_getR S 1 12 14 cl_X3 (by decide) (by decide) (by decide) (by decide) (by decide) rfl tw_82 dX4_moveLid_55 ?_
        refine aw_iload_n S 1 rfl dX4_moveLid_58 rfl ?_
        refine aw_iald S 14 10 (by decide) (by decide) dX4_moveLid_59 ?_
        refine aw_iconst (v := (1 : Int32)) S dX4_moveLid_60 (by decide) ?_
        refine aw_icmp_ne (tgt := 84) S dX4_moveLid_61 (by decide) ?_ ?_
        · exact hj84
        refine aw_aload_n S 0 rfl dX4_moveLid_64 rfl ?_
        refine aw_bipush (v := (12 : Int32)) S dX4_moveLid_65 (by decide) ?_
        refine aw_bipush (v := (6 : Int32)) S dX4_moveLid_67 (by decide) ?_
        refine aw_aload_n S 0 rfl dX4_moveLid_69 rfl ?_
        refine aw_getR S 0 0 1 cl_X4 (by decide) (by decide) (by decide) (by decide) (by decide) rfl tw_225 dX4_moveLid_70 ?_
        refine aw_getI S 1 15 cl_X3 (by decide) (by decide) (by decide) (by decide) rfl tw_88 dX4_moveLid_73 ?_
        refine aw_bipush (v := (6 : Int32)) S dX4_moveLid_76 (by decide) ?_
        refine aw_iremK S dX4_moveLid_78 (by decide) ?_
        refine aw_isub S dX4_moveLid_79 ?_
        refine aw_cVi S 0 [.int (12 : Int32), .int ((6 : Int32) - ((I1 1 15) - (I1 1 15) / (6 : Int32) * (6 : Int32)))] vw_X4_refuse cl_X4 (by decide) (by decide) tw_644 (s_X4_refuse _ _ _ (12 : Int32) ((6 : Int32) - ((I1 1 15) - (I1 1 15) / (6 : Int32) * (6 : Int32))) I1) ⟨by decide, by decide⟩ rfl rfl (Nat.le_of_ble_eq_true rfl) rfl rfl (by decide) (by decide) dX4_moveLid_80 (fun x3 I4 => ?_)
        exact aw_ret S hQ (vp_nar_int _) (by decide) (by decide) dX4_moveLid_83
      refine aw_aload_n S 0 rfl dX4_moveLid_38 rfl ?_
      refine aw_bipush (v := (9 : Int32)) S dX4_moveLid_39 (by decide) ?_
      refine aw_iload_n S 2 rfl dX4_moveLid_41 rfl ?_
      refine aw_cVi S 0 [.int (9 : Int32), .int p2] vw_X4_refuse cl_X4 (by decide) (by decide) tw_644 (s_X4_refuse _ _ _ (9 : Int32) p2 I1) ⟨by decide, by decide⟩ rfl rfl (Nat.le_of_ble_eq_true rfl) rfl rfl (by decide) (by decide) dX4_moveLid_42 (fun x4 I5 => ?_)
      exact aw_ret S hQ (vp_nar_int _) (by decide) (by decide) dX4_moveLid_45
    refine aw_if_eq (y := 0) (tgt := 25) S dX4_moveLid_13 (by decide) ?_ ?_
    · exact hj25
    refine aw_iload_n S 2 rfl dX4_moveLid_16 rfl ?_
    refine aw_iconst (v := (1 : Int32)) S dX4_moveLid_17 (by decide) ?_
    refine aw_icmp_eq (tgt := 25) S dX4_moveLid_18 (by decide) ?_ ?_
    · exact hj25
    refine aw_sipush (v := (-1012 : Int32)) S dX4_moveLid_21 (by decide) ?_
    exact aw_ret S hQ (vp_nar_int _) (by decide) (by decide) dX4_moveLid_24
  refine aw_sipush (v := (-1011 : Int32)) S dX4_moveLid_8 (by decide) ?_
  exact aw_ret S hQ (vp_nar_int _) (by decide) (by decide) dX4_moveLid_11
set_option maxHeartbeats 4000000 in
set_option maxRecDepth 100000 in
theorem s_X4_lid (hs : kgH) (l : Launch) (w : Option (Nat × Nat)) (p1 : Int32) (p2 : Int32) (I0 : kgM) : Sdi hs l w yX4_lid (kg_ws yX4_lid cX4_lid 3 (some .int)) { frames := 4, cells := 0, slots := 0, locals := 142 } [.ref (kgO hs 0), .int p1, .int p2] I0 (f_X4_lid p1 p2 I0) := by
  refine sd_i (av := fun hs => [.ref (kgO hs 0), .int p1, .int p2]) (by decide +kernel) (fun hs => Nat.le_of_ble_eq_true rfl) (fun X S hQ => ?_) hs l
  refine aw_sub (L2 := [(0, .ref (kgO (kgHs X) 0)), (1, .int p1), (2, .int p2)]) [0, 1, 2] rfl ?_
  unfold f_X4_lid
  refine aw_aload_n S 0 rfl dX4_lid_0 rfl ?_
  refine aw_getR S 0 2 31 cl_X4 (by decide) (by decide) (by decide) (by decide) (by decide) rfl tw_227 dX4_lid_1 ?_
  refine aw_aload_n S 0 rfl dX4_lid_4 rfl ?_
  refine aw_getR S 0 0 1 cl_X4 (by decide) (by decide) (by decide) (by decide) (by decide) rfl tw_225 dX4_lid_5 ?_
  refine aw_cVv S 31 [.ref (kgO (kgHs X) 1)] vw_X0_begin cl_X0 (by decide) (by decide) tw_627 (s_X0_begin _ _ _ I0) ⟨by decide, by decide⟩ rfl rfl (Nat.le_of_ble_eq_true rfl) rfl rfl (by decide) (by decide) dX4_lid_8 (fun x1 I1 => ?_)
  refine aw_aload_n S 0 rfl dX4_lid_11 rfl ?_
  refine aw_aload_n S 0 rfl dX4_lid_12 rfl ?_
  refine aw_iload_n S 1 rfl dX4_lid_13 rfl ?_
  refine aw_iload_n S 2 rfl dX4_lid_14 rfl ?_
  refine aw_cVi S 0 [.int p1, .int p2] vw_X4_moveLid cl_X4 (by decide) (by decide) tw_724 (s_X4_moveLid _ _ _ p1 p2 I1) ⟨by decide, by decide⟩ rfl rfl (Nat.le_of_ble_eq_true rfl) rfl rfl (by decide) (by decide) dX4_lid_15 (fun x2 I2 => ?_)
  refine aw_cVi S 0 [.int x2] vw_X4_settle cl_X4 (by decide) (by decide) tw_653 (s_X4_settle _ _ _ x2 I2) ⟨by decide, by decide⟩ rfl rfl (Nat.le_of_ble_eq_true rfl) rfl rfl (by decide) (by decide) dX4_lid_18 (fun x3 I3 => ?_)
  exact aw_ret S hQ (vp_nar_int _) (by decide) (by decide) dX4_lid_21

