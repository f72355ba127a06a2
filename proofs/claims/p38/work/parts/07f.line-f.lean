def f_J5_isLatin1_aae02  (I0 : kgM) : Option (Int32 × kgM) :=
    (if (I0 175 1) = 0 then
    some ((1 : Int32), I0)
    else
    some ((0 : Int32), I0))

def f_J5_length_8abf5  (I0 : kgM) : Option (Int32 × kgM) :=
    some (I0 175 3, I0)

def f_J1_canEncode_fc78d (p1 : Int32) (I0 : kgM) : Option (Int32 × kgM) :=
    (if (255 : Int32) < p1 then
    some ((0 : Int32), I0)
    else
    some ((1 : Int32), I0))

def f_J6_stringSize_0f7a4_L16 (a0 : Int32) (K : kgM → Option (Int32 × kgM)) : Nat → Int32 → Int32 → kgM → Option (Int32 × kgM)
  | 0, _, _, _ => none
  | q + 1, x2h16, x3h16, Ih16 =>
    (if (10 : Int32) ≤ x3h16 then
    K Ih16
    else
    (if a0 ≤ x2h16 then
    bnd ((10 : Int32) * x2h16) (fun x1 => 
    bnd (x3h16 + (1 : Int32)) (fun x2 => 
    f_J6_stringSize_0f7a4_L16 a0 K q x1 x2 Ih16))
    else
    some (x3h16 + (1 : Int32), Ih16)))

def f_J6_stringSize_0f7a4_L16b (a0 : Int32) (K : kgM → Option (Int32 × kgM)) : Nat → Int32 → Int32 → kgM → Option (Int32 × kgM)
  | 0, _, _, _ => none
  | q + 1, x2h16, x3h16, Ih16 =>
    (if (10 : Int32) ≤ x3h16 then
    K Ih16
    else
    (if a0 ≤ x2h16 then
    bnd ((10 : Int32) * x2h16) (fun x4 => 
    bnd (x3h16 + (1 : Int32)) (fun x5 => 
    f_J6_stringSize_0f7a4_L16b a0 K q x4 x5 Ih16))
    else
    some (x3h16 + (0 : Int32), Ih16)))

def f_J6_stringSize_0f7a4 (p1 : Int32) (I0 : kgM) : Option (Int32 × kgM) :=
    (if p1 < 0 then
    f_J6_stringSize_0f7a4_L16 p1 (fun I1 =>
    some ((10 : Int32) + (1 : Int32), I1)) 200 (-10 : Int32) (1 : Int32) I0
    else
    bnd (-p1) (fun x3 => 
    f_J6_stringSize_0f7a4_L16b x3 (fun I2 =>
    some ((10 : Int32) + (0 : Int32), I2)) 200 (-10 : Int32) (1 : Int32) I0))

def f_J6_getChars_ba4f3_L22 (bb : Nat) (a6 : Int32) (K : Int32 → Int32 → kgM → Option (Int32 × kgM)) : Nat → Int32 → Int32 → kgM → Option (Int32 × kgM)
  | 0, _, _, _ => none
  | q + 1, x0h22, x5h22, Ih22 =>
    (if (-100 : Int32) < x0h22 then
    K x0h22 x5h22 Ih22
    else
    bnd (x0h22 / (100 : Int32)) (fun x1 => 
    bnd ((x1 * (100 : Int32)) - x0h22) (fun x2 => 
    bnd (x5h22 + (-1 : Int32)) (fun x3 => 
    ck (inb x2 100) (
    ck (inb x3 bb) (bnd (kgW Ih22 176 x3.toNatClampNeg (vp_nar .byte (kg_ones x2.toNatClampNeg))) (fun I1 => 
    bnd (x3 + (-1 : Int32)) (fun x4 => 
    ck (inb x2 100) (
    ck (inb x4 bb) (bnd (kgW I1 176 x4.toNatClampNeg (vp_nar .byte (kg_tens x2.toNatClampNeg))) (fun I2 => 
    f_J6_getChars_ba4f3_L22 bb a6 K q x1 x4 I2)))))))))))

def f_J6_getChars_ba4f3_L22b (bb : Nat) (a6 : Int32) (K : Int32 → Int32 → kgM → Option (Int32 × kgM)) : Nat → Int32 → Int32 → kgM → Option (Int32 × kgM)
  | 0, _, _, _ => none
  | q + 1, x0h22, x5h22, Ih22 =>
    (if (-100 : Int32) < x0h22 then
    K x0h22 x5h22 Ih22
    else
    bnd (x0h22 / (100 : Int32)) (fun x11 => 
    bnd ((x11 * (100 : Int32)) - x0h22) (fun x12 => 
    bnd (x5h22 + (-1 : Int32)) (fun x13 => 
    ck (inb x12 100) (
    ck (inb x13 bb) (bnd (kgW Ih22 176 x13.toNatClampNeg (vp_nar .byte (kg_ones x12.toNatClampNeg))) (fun I7 => 
    bnd (x13 + (-1 : Int32)) (fun x14 => 
    ck (inb x12 100) (
    ck (inb x14 bb) (bnd (kgW I7 176 x14.toNatClampNeg (vp_nar .byte (kg_tens x12.toNatClampNeg))) (fun I8 => 
    f_J6_getChars_ba4f3_L22b bb a6 K q x11 x14 I8)))))))))))

def f_J6_getChars_ba4f3 (bb : Nat) (p1 : Int32) (p2 : Int32) (I0 : kgM) : Option (Int32 × kgM) :=
    (letJ (fun y0j12 =>
    (if y0j12 = 0 then
    bnd (-p1) (fun x10 => 
    f_J6_getChars_ba4f3_L22b bb y0j12 (fun x15 x16 I9 =>
    bnd (x16 + (-1 : Int32)) (fun x17 => 
    ck (inb (-x15) 100) (
    ck (inb x17 bb) (bnd (kgW I9 176 x17.toNatClampNeg (vp_nar .byte (kg_ones (-x15).toNatClampNeg))) (fun I10 => 
    (letJ (fun x5j104 Ij104 =>
    (if y0j12 = 0 then
    some (x5j104, Ij104)
    else
    bnd (x5j104 + (-1 : Int32)) (fun x18 => 
    ck (inb x18 bb) (bnd (kgW Ij104 176 x18.toNatClampNeg (vp_nar .byte (45 : Int32))) (fun I11 => 
    some (x18, I11)))))) (fun (j104 : Int32 → kgM → Option (Int32 × kgM)) =>
    (if (-9 : Int32) ≤ x15 then
    j104 x17 I10
    else
    bnd (x17 + (-1 : Int32)) (fun x19 => 
    ck (inb (-x15) 100) (
    ck (inb x19 bb) (bnd (kgW I10 176 x19.toNatClampNeg (vp_nar .byte (kg_tens (-x15).toNatClampNeg))) (fun I12 => 
    j104 x19 I12)))))))))))) 200 x10 p2 I0)
    else
    f_J6_getChars_ba4f3_L22 bb y0j12 (fun x5 x6 I3 =>
    bnd (x6 + (-1 : Int32)) (fun x7 => 
    ck (inb (-x5) 100) (
    ck (inb x7 bb) (bnd (kgW I3 176 x7.toNatClampNeg (vp_nar .byte (kg_ones (-x5).toNatClampNeg))) (fun I4 => 
    (letJ (fun x5j104 Ij104 =>
    (if y0j12 = 0 then
    some (x5j104, Ij104)
    else
    bnd (x5j104 + (-1 : Int32)) (fun x8 => 
    ck (inb x8 bb) (bnd (kgW Ij104 176 x8.toNatClampNeg (vp_nar .byte (45 : Int32))) (fun I5 => 
    some (x8, I5)))))) (fun (j104 : Int32 → kgM → Option (Int32 × kgM)) =>
    (if (-9 : Int32) ≤ x5 then
    j104 x7 I4
    else
    bnd (x7 + (-1 : Int32)) (fun x9 => 
    ck (inb (-x5) 100) (
    ck (inb x9 bb) (bnd (kgW I4 176 x9.toNatClampNeg (vp_nar .byte (kg_tens (-x5).toNatClampNeg))) (fun I6 => 
    j104 x9 I6)))))))))))) 200 p1 p2 I0)) (fun (j12 : Int32 → Option (Int32 × kgM)) =>
    (if 0 ≤ p1 then
    j12 (0 : Int32)
    else
    j12 (1 : Int32))))

def f_J9_max_7cf53 (p1 : Int32) (p2 : Int32) (I0 : kgM) : Option (Int32 × kgM) :=
    (if p1 < p2 then
    some (p2, I0)
    else
    some (p1, I0))

def f_J8_newLength_cabcc (p1 : Int32) (p2 : Int32) (p3 : Int32) (I0 : kgM) : Option (Int32 × kgM) :=
    bndC (f_J9_max_7cf53 p2 p3 I0) (fun x1 I1 => 
    bnd (p1 + x1) (fun x2 => 
    (if x2 ≤ (0 : Int32) then
    none
    else
    (if (2147483639 : Int32) < x2 then
    none
    else
    some (x2, I1)))))

def f_J5_newCapacity_0f7a4 (cap : Nat) (p1 : Int32) (I0 : kgM) : Option (Int32 × kgM) :=
    bnd (Int32.ofNat cap) (fun x1 => 
    bnd (p1 <<< ((I0 175 1) &&& 31)) (fun x2 => 
    bnd (x2 - x1) (fun x3 => 
    bndC (f_J8_newLength_cabcc x1 x3 (x1 + ((2 : Int32) <<< ((I0 175 1) &&& 31))) I0) (fun x4 I1 => 
    (if x4 = (2147483647 : Int32) then
    none
    else
    some (x4 >>> ((I1 175 1) &&& 31), I1))))))

set_option maxHeartbeats 4000000 in
set_option maxRecDepth 100000 in
theorem s_J5_isLatin1_aae02 (hs : kgH) (l : Launch) (w : Option (Nat × Nat))  (I0 : kgM) : Sdi hs l w yJ5_isLatin1_aae02 (kg_ws yJ5_isLatin1_aae02 cJ5_isLatin1_aae02 1 (some .boolean)) { frames := 0, cells := 0, slots := 0, locals := 0 } [.ref (kgO hs 175)] I0 (f_J5_isLatin1_aae02 I0) := by
  refine sd_i (av := fun hs => [.ref (kgO hs 175)]) (by decide +kernel) (fun hs => Nat.le_of_ble_eq_true rfl) (fun X S hQ => ?_) hs l
  refine aw_sub (L2 := [(0, .ref (kgO (kgHs X) 175))]) [0] rfl ?_
  unfold f_J5_isLatin1_aae02
  refine aw_getCS S tw_201 dJ5_isLatin1_aae02_0 ?_
  refine aw_if_eqF (y := 0) (tgt := 17) S dJ5_isLatin1_aae02_3 (by decide) (by decide) ?_
  refine aw_aload_n S 0 rfl dJ5_isLatin1_aae02_6 rfl ?_
  refine aw_getIs S 1 (by decide) (by decide) rfl tw_211 dJ5_isLatin1_aae02_7 ?_
  refine aw_if_ne (y := 0) (tgt := 17) S dJ5_isLatin1_aae02_10 (by decide) ?_ ?_
  · refine aw_iconst (v := (0 : Int32)) S dJ5_isLatin1_aae02_17 (by decide) ?_
    exact aw_ret S hQ rfl (by decide) (by decide) dJ5_isLatin1_aae02_18
  refine aw_iconst (v := (1 : Int32)) S dJ5_isLatin1_aae02_13 (by decide) ?_
  refine aw_goto (tgt := 18) S dJ5_isLatin1_aae02_14 (by decide) ?_
  exact aw_ret S hQ rfl (by decide) (by decide) dJ5_isLatin1_aae02_18
set_option maxHeartbeats 4000000 in
set_option maxRecDepth 100000 in
theorem s_J5_length_8abf5 (hs : kgH) (l : Launch) (w : Option (Nat × Nat))  (I0 : kgM) : Sdi hs l w yJ5_length_8abf5 (kg_ws yJ5_length_8abf5 cJ5_length_8abf5 1 (some .int)) { frames := 0, cells := 0, slots := 0, locals := 0 } [.ref (kgO hs 175)] I0 (f_J5_length_8abf5 I0) := by
  refine sd_i (av := fun hs => [.ref (kgO hs 175)]) (by decide +kernel) (fun hs => Nat.le_of_ble_eq_true rfl) (fun X S hQ => ?_) hs l
  refine aw_sub (L2 := [(0, .ref (kgO (kgHs X) 175))]) [0] rfl ?_
  unfold f_J5_length_8abf5
  refine aw_aload_n S 0 rfl dJ5_length_8abf5_0 rfl ?_
  refine aw_getIs S 3 (by decide) (by decide) rfl tw_214 dJ5_length_8abf5_1 ?_
  exact aw_ret S hQ (vp_nar_int _) (by decide) (by decide) dJ5_length_8abf5_4
set_option maxHeartbeats 4000000 in
set_option maxRecDepth 100000 in
theorem s_J1_canEncode_fc78d (hs : kgH) (l : Launch) (w : Option (Nat × Nat)) (p1 : Int32) (I0 : kgM) : Sdi hs l w yJ1_canEncode_fc78d (kg_ws yJ1_canEncode_fc78d cJ1_canEncode_fc78d 1 (some .boolean)) { frames := 0, cells := 0, slots := 0, locals := 0 } [.int p1] I0 (f_J1_canEncode_fc78d p1 I0) := by
  refine sd_i (av := fun hs => [.int p1]) (by decide +kernel) (fun hs => Nat.le_of_ble_eq_true rfl) (fun X S hQ => ?_) hs l
  refine aw_sub (L2 := [(0, .int p1)]) [0] rfl ?_
  unfold f_J1_canEncode_fc78d
  refine aw_iload_n S 0 rfl dJ1_canEncode_fc78d_0 rfl ?_
  refine aw_sipush (v := (255 : Int32)) S dJ1_canEncode_fc78d_1 (by decide) ?_
  refine aw_icmp_gt (tgt := 11) S dJ1_canEncode_fc78d_4 (by decide) ?_ ?_
  · refine aw_iconst (v := (0 : Int32)) S dJ1_canEncode_fc78d_11 (by decide) ?_
    exact aw_ret S hQ rfl (by decide) (by decide) dJ1_canEncode_fc78d_12
  refine aw_iconst (v := (1 : Int32)) S dJ1_canEncode_fc78d_7 (by decide) ?_
  refine aw_goto (tgt := 12) S dJ1_canEncode_fc78d_8 (by decide) ?_
  exact aw_ret S hQ rfl (by decide) (by decide) dJ1_canEncode_fc78d_12
set_option maxHeartbeats 4000000 in
set_option maxRecDepth 100000 in
theorem s_J6_stringSize_0f7a4_L16 {X : kgCX (Int32 × kgM)} {w : Option (Nat × Nat)} (S : Cx X cJ6_stringSize_0f7a4 RJ6 4 0 0 0 0) (hQ : Qxi X w .int) (a0 : Int32) {K : kgM → Option (Int32 × kgM)} (hK : ∀  (J : kgM), AW X 4 0 0 w (K J) 42 [(1, .int (1 : Int32))] [] J) : ∀ (q : Nat) (x2h16 : Int32) (x3h16 : Int32) (Ih16 : kgM), AW X 4 0 0 w (f_J6_stringSize_0f7a4_L16 a0 K q x2h16 x3h16 Ih16) 16 [(0, .int a0), (1, .int (1 : Int32)), (2, .int x2h16), (3, .int x3h16)] [] Ih16 := by
  intro q
  induction q with
  | zero => intros; exact aw_none
  | succ q ih =>
    intro x2h16 x3h16 Ih16
    rw [f_J6_stringSize_0f7a4_L16]
    refine aw_iload_n S 3 rfl dJ6_stringSize_0f7a4_16 rfl ?_
    refine aw_bipush (v := (10 : Int32)) S dJ6_stringSize_0f7a4_17 (by decide) ?_
    refine aw_icmp_ge (tgt := 42) S dJ6_stringSize_0f7a4_19 (by decide) ?_ ?_
    · refine aw_sub (L2 := [(1, .int (1 : Int32))]) [1] rfl ?_
      exact hK Ih16
    refine aw_iload_n S 0 rfl dJ6_stringSize_0f7a4_22 rfl ?_
    refine aw_iload_n S 2 rfl dJ6_stringSize_0f7a4_23 rfl ?_
    refine aw_icmp_le (tgt := 31) S dJ6_stringSize_0f7a4_24 (by decide) ?_ ?_
    · refine aw_bipush (v := (10 : Int32)) S dJ6_stringSize_0f7a4_31 (by decide) ?_
      refine aw_iload_n S 2 rfl dJ6_stringSize_0f7a4_33 rfl ?_
      refine aw_imul S dJ6_stringSize_0f7a4_34 ?_
      refine aw_istore_n (L2 := [(0, .int a0), (1, .int (1 : Int32)), (2, .int ((10 : Int32) * x2h16)), (3, .int x3h16)]) S [1, 2, 0, 3] dJ6_stringSize_0f7a4_35 rfl (by decide) rfl ?_
      refine aw_let (Lf := fun x1 => [(0, .int a0), (1, .int (1 : Int32)), (2, .int x1), (3, .int x3h16)]) ((10 : Int32) * x2h16) (fun x1 => ?_)
      refine aw_iinc (v := x3h16 + (1 : Int32)) (L2 := [(0, .int a0), (1, .int (1 : Int32)), (2, .int x1), (3, .int (x3h16 + (1 : Int32)))]) S [1, 2, 3, 0] 3 dJ6_stringSize_0f7a4_36 rfl rfl (by decide) rfl ?_
      refine aw_let (Lf := fun x2 => [(0, .int a0), (1, .int (1 : Int32)), (2, .int x1), (3, .int x2)]) (x3h16 + (1 : Int32)) (fun x2 => ?_)
      refine aw_goto (tgt := 16) S dJ6_stringSize_0f7a4_39 (by decide) ?_
      exact ih x1 x2 Ih16
    refine aw_iload_n S 3 rfl dJ6_stringSize_0f7a4_27 rfl ?_
    refine aw_iload_n S 1 rfl dJ6_stringSize_0f7a4_28 rfl ?_
    refine aw_iadd S dJ6_stringSize_0f7a4_29 ?_
    exact aw_ret S hQ (vp_nar_int _) (by decide) (by decide) dJ6_stringSize_0f7a4_30
set_option maxHeartbeats 4000000 in
set_option maxRecDepth 100000 in
theorem s_J6_stringSize_0f7a4_L16b {X : kgCX (Int32 × kgM)} {w : Option (Nat × Nat)} (S : Cx X cJ6_stringSize_0f7a4 RJ6 4 0 0 0 0) (hQ : Qxi X w .int) (a0 : Int32) {K : kgM → Option (Int32 × kgM)} (hK : ∀  (J : kgM), AW X 4 0 0 w (K J) 42 [(1, .int (0 : Int32))] [] J) : ∀ (q : Nat) (x2h16 : Int32) (x3h16 : Int32) (Ih16 : kgM), AW X 4 0 0 w (f_J6_stringSize_0f7a4_L16b a0 K q x2h16 x3h16 Ih16) 16 [(0, .int a0), (1, .int (0 : Int32)), (2, .int x2h16), (3, .int x3h16)] [] Ih16 := by
  intro q
  induction q with
  | zero => intros; exact aw_none
  | succ q ih =>
    intro x2h16 x3h16 Ih16
    rw [f_J6_stringSize_0f7a4_L16b]
    refine aw_iload_n S 3 rfl dJ6_stringSize_0f7a4_16 rfl ?_
    refine aw_bipush (v := (10 : Int32)) S dJ6_stringSize_0f7a4_17 (by decide) ?_
    refine aw_icmp_ge (tgt := 42) S dJ6_stringSize_0f7a4_19 (by decide) ?_ ?_
    · refine aw_sub (L2 := [(1, .int (0 : Int32))]) [1] rfl ?_
      exact hK Ih16
    refine aw_iload_n S 0 rfl dJ6_stringSize_0f7a4_22 rfl ?_
    refine aw_iload_n S 2 rfl dJ6_stringSize_0f7a4_23 rfl ?_
    refine aw_icmp_le (tgt := 31) S dJ6_stringSize_0f7a4_24 (by decide) ?_ ?_
    · refine aw_bipush (v := (10 : Int32)) S dJ6_stringSize_0f7a4_31 (by decide) ?_
      refine aw_iload_n S 2 rfl dJ6_stringSize_0f7a4_33 rfl ?_
      refine aw_imul S dJ6_stringSize_0f7a4_34 ?_
      refine aw_istore_n (L2 := [(0, .int a0), (1, .int (0 : Int32)), (2, .int ((10 : Int32) * x2h16)), (3, .int x3h16)]) S [1, 2, 0, 3] dJ6_stringSize_0f7a4_35 rfl (by decide) rfl ?_
      refine aw_let (Lf := fun x4 => [(0, .int a0), (1, .int (0 : Int32)), (2, .int x4), (3, .int x3h16)]) ((10 : Int32) * x2h16) (fun x4 => ?_)
      refine aw_iinc (v := x3h16 + (1 : Int32)) (L2 := [(0, .int a0), (1, .int (0 : Int32)), (2, .int x4), (3, .int (x3h16 + (1 : Int32)))]) S [1, 2, 3, 0] 3 dJ6_stringSize_0f7a4_36 rfl rfl (by decide) rfl ?_
      refine aw_let (Lf := fun x5 => [(0, .int a0), (1, .int (0 : Int32)), (2, .int x4), (3, .int x5)]) (x3h16 + (1 : Int32)) (fun x5 => ?_)
      refine aw_goto (tgt := 16) S dJ6_stringSize_0f7a4_39 (by decide) ?_
      exact ih x4 x5 Ih16
    refine aw_iload_n S 3 rfl dJ6_stringSize_0f7a4_27 rfl ?_
    refine aw_iload_n S 1 rfl dJ6_stringSize_0f7a4_28 rfl ?_
    refine aw_iadd S dJ6_stringSize_0f7a4_29 ?_
    exact aw_ret S hQ (vp_nar_int _) (by decide) (by decide) dJ6_stringSize_0f7a4_30
set_option maxHeartbeats 4000000 in
set_option maxRecDepth 100000 in
theorem s_J6_stringSize_0f7a4 (hs : kgH) (l : Launch) (w : Option (Nat × Nat)) (p1 : Int32) (I0 : kgM) : Sdi hs l w yJ6_stringSize_0f7a4 (kg_ws yJ6_stringSize_0f7a4 cJ6_stringSize_0f7a4 4 (some .int)) { frames := 0, cells := 0, slots := 0, locals := 0 } [.int p1] I0 (f_J6_stringSize_0f7a4 p1 I0) := by
  refine sd_i (av := fun hs => [.int p1]) (by decide +kernel) (fun hs => Nat.le_of_ble_eq_true rfl) (fun X S hQ => ?_) hs l
  refine aw_sub (L2 := [(0, .int p1)]) [0] rfl ?_
  unfold f_J6_stringSize_0f7a4
  refine aw_iconst (v := (1 : Int32)) S dJ6_stringSize_0f7a4_0 (by decide) ?_
  refine aw_istore_n (L2 := [(0, .int p1), (1, .int (1 : Int32))]) S [1, 0] dJ6_stringSize_0f7a4_1 rfl (by decide) rfl ?_
  refine aw_iload_n S 0 rfl dJ6_stringSize_0f7a4_2 rfl ?_
  refine aw_if_lt (y := 0) (tgt := 11) S dJ6_stringSize_0f7a4_3 (by decide) ?_ ?_
  · refine aw_bipush (v := (-10 : Int32)) S dJ6_stringSize_0f7a4_11 (by decide) ?_
    refine aw_istore_n (L2 := [(0, .int p1), (1, .int (1 : Int32)), (2, .int (-10 : Int32))]) S [1, 2, 0] dJ6_stringSize_0f7a4_13 rfl (by decide) rfl ?_
    refine aw_iconst (v := (1 : Int32)) S dJ6_stringSize_0f7a4_14 (by decide) ?_
    refine aw_istore_n (L2 := [(0, .int p1), (1, .int (1 : Int32)), (2, .int (-10 : Int32)), (3, .int (1 : Int32))]) S [1, 2, 3, 0] dJ6_stringSize_0f7a4_15 rfl (by decide) rfl ?_
    refine s_J6_stringSize_0f7a4_L16 S hQ p1 (fun I1 => ?_) 200 (-10 : Int32) (1 : Int32) I0
    refine aw_bipush (v := (10 : Int32)) S dJ6_stringSize_0f7a4_42 (by decide) ?_
    refine aw_iload_n S 0 rfl dJ6_stringSize_0f7a4_44 rfl ?_
    refine aw_iadd S dJ6_stringSize_0f7a4_45 ?_
    exact aw_ret S hQ (vp_nar_int _) (by decide) (by decide) dJ6_stringSize_0f7a4_46
  refine aw_iconst (v := (0 : Int32)) S dJ6_stringSize_0f7a4_6 (by decide) ?_
  refine aw_istore_n (L2 := [(0, .int p1), (1, .int (0 : Int32))]) S [1, 0] dJ6_stringSize_0f7a4_7 rfl (by decide) rfl ?_
  refine aw_iload_n S 0 rfl dJ6_stringSize_0f7a4_8 rfl ?_
  refine aw_ineg S dJ6_stringSize_0f7a4_9 ?_
  refine aw_istore_n (L2 := [(0, .int (-p1)), (1, .int (0 : Int32))]) S [0, 1] dJ6_stringSize_0f7a4_10 rfl (by decide) rfl ?_
  refine aw_let (Lf := fun x3 => [(0, .int x3), (1, .int (0 : Int32))]) (-p1) (fun x3 => ?_)
  refine aw_bipush (v := (-10 : Int32)) S dJ6_stringSize_0f7a4_11 (by decide) ?_
  refine aw_istore_n (L2 := [(0, .int x3), (1, .int (0 : Int32)), (2, .int (-10 : Int32))]) S [1, 2, 0] dJ6_stringSize_0f7a4_13 rfl (by decide) rfl ?_
  refine aw_iconst (v := (1 : Int32)) S dJ6_stringSize_0f7a4_14 (by decide) ?_
  refine aw_istore_n (L2 := [(0, .int x3), (1, .int (0 : Int32)), (2, .int (-10 : Int32)), (3, .int (1 : Int32))]) S [1, 2, 3, 0] dJ6_stringSize_0f7a4_15 rfl (by decide) rfl ?_
  refine s_J6_stringSize_0f7a4_L16b S hQ x3 (fun I2 => ?_) 200 (-10 : Int32) (1 : Int32) I0
  refine aw_bipush (v := (10 : Int32)) S dJ6_stringSize_0f7a4_42 (by decide) ?_
  refine aw_iload_n S 0 rfl dJ6_stringSize_0f7a4_44 rfl ?_
  refine aw_iadd S dJ6_stringSize_0f7a4_45 ?_
  exact aw_ret S hQ (vp_nar_int _) (by decide) (by decide) dJ6_stringSize_0f7a4_46
set_option maxHeartbeats 4000000 in
set_option maxRecDepth 100000 in
theorem s_J6_getChars_ba4f3_L22 {X : kgCX (Int32 × kgM)} {av cap bb : Nat} (hbb : bb ≤ cap) (S : Cx X cJ6_getChars_ba4f3 RJ6 7 0 0 0 0) (hQ : Qxi X (some (av, cap)) .int) (a6 : Int32) {K : Int32 → Int32 → kgM → Option (Int32 × kgM)} (hK : ∀ (z0 : Int32) (z5 : Int32) (J : kgM), AW X 7 0 0 (some (av, cap)) (K z0 z5 J) 72 [(0, .int z0), (2, .ref av), (5, .int z5), (6, .int a6)] [] J) : ∀ (q : Nat) (x0h22 : Int32) (x5h22 : Int32) (Ih22 : kgM), AW X 7 0 0 (some (av, cap)) (f_J6_getChars_ba4f3_L22 bb a6 K q x0h22 x5h22 Ih22) 22 [(0, .int x0h22), (2, .ref av), (5, .int x5h22), (6, .int a6)] [] Ih22 := by
  intro q
  induction q with
  | zero => intros; exact aw_none
  | succ q ih =>
    intro x0h22 x5h22 Ih22
    rw [f_J6_getChars_ba4f3_L22]
    refine aw_iload_n S 0 rfl dJ6_getChars_ba4f3_22 rfl ?_
    refine aw_bipush (v := (-100 : Int32)) S dJ6_getChars_ba4f3_23 (by decide) ?_
    refine aw_icmp_gt (tgt := 72) S dJ6_getChars_ba4f3_25 (by decide) ?_ ?_
    · exact hK x0h22 x5h22 Ih22
    refine aw_iload_n S 0 rfl dJ6_getChars_ba4f3_28 rfl ?_
    refine aw_bipush (v := (100 : Int32)) S dJ6_getChars_ba4f3_29 (by decide) ?_
    refine aw_idivK S dJ6_getChars_ba4f3_31 (by decide) ?_
    refine aw_istore_n (L2 := [(0, .int x0h22), (2, .ref av), (3, .int (x0h22 / (100 : Int32))), (5, .int x5h22), (6, .int a6)]) S [1, 2, 0, 3, 4] dJ6_getChars_ba4f3_32 rfl (by decide) rfl ?_
    refine aw_let (Lf := fun x1 => [(0, .int x0h22), (2, .ref av), (3, .int x1), (5, .int x5h22), (6, .int a6)]) (x0h22 / (100 : Int32)) (fun x1 => ?_)
    refine aw_iload_n S 2 rfl dJ6_getChars_ba4f3_33 rfl ?_
    refine aw_bipush (v := (100 : Int32)) S dJ6_getChars_ba4f3_34 (by decide) ?_
    refine aw_imul S dJ6_getChars_ba4f3_36 ?_
    refine aw_iload_n S 0 rfl dJ6_getChars_ba4f3_37 rfl ?_
    refine aw_isub S dJ6_getChars_ba4f3_38 ?_
    refine aw_istore (L2 := [(0, .int x0h22), (2, .ref av), (3, .int x1), (4, .int ((x1 * (100 : Int32)) - x0h22)), (5, .int x5h22), (6, .int a6)]) S [1, 2, 3, 0, 4, 5] dJ6_getChars_ba4f3_39 (by decide) rfl ?_
    refine aw_let (Lf := fun x2 => [(0, .int x0h22), (2, .ref av), (3, .int x1), (4, .int x2), (5, .int x5h22), (6, .int a6)]) ((x1 * (100 : Int32)) - x0h22) (fun x2 => ?_)
    refine aw_iload_n S 2 rfl dJ6_getChars_ba4f3_41 rfl ?_
    refine aw_istore_n (L2 := [(0, .int x1), (2, .ref av), (3, .int x1), (4, .int x2), (5, .int x5h22), (6, .int a6)]) S [0, 1, 2, 3, 4, 5] dJ6_getChars_ba4f3_42 rfl (by decide) rfl ?_
    refine aw_aload_n S 1 rfl dJ6_getChars_ba4f3_43 rfl ?_
    refine aw_iinc (v := x5h22 + (-1 : Int32)) (L2 := [(0, .int x1), (2, .ref av), (3, .int x1), (4, .int x2), (5, .int (x5h22 + (-1 : Int32))), (6, .int a6)]) S [1, 2, 3, 4, 0, 5] 4 dJ6_getChars_ba4f3_44 rfl rfl (by decide) rfl ?_
    refine aw_let (Lf := fun x3 => [(0, .int x1), (2, .ref av), (3, .int x1), (4, .int x2), (5, .int x3), (6, .int a6)]) (x5h22 + (-1 : Int32)) (fun x3 => ?_)
    refine aw_iload S 4 rfl dJ6_getChars_ba4f3_47 ?_
    refine aw_getDO S tw_473 dJ6_getChars_ba4f3_49 ?_
    refine aw_iload S 3 rfl dJ6_getChars_ba4f3_52 ?_
    refine aw_baldDO S dJ6_getChars_ba4f3_54 ?_
    refine aw_bastB S hbb dJ6_getChars_ba4f3_55 ?_
    refine aw_wr (fun I1 => ?_)
    refine aw_aload_n S 1 rfl dJ6_getChars_ba4f3_56 rfl ?_
    refine aw_iinc (v := x3 + (-1 : Int32)) (L2 := [(0, .int x1), (2, .ref av), (3, .int x1), (4, .int x2), (5, .int (x3 + (-1 : Int32))), (6, .int a6)]) S [1, 2, 3, 4, 0, 5] 4 dJ6_getChars_ba4f3_57 rfl rfl (by decide) rfl ?_
    refine aw_let (Lf := fun x4 => [(0, .int x1), (2, .ref av), (3, .int x1), (4, .int x2), (5, .int x4), (6, .int a6)]) (x3 + (-1 : Int32)) (fun x4 => ?_)
    refine aw_iload S 4 rfl dJ6_getChars_ba4f3_60 ?_
    refine aw_getDT S tw_475 dJ6_getChars_ba4f3_62 ?_
    refine aw_iload S 3 rfl dJ6_getChars_ba4f3_65 ?_
    refine aw_baldDT S dJ6_getChars_ba4f3_67 ?_
    refine aw_bastB S hbb dJ6_getChars_ba4f3_68 ?_
    refine aw_wr (fun I2 => ?_)
    refine aw_goto (tgt := 22) S dJ6_getChars_ba4f3_69 (by decide) ?_
    refine aw_sub (L2 := [(0, .int x1), (2, .ref av), (5, .int x4), (6, .int a6)]) [0, 1, 4, 5] rfl ?_
    exact ih x1 x4 I2
set_option maxHeartbeats 4000000 in
set_option maxRecDepth 100000 in
theorem s_J6_getChars_ba4f3_L22b {X : kgCX (Int32 × kgM)} {av cap bb : Nat} (hbb : bb ≤ cap) (S : Cx X cJ6_getChars_ba4f3 RJ6 7 0 0 0 0) (hQ : Qxi X (some (av, cap)) .int) (a6 : Int32) {K : Int32 → Int32 → kgM → Option (Int32 × kgM)} (hK : ∀ (z0 : Int32) (z5 : Int32) (J : kgM), AW X 7 0 0 (some (av, cap)) (K z0 z5 J) 72 [(0, .int z0), (2, .ref av), (5, .int z5), (6, .int a6)] [] J) : ∀ (q : Nat) (x0h22 : Int32) (x5h22 : Int32) (Ih22 : kgM), AW X 7 0 0 (some (av, cap)) (f_J6_getChars_ba4f3_L22b bb a6 K q x0h22 x5h22 Ih22) 22 [(0, .int x0h22), (2, .ref av), (5, .int x5h22), (6, .int a6)] [] Ih22 := by
  intro q
  induction q with
  | zero => intros; exact aw_none
  | succ q ih =>
    intro x0h22 x5h22 Ih22
    rw [f_J6_getChars_ba4f3_L22b]
    refine aw_iload_n S 0 rfl dJ6_getChars_ba4f3_22 rfl ?_
    refine aw_bipush (v := (-100 : Int32)) S dJ6_getChars_ba4f3_23 (by decide) ?_
    refine aw_icmp_gt (tgt := 72) S dJ6_getChars_ba4f3_25 (by decide) ?_ ?_
    · exact hK x0h22 x5h22 Ih22
    refine aw_iload_n S 0 rfl dJ6_getChars_ba4f3_28 rfl ?_
    refine aw_bipush (v := (100 : Int32)) S dJ6_getChars_ba4f3_29 (by decide) ?_
    refine aw_idivK S dJ6_getChars_ba4f3_31 (by decide) ?_
    refine aw_istore_n (L2 := [(0, .int x0h22), (2, .ref av), (3, .int (x0h22 / (100 : Int32))), (5, .int x5h22), (6, .int a6)]) S [1, 2, 0, 3, 4] dJ6_getChars_ba4f3_32 rfl (by decide) rfl ?_
    refine aw_let (Lf := fun x11 => [(0, .int x0h22), (2, .ref av), (3, .int x11), (5, .int x5h22), (6, .int a6)]) (x0h22 / (100 : Int32)) (fun x11 => ?_)
    refine aw_iload_n S 2 rfl dJ6_getChars_ba4f3_33 rfl ?_
    refine aw_bipush (v := (100 : Int32)) S dJ6_getChars_ba4f3_34 (by decide) ?_
    refine aw_imul S dJ6_getChars_ba4f3_36 ?_
    refine aw_iload_n S 0 rfl dJ6_getChars_ba4f3_37 rfl ?_
    refine aw_isub S dJ6_getChars_ba4f3_38 ?_
    refine aw_istore (L2 := [(0, .int x0h22), (2, .ref av), (3, .int x11), (4, .int ((x11 * (100 : Int32)) - x0h22)), (5, .int x5h22), (6, .int a6)]) S [1, 2, 3, 0, 4, 5] dJ6_getChars_ba4f3_39 (by decide) rfl ?_
    refine aw_let (Lf := fun x12 => [(0, .int x0h22), (2, .ref av), (3, .int x11), (4, .int x12), (5, .int x5h22), (6, .int a6)]) ((x11 * (100 : Int32)) - x0h22) (fun x12 => ?_)
    refine aw_iload_n S 2 rfl dJ6_getChars_ba4f3_41 rfl ?_
    refine aw_istore_n (L2 := [(0, .int x11), (2, .ref av), (3, .int x11), (4, .int x12), (5, .int x5h22), (6, .int a6)]) S [0, 1, 2, 3, 4, 5] dJ6_getChars_ba4f3_42 rfl (by decide) rfl ?_
    refine aw_aload_n S 1 rfl dJ6_getChars_ba4f3_43 rfl ?_
    refine aw_iinc (v := x5h22 + (-1 : Int32)) (L2 := [(0, .int x11), (2, .ref av), (3, .int x11), (4, .int x12), (5, .int (x5h22 + (-1 : Int32))), (6, .int a6)]) S [1, 2, 3, 4, 0, 5] 4 dJ6_getChars_ba4f3_44 rfl rfl (by decide) rfl ?_
    refine aw_let (Lf := fun x13 => [(0, .int x11), (2, .ref av), (3, .int x11), (4, .int x12), (5, .int x13), (6, .int a6)]) (x5h22 + (-1 : Int32)) (fun x13 => ?_)
    refine aw_iload S 4 rfl dJ6_getChars_ba4f3_47 ?_
    refine aw_getDO S tw_473 dJ6_getChars_ba4f3_49 ?_
    refine aw_iload S 3 rfl dJ6_getChars_ba4f3_52 ?_
    refine aw_baldDO S dJ6_getChars_ba4f3_54 ?_
    refine aw_bastB S hbb dJ6_getChars_ba4f3_55 ?_
    refine aw_wr (fun I7 => ?_)
    refine aw_aload_n S 1 rfl dJ6_getChars_ba4f3_56 rfl ?_
    refine aw_iinc (v := x13 + (-1 : Int32)) (L2 := [(0, .int x11), (2, .ref av), (3, .int x11), (4, .int x12), (5, .int (x13 + (-1 : Int32))), (6, .int a6)]) S [1, 2, 3, 4, 0, 5] 4 dJ6_getChars_ba4f3_57 rfl rfl (by decide) rfl ?_
    refine aw_let (Lf := fun x14 => [(0, .int x11), (2, .ref av), (3, .int x11), (4, .int x12), (5, .int x14), (6, .int a6)]) (x13 + (-1 : Int32)) (fun x14 => ?_)
    refine aw_iload S 4 rfl dJ6_getChars_ba4f3_60 ?_
    refine aw_getDT S tw_475 dJ6_getChars_ba4f3_62 ?_
    refine aw_iload S 3 rfl dJ6_getChars_ba4f3_65 ?_
    refine aw_baldDT S dJ6_getChars_ba4f3_67 ?_
    refine aw_bastB S hbb dJ6_getChars_ba4f3_68 ?_
    refine aw_wr (fun I8 => ?_)
    refine aw_goto (tgt := 22) S dJ6_getChars_ba4f3_69 (by decide) ?_
    refine aw_sub (L2 := [(0, .int x11), (2, .ref av), (5, .int x14), (6, .int a6)]) [0, 1, 4, 5] rfl ?_
    exact ih x11 x14 I8
set_option maxHeartbeats 4000000 in
set_option maxRecDepth 100000 in
theorem s_J6_getChars_ba4f3 (hs : kgH) (l : Launch) (av cap bb : Nat) (hbb : bb ≤ cap) (p1 : Int32) (p2 : Int32) (I0 : kgM) : Sdi hs l (some (av, cap)) yJ6_getChars_ba4f3 (kg_ws yJ6_getChars_ba4f3 cJ6_getChars_ba4f3 7 (some .int)) { frames := 0, cells := 0, slots := 0, locals := 0 } [.int p1, .int p2, .ref av] I0 (f_J6_getChars_ba4f3 bb p1 p2 I0) := by
  refine sd_i (av := fun hs => [.int p1, .int p2, .ref av]) (by decide +kernel) (fun hs => Nat.le_of_ble_eq_true rfl) (fun X S hQ => ?_) hs l
  refine aw_sub (L2 := [(0, .int p1), (1, .int p2), (2, .ref av)]) [0, 1, 2] rfl ?_
  unfold f_J6_getChars_ba4f3
  refine aw_iload_n S 1 rfl dJ6_getChars_ba4f3_0 rfl ?_
  refine aw_istore (L2 := [(0, .int p1), (1, .int p2), (2, .ref av), (5, .int p2)]) S [1, 2, 3, 0] dJ6_getChars_ba4f3_1 (by decide) rfl ?_
  refine aw_iload_n S 0 rfl dJ6_getChars_ba4f3_3 rfl ?_
  refine aw_letJ (fun (j12 : Int32 → Option (Int32 × kgM)) => ∀ (y0j12 : Int32), AW X 7 0 0 (some (av, cap)) (j12 y0j12) 12 [(0, .int p1), (2, .ref av), (5, .int p2)] [.int y0j12] I0) ?_ (fun j12 hj12 => ?_)
  · intro y0j12
    refine aw_istore (L2 := [(0, .int p1), (2, .ref av), (5, .int p2), (6, .int y0j12)]) S [1, 2, 3, 0] dJ6_getChars_ba4f3_12 (by decide) rfl ?_
    refine aw_iload S 3 rfl dJ6_getChars_ba4f3_14 ?_
    refine aw_if_ne (y := 0) (tgt := 22) S dJ6_getChars_ba4f3_16 (by decide) ?_ ?_
    · refine s_J6_getChars_ba4f3_L22 hbb S hQ y0j12 (fun x5 x6 I3 => ?_) 200 p1 p2 I0
      refine aw_aload_n S 1 rfl dJ6_getChars_ba4f3_72 rfl ?_
      refine aw_iinc (v := x6 + (-1 : Int32)) (L2 := [(0, .int x5), (2, .ref av), (5, .int (x6 + (-1 : Int32))), (6, .int y0j12)]) S [1, 2, 0, 3] 2 dJ6_getChars_ba4f3_73 rfl rfl (by decide) rfl ?_
      refine aw_let (Lf := fun x7 => [(0, .int x5), (2, .ref av), (5, .int x7), (6, .int y0j12)]) (x6 + (-1 : Int32)) (fun x7 => ?_)
      refine aw_iload S 2 rfl dJ6_getChars_ba4f3_76 ?_
      refine aw_getDO S tw_473 dJ6_getChars_ba4f3_78 ?_
      refine aw_iload_n S 0 rfl dJ6_getChars_ba4f3_81 rfl ?_
      refine aw_ineg S dJ6_getChars_ba4f3_82 ?_
      refine aw_baldDO S dJ6_getChars_ba4f3_83 ?_
      refine aw_bastB S hbb dJ6_getChars_ba4f3_84 ?_
      refine aw_wr (fun I4 => ?_)
      refine aw_iload_n S 0 rfl dJ6_getChars_ba4f3_85 rfl ?_
      refine aw_bipush (v := (-9 : Int32)) S dJ6_getChars_ba4f3_86 (by decide) ?_
      refine aw_letJ (fun (j104 : Int32 → kgM → Option (Int32 × kgM)) => ∀ (x5j104 : Int32) (Ij104 : kgM), AW X 7 0 0 (some (av, cap)) (j104 x5j104 Ij104) 104 [(2, .ref av), (5, .int x5j104), (6, .int y0j12)] [] Ij104) ?_ (fun j104 hj104 => ?_)
      · intro x5j104 Ij104
        refine aw_iload S 2 rfl dJ6_getChars_ba4f3_104 ?_
        refine aw_if_eq (y := 0) (tgt := 118) S dJ6_getChars_ba4f3_106 (by decide) ?_ ?_
        · refine aw_iload S 1 rfl dJ6_getChars_ba4f3_118 ?_
          exact aw_ret S hQ (vp_nar_int _) (by decide) (by decide) dJ6_getChars_ba4f3_120
        refine aw_aload_n S 0 rfl dJ6_getChars_ba4f3_109 rfl ?_
        refine aw_iinc (v := x5j104 + (-1 : Int32)) (L2 := [(2, .ref av), (5, .int (x5j104 + (-1 : Int32))), (6, .int y0j12)]) S [1, 0, 2] 1 dJ6_getChars_ba4f3_110 rfl rfl (by decide) rfl ?_
        refine aw_let (Lf := fun x8 => [(2, .ref av), (5, .int x8), (6, .int y0j12)]) (x5j104 + (-1 : Int32)) (fun x8 => ?_)
        refine aw_iload S 1 rfl dJ6_getChars_ba4f3_113 ?_
        refine aw_bipush (v := (45 : Int32)) S dJ6_getChars_ba4f3_115 (by decide) ?_
        refine aw_bastB S hbb dJ6_getChars_ba4f3_117 ?_
        refine aw_wr (fun I5 => ?_)
        refine aw_iload S 1 rfl dJ6_getChars_ba4f3_118 ?_
        exact aw_ret S hQ (vp_nar_int _) (by decide) (by decide) dJ6_getChars_ba4f3_120
      refine aw_icmp_ge (tgt := 104) S dJ6_getChars_ba4f3_88 (by decide) ?_ ?_
      · refine aw_sub (L2 := [(2, .ref av), (5, .int x7), (6, .int y0j12)]) [1, 2, 3] rfl ?_
        exact hj104 x7 I4
      refine aw_aload_n S 1 rfl dJ6_getChars_ba4f3_91 rfl ?_
      refine aw_iinc (v := x7 + (-1 : Int32)) (L2 := [(0, .int x5), (2, .ref av), (5, .int (x7 + (-1 : Int32))), (6, .int y0j12)]) S [1, 2, 0, 3] 2 dJ6_getChars_ba4f3_92 rfl rfl (by decide) rfl ?_
      refine aw_let (Lf := fun x9 => [(0, .int x5), (2, .ref av), (5, .int x9), (6, .int y0j12)]) (x7 + (-1 : Int32)) (fun x9 => ?_)
      refine aw_iload S 2 rfl dJ6_getChars_ba4f3_95 ?_
      refine aw_getDT S tw_475 dJ6_getChars_ba4f3_97 ?_
      refine aw_iload_n S 0 rfl dJ6_getChars_ba4f3_100 rfl ?_
      refine aw_ineg S dJ6_getChars_ba4f3_101 ?_
      refine aw_baldDT S dJ6_getChars_ba4f3_102 ?_
      refine aw_bastB S hbb dJ6_getChars_ba4f3_103 ?_
      refine aw_wr (fun I6 => ?_)
      refine aw_sub (L2 := [(2, .ref av), (5, .int x9), (6, .int y0j12)]) [1, 2, 3] rfl ?_
      exact hj104 x9 I6
    refine aw_iload_n S 0 rfl dJ6_getChars_ba4f3_19 rfl ?_
    refine aw_ineg S dJ6_getChars_ba4f3_20 ?_
    refine aw_istore_n (L2 := [(0, .int (-p1)), (2, .ref av), (5, .int p2), (6, .int y0j12)]) S [0, 1, 2, 3] dJ6_getChars_ba4f3_21 rfl (by decide) rfl ?_
    refine aw_let (Lf := fun x10 => [(0, .int x10), (2, .ref av), (5, .int p2), (6, .int y0j12)]) (-p1) (fun x10 => ?_)
    refine s_J6_getChars_ba4f3_L22b hbb S hQ y0j12 (fun x15 x16 I9 => ?_) 200 x10 p2 I0
    refine aw_aload_n S 1 rfl dJ6_getChars_ba4f3_72 rfl ?_
    refine aw_iinc (v := x16 + (-1 : Int32)) (L2 := [(0, .int x15), (2, .ref av), (5, .int (x16 + (-1 : Int32))), (6, .int y0j12)]) S [1, 2, 0, 3] 2 dJ6_getChars_ba4f3_73 rfl rfl (by decide) rfl ?_
    refine aw_let (Lf := fun x17 => [(0, .int x15), (2, .ref av), (5, .int x17), (6, .int y0j12)]) (x16 + (-1 : Int32)) (fun x17 => ?_)
    refine aw_iload S 2 rfl dJ6_getChars_ba4f3_76 ?_
    refine aw_getDO S tw_473 dJ6_getChars_ba4f3_78 ?_
    refine aw_iload_n S 0 rfl dJ6_getChars_ba4f3_81 rfl ?_
    refine aw_ineg S dJ6_getChars_ba4f3_82 ?_
    refine aw_baldDO S dJ6_getChars_ba4f3_83 ?_
    refine aw_bastB S hbb dJ6_getChars_ba4f3_84 ?_
    refine aw_wr (fun I10 => ?_)
    refine aw_iload_n S 0 rfl dJ6_getChars_ba4f3_85 rfl ?_
    refine aw_bipush (v := (-9 : Int32)) S dJ6_getChars_ba4f3_86 (by decide) ?_
    refine aw_letJ (fun (j104 : Int32 → kgM → Option (Int32 × kgM)) => ∀ (x5j104 : Int32) (Ij104 : kgM), AW X 7 0 0 (some (av, cap)) (j104 x5j104 Ij104) 104 [(2, .ref av), (5, .int x5j104), (6, .int y0j12)] [] Ij104) ?_ (fun j104 hj104 => ?_)
    · intro x5j104 Ij104
      refine aw_iload S 2 rfl dJ6_getChars_ba4f3_104 ?_
      refine aw_if_eq (y := 0) (tgt := 118) S dJ6_getChars_ba4f3_106 (by decide) ?_ ?_
      · refine aw_iload S 1 rfl dJ6_getChars_ba4f3_118 ?_
        exact aw_ret S hQ (vp_nar_int _) (by decide) (by decide) dJ6_getChars_ba4f3_120
      refine aw_aload_n S 0 rfl dJ6_getChars_ba4f3_109 rfl ?_
      refine aw_iinc (v := x5j104 + (-1 : Int32)) (L2 := [(2, .ref av), (5, .int (x5j104 + (-1 : Int32))), (6, .int y0j12)]) S [1, 0, 2] 1 dJ6_getChars_ba4f3_110 rfl rfl (by decide) rfl ?_
      refine aw_let (Lf := fun x18 => [(2, .ref av), (5, .int x18), (6, .int y0j12)]) (x5j104 + (-1 : Int32)) (fun x18 => ?_)
      refine aw_iload S 1 rfl dJ6_getChars_ba4f3_113 ?_
      refine aw_bipush (v := (45 : Int32)) S dJ6_getChars_ba4f3_115 (by decide) ?_
      refine aw_bastB S hbb dJ6_getChars_ba4f3_117 ?_
      refine aw_wr (fun I11 => ?_)
      refine aw_iload S 1 rfl dJ6_getChars_ba4f3_118 ?_
      exact aw_ret S hQ (vp_nar_int _) (by decide) (by decide) dJ6_getChars_ba4f3_120
    refine aw_icmp_ge (tgt := 104) S dJ6_getChars_ba4f3_88 (by decide) ?_ ?_
    · refine aw_sub (L2 := [(2, .ref av), (5, .int x17), (6, .int y0j12)]) [1, 2, 3] rfl ?_
      exact hj104 x17 I10
    refine aw_aload_n S 1 rfl dJ6_getChars_ba4f3_91 rfl ?_
    refine aw_iinc (v := x17 + (-1 : Int32)) (L2 := [(0, .int x15), (2, .ref av), (5, .int (x17 + (-1 : Int32))), (6, .int y0j12)]) S [1, 2, 0, 3] 2 dJ6_getChars_ba4f3_92 rfl rfl (by decide) rfl ?_
    refine aw_let (Lf := fun x19 => [(0, .int x15), (2, .ref av), (5, .int x19), (6, .int y0j12)]) (x17 + (-1 : Int32)) (fun x19 => ?_)
    refine aw_iload S 2 rfl dJ6_getChars_ba4f3_95 ?_
    refine aw_getDT S tw_475 dJ6_getChars_ba4f3_97 ?_
    refine aw_iload_n S 0 rfl dJ6_getChars_ba4f3_100 rfl ?_
    refine aw_ineg S dJ6_getChars_ba4f3_101 ?_
    refine aw_baldDT S dJ6_getChars_ba4f3_102 ?_
    refine aw_bastB S hbb dJ6_getChars_ba4f3_103 ?_
    refine aw_wr (fun I12 => ?_)
    refine aw_sub (L2 := [(2, .ref av), (5, .int x19), (6, .int y0j12)]) [1, 2, 3] rfl ?_
    exact hj104 x19 I12
  refine aw_if_ge (y := 0) (tgt := 11) S dJ6_getChars_ba4f3_4 (by decide) ?_ ?_
  · refine aw_iconst (v := (0 : Int32)) S dJ6_getChars_ba4f3_11 (by decide) ?_
    refine aw_sub (L2 := [(0, .int p1), (2, .ref av), (5, .int p2)]) [0, 2, 3] rfl ?_
    exact hj12 (0 : Int32)
  refine aw_iconst (v := (1 : Int32)) S dJ6_getChars_ba4f3_7 (by decide) ?_
  refine aw_goto (tgt := 12) S dJ6_getChars_ba4f3_8 (by decide) ?_
  refine aw_sub (L2 := [(0, .int p1), (2, .ref av), (5, .int p2)]) [0, 2, 3] rfl ?_
  exact hj12 (1 : Int32)
set_option maxHeartbeats 4000000 in
set_option maxRecDepth 100000 in
theorem s_J9_max_7cf53 (hs : kgH) (l : Launch) (w : Option (Nat × Nat)) (p1 : Int32) (p2 : Int32) (I0 : kgM) : Sdi hs l w yJ9_max_7cf53 (kg_ws yJ9_max_7cf53 cJ9_max_7cf53 2 (some .int)) { frames := 0, cells := 0, slots := 0, locals := 0 } [.int p1, .int p2] I0 (f_J9_max_7cf53 p1 p2 I0) := by
  refine sd_i (av := fun hs => [.int p1, .int p2]) (by decide +kernel) (fun hs => Nat.le_of_ble_eq_true rfl) (fun X S hQ => ?_) hs l
  refine aw_sub (L2 := [(0, .int p1), (1, .int p2)]) [0, 1] rfl ?_
  unfold f_J9_max_7cf53
  refine aw_iload_n S 0 rfl dJ9_max_7cf53_0 rfl ?_
  refine aw_iload_n S 1 rfl dJ9_max_7cf53_1 rfl ?_
  refine aw_icmp_lt (tgt := 9) S dJ9_max_7cf53_2 (by decide) ?_ ?_
  · refine aw_iload_n S 1 rfl dJ9_max_7cf53_9 rfl ?_
    exact aw_ret S hQ (vp_nar_int _) (by decide) (by decide) dJ9_max_7cf53_10
  refine aw_iload_n S 0 rfl dJ9_max_7cf53_5 rfl ?_
  refine aw_goto (tgt := 10) S dJ9_max_7cf53_6 (by decide) ?_
  exact aw_ret S hQ (vp_nar_int _) (by decide) (by decide) dJ9_max_7cf53_10
set_option maxHeartbeats 4000000 in
set_option maxRecDepth 100000 in
theorem s_J8_newLength_cabcc (hs : kgH) (l : Launch) (w : Option (Nat × Nat)) (p1 : Int32) (p2 : Int32) (p3 : Int32) (I0 : kgM) : Sdi hs l w yJ8_newLength_cabcc (kg_ws yJ8_newLength_cabcc cJ8_newLength_cabcc 4 (some .int)) { frames := 1, cells := 0, slots := 0, locals := 21 } [.int p1, .int p2, .int p3] I0 (f_J8_newLength_cabcc p1 p2 p3 I0) := by
  refine sd_i (av := fun hs => [.int p1, .int p2, .int p3]) (by decide +kernel) (fun hs => Nat.le_of_ble_eq_true rfl) (fun X S hQ => ?_) hs l
  refine aw_sub (L2 := [(0, .int p1), (1, .int p2), (2, .int p3)]) [0, 1, 2] rfl ?_
  unfold f_J8_newLength_cabcc
  refine aw_iload_n S 0 rfl dJ8_newLength_cabcc_0 rfl ?_
  refine aw_iload_n S 1 rfl dJ8_newLength_cabcc_1 rfl ?_
  refine aw_iload_n S 2 rfl dJ8_newLength_cabcc_2 rfl ?_
  refine aw_cSi S [.int p2, .int p3] vw_J9_max_7cf53 tw_422 (s_J9_max_7cf53 _ _ _ p2 p3 I0) ⟨by decide, by decide⟩ rfl rfl (Nat.le_of_ble_eq_true rfl) rfl rfl (by decide) (by decide) dJ8_newLength_cabcc_3 (fun x1 I1 => ?_)
  refine aw_iadd S dJ8_newLength_cabcc_6 ?_
  refine aw_istore_n (L2 := [(0, .int p1), (1, .int p2), (2, .int p3), (3, .int (p1 + x1))]) S [1, 2, 3, 0] dJ8_newLength_cabcc_7 rfl (by decide) rfl ?_
  refine aw_let (Lf := fun x2 => [(0, .int p1), (1, .int p2), (2, .int p3), (3, .int x2)]) (p1 + x1) (fun x2 => ?_)
  refine aw_iconst (v := (0 : Int32)) S dJ8_newLength_cabcc_8 (by decide) ?_
  refine aw_iload_n S 3 rfl dJ8_newLength_cabcc_9 rfl ?_
  refine aw_icmp_ge (tgt := 21) S dJ8_newLength_cabcc_10 (by decide) ?_ ?_
  · refine aw_iload_n S 0 rfl dJ8_newLength_cabcc_21 rfl ?_
    refine aw_iload_n S 1 rfl dJ8_newLength_cabcc_22 rfl ?_
    exact aw_none
  refine aw_iload_n S 3 rfl dJ8_newLength_cabcc_13 rfl ?_
  refine aw_ldc S tw_423 dJ8_newLength_cabcc_14 ?_
  refine aw_icmp_gt (tgt := 21) S dJ8_newLength_cabcc_16 (by decide) ?_ ?_
  · refine aw_iload_n S 0 rfl dJ8_newLength_cabcc_21 rfl ?_
    refine aw_iload_n S 1 rfl dJ8_newLength_cabcc_22 rfl ?_
    exact aw_none
  refine aw_iload_n S 3 rfl dJ8_newLength_cabcc_19 rfl ?_
  exact aw_ret S hQ (vp_nar_int _) (by decide) (by decide) dJ8_newLength_cabcc_20
set_option maxHeartbeats 4000000 in
set_option maxRecDepth 100000 in
theorem s_J5_newCapacity_0f7a4 (hs : kgH) (l : Launch) (av cap bb : Nat) (hbb : bb ≤ cap) (p1 : Int32) (I0 : kgM) : Sdi hs l (some (av, cap)) yJ5_newCapacity_0f7a4 (kg_ws yJ5_newCapacity_0f7a4 cJ5_newCapacity_0f7a4 6 (some .int)) { frames := 2, cells := 0, slots := 0, locals := 44 } [.ref (kgO hs 175), .int p1] I0 (f_J5_newCapacity_0f7a4 cap p1 I0) := by
  refine sd_i (av := fun hs => [.ref (kgO hs 175), .int p1]) (by decide +kernel) (fun hs => Nat.le_of_ble_eq_true rfl) (fun X S hQ => ?_) hs l
  refine aw_sub (L2 := [(0, .ref (kgO (kgHs X) 175)), (1, .int p1)]) [0, 1] rfl ?_
  unfold f_J5_newCapacity_0f7a4
  refine aw_aload_n S 0 rfl dJ5_newCapacity_0f7a4_0 rfl ?_
  refine aw_getB S tw_210 dJ5_newCapacity_0f7a4_1 ?_
  refine aw_alenB S dJ5_newCapacity_0f7a4_4 ?_
  refine aw_istore_n (L2 := [(0, .ref (kgO (kgHs X) 175)), (1, .int p1), (2, .int (Int32.ofNat cap))]) S [1, 2, 0] dJ5_newCapacity_0f7a4_5 rfl (by decide) rfl ?_
  refine aw_let (Lf := fun x1 => [(0, .ref (kgO (kgHs X) 175)), (1, .int p1), (2, .int x1)]) (Int32.ofNat cap) (fun x1 => ?_)
  refine aw_iload_n S 1 rfl dJ5_newCapacity_0f7a4_6 rfl ?_
  refine aw_aload_n S 0 rfl dJ5_newCapacity_0f7a4_7 rfl ?_
  refine aw_getIs S 1 (by decide) (by decide) rfl tw_211 dJ5_newCapacity_0f7a4_8 ?_
  refine aw_ishl S dJ5_newCapacity_0f7a4_11 ?_
  refine aw_istore_n (L2 := [(0, .ref (kgO (kgHs X) 175)), (1, .int p1), (2, .int x1), (3, .int (p1 <<< ((I0 175 1) &&& 31)))]) S [1, 2, 3, 0] dJ5_newCapacity_0f7a4_12 rfl (by decide) rfl ?_
  refine aw_let (Lf := fun x2 => [(0, .ref (kgO (kgHs X) 175)), (1, .int p1), (2, .int x1), (3, .int x2)]) (p1 <<< ((I0 175 1) &&& 31)) (fun x2 => ?_)
  refine aw_iload_n S 3 rfl dJ5_newCapacity_0f7a4_13 rfl ?_
  refine aw_iload_n S 2 rfl dJ5_newCapacity_0f7a4_14 rfl ?_
  refine aw_isub S dJ5_newCapacity_0f7a4_15 ?_
  refine aw_istore (L2 := [(0, .ref (kgO (kgHs X) 175)), (1, .int p1), (2, .int x1), (3, .int x2), (4, .int (x2 - x1))]) S [1, 2, 3, 4, 0] dJ5_newCapacity_0f7a4_16 (by decide) rfl ?_
  refine aw_let (Lf := fun x3 => [(0, .ref (kgO (kgHs X) 175)), (1, .int p1), (2, .int x1), (3, .int x2), (4, .int x3)]) (x2 - x1) (fun x3 => ?_)
  refine aw_iload_n S 2 rfl dJ5_newCapacity_0f7a4_18 rfl ?_
  refine aw_iload S 4 rfl dJ5_newCapacity_0f7a4_19 ?_
  refine aw_iload_n S 2 rfl dJ5_newCapacity_0f7a4_21 rfl ?_
  refine aw_iconst (v := (2 : Int32)) S dJ5_newCapacity_0f7a4_22 (by decide) ?_
  refine aw_aload_n S 0 rfl dJ5_newCapacity_0f7a4_23 rfl ?_
  refine aw_getIs S 1 (by decide) (by decide) rfl tw_211 dJ5_newCapacity_0f7a4_24 ?_
  refine aw_ishl S dJ5_newCapacity_0f7a4_27 ?_
  refine aw_iadd S dJ5_newCapacity_0f7a4_28 ?_
  refine aw_cSi S [.int x1, .int x3, .int (x1 + ((2 : Int32) <<< ((I0 175 1) &&& 31)))] vw_J8_newLength_cabcc tw_419 (s_J8_newLength_cabcc _ _ _ x1 x3 (x1 + ((2 : Int32) <<< ((I0 175 1) &&& 31))) I0) ⟨by decide, by decide⟩ rfl rfl (Nat.le_of_ble_eq_true rfl) rfl rfl (by decide) (by decide) dJ5_newCapacity_0f7a4_29 (fun x4 I1 => ?_)
  refine aw_istore (L2 := [(0, .ref (kgO (kgHs X) 175)), (1, .int p1), (2, .int x1), (3, .int x2), (4, .int x3), (5, .int x4)]) S [1, 2, 3, 4, 5, 0] dJ5_newCapacity_0f7a4_32 (by decide) rfl ?_
  refine aw_iload S 5 rfl dJ5_newCapacity_0f7a4_34 ?_
  refine aw_ldc S tw_427 dJ5_newCapacity_0f7a4_36 ?_
  refine aw_icmp_ne (tgt := 51) S dJ5_newCapacity_0f7a4_38 (by decide) ?_ ?_
  · refine aw_iload S 5 rfl dJ5_newCapacity_0f7a4_51 ?_
    refine aw_aload_n S 0 rfl dJ5_newCapacity_0f7a4_53 rfl ?_
    refine aw_getIs S 1 (by decide) (by decide) rfl tw_211 dJ5_newCapacity_0f7a4_54 ?_
    refine aw_ishr S dJ5_newCapacity_0f7a4_57 ?_
    exact aw_ret S hQ (vp_nar_int _) (by decide) (by decide) dJ5_newCapacity_0f7a4_58
  exact aw_none

