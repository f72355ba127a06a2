/-! THE LAW'S OWN METHODS -/
/-- the script: N numbers, sc -/
def ScOK (hs : kgH) (N : Nat) (sc : Nat → Int32) : Prop := kgX hs 4 = N ∧ ∀ j, nI (kgX hs (5 + j)) = sc j
section SCR
variable {ρ : Type} {X : kgCX ρ} {cc : ByteArray} {own : String} {nL fr lo mc ms ce sl : Nat} {fin : Option ρ} {pc : Nat} {L : List (Nat × Value)} {st : List Value} {I : kgM} {w : Option (Nat × Nat)} {N : Nat} {sc : Nat → Int32}
theorem aw_slen (S : Cx X cc own nL fr lo mc ms) (hS : ScOK (kgHs X) N sc) (hdg : decode cc pc = .ok (.arraylength, 1))
    (kk : AW X nL ce sl w fin (pc + 1) L (.int (Int32.ofNat N) :: st) I) : AW X nL ce sl w fin pc L (.ref (kgX (kgHs X) 3) :: st) I := by
  obtain ⟨p, l, e, R, s, m, args, below, meth, c, hs, Q⟩ := X
  obtain ⟨⟨hx, hb, hml, hown, hts⟩, hR, hK, hE, hlk0⟩ := S
  intro r hr H locs ls a b hl
  have kk1 := kk r hr H locs ls a b hl
  obtain ⟨cell, h1, h2, h3, h4, h5, h6, h7⟩ := hE.2.1.2.2.1.kept b.2.1
  have e : kgX hs 4 = N := hS.1
  rw [e] at h5
  exact W.alen hx hb h1 h2 h5 rfl rfl hdg kk1
theorem aw_sld (S : Cx X cc own nL fr lo mc ms) (hS : ScOK (kgHs X) N sc) {i : Int32} (hdg : decode cc pc = .ok (.iaload, 1))
    (kk : AW X nL ce sl w fin (pc + 1) L (.int (sc i.toNatClampNeg) :: st) I) : AW X nL ce sl w (ck (inb i N) fin) pc L (.int i :: .ref (kgX (kgHs X) 3) :: st) I := by
  obtain ⟨p, l, e, R, s, m, args, below, meth, c, hs, Q⟩ := X
  obtain ⟨⟨hx, hb, hml, hown, hts⟩, hR, hK, hE, hlk0⟩ := S
  intro r hr H locs ls a b hl
  obtain ⟨h0, hr1⟩ := ck_some hr
  have kk1 := kk r hr1 H locs ls a b hl
  obtain ⟨cell, h1, h2, h3, h4, h5, h6, h7⟩ := hE.2.1.2.2.1.kept b.2.1
  have e : kgX hs 4 = N := hS.1
  have e9 : kgX hs 4 < 2 ^ 30 := hE.2.1.2.2.2
  rw [e] at h4 h5 h6 e9
  have hin := inb_in h0
  obtain ⟨q, hq, rfl⟩ := vp_in_of hin (by omega)
  have hcl : (nI q).toNatClampNeg = q := nI_clamp (by omega)
  rw [hcl] at kk1
  refine W.iald hx hb h1 h2 h3 (j := nI q) (v := .int (sc q)) (fun hh => ?_) ?_ rfl rfl hdg kk1
  · rcases hh with hh | hh
    · exact hin (Or.inl hh)
    · have h9 : cell.slots.size ≤ q := by rw [← hcl]; exact hh
      omega
  · rw [hcl, ← hS.2 q]; exact h6 q hq
end SCR
theorem vw_L_cell : kgSW yL_cell cL_cell 2 (some .int) 2 := ⟨tw_621, tw_22, tw_622, by decide +kernel, by decide +kernel⟩
theorem vw_L_some : kgSW yL_some cL_some 3 (some .int) 3 := ⟨tw_618, tw_22, tw_619, by decide +kernel, by decide +kernel⟩
theorem vw_L_build : kgSW yL_build cL_build 5 none 2 := ⟨tw_615, tw_22, tw_616, by decide +kernel, by decide +kernel⟩
theorem vw_L_brings : kgSW yL_brings cL_brings 5 (some .int) 3 := ⟨tw_663, tw_22, tw_664, by decide +kernel, by decide +kernel⟩
theorem vw_L_acts : kgSW yL_acts cL_acts 8 none 3 := ⟨tw_702, tw_22, tw_703, by decide +kernel, by decide +kernel⟩
theorem vw_L_heatUnder : kgSW yL_heatUnder cL_heatUnder 3 (some .int) 2 := ⟨tw_771, tw_22, tw_772, by decide +kernel, by decide +kernel⟩
theorem vw_L_sound : kgSW yL_sound cL_sound 3 (some .int) 2 := ⟨tw_774, tw_22, tw_775, by decide +kernel, by decide +kernel⟩
theorem vw_L_has : kgSW yL_has cL_has 4 (some .boolean) 3 := ⟨tw_778, tw_22, tw_779, by decide +kernel, by decide +kernel⟩
theorem vw_L_isLine : kgSW yL_isLine cL_isLine 4 (some .boolean) 3 := ⟨tw_797, tw_22, tw_798, by decide +kernel, by decide +kernel⟩
def f_L_cell (N : Nat) (sc : Nat → Int32) (p2 : Int32) (I0 : kgM) : Option (Int32 × kgM) :=
    (if (Int32.ofNat N) ≤ p2 then
    some (((7919 : Int32) * p2) + (12 : Int32), I0)
    else
    ck (inb p2 N) (
    some (sc p2.toNatClampNeg, I0)))

def f_L_some (N : Nat) (sc : Nat → Int32) (p2 : Int32) (p3 : Int32) (I0 : kgM) : Option (Int32 × kgM) :=
    bndC (f_L_cell N sc p2 I0) (fun x1 I1 => 
    ck (decide (¬ p3 = 0)) (
    some (((x1.toUInt32 >>> ((3 : Int32).toUInt32 &&& Int32.toUInt32 31)).toInt32) - ((x1.toUInt32 >>> ((3 : Int32).toUInt32 &&& Int32.toUInt32 31)).toInt32) / p3 * p3, I1)))

def f_L_brings_L2 (a1 : Int32) (a2 : Int32) (K : kgM → Option (Int32 × kgM)) : Nat → Int32 → kgM → Option (Int32 × kgM)
  | 0, _, _ => none
  | q + 1, x3h2, Ih2 =>
    (if (12 : Int32) ≤ x3h2 then
    K Ih2
    else
    bnd ((1 : Int32) + ((a1 + x3h2) - (a1 + x3h2) / (12 : Int32) * (12 : Int32))) (fun x1 => 
    bndC (f_X4_owner x1 Ih2) (fun x2 I1 => 
    (if x2 < 0 then
    bnd (x3h2 + (1 : Int32)) (fun x3 => 
    f_L_brings_L2 a1 a2 K q x3 I1)
    else
    bndC (f_X4_owner x1 I1) (fun x4 I2 => 
    bndC (f_X4_kettle x4 x1 a2 I2) (fun x5 I3 => 
    some (x5, I3)))))))

def f_L_brings (p2 : Int32) (p3 : Int32) (I0 : kgM) : Option (Int32 × kgM) :=
    f_L_brings_L2 p2 p3 (fun I4 =>
    some ((-1011 : Int32), I4)) 200 (0 : Int32) I0

def f_L_acts (N : Nat) (sc : Nat → Int32) (p3 : Int32) (I0 : kgM) : Option (Int32 × kgM) :=
    bndC (f_X4_account (0 : Int32) I0) (fun x1 I1 => 
    bndC (f_L_some N sc (p3 + (1 : Int32)) x1 I1) (fun x2 I2 => 
    bndC (f_L_some N sc (p3 + (2 : Int32)) (6 : Int32) I2) (fun x3 I3 => 
    bndC (f_L_some N sc (p3 + (3 : Int32)) (40 : Int32) I3) (fun x4 I4 => 
    bndC (f_L_some N sc p3 (14 : Int32) I4) (fun x5 I5 => 
    (if x5.toInt = 0 then
    (if (8 : Int32) ≤ x1 then
    some ((0 : Int32), I5)
    else
    bndC (f_L_brings (x4 - x4 / (12 : Int32) * (12 : Int32)) (x4 - x4 / (21 : Int32) * (21 : Int32)) I5) (fun x6 I6 => 
    some ((0 : Int32), I6)))
    else
    (if x5.toInt = 1 then
    bndC (f_X4_own (x4 - x4 / (4 : Int32) * (4 : Int32)) ((1 : Int32) + ((x2 + x3) - (x2 + x3) / (12 : Int32) * (12 : Int32))) I5) (fun x7 I7 => 
    some ((0 : Int32), I7))
    else
    (if x5.toInt = 2 then
    bndC (f_X4_set x2 x3 I5) (fun x8 I8 => 
    some ((0 : Int32), I8))
    else
    (if x5.toInt = 3 then
    bndC (f_X4_set x2 x3 I5) (fun x9 I9 => 
    some ((0 : Int32), I9))
    else
    (if x5.toInt = 4 then
    bndC (f_X4_set x2 x3 I5) (fun x10 I10 => 
    some ((0 : Int32), I10))
    else
    (if x5.toInt = 5 then
    bndC (f_X4_off x2 I5) (fun x11 I11 => 
    some ((0 : Int32), I11))
    else
    (if x5.toInt = 6 then
    bndC (f_X4_heat x3 (x4 - x4 / (6 : Int32) * (6 : Int32)) I5) (fun x12 I12 => 
    some ((0 : Int32), I12))
    else
    (if x5.toInt = 7 then
    bndC (f_X4_fill x2 ((1 : Int32) + (x4 - x4 / (20 : Int32) * (20 : Int32))) I5) (fun x13 I13 => 
    some ((0 : Int32), I13))
    else
    (if x5.toInt = 8 then
    bndC (f_X4_lid x2 (x4 - x4 / (2 : Int32) * (2 : Int32)) I5) (fun x14 I14 => 
    some ((0 : Int32), I14))
    else
    (if x5.toInt = 9 then
    bndC (f_X4_appeal (x4 - x4 / (4 : Int32) * (4 : Int32)) x2 I5) (fun x15 I15 => 
    some ((0 : Int32), I15))
    else
    (if x5.toInt = 10 then
    bndC (f_X4_appeal (x4 - x4 / (4 : Int32) * (4 : Int32)) x2 I5) (fun x16 I16 => 
    some ((0 : Int32), I16))
    else
    bndC (f_X4_minute ((1 : Int32) + (x4 - x4 / (6 : Int32) * (6 : Int32))) I5) (fun x17 I17 => 
    some ((0 : Int32), I17))))))))))))))))))

def f_L_build_L12 (N : Nat) (sc : Nat → Int32) (a3 : Int32) (K : kgM → Option (Int32 × kgM)) : Nat → Int32 → kgM → Option (Int32 × kgM)
  | 0, _, _ => none
  | q + 1, x4h12, Ih12 =>
    (if (9 : Int32) ≤ x4h12 then
    K Ih12
    else
    bndC (f_L_some N sc ((1 : Int32) + x4h12) (4 : Int32) Ih12) (fun x3 I2 => 
    bndC (f_L_some N sc (11 : Int32) (12 : Int32) I2) (fun x4 I3 => 
    bndC (f_X4_own x3 ((1 : Int32) + ((x4 + ((5 : Int32) * x4h12)) - (x4 + ((5 : Int32) * x4h12)) / (12 : Int32) * (12 : Int32))) I3) (fun x5 I4 => 
    bnd (x4h12 + (1 : Int32)) (fun x6 => 
    f_L_build_L12 N sc a3 K q x6 I4)))))

def f_L_build_L60 (N : Nat) (sc : Nat → Int32) (a3 : Int32) (K : kgM → Option (Int32 × kgM)) : Nat → Int32 → kgM → Option (Int32 × kgM)
  | 0, _, _ => none
  | q + 1, x4h60, Ih60 =>
    (if a3 ≤ x4h60 then
    K Ih60
    else
    bndC (f_L_some N sc ((13 : Int32) + x4h60) (12 : Int32) Ih60) (fun x7 I6 => 
    bndC (f_L_some N sc ((20 : Int32) + x4h60) (21 : Int32) I6) (fun x8 I7 => 
    bndC (f_L_brings x7 x8 I7) (fun x9 I8 => 
    bnd (x4h60 + (1 : Int32)) (fun x10 => 
    f_L_build_L60 N sc a3 K q x10 I8)))))

def f_L_build_L102 (N : Nat) (sc : Nat → Int32) (a3 : Int32) (K : kgM → Option (Int32 × kgM)) : Nat → Int32 → kgM → Option (Int32 × kgM)
  | 0, _, _ => none
  | q + 1, x4h102, Ih102 =>
    (if (6 : Int32) ≤ x4h102 then
    K Ih102
    else
    bndC (f_L_some N sc ((28 : Int32) + x4h102) (6 : Int32) Ih102) (fun x11 I10 => 
    bndC (f_X4_heat x4h102 x11 I10) (fun x12 I11 => 
    bnd (x4h102 + (1 : Int32)) (fun x13 => 
    f_L_build_L102 N sc a3 K q x13 I11))))

def f_L_build_L136 (N : Nat) (sc : Nat → Int32) (a3 : Int32) (K : kgM → Option (Int32 × kgM)) : Nat → Int32 → kgM → Option (Int32 × kgM)
  | 0, _, _ => none
  | q + 1, x4h136, Ih136 =>
    (if a3 ≤ x4h136 then
    K Ih136
    else
    bndC (f_L_some N sc ((35 : Int32) + x4h136) (6 : Int32) Ih136) (fun x14 I13 => 
    bndC (f_X4_set x4h136 x14 I13) (fun x15 I14 => 
    bnd (x4h136 + (1 : Int32)) (fun x16 => 
    f_L_build_L136 N sc a3 K q x16 I14))))

def f_L_build_L169 (N : Nat) (sc : Nat → Int32)  (K : kgM → Option (Int32 × kgM)) : Nat → Int32 → kgM → Option (Int32 × kgM)
  | 0, _, _ => none
  | q + 1, x4h169, Ih169 =>
    (if (10 : Int32) ≤ x4h169 then
    K Ih169
    else
    bndC (f_L_acts N sc ((43 : Int32) + ((4 : Int32) * x4h169)) Ih169) (fun x17 I16 => 
    bnd (x4h169 + (1 : Int32)) (fun x18 => 
    f_L_build_L169 N sc K q x18 I16)))

def f_L_build (N : Nat) (sc : Nat → Int32)  (I0 : kgM) : Option (Int32 × kgM) :=
    bndC (f_L_some N sc (0 : Int32) (4 : Int32) I0) (fun x1 I1 => 
    bnd ((3 : Int32) + x1) (fun x2 => 
    f_L_build_L12 N sc x2 (fun I5 =>
    f_L_build_L60 N sc x2 (fun I9 =>
    f_L_build_L102 N sc x2 (fun I12 =>
    f_L_build_L136 N sc x2 (fun I15 =>
    f_L_build_L169 N sc (fun I17 =>
    some ((0 : Int32), I17)) 200 (0 : Int32) I15) 200 (0 : Int32) I12) 200 (0 : Int32) I9) 200 (0 : Int32) I5) 200 (0 : Int32) I1))

def f_L_heatUnder (p2 : Int32) (I0 : kgM) : Option (Int32 × kgM) :=
    bndC (f_X4_kettleOf p2 (5 : Int32) I0) (fun x1 I1 => 
    (if 0 ≤ x1 then
    bndC (f_X4_stoveOf x1 (1 : Int32) I1) (fun x2 I2 => 
    some (x2, I2))
    else
    some ((0 : Int32), I1)))

def f_L_sound (p1 : Int32) (p2 : Int32) (I0 : kgM) : Option (Int32 × kgM) :=
    bndC (f_J9_abs_0f7a4 (p1 - p2) I0) (fun x1 I1 => 
    (letJ (
    (if x1 ≤ (6 : Int32) then
    some ((-1 : Int32), I1)
    else
    (if (10 : Int32) ≤ x1 then
    some ((-1 : Int32), I1)
    else
    some ((1 : Int32), I1)))) (fun (j18 : Option (Int32 × kgM)) =>
    (if x1 ≤ (2 : Int32) then
    j18
    else
    (if x1 < (6 : Int32) then
    some ((1 : Int32), I1)
    else
    j18)))))

set_option maxHeartbeats 4000000 in
set_option maxRecDepth 100000 in
theorem s_L_cell (hs : kgH) (l : Launch) (w : Option (Nat × Nat)) (N : Nat) (sc : Nat → Int32) (hS : ScOK hs N sc) (p2 : Int32) (I0 : kgM) : Sdi hs l w yL_cell (kg_ws yL_cell cL_cell 2 (some .int)) { frames := 0, cells := 0, slots := 0, locals := 0 } [.ref (kgX hs 3), .int p2] I0 (f_L_cell N sc p2 I0) := by
  refine sd_iE (av := [.ref (kgX hs 3), .int p2]) (by decide +kernel) (Nat.le_of_ble_eq_true rfl) hs l (fun X hh S hQ => ?_)
  subst hh
  refine aw_sub (L2 := [(0, .ref (kgX (kgHs X) 3)), (1, .int p2)]) [0, 1] rfl ?_
  unfold f_L_cell
  refine aw_iload_n S 1 rfl dL_cell_0 rfl ?_
  refine aw_aload_n S 0 rfl dL_cell_1 rfl ?_
  refine aw_slen S hS dL_cell_2 ?_
  refine aw_icmp_ge (tgt := 12) S dL_cell_3 (by decide) ?_ ?_
  · refine aw_sipush (v := (7919 : Int32)) S dL_cell_12 (by decide) ?_
    refine aw_iload_n S 1 rfl dL_cell_15 rfl ?_
    refine aw_imul S dL_cell_16 ?_
    refine aw_bipush (v := (12 : Int32)) S dL_cell_17 (by decide) ?_
    refine aw_iadd S dL_cell_19 ?_
    exact aw_ret S hQ (vp_nar_int _) (by decide) (by decide) dL_cell_20
  refine aw_aload_n S 0 rfl dL_cell_6 rfl ?_
  refine aw_iload_n S 1 rfl dL_cell_7 rfl ?_
  refine aw_sld S hS dL_cell_8 ?_
  refine aw_goto (tgt := 20) S dL_cell_9 (by decide) ?_
  exact aw_ret S hQ (vp_nar_int _) (by decide) (by decide) dL_cell_20
set_option maxHeartbeats 4000000 in
set_option maxRecDepth 100000 in
theorem s_L_some (hs : kgH) (l : Launch) (w : Option (Nat × Nat)) (N : Nat) (sc : Nat → Int32) (hS : ScOK hs N sc) (p2 : Int32) (p3 : Int32) (I0 : kgM) : Sdi hs l w yL_some (kg_ws yL_some cL_some 3 (some .int)) { frames := 1, cells := 0, slots := 0, locals := 21 } [.ref (kgX hs 3), .int p2, .int p3] I0 (f_L_some N sc p2 p3 I0) := by
  refine sd_iE (av := [.ref (kgX hs 3), .int p2, .int p3]) (by decide +kernel) (Nat.le_of_ble_eq_true rfl) hs l (fun X hh S hQ => ?_)
  subst hh
  refine aw_sub (L2 := [(0, .ref (kgX (kgHs X) 3)), (1, .int p2), (2, .int p3)]) [0, 1, 2] rfl ?_
  unfold f_L_some
  refine aw_aload_n S 0 rfl dL_some_0 rfl ?_
  refine aw_iload_n S 1 rfl dL_some_1 rfl ?_
  refine aw_cSi S [.ref (kgX (kgHs X) 3), .int p2] vw_L_cell tw_620 (s_L_cell _ _ _ N sc hS p2 I0) ⟨by decide, by decide⟩ rfl rfl (Nat.le_of_ble_eq_true rfl) rfl rfl (by decide) (by decide) dL_some_2 (fun x1 I1 => ?_)
  refine aw_iconst (v := (3 : Int32)) S dL_some_5 (by decide) ?_
  refine aw_iushr S dL_some_6 ?_
  refine aw_iload_n S 2 rfl dL_some_7 rfl ?_
  refine aw_irem S dL_some_8 ?_
  exact aw_ret S hQ (vp_nar_int _) (by decide) (by decide) dL_some_9
set_option maxHeartbeats 4000000 in
set_option maxRecDepth 100000 in
theorem s_L_brings_L2 {X : kgCX (Int32 × kgM)} {w : Option (Nat × Nat)} (S : Cx X cL_brings RL 5 5 165 0 0) (hQ : Qxi X w .int) (a1 : Int32) (a2 : Int32) {K : kgM → Option (Int32 × kgM)} (hK : ∀  (J : kgM), AW X 5 0 0 w (K J) 47 [] [] J) : ∀ (q : Nat) (x3h2 : Int32) (Ih2 : kgM), AW X 5 0 0 w (f_L_brings_L2 a1 a2 K q x3h2 Ih2) 2 [(0, .ref (kgO (kgHs X) 0)), (1, .int a1), (2, .int a2), (3, .int x3h2)] [] Ih2 := by
  intro q
  induction q with
  | zero => intros; exact aw_none
  | succ q ih =>
    intro x3h2 Ih2
    rw [f_L_brings_L2]
    refine aw_iload_n S 3 rfl dL_brings_2 rfl ?_
    refine aw_bipush (v := (12 : Int32)) S dL_brings_3 (by decide) ?_
    refine aw_icmp_ge (tgt := 47) S dL_brings_5 (by decide) ?_ ?_
    · refine aw_sub (L2 := []) [] rfl ?_
      exact hK Ih2
    refine aw_iconst (v := (1 : Int32)) S dL_brings_8 (by decide) ?_
    refine aw_iload_n S 1 rfl dL_brings_9 rfl ?_
    refine aw_iload_n S 3 rfl dL_brings_10 rfl ?_
    refine aw_iadd S dL_brings_11 ?_
    refine aw_bipush (v := (12 : Int32)) S dL_brings_12 (by decide) ?_
    refine aw_iremK S dL_brings_14 (by decide) ?_
    refine aw_iadd S dL_brings_15 ?_
    refine aw_istore (L2 := [(0, .ref (kgO (kgHs X) 0)), (1, .int a1), (2, .int a2), (3, .int x3h2), (4, .int ((1 : Int32) + ((a1 + x3h2) - (a1 + x3h2) / (12 : Int32) * (12 : Int32))))]) S [1, 2, 3, 4, 0] dL_brings_16 (by decide) rfl ?_
    refine aw_let (Lf := fun x1 => [(0, .ref (kgO (kgHs X) 0)), (1, .int a1), (2, .int a2), (3, .int x3h2), (4, .int x1)]) ((1 : Int32) + ((a1 + x3h2) - (a1 + x3h2) / (12 : Int32) * (12 : Int32))) (fun x1 => ?_)
    refine aw_aload_n S 0 rfl dL_brings_18 rfl ?_
    refine aw_iload S 4 rfl dL_brings_19 ?_
    refine aw_cVi S 0 [.int x1] vw_X4_owner cl_X4 (by decide) (by decide) tw_246 (s_X4_owner _ _ _ x1 Ih2) ⟨by decide, by decide⟩ rfl rfl (Nat.le_of_ble_eq_true rfl) rfl rfl (by decide) (by decide) dL_brings_21 (fun x2 I1 => ?_)
    refine aw_if_lt (y := 0) (tgt := 41) S dL_brings_24 (by decide) ?_ ?_
    · refine aw_iinc (v := x3h2 + (1 : Int32)) (L2 := [(0, .ref (kgO (kgHs X) 0)), (1, .int a1), (2, .int a2), (3, .int (x3h2 + (1 : Int32))), (4, .int x1)]) S [1, 2, 3, 0, 4] 3 dL_brings_41 rfl rfl (by decide) rfl ?_
      refine aw_let (Lf := fun x3 => [(0, .ref (kgO (kgHs X) 0)), (1, .int a1), (2, .int a2), (3, .int x3), (4, .int x1)]) (x3h2 + (1 : Int32)) (fun x3 => ?_)
      refine aw_goto (tgt := 2) S dL_brings_44 (by decide) ?_
      refine aw_sub (L2 := [(0, .ref (kgO (kgHs X) 0)), (1, .int a1), (2, .int a2), (3, .int x3)]) [0, 1, 2, 3] rfl ?_
      exact ih x3 I1
    refine aw_aload_n S 0 rfl dL_brings_27 rfl ?_
    refine aw_aload_n S 0 rfl dL_brings_28 rfl ?_
    refine aw_iload S 4 rfl dL_brings_29 ?_
    refine aw_cVi S 0 [.int x1] vw_X4_owner cl_X4 (by decide) (by decide) tw_246 (s_X4_owner _ _ _ x1 I1) ⟨by decide, by decide⟩ rfl rfl (Nat.le_of_ble_eq_true rfl) rfl rfl (by decide) (by decide) dL_brings_31 (fun x4 I2 => ?_)
    refine aw_iload S 4 rfl dL_brings_34 ?_
    refine aw_iload_n S 2 rfl dL_brings_36 rfl ?_
    refine aw_cVi S 0 [.int x4, .int x1, .int a2] vw_X4_kettle cl_X4 (by decide) (by decide) tw_665 (s_X4_kettle _ _ _ x4 x1 a2 I2) ⟨by decide, by decide⟩ rfl rfl (Nat.le_of_ble_eq_true rfl) rfl rfl (by decide) (by decide) dL_brings_37 (fun x5 I3 => ?_)
    exact aw_ret S hQ (vp_nar_int _) (by decide) (by decide) dL_brings_40
set_option maxHeartbeats 4000000 in
set_option maxRecDepth 100000 in
theorem s_L_brings (hs : kgH) (l : Launch) (w : Option (Nat × Nat)) (p2 : Int32) (p3 : Int32) (I0 : kgM) : Sdi hs l w yL_brings (kg_ws yL_brings cL_brings 5 (some .int)) { frames := 5, cells := 0, slots := 0, locals := 165 } [.ref (kgO hs 0), .int p2, .int p3] I0 (f_L_brings p2 p3 I0) := by
  refine sd_iE (av := [.ref (kgO hs 0), .int p2, .int p3]) (by decide +kernel) (Nat.le_of_ble_eq_true rfl) hs l (fun X hh S hQ => ?_)
  subst hh
  refine aw_sub (L2 := [(0, .ref (kgO (kgHs X) 0)), (1, .int p2), (2, .int p3)]) [0, 1, 2] rfl ?_
  unfold f_L_brings
  refine aw_iconst (v := (0 : Int32)) S dL_brings_0 (by decide) ?_
  refine aw_istore_n (L2 := [(0, .ref (kgO (kgHs X) 0)), (1, .int p2), (2, .int p3), (3, .int (0 : Int32))]) S [1, 2, 3, 0] dL_brings_1 rfl (by decide) rfl ?_
  refine s_L_brings_L2 S hQ p2 p3 (fun I4 => ?_) 200 (0 : Int32) I0
  refine aw_sipush (v := (-1011 : Int32)) S dL_brings_47 (by decide) ?_
  exact aw_ret S hQ (vp_nar_int _) (by decide) (by decide) dL_brings_50
set_option maxHeartbeats 4000000 in
set_option maxRecDepth 100000 in
theorem s_L_acts (hs : kgH) (l : Launch) (w : Option (Nat × Nat)) (N : Nat) (sc : Nat → Int32) (hS : ScOK hs N sc) (p3 : Int32) (I0 : kgM) : Sdv hs l w yL_acts (kg_ws yL_acts cL_acts 8 none) { frames := 6, cells := 0, slots := 0, locals := 189 } [.ref (kgO hs 0), .ref (kgX hs 3), .int p3] I0 (f_L_acts N sc p3 I0) := by
  refine sd_vE (av := [.ref (kgO hs 0), .ref (kgX hs 3), .int p3]) (by decide +kernel) (Nat.le_of_ble_eq_true rfl) hs l (fun X hh S hQ => ?_)
  subst hh
  refine aw_sub (L2 := [(0, .ref (kgO (kgHs X) 0)), (1, .ref (kgX (kgHs X) 3)), (2, .int p3)]) [0, 1, 2] rfl ?_
  unfold f_L_acts
  refine aw_aload_n S 0 rfl dL_acts_0 rfl ?_
  refine aw_iconst (v := (0 : Int32)) S dL_acts_1 (by decide) ?_
  refine aw_cVi S 0 [.int (0 : Int32)] vw_X4_account cl_X4 (by decide) (by decide) tw_564 (s_X4_account _ _ _ (0 : Int32) I0) ⟨by decide, by decide⟩ rfl rfl (Nat.le_of_ble_eq_true rfl) rfl rfl (by decide) (by decide) dL_acts_2 (fun x1 I1 => ?_)
  refine aw_istore_n (L2 := [(0, .ref (kgO (kgHs X) 0)), (1, .ref (kgX (kgHs X) 3)), (2, .int p3), (3, .int x1)]) S [1, 2, 3, 0] dL_acts_5 rfl (by decide) rfl ?_
  refine aw_aload_n S 1 rfl dL_acts_6 rfl ?_
  refine aw_iload_n S 2 rfl dL_acts_7 rfl ?_
  refine aw_iconst (v := (1 : Int32)) S dL_acts_8 (by decide) ?_
  refine aw_iadd S dL_acts_9 ?_
  refine aw_iload_n S 3 rfl dL_acts_10 rfl ?_
  refine aw_cSi S [.ref (kgX (kgHs X) 3), .int (p3 + (1 : Int32)), .int x1] vw_L_some tw_617 (s_L_some _ _ _ N sc hS (p3 + (1 : Int32)) x1 I1) ⟨by decide, by decide⟩ rfl rfl (Nat.le_of_ble_eq_true rfl) rfl rfl (by decide) (by decide) dL_acts_11 (fun x2 I2 => ?_)
  refine aw_istore (L2 := [(0, .ref (kgO (kgHs X) 0)), (1, .ref (kgX (kgHs X) 3)), (2, .int p3), (3, .int x1), (4, .int x2)]) S [1, 2, 3, 4, 0] dL_acts_14 (by decide) rfl ?_
  refine aw_aload_n S 1 rfl dL_acts_16 rfl ?_
  refine aw_iload_n S 2 rfl dL_acts_17 rfl ?_
  refine aw_iconst (v := (2 : Int32)) S dL_acts_18 (by decide) ?_
  refine aw_iadd S dL_acts_19 ?_
  refine aw_bipush (v := (6 : Int32)) S dL_acts_20 (by decide) ?_
  refine aw_cSi S [.ref (kgX (kgHs X) 3), .int (p3 + (2 : Int32)), .int (6 : Int32)] vw_L_some tw_617 (s_L_some _ _ _ N sc hS (p3 + (2 : Int32)) (6 : Int32) I2) ⟨by decide, by decide⟩ rfl rfl (Nat.le_of_ble_eq_true rfl) rfl rfl (by decide) (by decide) dL_acts_22 (fun x3 I3 => ?_)
  refine aw_istore (L2 := [(0, .ref (kgO (kgHs X) 0)), (1, .ref (kgX (kgHs X) 3)), (2, .int p3), (3, .int x1), (4, .int x2), (5, .int x3)]) S [1, 2, 3, 4, 5, 0] dL_acts_25 (by decide) rfl ?_
  refine aw_aload_n S 1 rfl dL_acts_27 rfl ?_
  refine aw_iload_n S 2 rfl dL_acts_28 rfl ?_
  refine aw_iconst (v := (3 : Int32)) S dL_acts_29 (by decide) ?_
  refine aw_iadd S dL_acts_30 ?_
  refine aw_bipush (v := (40 : Int32)) S dL_acts_31 (by decide) ?_
  refine aw_cSi S [.ref (kgX (kgHs X) 3), .int (p3 + (3 : Int32)), .int (40 : Int32)] vw_L_some tw_617 (s_L_some _ _ _ N sc hS (p3 + (3 : Int32)) (40 : Int32) I3) ⟨by decide, by decide⟩ rfl rfl (Nat.le_of_ble_eq_true rfl) rfl rfl (by decide) (by decide) dL_acts_33 (fun x4 I4 => ?_)
  refine aw_istore (L2 := [(0, .ref (kgO (kgHs X) 0)), (1, .ref (kgX (kgHs X) 3)), (2, .int p3), (3, .int x1), (4, .int x2), (5, .int x3), (6, .int x4)]) S [1, 2, 3, 4, 5, 6, 0] dL_acts_36 (by decide) rfl ?_
  refine aw_aload_n S 1 rfl dL_acts_38 rfl ?_
  refine aw_iload_n S 2 rfl dL_acts_39 rfl ?_
  refine aw_bipush (v := (14 : Int32)) S dL_acts_40 (by decide) ?_
  refine aw_cSi S [.ref (kgX (kgHs X) 3), .int p3, .int (14 : Int32)] vw_L_some tw_617 (s_L_some _ _ _ N sc hS p3 (14 : Int32) I4) ⟨by decide, by decide⟩ rfl rfl (Nat.le_of_ble_eq_true rfl) rfl rfl (by decide) (by decide) dL_acts_42 (fun x5 I5 => ?_)
  refine aw_tableAt (tgt := 104) S 0 dL_acts_45 (by decide) (by decide) rfl (by decide) ?_ (fun n_0 => ?_)
  · refine aw_iload_n S 3 rfl dL_acts_104 rfl ?_
    refine aw_bipush (v := (8 : Int32)) S dL_acts_105 (by decide) ?_
    refine aw_icmp_ge (tgt := 127) S dL_acts_107 (by decide) ?_ ?_
    · refine aw_iconst (v := (0 : Int32)) S dL_acts_127 (by decide) ?_
      refine aw_istore (L2 := [(0, .ref (kgO (kgHs X) 0)), (1, .ref (kgX (kgHs X) 3)), (2, .int p3), (3, .int x1), (4, .int x2), (5, .int x3), (6, .int x4), (7, .int (0 : Int32))]) S [1, 2, 3, 4, 5, 6, 7, 0] dL_acts_128 (by decide) rfl ?_
      refine aw_goto (tgt := 257) S dL_acts_130 (by decide) ?_
      exact aw_retv S hQ (by decide) (by decide) dL_acts_257
    refine aw_aload_n S 0 rfl dL_acts_110 rfl ?_
    refine aw_iload S 6 rfl dL_acts_111 ?_
    refine aw_bipush (v := (12 : Int32)) S dL_acts_113 (by decide) ?_
    refine aw_iremK S dL_acts_115 (by decide) ?_
    refine aw_iload S 6 rfl dL_acts_116 ?_
    refine aw_bipush (v := (21 : Int32)) S dL_acts_118 (by decide) ?_
    refine aw_iremK S dL_acts_120 (by decide) ?_
    refine aw_cSi S [.ref (kgO (kgHs X) 0), .int (x4 - x4 / (12 : Int32) * (12 : Int32)), .int (x4 - x4 / (21 : Int32) * (21 : Int32))] vw_L_brings tw_662 (s_L_brings _ _ _ (x4 - x4 / (12 : Int32) * (12 : Int32)) (x4 - x4 / (21 : Int32) * (21 : Int32)) I5) ⟨by decide, by decide⟩ rfl rfl (Nat.le_of_ble_eq_true rfl) rfl rfl (by decide) (by decide) dL_acts_121 (fun x6 I6 => ?_)
    refine aw_goto (tgt := 128) S dL_acts_124 (by decide) ?_
    refine aw_istore (L2 := [(0, .ref (kgO (kgHs X) 0)), (1, .ref (kgX (kgHs X) 3)), (2, .int p3), (3, .int x1), (4, .int x2), (5, .int x3), (6, .int x4), (7, .int x6)]) S [1, 2, 3, 4, 5, 6, 7, 0] dL_acts_128 (by decide) rfl ?_
    refine aw_goto (tgt := 257) S dL_acts_130 (by decide) ?_
    exact aw_retv S hQ (by decide) (by decide) dL_acts_257
  refine aw_tableAt (tgt := 133) S 1 dL_acts_45 (by decide) (by decide) rfl (by decide) ?_ (fun n_1 => ?_)
  · refine aw_aload_n S 0 rfl dL_acts_133 rfl ?_
    refine aw_iload S 6 rfl dL_acts_134 ?_
    refine aw_iconst (v := (4 : Int32)) S dL_acts_136 (by decide) ?_
    refine aw_iremK S dL_acts_137 (by decide) ?_
    refine aw_iconst (v := (1 : Int32)) S dL_acts_138 (by decide) ?_
    refine aw_iload S 4 rfl dL_acts_139 ?_
    refine aw_iload S 5 rfl dL_acts_141 ?_
    refine aw_iadd S dL_acts_143 ?_
    refine aw_bipush (v := (12 : Int32)) S dL_acts_144 (by decide) ?_
    refine aw_iremK S dL_acts_146 (by decide) ?_
    refine aw_iadd S dL_acts_147 ?_
    refine aw_cVi S 0 [.int (x4 - x4 / (4 : Int32) * (4 : Int32)), .int ((1 : Int32) + ((x2 + x3) - (x2 + x3) / (12 : Int32) * (12 : Int32)))] vw_X4_own cl_X4 (by decide) (by decide) tw_623 (s_X4_own _ _ _ (x4 - x4 / (4 : Int32) * (4 : Int32)) ((1 : Int32) + ((x2 + x3) - (x2 + x3) / (12 : Int32) * (12 : Int32))) I5) ⟨by decide, by decide⟩ rfl rfl (Nat.le_of_ble_eq_true rfl) rfl rfl (by decide) (by decide) dL_acts_148 (fun x7 I7 => ?_)
    refine aw_istore (L2 := [(0, .ref (kgO (kgHs X) 0)), (1, .ref (kgX (kgHs X) 3)), (2, .int p3), (3, .int x1), (4, .int x2), (5, .int x3), (6, .int x4), (7, .int x7)]) S [1, 2, 3, 4, 5, 6, 7, 0] dL_acts_151 (by decide) rfl ?_
    refine aw_goto (tgt := 257) S dL_acts_153 (by decide) ?_
    exact aw_retv S hQ (by decide) (by decide) dL_acts_257
  refine aw_tableAt (tgt := 156) S 2 dL_acts_45 (by decide) (by decide) rfl (by decide) ?_ (fun n_2 => ?_)
  · refine aw_aload_n S 0 rfl dL_acts_156 rfl ?_
    refine aw_iload S 4 rfl dL_acts_157 ?_
    refine aw_iload S 5 rfl dL_acts_159 ?_
    refine aw_cVi S 0 [.int x2, .int x3] vw_X4_set cl_X4 (by decide) (by decide) tw_685 (s_X4_set _ _ _ x2 x3 I5) ⟨by decide, by decide⟩ rfl rfl (Nat.le_of_ble_eq_true rfl) rfl rfl (by decide) (by decide) dL_acts_161 (fun x8 I8 => ?_)
    refine aw_istore (L2 := [(0, .ref (kgO (kgHs X) 0)), (1, .ref (kgX (kgHs X) 3)), (2, .int p3), (3, .int x1), (4, .int x2), (5, .int x3), (6, .int x4), (7, .int x8)]) S [1, 2, 3, 4, 5, 6, 7, 0] dL_acts_164 (by decide) rfl ?_
    refine aw_goto (tgt := 257) S dL_acts_166 (by decide) ?_
    exact aw_retv S hQ (by decide) (by decide) dL_acts_257
  refine aw_tableAt (tgt := 156) S 3 dL_acts_45 (by decide) (by decide) rfl (by decide) ?_ (fun n_3 => ?_)
  · refine aw_aload_n S 0 rfl dL_acts_156 rfl ?_
    refine aw_iload S 4 rfl dL_acts_157 ?_
    refine aw_iload S 5 rfl dL_acts_159 ?_
    refine aw_cVi S 0 [.int x2, .int x3] vw_X4_set cl_X4 (by decide) (by decide) tw_685 (s_X4_set _ _ _ x2 x3 I5) ⟨by decide, by decide⟩ rfl rfl (Nat.le_of_ble_eq_true rfl) rfl rfl (by decide) (by decide) dL_acts_161 (fun x9 I9 => ?_)
    refine aw_istore (L2 := [(0, .ref (kgO (kgHs X) 0)), (1, .ref (kgX (kgHs X) 3)), (2, .int p3), (3, .int x1), (4, .int x2), (5, .int x3), (6, .int x4), (7, .int x9)]) S [1, 2, 3, 4, 5, 6, 7, 0] dL_acts_164 (by decide) rfl ?_
    refine aw_goto (tgt := 257) S dL_acts_166 (by decide) ?_
    exact aw_retv S hQ (by decide) (by decide) dL_acts_257
  refine aw_tableAt (tgt := 156) S 4 dL_acts_45 (by decide) (by decide) rfl (by decide) ?_ (fun n_4 => ?_)
  · refine aw_aload_n S 0 rfl dL_acts_156 rfl ?_
    refine aw_iload S 4 rfl dL_acts_157 ?_
    refine aw_iload S 5 rfl dL_acts_159 ?_
    refine aw_cVi S 0 [.int x2, .int x3] vw_X4_set cl_X4 (by decide) (by decide) tw_685 (s_X4_set _ _ _ x2 x3 I5) ⟨by decide, by decide⟩ rfl rfl (Nat.le_of_ble_eq_true rfl) rfl rfl (by decide) (by decide) dL_acts_161 (fun x10 I10 => ?_)
    refine aw_istore (L2 := [(0, .ref (kgO (kgHs X) 0)), (1, .ref (kgX (kgHs X) 3)), (2, .int p3), (3, .int x1), (4, .int x2), (5, .int x3), (6, .int x4), (7, .int x10)]) S [1, 2, 3, 4, 5, 6, 7, 0] dL_acts_164 (by decide) rfl ?_
    refine aw_goto (tgt := 257) S dL_acts_166 (by decide) ?_
    exact aw_retv S hQ (by decide) (by decide) dL_acts_257
  refine aw_tableAt (tgt := 169) S 5 dL_acts_45 (by decide) (by decide) rfl (by decide) ?_ (fun n_5 => ?_)
  · refine aw_aload_n S 0 rfl dL_acts_169 rfl ?_
    refine aw_iload S 4 rfl dL_acts_170 ?_
    refine aw_cVi S 0 [.int x2] vw_X4_off cl_X4 (by decide) (by decide) tw_704 (s_X4_off _ _ _ x2 I5) ⟨by decide, by decide⟩ rfl rfl (Nat.le_of_ble_eq_true rfl) rfl rfl (by decide) (by decide) dL_acts_172 (fun x11 I11 => ?_)
    refine aw_istore (L2 := [(0, .ref (kgO (kgHs X) 0)), (1, .ref (kgX (kgHs X) 3)), (2, .int p3), (3, .int x1), (4, .int x2), (5, .int x3), (6, .int x4), (7, .int x11)]) S [1, 2, 3, 4, 5, 6, 7, 0] dL_acts_175 (by decide) rfl ?_
    refine aw_goto (tgt := 257) S dL_acts_177 (by decide) ?_
    exact aw_retv S hQ (by decide) (by decide) dL_acts_257
  refine aw_tableAt (tgt := 180) S 6 dL_acts_45 (by decide) (by decide) rfl (by decide) ?_ (fun n_6 => ?_)
  · refine aw_aload_n S 0 rfl dL_acts_180 rfl ?_
    refine aw_iload S 5 rfl dL_acts_181 ?_
    refine aw_iload S 6 rfl dL_acts_183 ?_
    refine aw_bipush (v := (6 : Int32)) S dL_acts_185 (by decide) ?_
    refine aw_iremK S dL_acts_187 (by decide) ?_
    refine aw_cVi S 0 [.int x3, .int (x4 - x4 / (6 : Int32) * (6 : Int32))] vw_X4_heat cl_X4 (by decide) (by decide) tw_677 (s_X4_heat _ _ _ x3 (x4 - x4 / (6 : Int32) * (6 : Int32)) I5) ⟨by decide, by decide⟩ rfl rfl (Nat.le_of_ble_eq_true rfl) rfl rfl (by decide) (by decide) dL_acts_188 (fun x12 I12 => ?_)
    refine aw_istore (L2 := [(0, .ref (kgO (kgHs X) 0)), (1, .ref (kgX (kgHs X) 3)), (2, .int p3), (3, .int x1), (4, .int x2), (5, .int x3), (6, .int x4), (7, .int x12)]) S [1, 2, 3, 4, 5, 6, 7, 0] dL_acts_191 (by decide) rfl ?_
    refine aw_goto (tgt := 257) S dL_acts_193 (by decide) ?_
    exact aw_retv S hQ (by decide) (by decide) dL_acts_257
  refine aw_tableAt (tgt := 196) S 7 dL_acts_45 (by decide) (by decide) rfl (by decide) ?_ (fun n_7 => ?_)
  · refine aw_aload_n S 0 rfl dL_acts_196 rfl ?_
    refine aw_iload S 4 rfl dL_acts_197 ?_
    refine aw_iconst (v := (1 : Int32)) S dL_acts_199 (by decide) ?_
    refine aw_iload S 6 rfl dL_acts_200 ?_
    refine aw_bipush (v := (20 : Int32)) S dL_acts_202 (by decide) ?_
    refine aw_iremK S dL_acts_204 (by decide) ?_
    refine aw_iadd S dL_acts_205 ?_
    refine aw_cVi S 0 [.int x2, .int ((1 : Int32) + (x4 - x4 / (20 : Int32) * (20 : Int32)))] vw_X4_fill cl_X4 (by decide) (by decide) tw_712 (s_X4_fill _ _ _ x2 ((1 : Int32) + (x4 - x4 / (20 : Int32) * (20 : Int32))) I5) ⟨by decide, by decide⟩ rfl rfl (Nat.le_of_ble_eq_true rfl) rfl rfl (by decide) (by decide) dL_acts_206 (fun x13 I13 => ?_)
    refine aw_istore (L2 := [(0, .ref (kgO (kgHs X) 0)), (1, .ref (kgX (kgHs X) 3)), (2, .int p3), (3, .int x1), (4, .int x2), (5, .int x3), (6, .int x4), (7, .int x13)]) S [1, 2, 3, 4, 5, 6, 7, 0] dL_acts_209 (by decide) rfl ?_
    refine aw_goto (tgt := 257) S dL_acts_211 (by decide) ?_
    exact aw_retv S hQ (by decide) (by decide) dL_acts_257
  refine aw_tableAt (tgt := 214) S 8 dL_acts_45 (by decide) (by decide) rfl (by decide) ?_ (fun n_8 => ?_)
  · refine aw_aload_n S 0 rfl dL_acts_214 rfl ?_
    refine aw_iload S 4 rfl dL_acts_215 ?_
    refine aw_iload S 6 rfl dL_acts_217 ?_
    refine aw_iconst (v := (2 : Int32)) S dL_acts_219 (by decide) ?_
    refine aw_iremK S dL_acts_220 (by decide) ?_
    refine aw_cVi S 0 [.int x2, .int (x4 - x4 / (2 : Int32) * (2 : Int32))] vw_X4_lid cl_X4 (by decide) (by decide) tw_720 (s_X4_lid _ _ _ x2 (x4 - x4 / (2 : Int32) * (2 : Int32)) I5) ⟨by decide, by decide⟩ rfl rfl (Nat.le_of_ble_eq_true rfl) rfl rfl (by decide) (by decide) dL_acts_221 (fun x14 I14 => ?_)
    refine aw_istore (L2 := [(0, .ref (kgO (kgHs X) 0)), (1, .ref (kgX (kgHs X) 3)), (2, .int p3), (3, .int x1), (4, .int x2), (5, .int x3), (6, .int x4), (7, .int x14)]) S [1, 2, 3, 4, 5, 6, 7, 0] dL_acts_224 (by decide) rfl ?_
    refine aw_goto (tgt := 257) S dL_acts_226 (by decide) ?_
    exact aw_retv S hQ (by decide) (by decide) dL_acts_257
  refine aw_tableAt (tgt := 229) S 9 dL_acts_45 (by decide) (by decide) rfl (by decide) ?_ (fun n_9 => ?_)
  · refine aw_aload_n S 0 rfl dL_acts_229 rfl ?_
    refine aw_iload S 6 rfl dL_acts_230 ?_
    refine aw_iconst (v := (4 : Int32)) S dL_acts_232 (by decide) ?_
    refine aw_iremK S dL_acts_233 (by decide) ?_
    refine aw_iload S 4 rfl dL_acts_234 ?_
    refine aw_cVi S 0 [.int (x4 - x4 / (4 : Int32) * (4 : Int32)), .int x2] vw_X4_appeal cl_X4 (by decide) (by decide) tw_728 (s_X4_appeal _ _ _ (x4 - x4 / (4 : Int32) * (4 : Int32)) x2 I5) ⟨by decide, by decide⟩ rfl rfl (Nat.le_of_ble_eq_true rfl) rfl rfl (by decide) (by decide) dL_acts_236 (fun x15 I15 => ?_)
    refine aw_istore (L2 := [(0, .ref (kgO (kgHs X) 0)), (1, .ref (kgX (kgHs X) 3)), (2, .int p3), (3, .int x1), (4, .int x2), (5, .int x3), (6, .int x4), (7, .int x15)]) S [1, 2, 3, 4, 5, 6, 7, 0] dL_acts_239 (by decide) rfl ?_
    refine aw_goto (tgt := 257) S dL_acts_241 (by decide) ?_
    exact aw_retv S hQ (by decide) (by decide) dL_acts_257
  refine aw_tableAt (tgt := 229) S 10 dL_acts_45 (by decide) (by decide) rfl (by decide) ?_ (fun n_10 => ?_)
  · refine aw_aload_n S 0 rfl dL_acts_229 rfl ?_
    refine aw_iload S 6 rfl dL_acts_230 ?_
    refine aw_iconst (v := (4 : Int32)) S dL_acts_232 (by decide) ?_
    refine aw_iremK S dL_acts_233 (by decide) ?_
    refine aw_iload S 4 rfl dL_acts_234 ?_
    refine aw_cVi S 0 [.int (x4 - x4 / (4 : Int32) * (4 : Int32)), .int x2] vw_X4_appeal cl_X4 (by decide) (by decide) tw_728 (s_X4_appeal _ _ _ (x4 - x4 / (4 : Int32) * (4 : Int32)) x2 I5) ⟨by decide, by decide⟩ rfl rfl (Nat.le_of_ble_eq_true rfl) rfl rfl (by decide) (by decide) dL_acts_236 (fun x16 I16 => ?_)
    refine aw_istore (L2 := [(0, .ref (kgO (kgHs X) 0)), (1, .ref (kgX (kgHs X) 3)), (2, .int p3), (3, .int x1), (4, .int x2), (5, .int x3), (6, .int x4), (7, .int x16)]) S [1, 2, 3, 4, 5, 6, 7, 0] dL_acts_239 (by decide) rfl ?_
    refine aw_goto (tgt := 257) S dL_acts_241 (by decide) ?_
    exact aw_retv S hQ (by decide) (by decide) dL_acts_257
  refine aw_tableD (tgt := 244) S [0, 1, 2, 3, 4, 5, 6, 7, 8, 9, 10] dL_acts_45 (by decide) (by decide) (by intro v hv; simp only [List.mem_cons, List.not_mem_nil, or_false] at hv; rcases hv with rfl | rfl | rfl | rfl | rfl | rfl | rfl | rfl | rfl | rfl | rfl <;> assumption) (by decide) ?_
  refine aw_aload_n S 0 rfl dL_acts_244 rfl ?_
  refine aw_iconst (v := (1 : Int32)) S dL_acts_245 (by decide) ?_
  refine aw_iload S 6 rfl dL_acts_246 ?_
  refine aw_bipush (v := (6 : Int32)) S dL_acts_248 (by decide) ?_
  refine aw_iremK S dL_acts_250 (by decide) ?_
  refine aw_iadd S dL_acts_251 ?_
  refine aw_cVi S 0 [.int ((1 : Int32) + (x4 - x4 / (6 : Int32) * (6 : Int32)))] vw_X4_minute cl_X4 (by decide) (by decide) tw_740 (s_X4_minute _ _ _ ((1 : Int32) + (x4 - x4 / (6 : Int32) * (6 : Int32))) I5) ⟨by decide, by decide⟩ rfl rfl (Nat.le_of_ble_eq_true rfl) rfl rfl (by decide) (by decide) dL_acts_252 (fun x17 I17 => ?_)
  refine aw_istore (L2 := [(0, .ref (kgO (kgHs X) 0)), (1, .ref (kgX (kgHs X) 3)), (2, .int p3), (3, .int x1), (4, .int x2), (5, .int x3), (6, .int x4), (7, .int x17)]) S [1, 2, 3, 4, 5, 6, 7, 0] dL_acts_255 (by decide) rfl ?_
  exact aw_retv S hQ (by decide) (by decide) dL_acts_257
set_option maxHeartbeats 4000000 in
set_option maxRecDepth 100000 in
theorem s_L_build_L12 {X : kgCX (Int32 × kgM)} {w : Option (Nat × Nat)} (S : Cx X cL_build RL 5 7 216 0 0) (hQ : Qxv X w) (N : Nat) (sc : Nat → Int32) (hS : ScOK (kgHs X) N sc) (a3 : Int32) {K : kgM → Option (Int32 × kgM)} (hK : ∀  (J : kgM), AW X 5 0 0 w (K J) 57 [(0, .ref (kgO (kgHs X) 0)), (1, .ref (kgX (kgHs X) 3)), (3, .int a3)] [] J) : ∀ (q : Nat) (x4h12 : Int32) (Ih12 : kgM), AW X 5 0 0 w (f_L_build_L12 N sc a3 K q x4h12 Ih12) 12 [(0, .ref (kgO (kgHs X) 0)), (1, .ref (kgX (kgHs X) 3)), (3, .int a3), (4, .int x4h12)] [] Ih12 := by
  intro q
  induction q with
  | zero => intros; exact aw_none
  | succ q ih =>
    intro x4h12 Ih12
    rw [f_L_build_L12]
    refine aw_iload S 3 rfl dL_build_12 ?_
    refine aw_bipush (v := (9 : Int32)) S dL_build_14 (by decide) ?_
    refine aw_icmp_ge (tgt := 57) S dL_build_16 (by decide) ?_ ?_
    · refine aw_sub (L2 := [(0, .ref (kgO (kgHs X) 0)), (1, .ref (kgX (kgHs X) 3)), (3, .int a3)]) [0, 1, 2] rfl ?_
      exact hK Ih12
    refine aw_aload_n S 0 rfl dL_build_19 rfl ?_
    refine aw_aload_n S 1 rfl dL_build_20 rfl ?_
    refine aw_iconst (v := (1 : Int32)) S dL_build_21 (by decide) ?_
    refine aw_iload S 3 rfl dL_build_22 ?_
    refine aw_iadd S dL_build_24 ?_
    refine aw_iconst (v := (4 : Int32)) S dL_build_25 (by decide) ?_
    refine aw_cSi S [.ref (kgX (kgHs X) 3), .int ((1 : Int32) + x4h12), .int (4 : Int32)] vw_L_some tw_617 (s_L_some _ _ _ N sc hS ((1 : Int32) + x4h12) (4 : Int32) Ih12) ⟨by decide, by decide⟩ rfl rfl (Nat.le_of_ble_eq_true rfl) rfl rfl (by decide) (by decide) dL_build_26 (fun x3 I2 => ?_)
    refine aw_iconst (v := (1 : Int32)) S dL_build_29 (by decide) ?_
    refine aw_aload_n S 1 rfl dL_build_30 rfl ?_
    refine aw_bipush (v := (11 : Int32)) S dL_build_31 (by decide) ?_
    refine aw_bipush (v := (12 : Int32)) S dL_build_33 (by decide) ?_
    refine aw_cSi S [.ref (kgX (kgHs X) 3), .int (11 : Int32), .int (12 : Int32)] vw_L_some tw_617 (s_L_some _ _ _ N sc hS (11 : Int32) (12 : Int32) I2) ⟨by decide, by decide⟩ rfl rfl (Nat.le_of_ble_eq_true rfl) rfl rfl (by decide) (by decide) dL_build_35 (fun x4 I3 => ?_)
    refine aw_iconst (v := (5 : Int32)) S dL_build_38 (by decide) ?_
    refine aw_iload S 3 rfl dL_build_39 ?_
    refine aw_imul S dL_build_41 ?_
    refine aw_iadd S dL_build_42 ?_
    refine aw_bipush (v := (12 : Int32)) S dL_build_43 (by decide) ?_
    refine aw_iremK S dL_build_45 (by decide) ?_
    refine aw_iadd S dL_build_46 ?_
    refine aw_cVi S 0 [.int x3, .int ((1 : Int32) + ((x4 + ((5 : Int32) * x4h12)) - (x4 + ((5 : Int32) * x4h12)) / (12 : Int32) * (12 : Int32)))] vw_X4_own cl_X4 (by decide) (by decide) tw_623 (s_X4_own _ _ _ x3 ((1 : Int32) + ((x4 + ((5 : Int32) * x4h12)) - (x4 + ((5 : Int32) * x4h12)) / (12 : Int32) * (12 : Int32))) I3) ⟨by decide, by decide⟩ rfl rfl (Nat.le_of_ble_eq_true rfl) rfl rfl (by decide) (by decide) dL_build_47 (fun x5 I4 => ?_)
    refine aw_istore_n (L2 := [(0, .ref (kgO (kgHs X) 0)), (1, .ref (kgX (kgHs X) 3)), (2, .int x5), (3, .int a3), (4, .int x4h12)]) S [1, 2, 0, 3, 4] dL_build_50 rfl (by decide) rfl ?_
    refine aw_iinc (v := x4h12 + (1 : Int32)) (L2 := [(0, .ref (kgO (kgHs X) 0)), (1, .ref (kgX (kgHs X) 3)), (2, .int x5), (3, .int a3), (4, .int (x4h12 + (1 : Int32)))]) S [1, 2, 3, 4, 0] 4 dL_build_51 rfl rfl (by decide) rfl ?_
    refine aw_let (Lf := fun x6 => [(0, .ref (kgO (kgHs X) 0)), (1, .ref (kgX (kgHs X) 3)), (2, .int x5), (3, .int a3), (4, .int x6)]) (x4h12 + (1 : Int32)) (fun x6 => ?_)
    refine aw_goto (tgt := 12) S dL_build_54 (by decide) ?_
    refine aw_sub (L2 := [(0, .ref (kgO (kgHs X) 0)), (1, .ref (kgX (kgHs X) 3)), (3, .int a3), (4, .int x6)]) [0, 1, 3, 4] rfl ?_
    exact ih x6 I4
set_option maxHeartbeats 4000000 in
set_option maxRecDepth 100000 in
theorem s_L_build_L60 {X : kgCX (Int32 × kgM)} {w : Option (Nat × Nat)} (S : Cx X cL_build RL 5 7 216 0 0) (hQ : Qxv X w) (N : Nat) (sc : Nat → Int32) (hS : ScOK (kgHs X) N sc) (a3 : Int32) {K : kgM → Option (Int32 × kgM)} (hK : ∀  (J : kgM), AW X 5 0 0 w (K J) 99 [(0, .ref (kgO (kgHs X) 0)), (1, .ref (kgX (kgHs X) 3)), (3, .int a3)] [] J) : ∀ (q : Nat) (x4h60 : Int32) (Ih60 : kgM), AW X 5 0 0 w (f_L_build_L60 N sc a3 K q x4h60 Ih60) 60 [(0, .ref (kgO (kgHs X) 0)), (1, .ref (kgX (kgHs X) 3)), (3, .int a3), (4, .int x4h60)] [] Ih60 := by
  intro q
  induction q with
  | zero => intros; exact aw_none
  | succ q ih =>
    intro x4h60 Ih60
    rw [f_L_build_L60]
    refine aw_iload S 3 rfl dL_build_60 ?_
    refine aw_iload_n S 2 rfl dL_build_62 rfl ?_
    refine aw_icmp_ge (tgt := 99) S dL_build_63 (by decide) ?_ ?_
    · refine aw_sub (L2 := [(0, .ref (kgO (kgHs X) 0)), (1, .ref (kgX (kgHs X) 3)), (3, .int a3)]) [0, 1, 2] rfl ?_
      exact hK Ih60
    refine aw_aload_n S 0 rfl dL_build_66 rfl ?_
    refine aw_aload_n S 1 rfl dL_build_67 rfl ?_
    refine aw_bipush (v := (13 : Int32)) S dL_build_68 (by decide) ?_
    refine aw_iload S 3 rfl dL_build_70 ?_
    refine aw_iadd S dL_build_72 ?_
    refine aw_bipush (v := (12 : Int32)) S dL_build_73 (by decide) ?_
    refine aw_cSi S [.ref (kgX (kgHs X) 3), .int ((13 : Int32) + x4h60), .int (12 : Int32)] vw_L_some tw_617 (s_L_some _ _ _ N sc hS ((13 : Int32) + x4h60) (12 : Int32) Ih60) ⟨by decide, by decide⟩ rfl rfl (Nat.le_of_ble_eq_true rfl) rfl rfl (by decide) (by decide) dL_build_75 (fun x7 I6 => ?_)
    refine aw_aload_n S 1 rfl dL_build_78 rfl ?_
    refine aw_bipush (v := (20 : Int32)) S dL_build_79 (by decide) ?_
    refine aw_iload S 3 rfl dL_build_81 ?_
    refine aw_iadd S dL_build_83 ?_
    refine aw_bipush (v := (21 : Int32)) S dL_build_84 (by decide) ?_
    refine aw_cSi S [.ref (kgX (kgHs X) 3), .int ((20 : Int32) + x4h60), .int (21 : Int32)] vw_L_some tw_617 (s_L_some _ _ _ N sc hS ((20 : Int32) + x4h60) (21 : Int32) I6) ⟨by decide, by decide⟩ rfl rfl (Nat.le_of_ble_eq_true rfl) rfl rfl (by decide) (by decide) dL_build_86 (fun x8 I7 => ?_)
    refine aw_cSi S [.ref (kgO (kgHs X) 0), .int x7, .int x8] vw_L_brings tw_662 (s_L_brings _ _ _ x7 x8 I7) ⟨by decide, by decide⟩ rfl rfl (Nat.le_of_ble_eq_true rfl) rfl rfl (by decide) (by decide) dL_build_89 (fun x9 I8 => ?_)
    refine aw_istore_n (L2 := [(0, .ref (kgO (kgHs X) 0)), (1, .ref (kgX (kgHs X) 3)), (2, .int x9), (3, .int a3), (4, .int x4h60)]) S [1, 2, 0, 3, 4] dL_build_92 rfl (by decide) rfl ?_
    refine aw_iinc (v := x4h60 + (1 : Int32)) (L2 := [(0, .ref (kgO (kgHs X) 0)), (1, .ref (kgX (kgHs X) 3)), (2, .int x9), (3, .int a3), (4, .int (x4h60 + (1 : Int32)))]) S [1, 2, 3, 4, 0] 4 dL_build_93 rfl rfl (by decide) rfl ?_
    refine aw_let (Lf := fun x10 => [(0, .ref (kgO (kgHs X) 0)), (1, .ref (kgX (kgHs X) 3)), (2, .int x9), (3, .int a3), (4, .int x10)]) (x4h60 + (1 : Int32)) (fun x10 => ?_)
    refine aw_goto (tgt := 60) S dL_build_96 (by decide) ?_
    refine aw_sub (L2 := [(0, .ref (kgO (kgHs X) 0)), (1, .ref (kgX (kgHs X) 3)), (3, .int a3), (4, .int x10)]) [0, 1, 3, 4] rfl ?_
    exact ih x10 I8
set_option maxHeartbeats 4000000 in
set_option maxRecDepth 100000 in
theorem s_L_build_L102 {X : kgCX (Int32 × kgM)} {w : Option (Nat × Nat)} (S : Cx X cL_build RL 5 7 216 0 0) (hQ : Qxv X w) (N : Nat) (sc : Nat → Int32) (hS : ScOK (kgHs X) N sc) (a3 : Int32) {K : kgM → Option (Int32 × kgM)} (hK : ∀  (J : kgM), AW X 5 0 0 w (K J) 133 [(0, .ref (kgO (kgHs X) 0)), (1, .ref (kgX (kgHs X) 3)), (3, .int a3)] [] J) : ∀ (q : Nat) (x4h102 : Int32) (Ih102 : kgM), AW X 5 0 0 w (f_L_build_L102 N sc a3 K q x4h102 Ih102) 102 [(0, .ref (kgO (kgHs X) 0)), (1, .ref (kgX (kgHs X) 3)), (3, .int a3), (4, .int x4h102)] [] Ih102 := by
  intro q
  induction q with
  | zero => intros; exact aw_none
  | succ q ih =>
    intro x4h102 Ih102
    rw [f_L_build_L102]
    refine aw_iload S 3 rfl dL_build_102 ?_
    refine aw_bipush (v := (6 : Int32)) S dL_build_104 (by decide) ?_
    refine aw_icmp_ge (tgt := 133) S dL_build_106 (by decide) ?_ ?_
    · refine aw_sub (L2 := [(0, .ref (kgO (kgHs X) 0)), (1, .ref (kgX (kgHs X) 3)), (3, .int a3)]) [0, 1, 2] rfl ?_
      exact hK Ih102
    refine aw_aload_n S 0 rfl dL_build_109 rfl ?_
    refine aw_iload S 3 rfl dL_build_110 ?_
    refine aw_aload_n S 1 rfl dL_build_112 rfl ?_
    refine aw_bipush (v := (28 : Int32)) S dL_build_113 (by decide) ?_
    refine aw_iload S 3 rfl dL_build_115 ?_
    refine aw_iadd S dL_build_117 ?_
    refine aw_bipush (v := (6 : Int32)) S dL_build_118 (by decide) ?_
    refine aw_cSi S [.ref (kgX (kgHs X) 3), .int ((28 : Int32) + x4h102), .int (6 : Int32)] vw_L_some tw_617 (s_L_some _ _ _ N sc hS ((28 : Int32) + x4h102) (6 : Int32) Ih102) ⟨by decide, by decide⟩ rfl rfl (Nat.le_of_ble_eq_true rfl) rfl rfl (by decide) (by decide) dL_build_120 (fun x11 I10 => ?_)
    refine aw_cVi S 0 [.int x4h102, .int x11] vw_X4_heat cl_X4 (by decide) (by decide) tw_677 (s_X4_heat _ _ _ x4h102 x11 I10) ⟨by decide, by decide⟩ rfl rfl (Nat.le_of_ble_eq_true rfl) rfl rfl (by decide) (by decide) dL_build_123 (fun x12 I11 => ?_)
    refine aw_istore_n (L2 := [(0, .ref (kgO (kgHs X) 0)), (1, .ref (kgX (kgHs X) 3)), (2, .int x12), (3, .int a3), (4, .int x4h102)]) S [1, 2, 0, 3, 4] dL_build_126 rfl (by decide) rfl ?_
    refine aw_iinc (v := x4h102 + (1 : Int32)) (L2 := [(0, .ref (kgO (kgHs X) 0)), (1, .ref (kgX (kgHs X) 3)), (2, .int x12), (3, .int a3), (4, .int (x4h102 + (1 : Int32)))]) S [1, 2, 3, 4, 0] 4 dL_build_127 rfl rfl (by decide) rfl ?_
    refine aw_let (Lf := fun x13 => [(0, .ref (kgO (kgHs X) 0)), (1, .ref (kgX (kgHs X) 3)), (2, .int x12), (3, .int a3), (4, .int x13)]) (x4h102 + (1 : Int32)) (fun x13 => ?_)
    refine aw_goto (tgt := 102) S dL_build_130 (by decide) ?_
    refine aw_sub (L2 := [(0, .ref (kgO (kgHs X) 0)), (1, .ref (kgX (kgHs X) 3)), (3, .int a3), (4, .int x13)]) [0, 1, 3, 4] rfl ?_
    exact ih x13 I11
set_option maxHeartbeats 4000000 in
set_option maxRecDepth 100000 in
theorem s_L_build_L136 {X : kgCX (Int32 × kgM)} {w : Option (Nat × Nat)} (S : Cx X cL_build RL 5 7 216 0 0) (hQ : Qxv X w) (N : Nat) (sc : Nat → Int32) (hS : ScOK (kgHs X) N sc) (a3 : Int32) {K : kgM → Option (Int32 × kgM)} (hK : ∀  (J : kgM), AW X 5 0 0 w (K J) 166 [(0, .ref (kgO (kgHs X) 0)), (1, .ref (kgX (kgHs X) 3))] [] J) : ∀ (q : Nat) (x4h136 : Int32) (Ih136 : kgM), AW X 5 0 0 w (f_L_build_L136 N sc a3 K q x4h136 Ih136) 136 [(0, .ref (kgO (kgHs X) 0)), (1, .ref (kgX (kgHs X) 3)), (3, .int a3), (4, .int x4h136)] [] Ih136 := by
  intro q
  induction q with
  | zero => intros; exact aw_none
  | succ q ih =>
    intro x4h136 Ih136
    rw [f_L_build_L136]
    refine aw_iload S 3 rfl dL_build_136 ?_
    refine aw_iload_n S 2 rfl dL_build_138 rfl ?_
    refine aw_icmp_ge (tgt := 166) S dL_build_139 (by decide) ?_ ?_
    · refine aw_sub (L2 := [(0, .ref (kgO (kgHs X) 0)), (1, .ref (kgX (kgHs X) 3))]) [0, 1] rfl ?_
      exact hK Ih136
    refine aw_aload_n S 0 rfl dL_build_142 rfl ?_
    refine aw_iload S 3 rfl dL_build_143 ?_
    refine aw_aload_n S 1 rfl dL_build_145 rfl ?_
    refine aw_bipush (v := (35 : Int32)) S dL_build_146 (by decide) ?_
    refine aw_iload S 3 rfl dL_build_148 ?_
    refine aw_iadd S dL_build_150 ?_
    refine aw_bipush (v := (6 : Int32)) S dL_build_151 (by decide) ?_
    refine aw_cSi S [.ref (kgX (kgHs X) 3), .int ((35 : Int32) + x4h136), .int (6 : Int32)] vw_L_some tw_617 (s_L_some _ _ _ N sc hS ((35 : Int32) + x4h136) (6 : Int32) Ih136) ⟨by decide, by decide⟩ rfl rfl (Nat.le_of_ble_eq_true rfl) rfl rfl (by decide) (by decide) dL_build_153 (fun x14 I13 => ?_)
    refine aw_cVi S 0 [.int x4h136, .int x14] vw_X4_set cl_X4 (by decide) (by decide) tw_685 (s_X4_set _ _ _ x4h136 x14 I13) ⟨by decide, by decide⟩ rfl rfl (Nat.le_of_ble_eq_true rfl) rfl rfl (by decide) (by decide) dL_build_156 (fun x15 I14 => ?_)
    refine aw_istore_n (L2 := [(0, .ref (kgO (kgHs X) 0)), (1, .ref (kgX (kgHs X) 3)), (2, .int x15), (3, .int a3), (4, .int x4h136)]) S [1, 2, 0, 3, 4] dL_build_159 rfl (by decide) rfl ?_
    refine aw_iinc (v := x4h136 + (1 : Int32)) (L2 := [(0, .ref (kgO (kgHs X) 0)), (1, .ref (kgX (kgHs X) 3)), (2, .int x15), (3, .int a3), (4, .int (x4h136 + (1 : Int32)))]) S [1, 2, 3, 4, 0] 4 dL_build_160 rfl rfl (by decide) rfl ?_
    refine aw_let (Lf := fun x16 => [(0, .ref (kgO (kgHs X) 0)), (1, .ref (kgX (kgHs X) 3)), (2, .int x15), (3, .int a3), (4, .int x16)]) (x4h136 + (1 : Int32)) (fun x16 => ?_)
    refine aw_goto (tgt := 136) S dL_build_163 (by decide) ?_
    refine aw_sub (L2 := [(0, .ref (kgO (kgHs X) 0)), (1, .ref (kgX (kgHs X) 3)), (3, .int a3), (4, .int x16)]) [0, 1, 3, 4] rfl ?_
    exact ih x16 I14
set_option maxHeartbeats 4000000 in
set_option maxRecDepth 100000 in
theorem s_L_build_L169 {X : kgCX (Int32 × kgM)} {w : Option (Nat × Nat)} (S : Cx X cL_build RL 5 7 216 0 0) (hQ : Qxv X w) (N : Nat) (sc : Nat → Int32) (hS : ScOK (kgHs X) N sc)  {K : kgM → Option (Int32 × kgM)} (hK : ∀  (J : kgM), AW X 5 0 0 w (K J) 194 [] [] J) : ∀ (q : Nat) (x4h169 : Int32) (Ih169 : kgM), AW X 5 0 0 w (f_L_build_L169 N sc K q x4h169 Ih169) 169 [(0, .ref (kgO (kgHs X) 0)), (1, .ref (kgX (kgHs X) 3)), (4, .int x4h169)] [] Ih169 := by
  intro q
  induction q with
  | zero => intros; exact aw_none
  | succ q ih =>
    intro x4h169 Ih169
    rw [f_L_build_L169]
    refine aw_iload S 2 rfl dL_build_169 ?_
    refine aw_bipush (v := (10 : Int32)) S dL_build_171 (by decide) ?_
    refine aw_icmp_ge (tgt := 194) S dL_build_173 (by decide) ?_ ?_
    · refine aw_sub (L2 := []) [] rfl ?_
      exact hK Ih169
    refine aw_aload_n S 0 rfl dL_build_176 rfl ?_
    refine aw_aload_n S 1 rfl dL_build_177 rfl ?_
    refine aw_bipush (v := (43 : Int32)) S dL_build_178 (by decide) ?_
    refine aw_iconst (v := (4 : Int32)) S dL_build_180 (by decide) ?_
    refine aw_iload S 2 rfl dL_build_181 ?_
    refine aw_imul S dL_build_183 ?_
    refine aw_iadd S dL_build_184 ?_
    refine aw_cSv S [.ref (kgO (kgHs X) 0), .ref (kgX (kgHs X) 3), .int ((43 : Int32) + ((4 : Int32) * x4h169))] vw_L_acts tw_701 (s_L_acts _ _ _ N sc hS ((43 : Int32) + ((4 : Int32) * x4h169)) Ih169) ⟨by decide, by decide⟩ rfl rfl (Nat.le_of_ble_eq_true rfl) rfl rfl (by decide) (by decide) dL_build_185 (fun x17 I16 => ?_)
    refine aw_iinc (v := x4h169 + (1 : Int32)) (L2 := [(0, .ref (kgO (kgHs X) 0)), (1, .ref (kgX (kgHs X) 3)), (4, .int (x4h169 + (1 : Int32)))]) S [1, 2, 0] 2 dL_build_188 rfl rfl (by decide) rfl ?_
    refine aw_let (Lf := fun x18 => [(0, .ref (kgO (kgHs X) 0)), (1, .ref (kgX (kgHs X) 3)), (4, .int x18)]) (x4h169 + (1 : Int32)) (fun x18 => ?_)
    refine aw_goto (tgt := 169) S dL_build_191 (by decide) ?_
    exact ih x18 I16
set_option maxHeartbeats 4000000 in
set_option maxRecDepth 100000 in
theorem s_L_build (hs : kgH) (l : Launch) (w : Option (Nat × Nat)) (N : Nat) (sc : Nat → Int32) (hS : ScOK hs N sc)  (I0 : kgM) : Sdv hs l w yL_build (kg_ws yL_build cL_build 5 none) { frames := 7, cells := 0, slots := 0, locals := 216 } [.ref (kgO hs 0), .ref (kgX hs 3)] I0 (f_L_build N sc I0) := by
  refine sd_vE (av := [.ref (kgO hs 0), .ref (kgX hs 3)]) (by decide +kernel) (Nat.le_of_ble_eq_true rfl) hs l (fun X hh S hQ => ?_)
  subst hh
  refine aw_sub (L2 := [(0, .ref (kgO (kgHs X) 0)), (1, .ref (kgX (kgHs X) 3))]) [0, 1] rfl ?_
  unfold f_L_build
  refine aw_iconst (v := (3 : Int32)) S dL_build_0 (by decide) ?_
  refine aw_aload_n S 1 rfl dL_build_1 rfl ?_
  refine aw_iconst (v := (0 : Int32)) S dL_build_2 (by decide) ?_
  refine aw_iconst (v := (4 : Int32)) S dL_build_3 (by decide) ?_
  refine aw_cSi S [.ref (kgX (kgHs X) 3), .int (0 : Int32), .int (4 : Int32)] vw_L_some tw_617 (s_L_some _ _ _ N sc hS (0 : Int32) (4 : Int32) I0) ⟨by decide, by decide⟩ rfl rfl (Nat.le_of_ble_eq_true rfl) rfl rfl (by decide) (by decide) dL_build_4 (fun x1 I1 => ?_)
  refine aw_iadd S dL_build_7 ?_
  refine aw_istore_n (L2 := [(0, .ref (kgO (kgHs X) 0)), (1, .ref (kgX (kgHs X) 3)), (3, .int ((3 : Int32) + x1))]) S [1, 2, 0] dL_build_8 rfl (by decide) rfl ?_
  refine aw_let (Lf := fun x2 => [(0, .ref (kgO (kgHs X) 0)), (1, .ref (kgX (kgHs X) 3)), (3, .int x2)]) ((3 : Int32) + x1) (fun x2 => ?_)
  refine aw_iconst (v := (0 : Int32)) S dL_build_9 (by decide) ?_
  refine aw_istore (L2 := [(0, .ref (kgO (kgHs X) 0)), (1, .ref (kgX (kgHs X) 3)), (3, .int x2), (4, .int (0 : Int32))]) S [1, 2, 3, 0] dL_build_10 (by decide) rfl ?_
  refine s_L_build_L12 S hQ N sc hS x2 (fun I5 => ?_) 200 (0 : Int32) I1
  refine aw_iconst (v := (0 : Int32)) S dL_build_57 (by decide) ?_
  refine aw_istore (L2 := [(0, .ref (kgO (kgHs X) 0)), (1, .ref (kgX (kgHs X) 3)), (3, .int x2), (4, .int (0 : Int32))]) S [1, 2, 3, 0] dL_build_58 (by decide) rfl ?_
  refine s_L_build_L60 S hQ N sc hS x2 (fun I9 => ?_) 200 (0 : Int32) I5
  refine aw_iconst (v := (0 : Int32)) S dL_build_99 (by decide) ?_
  refine aw_istore (L2 := [(0, .ref (kgO (kgHs X) 0)), (1, .ref (kgX (kgHs X) 3)), (3, .int x2), (4, .int (0 : Int32))]) S [1, 2, 3, 0] dL_build_100 (by decide) rfl ?_
  refine s_L_build_L102 S hQ N sc hS x2 (fun I12 => ?_) 200 (0 : Int32) I9
  refine aw_iconst (v := (0 : Int32)) S dL_build_133 (by decide) ?_
  refine aw_istore (L2 := [(0, .ref (kgO (kgHs X) 0)), (1, .ref (kgX (kgHs X) 3)), (3, .int x2), (4, .int (0 : Int32))]) S [1, 2, 3, 0] dL_build_134 (by decide) rfl ?_
  refine s_L_build_L136 S hQ N sc hS x2 (fun I15 => ?_) 200 (0 : Int32) I12
  refine aw_iconst (v := (0 : Int32)) S dL_build_166 (by decide) ?_
  refine aw_istore (L2 := [(0, .ref (kgO (kgHs X) 0)), (1, .ref (kgX (kgHs X) 3)), (4, .int (0 : Int32))]) S [1, 2, 0] dL_build_167 (by decide) rfl ?_
  refine s_L_build_L169 S hQ N sc hS  (fun I17 => ?_) 200 (0 : Int32) I15
  exact aw_retv S hQ (by decide) (by decide) dL_build_194
set_option maxHeartbeats 4000000 in
set_option maxRecDepth 100000 in
theorem s_L_heatUnder (hs : kgH) (l : Launch) (w : Option (Nat × Nat)) (p2 : Int32) (I0 : kgM) : Sdi hs l w yL_heatUnder (kg_ws yL_heatUnder cL_heatUnder 3 (some .int)) { frames := 5, cells := 0, slots := 0, locals := 108 } [.ref (kgO hs 0), .int p2] I0 (f_L_heatUnder p2 I0) := by
  refine sd_iE (av := [.ref (kgO hs 0), .int p2]) (by decide +kernel) (Nat.le_of_ble_eq_true rfl) hs l (fun X hh S hQ => ?_)
  subst hh
  refine aw_sub (L2 := [(0, .ref (kgO (kgHs X) 0)), (1, .int p2)]) [0, 1] rfl ?_
  unfold f_L_heatUnder
  refine aw_aload_n S 0 rfl dL_heatUnder_0 rfl ?_
  refine aw_iload_n S 1 rfl dL_heatUnder_1 rfl ?_
  refine aw_iconst (v := (5 : Int32)) S dL_heatUnder_2 (by decide) ?_
  refine aw_cVi S 0 [.int p2, .int (5 : Int32)] vw_X4_kettleOf cl_X4 (by decide) (by decide) tw_256 (s_X4_kettleOf _ _ _ p2 (5 : Int32) I0) ⟨by decide, by decide⟩ rfl rfl (Nat.le_of_ble_eq_true rfl) rfl rfl (by decide) (by decide) dL_heatUnder_3 (fun x1 I1 => ?_)
  refine aw_istore_n (L2 := [(0, .ref (kgO (kgHs X) 0)), (1, .int p2), (2, .int x1)]) S [1, 2, 0] dL_heatUnder_6 rfl (by decide) rfl ?_
  refine aw_iload_n S 2 rfl dL_heatUnder_7 rfl ?_
  refine aw_if_ge (y := 0) (tgt := 15) S dL_heatUnder_8 (by decide) ?_ ?_
  · refine aw_aload_n S 0 rfl dL_heatUnder_15 rfl ?_
    refine aw_iload_n S 2 rfl dL_heatUnder_16 rfl ?_
    refine aw_iconst (v := (1 : Int32)) S dL_heatUnder_17 (by decide) ?_
    refine aw_cVi S 0 [.int x1, .int (1 : Int32)] vw_X4_stoveOf cl_X4 (by decide) (by decide) tw_290 (s_X4_stoveOf _ _ _ x1 (1 : Int32) I1) ⟨by decide, by decide⟩ rfl rfl (Nat.le_of_ble_eq_true rfl) rfl rfl (by decide) (by decide) dL_heatUnder_18 (fun x2 I2 => ?_)
    exact aw_ret S hQ (vp_nar_int _) (by decide) (by decide) dL_heatUnder_21
  refine aw_iconst (v := (0 : Int32)) S dL_heatUnder_11 (by decide) ?_
  refine aw_goto (tgt := 21) S dL_heatUnder_12 (by decide) ?_
  exact aw_ret S hQ (vp_nar_int _) (by decide) (by decide) dL_heatUnder_21
set_option maxHeartbeats 4000000 in
set_option maxRecDepth 100000 in
theorem s_L_sound (hs : kgH) (l : Launch) (w : Option (Nat × Nat)) (p1 : Int32) (p2 : Int32) (I0 : kgM) : Sdi hs l w yL_sound (kg_ws yL_sound cL_sound 3 (some .int)) { frames := 1, cells := 0, slots := 0, locals := 20 } [.int p1, .int p2] I0 (f_L_sound p1 p2 I0) := by
  refine sd_iE (av := [.int p1, .int p2]) (by decide +kernel) (Nat.le_of_ble_eq_true rfl) hs l (fun X hh S hQ => ?_)
  subst hh
  refine aw_sub (L2 := [(0, .int p1), (1, .int p2)]) [0, 1] rfl ?_
  unfold f_L_sound
  refine aw_iload_n S 0 rfl dL_sound_0 rfl ?_
  refine aw_iload_n S 1 rfl dL_sound_1 rfl ?_
  refine aw_isub S dL_sound_2 ?_
  refine aw_cSi S [.int (p1 - p2)] vw_J9_abs_0f7a4 tw_776 (s_J9_abs_0f7a4 _ _ _ (p1 - p2) I0) ⟨by decide, by decide⟩ rfl rfl (Nat.le_of_ble_eq_true rfl) rfl rfl (by decide) (by decide) dL_sound_3 (fun x1 I1 => ?_)
  refine aw_istore_n (L2 := [(0, .int p1), (1, .int p2), (2, .int x1)]) S [1, 2, 0] dL_sound_6 rfl (by decide) rfl ?_
  refine aw_iload_n S 2 rfl dL_sound_7 rfl ?_
  refine aw_iconst (v := (2 : Int32)) S dL_sound_8 (by decide) ?_
  refine aw_letJ (fun (j18 : Option (Int32 × kgM)) => AW X 3 0 0 w j18 18 [(2, .int x1)] [] I1) ?_ (fun j18 hj18 => ?_)
  · skip
    refine aw_iload_n S 0 rfl dL_sound_18 rfl ?_
    refine aw_bipush (v := (6 : Int32)) S dL_sound_19 (by decide) ?_
    refine aw_icmp_le (tgt := 34) S dL_sound_21 (by decide) ?_ ?_
    · refine aw_iconst (v := (-1 : Int32)) S dL_sound_34 (by decide) ?_
      exact aw_ret S hQ (vp_nar_int _) (by decide) (by decide) dL_sound_35
    refine aw_iload_n S 0 rfl dL_sound_24 rfl ?_
    refine aw_bipush (v := (10 : Int32)) S dL_sound_25 (by decide) ?_
    refine aw_icmp_ge (tgt := 34) S dL_sound_27 (by decide) ?_ ?_
    · refine aw_iconst (v := (-1 : Int32)) S dL_sound_34 (by decide) ?_
      exact aw_ret S hQ (vp_nar_int _) (by decide) (by decide) dL_sound_35
    refine aw_iconst (v := (1 : Int32)) S dL_sound_30 (by decide) ?_
    refine aw_goto (tgt := 35) S dL_sound_31 (by decide) ?_
    exact aw_ret S hQ (vp_nar_int _) (by decide) (by decide) dL_sound_35
  refine aw_icmp_le (tgt := 18) S dL_sound_9 (by decide) ?_ ?_
  · refine aw_sub (L2 := [(2, .int x1)]) [2] rfl ?_
    exact hj18
  refine aw_iload_n S 2 rfl dL_sound_12 rfl ?_
  refine aw_bipush (v := (6 : Int32)) S dL_sound_13 (by decide) ?_
  refine aw_icmp_lt (tgt := 30) S dL_sound_15 (by decide) ?_ ?_
  · refine aw_iconst (v := (1 : Int32)) S dL_sound_30 (by decide) ?_
    refine aw_goto (tgt := 35) S dL_sound_31 (by decide) ?_
    exact aw_ret S hQ (vp_nar_int _) (by decide) (by decide) dL_sound_35
  refine aw_sub (L2 := [(2, .int x1)]) [2] rfl ?_
  exact hj18
