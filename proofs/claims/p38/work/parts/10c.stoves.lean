def f_X4_tellStoves_L10  (K : kgM → Option (Int32 × kgM)) : Nat → Int32 → kgM → Option (Int32 × kgM)
  | 0, _, _ => none
  | q + 1, x1h10, Ih10 =>
    (if (6 : Int32) ≤ x1h10 then
    K Ih10
    else
    ck (inb x1h10 6) (
    bndC (f_addI (Ih10 6 x1h10.toNatClampNeg) Ih10) (fun x2 I2 => 
    bndC (f_X3_kettleOn x1h10 I2) (fun x3 I3 => 
    (if x3 = (-1 : Int32) then
    bnd (x1h10 + (1 : Int32)) (fun x4 => 
    f_X4_tellStoves_L10 K q x4 I3)
    else
    bndC (f_addC (40 : Int32) I3) (fun x5 I4 => 
    bndC (f_addI x3 I4) (fun x6 I5 => 
    bndC (f_addC (41 : Int32) I5) (fun x7 I6 => 
    bnd (x1h10 + (1 : Int32)) (fun x8 => 
    f_X4_tellStoves_L10 K q x8 I6)))))))))

def f_X4_tellStoves  (I0 : kgM) : Option (Int32 × kgM) :=
    bndC (f_setL I0) (fun x1 I1 => 
    f_X4_tellStoves_L10 (fun I7 =>
    bndC (f_J5_length_8abf5 I7) (fun x9 I8 => 
    some (x9, I8))) 200 (0 : Int32) I1)

theorem aw_letE {ρ : Type} {X : kgCX ρ} {nL ce sl : Nat} {pc : Nat} {st : List Value} {I : kgM} {w : Option (Nat × Nat)} {f : Int32 → Option ρ} {Lf : Int32 → List (Nat × Value)} (v : Int32) (k : ∀ x, x = v → AW X nL ce sl w (f x) pc (Lf x) st I) : AW X nL ce sl w (bnd v f) pc (Lf v) st I := k v rfl
theorem st_small : ∀ i, i < 7 → ((6 : Int32) ≤ nI i → i = 6) ∧ (¬ (6 : Int32) ≤ nI i → i < 6) ∧ nI i + 1 = nI (i + 1) := by decide +kernel
set_option maxHeartbeats 4000000 in
set_option maxRecDepth 100000 in
theorem s_X4_tellStoves_L10 {X : kgCX (Int32 × kgM)}  (S : Cx X cX4_tellStoves RX4 3 8 251 25 850) (hLn : kgO (kgHs X) 184 = kgO (kgHs X) 175) (hQ : Qxi X none .int)  {K : kgM → Option (Int32 × kgM)} (hK : ∀  (J : kgM), AW X 3 25 850 none (K J) 72 [(0, .ref (kgO (kgHs X) 0))] [] J) : ∀ (q : Nat) (x1h10 : Int32) (Ih10 : kgM) (i : Nat), i < 7 → x1h10 = nI i → AW X 3 (1 + 4 * i) (34 * (1 + 4 * i)) none (f_X4_tellStoves_L10 K q x1h10 Ih10) 10 [(0, .ref (kgO (kgHs X) 0)), (1, .int x1h10)] [] Ih10 := by
  intro q
  induction q with
  | zero => intros; exact aw_none
  | succ q ih =>
    intro x1h10 Ih10 i hi hx
    obtain ⟨s1, s2, s3⟩ := st_small i hi
    rw [f_X4_tellStoves_L10]
    refine aw_iload_n S 1 rfl dX4_tellStoves_10 rfl ?_
    refine aw_bipush (v := (6 : Int32)) S dX4_tellStoves_11 (by decide) ?_
    by_cases h6 : (6 : Int32) ≤ x1h10
    · rw [if_pos h6]
      refine aw_icmp_geT (tgt := 72) S dX4_tellStoves_13 (by decide) h6 ?_
      refine aw_sub (L2 := [(0, .ref (kgO (kgHs X) 0))]) [0] rfl ?_
      refine aw_widen (k := 25) (n := 850) (by omega) (by omega) ?_
      exact hK Ih10
    rw [if_neg h6]
    have hi6 : i < 6 := s2 (by rw [← hx]; exact h6)
    refine aw_icmp_geF (tgt := 72) S dX4_tellStoves_13 (by decide) h6 ?_
    refine aw_aload_n S 0 rfl dX4_tellStoves_16 rfl ?_
    refine aw_getLn S hLn tw_230 dX4_tellStoves_17 ?_
    refine aw_aload_n S 0 rfl dX4_tellStoves_20 rfl ?_
    refine aw_getR S 0 0 1 cl_X4 (by decide) (by decide) (by decide) (by decide) (by decide) rfl tw_225 dX4_tellStoves_21 ?_
    refine aw_getR S 1 4 6 cl_X3 (by decide) (by decide) (by decide) (by decide) (by decide) rfl tw_66 dX4_tellStoves_24 ?_
    refine aw_iload_n S 1 rfl dX4_tellStoves_27 rfl ?_
    refine aw_iald S 6 6 (by decide) (by decide) dX4_tellStoves_28 ?_
    refine aw_cVr S 175 [.int (Ih10 6 x1h10.toNatClampNeg)] vw_J4_append_bf812 cl_J4 (by decide) (by decide) tw_460 (s_J4_addI _ _ (Ih10 6 x1h10.toNatClampNeg) Ih10) ⟨by decide, by decide⟩ rfl rfl (Nat.le_of_ble_eq_true rfl) rfl rfl (by omega) (by omega) dX4_tellStoves_29 (fun x2 I2 => ?_)
    refine aw_pop S dX4_tellStoves_32 rfl ?_
    refine aw_aload_n S 0 rfl dX4_tellStoves_33 rfl ?_
    refine aw_getR S 0 0 1 cl_X4 (by decide) (by decide) (by decide) (by decide) (by decide) rfl tw_225 dX4_tellStoves_34 ?_
    refine aw_iload_n S 1 rfl dX4_tellStoves_37 rfl ?_
    refine aw_cVi S 1 [.int x1h10] vw_X3_kettleOn cl_X3 (by decide) (by decide) tw_297 (s_X3_kettleOn _ _ _ x1h10 I2) ⟨by decide, by decide⟩ rfl rfl (Nat.le_of_ble_eq_true rfl) rfl rfl (by omega) (by omega) dX4_tellStoves_38 (fun x3 I3 => ?_)
    refine aw_istore_n (L2 := [(0, .ref (kgO (kgHs X) 0)), (1, .int x1h10), (2, .int x3)]) S [1, 2, 0] dX4_tellStoves_41 rfl (by decide) rfl ?_
    refine aw_iload_n S 2 rfl dX4_tellStoves_42 rfl ?_
    refine aw_iconst (v := (-1 : Int32)) S dX4_tellStoves_43 (by decide) ?_
    refine aw_icmp_eq (tgt := 66) S dX4_tellStoves_44 (by decide) ?_ ?_
    · refine aw_iinc (v := x1h10 + (1 : Int32)) (L2 := [(0, .ref (kgO (kgHs X) 0)), (1, .int (x1h10 + (1 : Int32))), (2, .int x3)]) S [1, 0, 2] 1 dX4_tellStoves_66 rfl rfl (by decide) rfl ?_
      refine aw_letE (Lf := fun x4 => [(0, .ref (kgO (kgHs X) 0)), (1, .int x4), (2, .int x3)]) (x1h10 + (1 : Int32)) (fun x4 hx2 => ?_)
      refine aw_goto (tgt := 10) S dX4_tellStoves_69 (by decide) ?_
      refine aw_sub (L2 := [(0, .ref (kgO (kgHs X) 0)), (1, .int x4)]) [0, 1] rfl ?_
      exact aw_widen (k := 1 + 4 * (i + 1)) (n := 34 * (1 + 4 * (i + 1))) (by omega) (by omega) (ih x4 I3 (i + 1) (by omega) (by rw [hx2, hx]; exact s3))
    refine aw_aload_n S 0 rfl dX4_tellStoves_47 rfl ?_
    refine aw_getLn S hLn tw_230 dX4_tellStoves_48 ?_
    refine aw_bipush (v := (40 : Int32)) S dX4_tellStoves_51 (by decide) ?_
    refine aw_cVr S 175 [.int (40 : Int32)] vw_J4_append_cf468 cl_J4 (by decide) (by decide) tw_508 (s_J4_addC _ _ (40 : Int32) I3) ⟨by decide, by decide⟩ rfl rfl (Nat.le_of_ble_eq_true rfl) rfl rfl (by omega) (by omega) dX4_tellStoves_53 (fun x5 I4 => ?_)
    refine aw_iload_n S 2 rfl dX4_tellStoves_56 rfl ?_
    refine aw_cVr S 175 [.int x3] vw_J4_append_bf812 cl_J4 (by decide) (by decide) tw_460 (s_J4_addI _ _ x3 I4) ⟨by decide, by decide⟩ rfl rfl (Nat.le_of_ble_eq_true rfl) rfl rfl (by omega) (by omega) dX4_tellStoves_57 (fun x6 I5 => ?_)
    refine aw_bipush (v := (41 : Int32)) S dX4_tellStoves_60 (by decide) ?_
    refine aw_cVr S 175 [.int (41 : Int32)] vw_J4_append_cf468 cl_J4 (by decide) (by decide) tw_508 (s_J4_addC _ _ (41 : Int32) I5) ⟨by decide, by decide⟩ rfl rfl (Nat.le_of_ble_eq_true rfl) rfl rfl (by omega) (by omega) dX4_tellStoves_62 (fun x7 I6 => ?_)
    refine aw_pop S dX4_tellStoves_65 rfl ?_
    refine aw_iinc (v := x1h10 + (1 : Int32)) (L2 := [(0, .ref (kgO (kgHs X) 0)), (1, .int (x1h10 + (1 : Int32))), (2, .int x3)]) S [1, 0, 2] 1 dX4_tellStoves_66 rfl rfl (by decide) rfl ?_
    refine aw_letE (Lf := fun x8 => [(0, .ref (kgO (kgHs X) 0)), (1, .int x8), (2, .int x3)]) (x1h10 + (1 : Int32)) (fun x8 hx2 => ?_)
    refine aw_goto (tgt := 10) S dX4_tellStoves_69 (by decide) ?_
    refine aw_sub (L2 := [(0, .ref (kgO (kgHs X) 0)), (1, .int x8)]) [0, 1] rfl ?_
    exact aw_widen (k := 1 + 4 * (i + 1)) (n := 34 * (1 + 4 * (i + 1))) (by omega) (by omega) (ih x8 I6 (i + 1) (by omega) (by rw [hx2, hx]; exact s3))
set_option maxHeartbeats 4000000 in
set_option maxRecDepth 100000 in
theorem s_X4_tellStoves (hs : kgH) (l : Launch) (hLn : kgO hs 184 = kgO hs 175)   (I0 : kgM) : Sdi hs l none yX4_tellStoves (kg_ws yX4_tellStoves cX4_tellStoves 3 (some .int)) { frames := 8, cells := 25, slots := 850, locals := 251 } [.ref (kgO hs 0)] I0 (f_X4_tellStoves I0) := by
  refine sd_iL (av := fun hs => [.ref (kgO hs 0)]) (by decide +kernel) (fun hs => Nat.le_of_ble_eq_true rfl) (fun X S hQ hLn => ?_) hs l hLn
  refine aw_sub (L2 := [(0, .ref (kgO (kgHs X) 0))]) [0] rfl ?_
  unfold f_X4_tellStoves
  refine aw_aload_n S 0 rfl dX4_tellStoves_0 rfl ?_
  refine aw_getLn S hLn tw_230 dX4_tellStoves_1 ?_
  refine aw_iconst (v := (0 : Int32)) S dX4_tellStoves_4 (by decide) ?_
  refine aw_cVv S 175 [.int (0 : Int32)] vw_J4_setLength_d00df cl_J4 (by decide) (by decide) tw_404 (s_J4_setL _ _ I0) ⟨by decide, by decide⟩ rfl rfl (Nat.le_of_ble_eq_true rfl) rfl rfl (by decide) (by decide) dX4_tellStoves_5 (fun x1 I1 => ?_)
  refine aw_iconst (v := (0 : Int32)) S dX4_tellStoves_8 (by decide) ?_
  refine aw_istore_n (L2 := [(0, .ref (kgO (kgHs X) 0)), (1, .int (0 : Int32))]) S [1, 0] dX4_tellStoves_9 rfl (by decide) rfl ?_
  refine s_X4_tellStoves_L10 S hLn hQ  (fun I7 => ?_) 200 (0 : Int32) I1 0 (by decide) rfl
  refine aw_aload_n S 0 rfl dX4_tellStoves_72 rfl ?_
  refine aw_getLn S hLn tw_230 dX4_tellStoves_73 ?_
  refine aw_cVi S 175 [] vw_J4_length_8abf5 cl_J4 (by decide) (by decide) tw_553 (s_J4_len _ _ _ I7) ⟨by decide, by decide⟩ rfl rfl (Nat.le_of_ble_eq_true rfl) rfl rfl (by decide) (by decide) dX4_tellStoves_76 (fun x9 I8 => ?_)
  exact aw_ret S hQ (vp_nar_int _) (by decide) (by decide) dX4_tellStoves_79

