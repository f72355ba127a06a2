theorem aw_getLn {ρ : Type} {X : kgCX ρ} {cc : ByteArray} {own : String} {nL fr lo mc ms ce sl : Nat} {fin : Option ρ} {pc : Nat} {L : List (Nat × Value)} {st : List Value} {I : kgM} {w : Option (Nat × Nat)} (S : Cx X cc own nL fr lo mc ms) (hLn : kgO (kgHs X) 184 = kgO (kgHs X) 175) {idx : Nat} (hlk : Cond.fieldLink own idx RX4 "line" "Ljava/lang/StringBuilder;" ∈ kg_U) (hdg : decode cc pc = .ok (.getfield idx, 3))
    (kk : AW X nL ce sl w fin (pc + 3) L (.ref (kgO (kgHs X) 175) :: st) I) : AW X nL ce sl w fin pc L (.ref (kgO (kgHs X) 0) :: st) I := by
  refine aw_getR S 0 5 184 cl_X4 (by decide) (by decide) (by decide) (by decide) (by decide) rfl hlk hdg ?_
  rw [hLn]
  exact kk
theorem sd_iL {y : MethodName} {bytes : ByteArray} {maxL fr lo mc ms : Nat} {rt : FieldType} {av : kgH → List Value} {I : kgM} {w : Option (Nat × Nat)} {F : Option (Int32 × kgM)} (hy : plainFor y = true) (hln : ∀ hs, (lg_sl (av hs)).length ≤ maxL) (h : ∀ X : kgCX (Int32 × kgM), Cx X bytes y.cls maxL fr lo mc ms → Qxi X w rt → kgO (kgHs X) 184 = kgO (kgHs X) 175 → AW X maxL 0 0 w F 0 (lv_args 0 (av (kgHs X))) [] I) (hs : kgH) (l : Launch) (hLn : kgO hs 184 = kgO hs 175) :
    Sdi hs l w y (kg_ws y bytes maxL (some rt)) { frames := fr, cells := mc, slots := ms, locals := lo } (av hs) I F := by
  intro r hr
  refine va_MetF (cc := bytes) (maxL := maxL) (ret := some rt) hy rfl ?_
  intro p e s m args below meth c s₁ B hml hv
  obtain ⟨rfl, hH, hK, hE⟩ := hv
  have hts := atoms_spec (ws := kg_ws y bytes maxL (some rt)) B.pre
  have hl := lv_entry (av hs) (n := maxL) (hln hs)
  rw [lg_entry_eq]
  exact h (p, l, e, { frames := fr, cells := mc, slots := ms, locals := lo }, s, m, (av hs).toArray, below, meth, c, hs, fun r => MQ below (kgQi hs w r) (av hs).toArray s mc ms (kgA hs))
    ⟨⟨B.exec, B.bytes, hml, findClass_of_methodNamed B.named, fun w hw => hts w (List.mem_cons_of_mem _ hw)⟩, rfl, hK, hE, B.notSynchronized⟩ ⟨B.returns, rfl⟩ hLn r hr s.heap [] _ hH va_S.rf hl
theorem sd_vL {y : MethodName} {bytes : ByteArray} {maxL fr lo mc ms : Nat} {av : kgH → List Value} {I : kgM} {w : Option (Nat × Nat)} {F : Option (Int32 × kgM)} (hy : plainFor y = true) (hln : ∀ hs, (lg_sl (av hs)).length ≤ maxL) (h : ∀ X : kgCX (Int32 × kgM), Cx X bytes y.cls maxL fr lo mc ms → Qxv X w → kgO (kgHs X) 184 = kgO (kgHs X) 175 → AW X maxL 0 0 w F 0 (lv_args 0 (av (kgHs X))) [] I) (hs : kgH) (l : Launch) (hLn : kgO hs 184 = kgO hs 175) :
    Sdv hs l w y (kg_ws y bytes maxL none) { frames := fr, cells := mc, slots := ms, locals := lo } (av hs) I F := by
  intro r hr
  refine va_MetF (cc := bytes) (maxL := maxL) (ret := none) hy rfl ?_
  intro p e s m args below meth c s₁ B hml hv
  obtain ⟨rfl, hH, hK, hE⟩ := hv
  have hts := atoms_spec (ws := kg_ws y bytes maxL none) B.pre
  have hl := lv_entry (av hs) (n := maxL) (hln hs)
  rw [lg_entry_eq]
  exact h (p, l, e, { frames := fr, cells := mc, slots := ms, locals := lo }, s, m, (av hs).toArray, below, meth, c, hs, fun r => MQ below (kgQv hs w r) (av hs).toArray s mc ms (kgA hs))
    ⟨⟨B.exec, B.bytes, hml, findClass_of_methodNamed B.named, fun w hw => hts w (List.mem_cons_of_mem _ hw)⟩, rfl, hK, hE, B.notSynchronized⟩ ⟨B.returns, rfl⟩ hLn r hr s.heap [] _ hH va_S.rf hl
def f_X4_tellSigns (p1 : Int32) (I0 : kgM) : Option (Int32 × kgM) :=
    ck (inb p1 10) (
    (letJ (fun Ij22 =>
    ck (inb p1 10) (
    (letJ (fun Ij45 =>
    ck (inb p1 10) (
    (letJ (fun Ij80 =>
    bndC (f_X3_whistles p1 Ij80) (fun x1 I1 => 
    (letJ (fun Ij101 =>
    ck (inb p1 10) (
    (if (Ij101 12 p1.toNatClampNeg) ≤ 0 then
    some ((0 : Int32), Ij101)
    else
    bndC (f_addC (120 : Int32) Ij101) (fun x2 I2 => 
    ck (inb p1 10) (
    bndC (f_addI (I2 12 p1.toNatClampNeg) I2) (fun x3 I3 => 
    some ((0 : Int32), I3))))))) (fun (j101 : kgM → Option (Int32 × kgM)) =>
    (if x1 = 0 then
    j101 I1
    else
    bndC (f_addC (33 : Int32) I1) (fun x4 I4 => 
    j101 I4)))))) (fun (j80 : kgM → Option (Int32 × kgM)) =>
    (if (Ij45 11 p1.toNatClampNeg) = (-1 : Int32) then
    j80 Ij45
    else
    bndC (f_addC (64 : Int32) Ij45) (fun x5 I5 => 
    ck (inb p1 10) (
    bndC (f_addI (I5 11 p1.toNatClampNeg) I5) (fun x6 I6 => 
    j80 I6)))))))) (fun (j45 : kgM → Option (Int32 × kgM)) =>
    (if (Ij22 14 p1.toNatClampNeg) = (1 : Int32) then
    bndC (f_addC (35 : Int32) Ij22) (fun x7 I7 => 
    j45 I7)
    else
    j45 Ij22))))) (fun (j22 : kgM → Option (Int32 × kgM)) =>
    (if (I0 13 p1.toNatClampNeg) = 0 then
    bndC (f_addC (95 : Int32) I0) (fun x8 I8 => 
    j22 I8)
    else
    j22 I0))))

def f_X4_tell (p1 : Int32) (I0 : kgM) : Option (Int32 × kgM) :=
    bndC (f_X4_isKettle p1 I0) (fun x1 I1 => 
    (if x1 = 0 then
    some ((-1011 : Int32), I1)
    else
    bndC (f_setL I1) (fun x2 I2 => 
    bndC (f_addI p1 I2) (fun x3 I3 => 
    bndC (f_addC (58 : Int32) I3) (fun x4 I4 => 
    ck (inb p1 10) (
    bndC (f_addI (I4 7 p1.toNatClampNeg) I4) (fun x5 I5 => 
    bndC (f_addC (112 : Int32) I5) (fun x6 I6 => 
    ck (inb p1 10) (
    bndC (f_addI (I6 8 p1.toNatClampNeg) I6) (fun x7 I7 => 
    bndC (f_addC (119 : Int32) I7) (fun x8 I8 => 
    ck (inb p1 10) (
    bndC (f_addI (I8 9 p1.toNatClampNeg) I8) (fun x9 I9 => 
    bndC (f_addC (116 : Int32) I9) (fun x10 I10 => 
    ck (inb p1 10) (
    bndC (f_addI (I10 10 p1.toNatClampNeg) I10) (fun x11 I11 => 
    bndC (f_X4_tellSigns p1 I11) (fun x12 I12 => 
    bndC (f_J5_length_8abf5 I12) (fun x13 I13 => 
    some (x13, I13)))))))))))))))))))

def f_X4_character (p1 : Int32) (I0 : kgM) : Option (Int32 × kgM) :=
    (if p1 < 0 then
    some ((-1011 : Int32), I0)
    else
    bndC (f_J5_length_8abf5 I0) (fun x1 I1 => 
    (if x1 ≤ p1 then
    some ((-1011 : Int32), I1)
    else
    bndC (bndC (f_chr p1 I1) (fun x J => ck (isc x) (some (x, J)))) (fun x2 I2 => 
    some (x2, I2)))))

set_option maxHeartbeats 4000000 in
set_option maxRecDepth 100000 in
theorem s_X4_tellSigns (hs : kgH) (l : Launch) (hLn : kgO hs 184 = kgO hs 175)  (p1 : Int32) (I0 : kgM) : Sdv hs l none yX4_tellSigns (kg_ws yX4_tellSigns cX4_tellSigns 2 none) { frames := 8, cells := 7, slots := 238, locals := 251 } [.ref (kgO hs 0), .int p1] I0 (f_X4_tellSigns p1 I0) := by
  refine sd_vL (av := fun hs => [.ref (kgO hs 0), .int p1]) (by decide +kernel) (fun hs => Nat.le_of_ble_eq_true rfl) (fun X S hQ hLn => ?_) hs l hLn
  refine aw_sub (L2 := [(0, .ref (kgO (kgHs X) 0)), (1, .int p1)]) [0, 1] rfl ?_
  unfold f_X4_tellSigns
  refine aw_aload_n S 0 rfl dX4_tellSigns_0 rfl ?_
  refine aw_getR S 0 0 1 cl_X4 (by decide) (by decide) (by decide) (by decide) (by decide) rfl tw_225 dX4_tellSigns_1 ?_
  refine aw_getR S 1 11 13 cl_X3 (by decide) (by decide) (by decide) (by decide) (by decide) rfl tw_80 dX4_tellSigns_4 ?_
  refine aw_iload_n S 1 rfl dX4_tellSigns_7 rfl ?_
  refine aw_iald S 13 10 (by decide) (by decide) dX4_tellSigns_8 ?_
  refine aw_letJ (fun (j22 : kgM → Option (Int32 × kgM)) => ∀ (Ij22 : kgM), AW X 2 1 34 none (j22 Ij22) 22 [(0, .ref (kgO (kgHs X) 0)), (1, .int p1)] [] Ij22) ?_ (fun j22 hj22 => ?_)
  · intro Ij22
    refine aw_aload_n S 0 rfl dX4_tellSigns_22 rfl ?_
    refine aw_getR S 0 0 1 cl_X4 (by decide) (by decide) (by decide) (by decide) (by decide) rfl tw_225 dX4_tellSigns_23 ?_
    refine aw_getR S 1 12 14 cl_X3 (by decide) (by decide) (by decide) (by decide) (by decide) rfl tw_82 dX4_tellSigns_26 ?_
    refine aw_iload_n S 1 rfl dX4_tellSigns_29 rfl ?_
    refine aw_iald S 14 10 (by decide) (by decide) dX4_tellSigns_30 ?_
    refine aw_iconst (v := (1 : Int32)) S dX4_tellSigns_31 (by decide) ?_
    refine aw_letJ (fun (j45 : kgM → Option (Int32 × kgM)) => ∀ (Ij45 : kgM), AW X 2 2 68 none (j45 Ij45) 45 [(0, .ref (kgO (kgHs X) 0)), (1, .int p1)] [] Ij45) ?_ (fun j45 hj45 => ?_)
    · intro Ij45
      refine aw_aload_n S 0 rfl dX4_tellSigns_45 rfl ?_
      refine aw_getR S 0 0 1 cl_X4 (by decide) (by decide) (by decide) (by decide) (by decide) rfl tw_225 dX4_tellSigns_46 ?_
      refine aw_getR S 1 9 11 cl_X3 (by decide) (by decide) (by decide) (by decide) (by decide) rfl tw_76 dX4_tellSigns_49 ?_
      refine aw_iload_n S 1 rfl dX4_tellSigns_52 rfl ?_
      refine aw_iald S 11 10 (by decide) (by decide) dX4_tellSigns_53 ?_
      refine aw_iconst (v := (-1 : Int32)) S dX4_tellSigns_54 (by decide) ?_
      refine aw_letJ (fun (j80 : kgM → Option (Int32 × kgM)) => ∀ (Ij80 : kgM), AW X 2 4 136 none (j80 Ij80) 80 [(0, .ref (kgO (kgHs X) 0)), (1, .int p1)] [] Ij80) ?_ (fun j80 hj80 => ?_)
      · intro Ij80
        refine aw_aload_n S 0 rfl dX4_tellSigns_80 rfl ?_
        refine aw_getR S 0 0 1 cl_X4 (by decide) (by decide) (by decide) (by decide) (by decide) rfl tw_225 dX4_tellSigns_81 ?_
        refine aw_iload_n S 1 rfl dX4_tellSigns_84 rfl ?_
        refine aw_cVi S 1 [.int p1] vw_X3_whistles cl_X3 (by decide) (by decide) tw_272 (s_X3_whistles _ _ _ p1 Ij80) ⟨by decide, by decide⟩ rfl rfl (Nat.le_of_ble_eq_true rfl) rfl rfl (by decide) (by decide) dX4_tellSigns_85 (fun x1 I1 => ?_)
        refine aw_letJ (fun (j101 : kgM → Option (Int32 × kgM)) => ∀ (Ij101 : kgM), AW X 2 5 170 none (j101 Ij101) 101 [(0, .ref (kgO (kgHs X) 0)), (1, .int p1)] [] Ij101) ?_ (fun j101 hj101 => ?_)
        · intro Ij101
          refine aw_aload_n S 0 rfl dX4_tellSigns_101 rfl ?_
          refine aw_getR S 0 0 1 cl_X4 (by decide) (by decide) (by decide) (by decide) (by decide) rfl tw_225 dX4_tellSigns_102 ?_
          refine aw_getR S 1 10 12 cl_X3 (by decide) (by decide) (by decide) (by decide) (by decide) rfl tw_78 dX4_tellSigns_105 ?_
          refine aw_iload_n S 1 rfl dX4_tellSigns_108 rfl ?_
          refine aw_iald S 12 10 (by decide) (by decide) dX4_tellSigns_109 ?_
          refine aw_if_le (y := 0) (tgt := 135) S dX4_tellSigns_110 (by decide) ?_ ?_
          · exact aw_retv S hQ (by decide) (by decide) dX4_tellSigns_135
          refine aw_aload_n S 0 rfl dX4_tellSigns_113 rfl ?_
          refine aw_getLn S hLn tw_230 dX4_tellSigns_114 ?_
          refine aw_bipush (v := (120 : Int32)) S dX4_tellSigns_117 (by decide) ?_
          refine aw_cVr S 175 [.int (120 : Int32)] vw_J4_append_cf468 cl_J4 (by decide) (by decide) tw_508 (s_J4_addC _ _ (120 : Int32) Ij101) ⟨by decide, by decide⟩ rfl rfl (Nat.le_of_ble_eq_true rfl) rfl rfl (by decide) (by decide) dX4_tellSigns_119 (fun x2 I2 => ?_)
          refine aw_aload_n S 0 rfl dX4_tellSigns_122 rfl ?_
          refine aw_getR S 0 0 1 cl_X4 (by decide) (by decide) (by decide) (by decide) (by decide) rfl tw_225 dX4_tellSigns_123 ?_
          refine aw_getR S 1 10 12 cl_X3 (by decide) (by decide) (by decide) (by decide) (by decide) rfl tw_78 dX4_tellSigns_126 ?_
          refine aw_iload_n S 1 rfl dX4_tellSigns_129 rfl ?_
          refine aw_iald S 12 10 (by decide) (by decide) dX4_tellSigns_130 ?_
          refine aw_cVr S 175 [.int (I2 12 p1.toNatClampNeg)] vw_J4_append_bf812 cl_J4 (by decide) (by decide) tw_460 (s_J4_addI _ _ (I2 12 p1.toNatClampNeg) I2) ⟨by decide, by decide⟩ rfl rfl (Nat.le_of_ble_eq_true rfl) rfl rfl (by decide) (by decide) dX4_tellSigns_131 (fun x3 I3 => ?_)
          refine aw_pop S dX4_tellSigns_134 rfl ?_
          exact aw_retv S hQ (by decide) (by decide) dX4_tellSigns_135
        refine aw_if_eq (y := 0) (tgt := 101) S dX4_tellSigns_88 (by decide) ?_ ?_
        · refine aw_widen (k := 5) (n := 170) (Nat.le_of_ble_eq_true rfl) (Nat.le_of_ble_eq_true rfl) ?_
          exact hj101 I1
        refine aw_aload_n S 0 rfl dX4_tellSigns_91 rfl ?_
        refine aw_getLn S hLn tw_230 dX4_tellSigns_92 ?_
        refine aw_bipush (v := (33 : Int32)) S dX4_tellSigns_95 (by decide) ?_
        refine aw_cVr S 175 [.int (33 : Int32)] vw_J4_append_cf468 cl_J4 (by decide) (by decide) tw_508 (s_J4_addC _ _ (33 : Int32) I1) ⟨by decide, by decide⟩ rfl rfl (Nat.le_of_ble_eq_true rfl) rfl rfl (by decide) (by decide) dX4_tellSigns_97 (fun x4 I4 => ?_)
        refine aw_pop S dX4_tellSigns_100 rfl ?_
        refine aw_widen (k := 5) (n := 170) (Nat.le_of_ble_eq_true rfl) (Nat.le_of_ble_eq_true rfl) ?_
        exact hj101 I4
      refine aw_icmp_eq (tgt := 80) S dX4_tellSigns_55 (by decide) ?_ ?_
      · refine aw_widen (k := 4) (n := 136) (Nat.le_of_ble_eq_true rfl) (Nat.le_of_ble_eq_true rfl) ?_
        exact hj80 Ij45
      refine aw_aload_n S 0 rfl dX4_tellSigns_58 rfl ?_
      refine aw_getLn S hLn tw_230 dX4_tellSigns_59 ?_
      refine aw_bipush (v := (64 : Int32)) S dX4_tellSigns_62 (by decide) ?_
      refine aw_cVr S 175 [.int (64 : Int32)] vw_J4_append_cf468 cl_J4 (by decide) (by decide) tw_508 (s_J4_addC _ _ (64 : Int32) Ij45) ⟨by decide, by decide⟩ rfl rfl (Nat.le_of_ble_eq_true rfl) rfl rfl (by decide) (by decide) dX4_tellSigns_64 (fun x5 I5 => ?_)
      refine aw_aload_n S 0 rfl dX4_tellSigns_67 rfl ?_
      refine aw_getR S 0 0 1 cl_X4 (by decide) (by decide) (by decide) (by decide) (by decide) rfl tw_225 dX4_tellSigns_68 ?_
      refine aw_getR S 1 9 11 cl_X3 (by decide) (by decide) (by decide) (by decide) (by decide) rfl tw_76 dX4_tellSigns_71 ?_
      refine aw_iload_n S 1 rfl dX4_tellSigns_74 rfl ?_
      refine aw_iald S 11 10 (by decide) (by decide) dX4_tellSigns_75 ?_
      refine aw_cVr S 175 [.int (I5 11 p1.toNatClampNeg)] vw_J4_append_bf812 cl_J4 (by decide) (by decide) tw_460 (s_J4_addI _ _ (I5 11 p1.toNatClampNeg) I5) ⟨by decide, by decide⟩ rfl rfl (Nat.le_of_ble_eq_true rfl) rfl rfl (by decide) (by decide) dX4_tellSigns_76 (fun x6 I6 => ?_)
      refine aw_pop S dX4_tellSigns_79 rfl ?_
      refine aw_widen (k := 4) (n := 136) (Nat.le_of_ble_eq_true rfl) (Nat.le_of_ble_eq_true rfl) ?_
      exact hj80 I6
    refine aw_icmp_ne (tgt := 45) S dX4_tellSigns_32 (by decide) ?_ ?_
    · refine aw_widen (k := 2) (n := 68) (Nat.le_of_ble_eq_true rfl) (Nat.le_of_ble_eq_true rfl) ?_
      exact hj45 Ij22
    refine aw_aload_n S 0 rfl dX4_tellSigns_35 rfl ?_
    refine aw_getLn S hLn tw_230 dX4_tellSigns_36 ?_
    refine aw_bipush (v := (35 : Int32)) S dX4_tellSigns_39 (by decide) ?_
    refine aw_cVr S 175 [.int (35 : Int32)] vw_J4_append_cf468 cl_J4 (by decide) (by decide) tw_508 (s_J4_addC _ _ (35 : Int32) Ij22) ⟨by decide, by decide⟩ rfl rfl (Nat.le_of_ble_eq_true rfl) rfl rfl (by decide) (by decide) dX4_tellSigns_41 (fun x7 I7 => ?_)
    refine aw_pop S dX4_tellSigns_44 rfl ?_
    refine aw_widen (k := 2) (n := 68) (Nat.le_of_ble_eq_true rfl) (Nat.le_of_ble_eq_true rfl) ?_
    exact hj45 I7
  refine aw_if_ne (y := 0) (tgt := 22) S dX4_tellSigns_9 (by decide) ?_ ?_
  · refine aw_widen (k := 1) (n := 34) (Nat.le_of_ble_eq_true rfl) (Nat.le_of_ble_eq_true rfl) ?_
    exact hj22 I0
  refine aw_aload_n S 0 rfl dX4_tellSigns_12 rfl ?_
  refine aw_getLn S hLn tw_230 dX4_tellSigns_13 ?_
  refine aw_bipush (v := (95 : Int32)) S dX4_tellSigns_16 (by decide) ?_
  refine aw_cVr S 175 [.int (95 : Int32)] vw_J4_append_cf468 cl_J4 (by decide) (by decide) tw_508 (s_J4_addC _ _ (95 : Int32) I0) ⟨by decide, by decide⟩ rfl rfl (Nat.le_of_ble_eq_true rfl) rfl rfl (by decide) (by decide) dX4_tellSigns_18 (fun x8 I8 => ?_)
  refine aw_pop S dX4_tellSigns_21 rfl ?_
  refine aw_widen (k := 1) (n := 34) (Nat.le_of_ble_eq_true rfl) (Nat.le_of_ble_eq_true rfl) ?_
  exact hj22 I8
set_option maxHeartbeats 4000000 in
set_option maxRecDepth 100000 in
theorem s_X4_tell (hs : kgH) (l : Launch) (hLn : kgO hs 184 = kgO hs 175)  (p1 : Int32) (I0 : kgM) : Sdi hs l none yX4_tell (kg_ws yX4_tell cX4_tell 2 (some .int)) { frames := 9, cells := 17, slots := 578, locals := 272 } [.ref (kgO hs 0), .int p1] I0 (f_X4_tell p1 I0) := by
  refine sd_iL (av := fun hs => [.ref (kgO hs 0), .int p1]) (by decide +kernel) (fun hs => Nat.le_of_ble_eq_true rfl) (fun X S hQ hLn => ?_) hs l hLn
  refine aw_sub (L2 := [(0, .ref (kgO (kgHs X) 0)), (1, .int p1)]) [0, 1] rfl ?_
  unfold f_X4_tell
  refine aw_aload_n S 0 rfl dX4_tell_0 rfl ?_
  refine aw_iload_n S 1 rfl dX4_tell_1 rfl ?_
  refine aw_cVi S 0 [.int p1] vw_X4_isKettle cl_X4 (by decide) (by decide) tw_260 (s_X4_isKettle _ _ _ p1 I0) ⟨by decide, by decide⟩ rfl rfl (Nat.le_of_ble_eq_true rfl) rfl rfl (by decide) (by decide) dX4_tell_2 (fun x1 I1 => ?_)
  refine aw_if_ne (y := 0) (tgt := 12) S dX4_tell_5 (by decide) ?_ ?_
  · refine aw_aload_n S 0 rfl dX4_tell_12 rfl ?_
    refine aw_getLn S hLn tw_230 dX4_tell_13 ?_
    refine aw_iconst (v := (0 : Int32)) S dX4_tell_16 (by decide) ?_
    refine aw_cVv S 175 [.int (0 : Int32)] vw_J4_setLength_d00df cl_J4 (by decide) (by decide) tw_404 (s_J4_setL _ _ I1) ⟨by decide, by decide⟩ rfl rfl (Nat.le_of_ble_eq_true rfl) rfl rfl (by decide) (by decide) dX4_tell_17 (fun x2 I2 => ?_)
    refine aw_aload_n S 0 rfl dX4_tell_20 rfl ?_
    refine aw_getLn S hLn tw_230 dX4_tell_21 ?_
    refine aw_iload_n S 1 rfl dX4_tell_24 rfl ?_
    refine aw_cVr S 175 [.int p1] vw_J4_append_bf812 cl_J4 (by decide) (by decide) tw_460 (s_J4_addI _ _ p1 I2) ⟨by decide, by decide⟩ rfl rfl (Nat.le_of_ble_eq_true rfl) rfl rfl (by decide) (by decide) dX4_tell_25 (fun x3 I3 => ?_)
    refine aw_bipush (v := (58 : Int32)) S dX4_tell_28 (by decide) ?_
    refine aw_cVr S 175 [.int (58 : Int32)] vw_J4_append_cf468 cl_J4 (by decide) (by decide) tw_508 (s_J4_addC _ _ (58 : Int32) I3) ⟨by decide, by decide⟩ rfl rfl (Nat.le_of_ble_eq_true rfl) rfl rfl (by decide) (by decide) dX4_tell_30 (fun x4 I4 => ?_)
    refine aw_aload_n S 0 rfl dX4_tell_33 rfl ?_
    refine aw_getR S 0 0 1 cl_X4 (by decide) (by decide) (by decide) (by decide) (by decide) rfl tw_225 dX4_tell_34 ?_
    refine aw_getR S 1 5 7 cl_X3 (by decide) (by decide) (by decide) (by decide) (by decide) rfl tw_68 dX4_tell_37 ?_
    refine aw_iload_n S 1 rfl dX4_tell_40 rfl ?_
    refine aw_iald S 7 10 (by decide) (by decide) dX4_tell_41 ?_
    refine aw_cVr S 175 [.int (I4 7 p1.toNatClampNeg)] vw_J4_append_bf812 cl_J4 (by decide) (by decide) tw_460 (s_J4_addI _ _ (I4 7 p1.toNatClampNeg) I4) ⟨by decide, by decide⟩ rfl rfl (Nat.le_of_ble_eq_true rfl) rfl rfl (by decide) (by decide) dX4_tell_42 (fun x5 I5 => ?_)
    refine aw_pop S dX4_tell_45 rfl ?_
    refine aw_aload_n S 0 rfl dX4_tell_46 rfl ?_
    refine aw_getLn S hLn tw_230 dX4_tell_47 ?_
    refine aw_bipush (v := (112 : Int32)) S dX4_tell_50 (by decide) ?_
    refine aw_cVr S 175 [.int (112 : Int32)] vw_J4_append_cf468 cl_J4 (by decide) (by decide) tw_508 (s_J4_addC _ _ (112 : Int32) I5) ⟨by decide, by decide⟩ rfl rfl (Nat.le_of_ble_eq_true rfl) rfl rfl (by decide) (by decide) dX4_tell_52 (fun x6 I6 => ?_)
    refine aw_aload_n S 0 rfl dX4_tell_55 rfl ?_
    refine aw_getR S 0 0 1 cl_X4 (by decide) (by decide) (by decide) (by decide) (by decide) rfl tw_225 dX4_tell_56 ?_
    refine aw_getR S 1 6 8 cl_X3 (by decide) (by decide) (by decide) (by decide) (by decide) rfl tw_70 dX4_tell_59 ?_
    refine aw_iload_n S 1 rfl dX4_tell_62 rfl ?_
    refine aw_iald S 8 10 (by decide) (by decide) dX4_tell_63 ?_
    refine aw_cVr S 175 [.int (I6 8 p1.toNatClampNeg)] vw_J4_append_bf812 cl_J4 (by decide) (by decide) tw_460 (s_J4_addI _ _ (I6 8 p1.toNatClampNeg) I6) ⟨by decide, by decide⟩ rfl rfl (Nat.le_of_ble_eq_true rfl) rfl rfl (by decide) (by decide) dX4_tell_64 (fun x7 I7 => ?_)
    refine aw_pop S dX4_tell_67 rfl ?_
    refine aw_aload_n S 0 rfl dX4_tell_68 rfl ?_
    refine aw_getLn S hLn tw_230 dX4_tell_69 ?_
    refine aw_bipush (v := (119 : Int32)) S dX4_tell_72 (by decide) ?_
    refine aw_cVr S 175 [.int (119 : Int32)] vw_J4_append_cf468 cl_J4 (by decide) (by decide) tw_508 (s_J4_addC _ _ (119 : Int32) I7) ⟨by decide, by decide⟩ rfl rfl (Nat.le_of_ble_eq_true rfl) rfl rfl (by decide) (by decide) dX4_tell_74 (fun x8 I8 => ?_)
    refine aw_aload_n S 0 rfl dX4_tell_77 rfl ?_
    refine aw_getR S 0 0 1 cl_X4 (by decide) (by decide) (by decide) (by decide) (by decide) rfl tw_225 dX4_tell_78 ?_
    refine aw_getR S 1 7 9 cl_X3 (by decide) (by decide) (by decide) (by decide) (by decide) rfl tw_72 dX4_tell_81 ?_
    refine aw_iload_n S 1 rfl dX4_tell_84 rfl ?_
    refine aw_iald S 9 10 (by decide) (by decide) dX4_tell_85 ?_
    refine aw_cVr S 175 [.int (I8 9 p1.toNatClampNeg)] vw_J4_append_bf812 cl_J4 (by decide) (by decide) tw_460 (s_J4_addI _ _ (I8 9 p1.toNatClampNeg) I8) ⟨by decide, by decide⟩ rfl rfl (Nat.le_of_ble_eq_true rfl) rfl rfl (by decide) (by decide) dX4_tell_86 (fun x9 I9 => ?_)
    refine aw_pop S dX4_tell_89 rfl ?_
    refine aw_aload_n S 0 rfl dX4_tell_90 rfl ?_
    refine aw_getLn S hLn tw_230 dX4_tell_91 ?_
    refine aw_bipush (v := (116 : Int32)) S dX4_tell_94 (by decide) ?_
    refine aw_cVr S 175 [.int (116 : Int32)] vw_J4_append_cf468 cl_J4 (by decide) (by decide) tw_508 (s_J4_addC _ _ (116 : Int32) I9) ⟨by decide, by decide⟩ rfl rfl (Nat.le_of_ble_eq_true rfl) rfl rfl (by decide) (by decide) dX4_tell_96 (fun x10 I10 => ?_)
    refine aw_aload_n S 0 rfl dX4_tell_99 rfl ?_
    refine aw_getR S 0 0 1 cl_X4 (by decide) (by decide) (by decide) (by decide) (by decide) rfl tw_225 dX4_tell_100 ?_
    refine aw_getR S 1 8 10 cl_X3 (by decide) (by decide) (by decide) (by decide) (by decide) rfl tw_74 dX4_tell_103 ?_
    refine aw_iload_n S 1 rfl dX4_tell_106 rfl ?_
    refine aw_iald S 10 10 (by decide) (by decide) dX4_tell_107 ?_
    refine aw_cVr S 175 [.int (I10 10 p1.toNatClampNeg)] vw_J4_append_bf812 cl_J4 (by decide) (by decide) tw_460 (s_J4_addI _ _ (I10 10 p1.toNatClampNeg) I10) ⟨by decide, by decide⟩ rfl rfl (Nat.le_of_ble_eq_true rfl) rfl rfl (by decide) (by decide) dX4_tell_108 (fun x11 I11 => ?_)
    refine aw_pop S dX4_tell_111 rfl ?_
    refine aw_aload_n S 0 rfl dX4_tell_112 rfl ?_
    refine aw_iload_n S 1 rfl dX4_tell_113 rfl ?_
    refine aw_cVv S 0 [.int p1] vw_X4_tellSigns cl_X4 (by decide) (by decide) tw_549 (s_X4_tellSigns _ _ hLn p1 I11) ⟨by decide, by decide⟩ rfl rfl (Nat.le_of_ble_eq_true rfl) rfl rfl (by decide) (by decide) dX4_tell_114 (fun x12 I12 => ?_)
    refine aw_aload_n S 0 rfl dX4_tell_117 rfl ?_
    refine aw_getLn S hLn tw_230 dX4_tell_118 ?_
    refine aw_cVi S 175 [] vw_J4_length_8abf5 cl_J4 (by decide) (by decide) tw_553 (s_J4_len _ _ _ I12) ⟨by decide, by decide⟩ rfl rfl (Nat.le_of_ble_eq_true rfl) rfl rfl (by decide) (by decide) dX4_tell_121 (fun x13 I13 => ?_)
    exact aw_ret S hQ (vp_nar_int _) (by decide) (by decide) dX4_tell_124
  refine aw_sipush (v := (-1011 : Int32)) S dX4_tell_8 (by decide) ?_
  exact aw_ret S hQ (vp_nar_int _) (by decide) (by decide) dX4_tell_11
set_option maxHeartbeats 4000000 in
set_option maxRecDepth 100000 in
theorem s_X4_character (hs : kgH) (l : Launch) (hLn : kgO hs 184 = kgO hs 175)  (p1 : Int32) (I0 : kgM) : Sdi hs l none yX4_character (kg_ws yX4_character cX4_character 2 (some .int)) { frames := 8, cells := 0, slots := 0, locals := 251 } [.ref (kgO hs 0), .int p1] I0 (f_X4_character p1 I0) := by
  refine sd_iL (av := fun hs => [.ref (kgO hs 0), .int p1]) (by decide +kernel) (fun hs => Nat.le_of_ble_eq_true rfl) (fun X S hQ hLn => ?_) hs l hLn
  refine aw_sub (L2 := [(0, .ref (kgO (kgHs X) 0)), (1, .int p1)]) [0, 1] rfl ?_
  unfold f_X4_character
  refine aw_iload_n S 1 rfl dX4_character_0 rfl ?_
  refine aw_if_lt (y := 0) (tgt := 26) S dX4_character_1 (by decide) ?_ ?_
  · refine aw_sipush (v := (-1011 : Int32)) S dX4_character_26 (by decide) ?_
    exact aw_ret S hQ (vp_nar_int _) (by decide) (by decide) dX4_character_29
  refine aw_iload_n S 1 rfl dX4_character_4 rfl ?_
  refine aw_aload_n S 0 rfl dX4_character_5 rfl ?_
  refine aw_getLn S hLn tw_230 dX4_character_6 ?_
  refine aw_cVi S 175 [] vw_J4_length_8abf5 cl_J4 (by decide) (by decide) tw_553 (s_J4_len _ _ _ I0) ⟨by decide, by decide⟩ rfl rfl (Nat.le_of_ble_eq_true rfl) rfl rfl (by decide) (by decide) dX4_character_9 (fun x1 I1 => ?_)
  refine aw_icmp_ge (tgt := 26) S dX4_character_12 (by decide) ?_ ?_
  · refine aw_sipush (v := (-1011 : Int32)) S dX4_character_26 (by decide) ?_
    exact aw_ret S hQ (vp_nar_int _) (by decide) (by decide) dX4_character_29
  refine aw_aload_n S 0 rfl dX4_character_15 rfl ?_
  refine aw_getLn S hLn tw_230 dX4_character_16 ?_
  refine aw_iload_n S 1 rfl dX4_character_19 rfl ?_
  refine aw_cVi S 175 [.int p1] vw_J4_charAt_5068e cl_J4 (by decide) (by decide) tw_784 (s_J4_chr _ _ p1 I1) ⟨by decide, by decide⟩ rfl rfl (Nat.le_of_ble_eq_true rfl) rfl rfl (by decide) (by decide) dX4_character_20 (fun x2 I2 => ?_)
  refine aw_goto (tgt := 29) S dX4_character_23 (by decide) ?_
  exact aw_ret S hQ (vp_nar_int _) (by decide) (by decide) dX4_character_29

