def kgCons (a : Nat) (o : Nat → Nat) (n : Nat) : Nat := match n with
  | 0 => a
  | j + 1 => o j
abbrev kg_zX3 : List Value := [.null, .null, .null, .null, .null, .null, .null, .null, .null, .null, .null, .null, .null, .null, .int 0, .int 0, .int 0, .int 0]
def kgWX3 (hs : kgH) (o : Nat → Nat) : va_W := [(o 14, .inl (kgC hs 10, 10, .inl (fun _ => 0))), (o 13, .inl (kgC hs 10, 10, .inl (fun _ => 0))), (o 12, .inl (kgC hs 10, 10, .inl (fun _ => 0))), (o 11, .inl (kgC hs 10, 10, .inl (fun _ => 0))), (o 10, .inl (kgC hs 10, 10, .inl (fun _ => 0))), (o 9, .inl (kgC hs 10, 10, .inl (fun _ => 0))), (o 8, .inl (kgC hs 10, 10, .inl (fun _ => 0))), (o 7, .inl (kgC hs 10, 10, .inl (fun _ => 0))), (o 6, .inl (kgC hs 10, 10, .inl (fun _ => 0))), (o 5, .inl (kgC hs 10, 6, .inl (fun _ => 0))), (o 4, .inl (kgC hs 10, 4, .inl (fun _ => 0))), (o 3, .inl (kgC hs 10, 4, .inl (fun _ => 0))), (o 2, .inl (kgC hs 10, 4, .inl (fun _ => 0))), (o 1, .inl (kgC hs 10, 13, .inl (kgFl (fun _ => 0) (-1) 13))), (o 0, .inr (4, [.ref (o 1), .ref (o 2), .ref (o 3), .ref (o 4), .ref (o 5), .ref (o 6), .ref (o 7), .ref (o 8), .ref (o 9), .ref (o 10), .ref (o 11), .ref (o 12), .ref (o 13), .ref (o 14), .int 0, .int 0, .int 0, .int 0]))]
theorem s_X3_init (hs : kgH) (l : Launch) (a : Nat) (rest : va_W) : Sdn hs l yX3_init cX3_init 1 { frames := 1, cells := 14, slots := 121, locals := 40 } [.ref a] ((a, .inr (4, kg_zX3)) :: rest) (fun o => kgWX3 hs (kgCons a o) ++ rest) := by
  refine sd_n (by decide +kernel) (Nat.le_of_ble_eq_true rfl) hs l (fun X hh hl S hX hQ => ?_)
  subst hh
  refine bw_aload_n S 0 rfl dX3_init_0 rfl ?_
  refine bw_objInit S tw_53 dX3_init_1 (by decide) (by decide) (by decide) ?_
  refine bw_aload_n S 0 rfl dX3_init_4 rfl ?_
  refine bw_bipush S dX3_init_5 (v := 13) (by decide) ?_
  refine bw_newa (atype := .int) (N' := 13) (ce2 := 1) (sl2 := 13) S (hX rfl).2 0 10 tw_130 rfl rfl (fun _ _ => rfl) (fun _ => rfl) (by decide) (by decide) (by decide) rfl rfl (Nat.le_of_ble_eq_true rfl) (Nat.le_of_ble_eq_true rfl) dX3_init_7 (fun q0 => ?_)
  refine bw_putF (ws2 := (q0, .inl (kgC (kgHs X) 10, 13, .inl (fun _ => 0))) :: (a, .inr (4, [.ref q0, .null, .null, .null, .null, .null, .null, .null, .null, .null, .null, .null, .null, .null, .int 0, .int 0, .int 0, .int 0])) :: rest) S (hX rfl) 1 0 rfl cl_X3 tyX3_ok nmX3 (by decide) rfl tw_57 rfl rfl (by simp only [List.length_cons, List.length_nil]; omega) rfl dX3_init_9 ?_
  refine bw_aload_n S 0 rfl dX3_init_12 rfl ?_
  refine bw_iconst S dX3_init_13 (v := 4) (by decide) ?_
  refine bw_newa (atype := .int) (N' := 4) (ce2 := 2) (sl2 := 17) S (hX rfl).2 0 10 tw_130 rfl rfl (fun _ _ => rfl) (fun _ => rfl) (by decide) (by decide) (by decide) rfl rfl (Nat.le_of_ble_eq_true rfl) (Nat.le_of_ble_eq_true rfl) dX3_init_14 (fun q1 => ?_)
  refine bw_putF (ws2 := (q1, .inl (kgC (kgHs X) 10, 4, .inl (fun _ => 0))) :: (q0, .inl (kgC (kgHs X) 10, 13, .inl (fun _ => 0))) :: (a, .inr (4, [.ref q0, .ref q1, .null, .null, .null, .null, .null, .null, .null, .null, .null, .null, .null, .null, .int 0, .int 0, .int 0, .int 0])) :: rest) S (hX rfl) 2 1 rfl cl_X3 tyX3_ok nmX3 (by decide) rfl tw_59 rfl rfl (by simp only [List.length_cons, List.length_nil]; omega) rfl dX3_init_16 ?_
  refine bw_aload_n S 0 rfl dX3_init_19 rfl ?_
  refine bw_iconst S dX3_init_20 (v := 4) (by decide) ?_
  refine bw_newa (atype := .int) (N' := 4) (ce2 := 3) (sl2 := 21) S (hX rfl).2 0 10 tw_130 rfl rfl (fun _ _ => rfl) (fun _ => rfl) (by decide) (by decide) (by decide) rfl rfl (Nat.le_of_ble_eq_true rfl) (Nat.le_of_ble_eq_true rfl) dX3_init_21 (fun q2 => ?_)
  refine bw_putF (ws2 := (q2, .inl (kgC (kgHs X) 10, 4, .inl (fun _ => 0))) :: (q1, .inl (kgC (kgHs X) 10, 4, .inl (fun _ => 0))) :: (q0, .inl (kgC (kgHs X) 10, 13, .inl (fun _ => 0))) :: (a, .inr (4, [.ref q0, .ref q1, .ref q2, .null, .null, .null, .null, .null, .null, .null, .null, .null, .null, .null, .int 0, .int 0, .int 0, .int 0])) :: rest) S (hX rfl) 3 2 rfl cl_X3 tyX3_ok nmX3 (by decide) rfl tw_61 rfl rfl (by simp only [List.length_cons, List.length_nil]; omega) rfl dX3_init_23 ?_
  refine bw_aload_n S 0 rfl dX3_init_26 rfl ?_
  refine bw_iconst S dX3_init_27 (v := 4) (by decide) ?_
  refine bw_newa (atype := .int) (N' := 4) (ce2 := 4) (sl2 := 25) S (hX rfl).2 0 10 tw_130 rfl rfl (fun _ _ => rfl) (fun _ => rfl) (by decide) (by decide) (by decide) rfl rfl (Nat.le_of_ble_eq_true rfl) (Nat.le_of_ble_eq_true rfl) dX3_init_28 (fun q3 => ?_)
  refine bw_putF (ws2 := (q3, .inl (kgC (kgHs X) 10, 4, .inl (fun _ => 0))) :: (q2, .inl (kgC (kgHs X) 10, 4, .inl (fun _ => 0))) :: (q1, .inl (kgC (kgHs X) 10, 4, .inl (fun _ => 0))) :: (q0, .inl (kgC (kgHs X) 10, 13, .inl (fun _ => 0))) :: (a, .inr (4, [.ref q0, .ref q1, .ref q2, .ref q3, .null, .null, .null, .null, .null, .null, .null, .null, .null, .null, .int 0, .int 0, .int 0, .int 0])) :: rest) S (hX rfl) 4 3 rfl cl_X3 tyX3_ok nmX3 (by decide) rfl tw_63 rfl rfl (by simp only [List.length_cons, List.length_nil]; omega) rfl dX3_init_30 ?_
  refine bw_aload_n S 0 rfl dX3_init_33 rfl ?_
  refine bw_bipush S dX3_init_34 (v := 6) (by decide) ?_
  refine bw_newa (atype := .int) (N' := 6) (ce2 := 5) (sl2 := 31) S (hX rfl).2 0 10 tw_130 rfl rfl (fun _ _ => rfl) (fun _ => rfl) (by decide) (by decide) (by decide) rfl rfl (Nat.le_of_ble_eq_true rfl) (Nat.le_of_ble_eq_true rfl) dX3_init_36 (fun q4 => ?_)
  refine bw_putF (ws2 := (q4, .inl (kgC (kgHs X) 10, 6, .inl (fun _ => 0))) :: (q3, .inl (kgC (kgHs X) 10, 4, .inl (fun _ => 0))) :: (q2, .inl (kgC (kgHs X) 10, 4, .inl (fun _ => 0))) :: (q1, .inl (kgC (kgHs X) 10, 4, .inl (fun _ => 0))) :: (q0, .inl (kgC (kgHs X) 10, 13, .inl (fun _ => 0))) :: (a, .inr (4, [.ref q0, .ref q1, .ref q2, .ref q3, .ref q4, .null, .null, .null, .null, .null, .null, .null, .null, .null, .int 0, .int 0, .int 0, .int 0])) :: rest) S (hX rfl) 5 4 rfl cl_X3 tyX3_ok nmX3 (by decide) rfl tw_65 rfl rfl (by simp only [List.length_cons, List.length_nil]; omega) rfl dX3_init_38 ?_
  refine bw_aload_n S 0 rfl dX3_init_41 rfl ?_
  refine bw_bipush S dX3_init_42 (v := 10) (by decide) ?_
  refine bw_newa (atype := .int) (N' := 10) (ce2 := 6) (sl2 := 41) S (hX rfl).2 0 10 tw_130 rfl rfl (fun _ _ => rfl) (fun _ => rfl) (by decide) (by decide) (by decide) rfl rfl (Nat.le_of_ble_eq_true rfl) (Nat.le_of_ble_eq_true rfl) dX3_init_44 (fun q5 => ?_)
  refine bw_putF (ws2 := (q5, .inl (kgC (kgHs X) 10, 10, .inl (fun _ => 0))) :: (q4, .inl (kgC (kgHs X) 10, 6, .inl (fun _ => 0))) :: (q3, .inl (kgC (kgHs X) 10, 4, .inl (fun _ => 0))) :: (q2, .inl (kgC (kgHs X) 10, 4, .inl (fun _ => 0))) :: (q1, .inl (kgC (kgHs X) 10, 4, .inl (fun _ => 0))) :: (q0, .inl (kgC (kgHs X) 10, 13, .inl (fun _ => 0))) :: (a, .inr (4, [.ref q0, .ref q1, .ref q2, .ref q3, .ref q4, .ref q5, .null, .null, .null, .null, .null, .null, .null, .null, .int 0, .int 0, .int 0, .int 0])) :: rest) S (hX rfl) 6 5 rfl cl_X3 tyX3_ok nmX3 (by decide) rfl tw_67 rfl rfl (by simp only [List.length_cons, List.length_nil]; omega) rfl dX3_init_46 ?_
  refine bw_aload_n S 0 rfl dX3_init_49 rfl ?_
  refine bw_bipush S dX3_init_50 (v := 10) (by decide) ?_
  refine bw_newa (atype := .int) (N' := 10) (ce2 := 7) (sl2 := 51) S (hX rfl).2 0 10 tw_130 rfl rfl (fun _ _ => rfl) (fun _ => rfl) (by decide) (by decide) (by decide) rfl rfl (Nat.le_of_ble_eq_true rfl) (Nat.le_of_ble_eq_true rfl) dX3_init_52 (fun q6 => ?_)
  refine bw_putF (ws2 := (q6, .inl (kgC (kgHs X) 10, 10, .inl (fun _ => 0))) :: (q5, .inl (kgC (kgHs X) 10, 10, .inl (fun _ => 0))) :: (q4, .inl (kgC (kgHs X) 10, 6, .inl (fun _ => 0))) :: (q3, .inl (kgC (kgHs X) 10, 4, .inl (fun _ => 0))) :: (q2, .inl (kgC (kgHs X) 10, 4, .inl (fun _ => 0))) :: (q1, .inl (kgC (kgHs X) 10, 4, .inl (fun _ => 0))) :: (q0, .inl (kgC (kgHs X) 10, 13, .inl (fun _ => 0))) :: (a, .inr (4, [.ref q0, .ref q1, .ref q2, .ref q3, .ref q4, .ref q5, .ref q6, .null, .null, .null, .null, .null, .null, .null, .int 0, .int 0, .int 0, .int 0])) :: rest) S (hX rfl) 7 6 rfl cl_X3 tyX3_ok nmX3 (by decide) rfl tw_69 rfl rfl (by simp only [List.length_cons, List.length_nil]; omega) rfl dX3_init_54 ?_
  refine bw_aload_n S 0 rfl dX3_init_57 rfl ?_
  refine bw_bipush S dX3_init_58 (v := 10) (by decide) ?_
  refine bw_newa (atype := .int) (N' := 10) (ce2 := 8) (sl2 := 61) S (hX rfl).2 0 10 tw_130 rfl rfl (fun _ _ => rfl) (fun _ => rfl) (by decide) (by decide) (by decide) rfl rfl (Nat.le_of_ble_eq_true rfl) (Nat.le_of_ble_eq_true rfl) dX3_init_60 (fun q7 => ?_)
  refine bw_putF (ws2 := (q7, .inl (kgC (kgHs X) 10, 10, .inl (fun _ => 0))) :: (q6, .inl (kgC (kgHs X) 10, 10, .inl (fun _ => 0))) :: (q5, .inl (kgC (kgHs X) 10, 10, .inl (fun _ => 0))) :: (q4, .inl (kgC (kgHs X) 10, 6, .inl (fun _ => 0))) :: (q3, .inl (kgC (kgHs X) 10, 4, .inl (fun _ => 0))) :: (q2, .inl (kgC (kgHs X) 10, 4, .inl (fun _ => 0))) :: (q1, .inl (kgC (kgHs X) 10, 4, .inl (fun _ => 0))) :: (q0, .inl (kgC (kgHs X) 10, 13, .inl (fun _ => 0))) :: (a, .inr (4, [.ref q0, .ref q1, .ref q2, .ref q3, .ref q4, .ref q5, .ref q6, .ref q7, .null, .null, .null, .null, .null, .null, .int 0, .int 0, .int 0, .int 0])) :: rest) S (hX rfl) 8 7 rfl cl_X3 tyX3_ok nmX3 (by decide) rfl tw_71 rfl rfl (by simp only [List.length_cons, List.length_nil]; omega) rfl dX3_init_62 ?_
  refine bw_aload_n S 0 rfl dX3_init_65 rfl ?_
  refine bw_bipush S dX3_init_66 (v := 10) (by decide) ?_
  refine bw_newa (atype := .int) (N' := 10) (ce2 := 9) (sl2 := 71) S (hX rfl).2 0 10 tw_130 rfl rfl (fun _ _ => rfl) (fun _ => rfl) (by decide) (by decide) (by decide) rfl rfl (Nat.le_of_ble_eq_true rfl) (Nat.le_of_ble_eq_true rfl) dX3_init_68 (fun q8 => ?_)
  refine bw_putF (ws2 := (q8, .inl (kgC (kgHs X) 10, 10, .inl (fun _ => 0))) :: (q7, .inl (kgC (kgHs X) 10, 10, .inl (fun _ => 0))) :: (q6, .inl (kgC (kgHs X) 10, 10, .inl (fun _ => 0))) :: (q5, .inl (kgC (kgHs X) 10, 10, .inl (fun _ => 0))) :: (q4, .inl (kgC (kgHs X) 10, 6, .inl (fun _ => 0))) :: (q3, .inl (kgC (kgHs X) 10, 4, .inl (fun _ => 0))) :: (q2, .inl (kgC (kgHs X) 10, 4, .inl (fun _ => 0))) :: (q1, .inl (kgC (kgHs X) 10, 4, .inl (fun _ => 0))) :: (q0, .inl (kgC (kgHs X) 10, 13, .inl (fun _ => 0))) :: (a, .inr (4, [.ref q0, .ref q1, .ref q2, .ref q3, .ref q4, .ref q5, .ref q6, .ref q7, .ref q8, .null, .null, .null, .null, .null, .int 0, .int 0, .int 0, .int 0])) :: rest) S (hX rfl) 9 8 rfl cl_X3 tyX3_ok nmX3 (by decide) rfl tw_73 rfl rfl (by simp only [List.length_cons, List.length_nil]; omega) rfl dX3_init_70 ?_
  refine bw_aload_n S 0 rfl dX3_init_73 rfl ?_
  refine bw_bipush S dX3_init_74 (v := 10) (by decide) ?_
  refine bw_newa (atype := .int) (N' := 10) (ce2 := 10) (sl2 := 81) S (hX rfl).2 0 10 tw_130 rfl rfl (fun _ _ => rfl) (fun _ => rfl) (by decide) (by decide) (by decide) rfl rfl (Nat.le_of_ble_eq_true rfl) (Nat.le_of_ble_eq_true rfl) dX3_init_76 (fun q9 => ?_)
  refine bw_putF (ws2 := (q9, .inl (kgC (kgHs X) 10, 10, .inl (fun _ => 0))) :: (q8, .inl (kgC (kgHs X) 10, 10, .inl (fun _ => 0))) :: (q7, .inl (kgC (kgHs X) 10, 10, .inl (fun _ => 0))) :: (q6, .inl (kgC (kgHs X) 10, 10, .inl (fun _ => 0))) :: (q5, .inl (kgC (kgHs X) 10, 10, .inl (fun _ => 0))) :: (q4, .inl (kgC (kgHs X) 10, 6, .inl (fun _ => 0))) :: (q3, .inl (kgC (kgHs X) 10, 4, .inl (fun _ => 0))) :: (q2, .inl (kgC (kgHs X) 10, 4, .inl (fun _ => 0))) :: (q1, .inl (kgC (kgHs X) 10, 4, .inl (fun _ => 0))) :: (q0, .inl (kgC (kgHs X) 10, 13, .inl (fun _ => 0))) :: (a, .inr (4, [.ref q0, .ref q1, .ref q2, .ref q3, .ref q4, .ref q5, .ref q6, .ref q7, .ref q8, .ref q9, .null, .null, .null, .null, .int 0, .int 0, .int 0, .int 0])) :: rest) S (hX rfl) 10 9 rfl cl_X3 tyX3_ok nmX3 (by decide) rfl tw_75 rfl rfl (by simp only [List.length_cons, List.length_nil]; omega) rfl dX3_init_78 ?_
  refine bw_aload_n S 0 rfl dX3_init_81 rfl ?_
  refine bw_bipush S dX3_init_82 (v := 10) (by decide) ?_
  refine bw_newa (atype := .int) (N' := 10) (ce2 := 11) (sl2 := 91) S (hX rfl).2 0 10 tw_130 rfl rfl (fun _ _ => rfl) (fun _ => rfl) (by decide) (by decide) (by decide) rfl rfl (Nat.le_of_ble_eq_true rfl) (Nat.le_of_ble_eq_true rfl) dX3_init_84 (fun q10 => ?_)
  refine bw_putF (ws2 := (q10, .inl (kgC (kgHs X) 10, 10, .inl (fun _ => 0))) :: (q9, .inl (kgC (kgHs X) 10, 10, .inl (fun _ => 0))) :: (q8, .inl (kgC (kgHs X) 10, 10, .inl (fun _ => 0))) :: (q7, .inl (kgC (kgHs X) 10, 10, .inl (fun _ => 0))) :: (q6, .inl (kgC (kgHs X) 10, 10, .inl (fun _ => 0))) :: (q5, .inl (kgC (kgHs X) 10, 10, .inl (fun _ => 0))) :: (q4, .inl (kgC (kgHs X) 10, 6, .inl (fun _ => 0))) :: (q3, .inl (kgC (kgHs X) 10, 4, .inl (fun _ => 0))) :: (q2, .inl (kgC (kgHs X) 10, 4, .inl (fun _ => 0))) :: (q1, .inl (kgC (kgHs X) 10, 4, .inl (fun _ => 0))) :: (q0, .inl (kgC (kgHs X) 10, 13, .inl (fun _ => 0))) :: (a, .inr (4, [.ref q0, .ref q1, .ref q2, .ref q3, .ref q4, .ref q5, .ref q6, .ref q7, .ref q8, .ref q9, .ref q10, .null, .null, .null, .int 0, .int 0, .int 0, .int 0])) :: rest) S (hX rfl) 11 10 rfl cl_X3 tyX3_ok nmX3 (by decide) rfl tw_77 rfl rfl (by simp only [List.length_cons, List.length_nil]; omega) rfl dX3_init_86 ?_
  refine bw_aload_n S 0 rfl dX3_init_89 rfl ?_
  refine bw_bipush S dX3_init_90 (v := 10) (by decide) ?_
  refine bw_newa (atype := .int) (N' := 10) (ce2 := 12) (sl2 := 101) S (hX rfl).2 0 10 tw_130 rfl rfl (fun _ _ => rfl) (fun _ => rfl) (by decide) (by decide) (by decide) rfl rfl (Nat.le_of_ble_eq_true rfl) (Nat.le_of_ble_eq_true rfl) dX3_init_92 (fun q11 => ?_)
  refine bw_putF (ws2 := (q11, .inl (kgC (kgHs X) 10, 10, .inl (fun _ => 0))) :: (q10, .inl (kgC (kgHs X) 10, 10, .inl (fun _ => 0))) :: (q9, .inl (kgC (kgHs X) 10, 10, .inl (fun _ => 0))) :: (q8, .inl (kgC (kgHs X) 10, 10, .inl (fun _ => 0))) :: (q7, .inl (kgC (kgHs X) 10, 10, .inl (fun _ => 0))) :: (q6, .inl (kgC (kgHs X) 10, 10, .inl (fun _ => 0))) :: (q5, .inl (kgC (kgHs X) 10, 10, .inl (fun _ => 0))) :: (q4, .inl (kgC (kgHs X) 10, 6, .inl (fun _ => 0))) :: (q3, .inl (kgC (kgHs X) 10, 4, .inl (fun _ => 0))) :: (q2, .inl (kgC (kgHs X) 10, 4, .inl (fun _ => 0))) :: (q1, .inl (kgC (kgHs X) 10, 4, .inl (fun _ => 0))) :: (q0, .inl (kgC (kgHs X) 10, 13, .inl (fun _ => 0))) :: (a, .inr (4, [.ref q0, .ref q1, .ref q2, .ref q3, .ref q4, .ref q5, .ref q6, .ref q7, .ref q8, .ref q9, .ref q10, .ref q11, .null, .null, .int 0, .int 0, .int 0, .int 0])) :: rest) S (hX rfl) 12 11 rfl cl_X3 tyX3_ok nmX3 (by decide) rfl tw_79 rfl rfl (by simp only [List.length_cons, List.length_nil]; omega) rfl dX3_init_94 ?_
  refine bw_aload_n S 0 rfl dX3_init_97 rfl ?_
  refine bw_bipush S dX3_init_98 (v := 10) (by decide) ?_
  refine bw_newa (atype := .int) (N' := 10) (ce2 := 13) (sl2 := 111) S (hX rfl).2 0 10 tw_130 rfl rfl (fun _ _ => rfl) (fun _ => rfl) (by decide) (by decide) (by decide) rfl rfl (Nat.le_of_ble_eq_true rfl) (Nat.le_of_ble_eq_true rfl) dX3_init_100 (fun q12 => ?_)
  refine bw_putF (ws2 := (q12, .inl (kgC (kgHs X) 10, 10, .inl (fun _ => 0))) :: (q11, .inl (kgC (kgHs X) 10, 10, .inl (fun _ => 0))) :: (q10, .inl (kgC (kgHs X) 10, 10, .inl (fun _ => 0))) :: (q9, .inl (kgC (kgHs X) 10, 10, .inl (fun _ => 0))) :: (q8, .inl (kgC (kgHs X) 10, 10, .inl (fun _ => 0))) :: (q7, .inl (kgC (kgHs X) 10, 10, .inl (fun _ => 0))) :: (q6, .inl (kgC (kgHs X) 10, 10, .inl (fun _ => 0))) :: (q5, .inl (kgC (kgHs X) 10, 10, .inl (fun _ => 0))) :: (q4, .inl (kgC (kgHs X) 10, 6, .inl (fun _ => 0))) :: (q3, .inl (kgC (kgHs X) 10, 4, .inl (fun _ => 0))) :: (q2, .inl (kgC (kgHs X) 10, 4, .inl (fun _ => 0))) :: (q1, .inl (kgC (kgHs X) 10, 4, .inl (fun _ => 0))) :: (q0, .inl (kgC (kgHs X) 10, 13, .inl (fun _ => 0))) :: (a, .inr (4, [.ref q0, .ref q1, .ref q2, .ref q3, .ref q4, .ref q5, .ref q6, .ref q7, .ref q8, .ref q9, .ref q10, .ref q11, .ref q12, .null, .int 0, .int 0, .int 0, .int 0])) :: rest) S (hX rfl) 13 12 rfl cl_X3 tyX3_ok nmX3 (by decide) rfl tw_81 rfl rfl (by simp only [List.length_cons, List.length_nil]; omega) rfl dX3_init_102 ?_
  refine bw_aload_n S 0 rfl dX3_init_105 rfl ?_
  refine bw_bipush S dX3_init_106 (v := 10) (by decide) ?_
  refine bw_newa (atype := .int) (N' := 10) (ce2 := 14) (sl2 := 121) S (hX rfl).2 0 10 tw_130 rfl rfl (fun _ _ => rfl) (fun _ => rfl) (by decide) (by decide) (by decide) rfl rfl (Nat.le_of_ble_eq_true rfl) (Nat.le_of_ble_eq_true rfl) dX3_init_108 (fun q13 => ?_)
  refine bw_putF (ws2 := (q13, .inl (kgC (kgHs X) 10, 10, .inl (fun _ => 0))) :: (q12, .inl (kgC (kgHs X) 10, 10, .inl (fun _ => 0))) :: (q11, .inl (kgC (kgHs X) 10, 10, .inl (fun _ => 0))) :: (q10, .inl (kgC (kgHs X) 10, 10, .inl (fun _ => 0))) :: (q9, .inl (kgC (kgHs X) 10, 10, .inl (fun _ => 0))) :: (q8, .inl (kgC (kgHs X) 10, 10, .inl (fun _ => 0))) :: (q7, .inl (kgC (kgHs X) 10, 10, .inl (fun _ => 0))) :: (q6, .inl (kgC (kgHs X) 10, 10, .inl (fun _ => 0))) :: (q5, .inl (kgC (kgHs X) 10, 10, .inl (fun _ => 0))) :: (q4, .inl (kgC (kgHs X) 10, 6, .inl (fun _ => 0))) :: (q3, .inl (kgC (kgHs X) 10, 4, .inl (fun _ => 0))) :: (q2, .inl (kgC (kgHs X) 10, 4, .inl (fun _ => 0))) :: (q1, .inl (kgC (kgHs X) 10, 4, .inl (fun _ => 0))) :: (q0, .inl (kgC (kgHs X) 10, 13, .inl (fun _ => 0))) :: (a, .inr (4, [.ref q0, .ref q1, .ref q2, .ref q3, .ref q4, .ref q5, .ref q6, .ref q7, .ref q8, .ref q9, .ref q10, .ref q11, .ref q12, .ref q13, .int 0, .int 0, .int 0, .int 0])) :: rest) S (hX rfl) 14 13 rfl cl_X3 tyX3_ok nmX3 (by decide) rfl tw_83 rfl rfl (by simp only [List.length_cons, List.length_nil]; omega) rfl dX3_init_110 ?_
  refine bw_aload_n S 0 rfl dX3_init_113 rfl ?_
  refine bw_get S 14 0 rfl cl_X3 (by decide) rfl tw_57 rfl dX3_init_114 ?_
  refine bw_iconst S dX3_init_117 (v := (-1)) (by decide) ?_
  refine bw_cS (ce2 := 14) (sl2 := 121) S (hX rfl).2 [.ref q0, .int (-1)] vw_J7_fill_53178 tw_54 (s_fill13 _ _ 13 (q := q0) rfl) (by decide) rfl rfl (Nat.le_of_ble_eq_true rfl) rfl rfl (Nat.le_of_ble_eq_true rfl) (Nat.le_of_ble_eq_true rfl) dX3_init_118 (fun _ => ?_)
  exact bw_ret S hQ (fun n => [q0, q1, q2, q3, q4, q5, q6, q7, q8, q9, q10, q11, q12, q13].getD n 0) rfl (Nat.le_refl _) (Nat.le_refl _) dX3_init_121
abbrev kg_zX2 : List Value := [.null, .null, .int 0]
def kgWX2 (hs : kgH) (o : Nat → Nat) : va_W := [(o 2, .inl (kgC hs 10, 3, .inl (fun _ => 0))), (o 1, .inl (kgC hs 10, 3, .inl (fun _ => 0))), (o 0, .inr (3, [.ref (o 1), .ref (o 2), .int 0]))]
theorem s_X2_init (hs : kgH) (l : Launch) (a : Nat) (rest : va_W) : Sdn hs l yX2_init cX2_init 1 { frames := 1, cells := 2, slots := 6, locals := 40 } [.ref a] ((a, .inr (3, kg_zX2)) :: rest) (fun o => kgWX2 hs (kgCons a o) ++ rest) := by
  refine sd_n (by decide +kernel) (Nat.le_of_ble_eq_true rfl) hs l (fun X hh hl S hX hQ => ?_)
  subst hh
  refine bw_aload_n S 0 rfl dX2_init_0 rfl ?_
  refine bw_objInit S tw_156 dX2_init_1 (by decide) (by decide) (by decide) ?_
  refine bw_aload_n S 0 rfl dX2_init_4 rfl ?_
  refine bw_iconst S dX2_init_5 (v := 3) (by decide) ?_
  refine bw_newa (atype := .int) (N' := 3) (ce2 := 1) (sl2 := 3) S (hX rfl).2 0 10 tw_130 rfl rfl (fun _ _ => rfl) (fun _ => rfl) (by decide) (by decide) (by decide) rfl rfl (Nat.le_of_ble_eq_true rfl) (Nat.le_of_ble_eq_true rfl) dX2_init_6 (fun q0 => ?_)
  refine bw_putF (ws2 := (q0, .inl (kgC (kgHs X) 10, 3, .inl (fun _ => 0))) :: (a, .inr (3, [.ref q0, .null, .int 0])) :: rest) S (hX rfl) 1 0 rfl cl_X2 tyX2_ok nmX2 (by decide) rfl tw_157 rfl rfl (by simp only [List.length_cons, List.length_nil]; omega) rfl dX2_init_8 ?_
  refine bw_aload_n S 0 rfl dX2_init_11 rfl ?_
  refine bw_iconst S dX2_init_12 (v := 3) (by decide) ?_
  refine bw_newa (atype := .int) (N' := 3) (ce2 := 2) (sl2 := 6) S (hX rfl).2 0 10 tw_130 rfl rfl (fun _ _ => rfl) (fun _ => rfl) (by decide) (by decide) (by decide) rfl rfl (Nat.le_of_ble_eq_true rfl) (Nat.le_of_ble_eq_true rfl) dX2_init_13 (fun q1 => ?_)
  refine bw_putF (ws2 := (q1, .inl (kgC (kgHs X) 10, 3, .inl (fun _ => 0))) :: (q0, .inl (kgC (kgHs X) 10, 3, .inl (fun _ => 0))) :: (a, .inr (3, [.ref q0, .ref q1, .int 0])) :: rest) S (hX rfl) 2 1 rfl cl_X2 tyX2_ok nmX2 (by decide) rfl tw_158 rfl rfl (by simp only [List.length_cons, List.length_nil]; omega) rfl dX2_init_15 ?_
  exact bw_ret S hQ (fun n => [q0, q1].getD n 0) rfl (Nat.le_refl _) (Nat.le_refl _) dX2_init_18
abbrev kg_zX1 : List Value := [.null, .null, .null, .int 0, .int 0, .int 0]
def kgWX1 (hs : kgH) (o : Nat → Nat) : va_W := [(o 3, .inl (kgC hs 10, 33, .inl (fun _ => 0))), (o 2, .inl (kgC hs 10, 11, .inl (fun _ => 0))), (o 1, .inl (kgC hs 11, 60, .inl (fun _ => 0))), (o 0, .inr (2, [.ref (o 1), .ref (o 2), .ref (o 3), .int 0, .int 0, .int 0]))]
theorem s_X1_init (hs : kgH) (l : Launch) (a : Nat) (rest : va_W) : Sdn hs l yX1_init cX1_init 1 { frames := 1, cells := 3, slots := 104, locals := 40 } [.ref a] ((a, .inr (2, kg_zX1)) :: rest) (fun o => kgWX1 hs (kgCons a o) ++ rest) := by
  refine sd_n (by decide +kernel) (Nat.le_of_ble_eq_true rfl) hs l (fun X hh hl S hX hQ => ?_)
  subst hh
  refine bw_aload_n S 0 rfl dX1_init_0 rfl ?_
  refine bw_objInit S tw_173 dX1_init_1 (by decide) (by decide) (by decide) ?_
  refine bw_aload_n S 0 rfl dX1_init_4 rfl ?_
  refine bw_bipush S dX1_init_5 (v := 60) (by decide) ?_
  refine bw_newa (atype := .char) (N' := 60) (ce2 := 1) (sl2 := 60) S (hX rfl).2 1 11 tw_191 rfl rfl (fun _ _ => rfl) (fun _ => rfl) (by decide) (by decide) (by decide) rfl rfl (Nat.le_of_ble_eq_true rfl) (Nat.le_of_ble_eq_true rfl) dX1_init_7 (fun q0 => ?_)
  refine bw_putF (ws2 := (q0, .inl (kgC (kgHs X) 11, 60, .inl (fun _ => 0))) :: (a, .inr (2, [.ref q0, .null, .null, .int 0, .int 0, .int 0])) :: rest) S (hX rfl) 1 0 rfl cl_X1 tyX1_ok nmX1 (by decide) rfl tw_174 rfl rfl (by simp only [List.length_cons, List.length_nil]; omega) rfl dX1_init_9 ?_
  refine bw_aload_n S 0 rfl dX1_init_12 rfl ?_
  refine bw_bipush S dX1_init_13 (v := 11) (by decide) ?_
  refine bw_newa (atype := .int) (N' := 11) (ce2 := 2) (sl2 := 71) S (hX rfl).2 0 10 tw_130 rfl rfl (fun _ _ => rfl) (fun _ => rfl) (by decide) (by decide) (by decide) rfl rfl (Nat.le_of_ble_eq_true rfl) (Nat.le_of_ble_eq_true rfl) dX1_init_15 (fun q1 => ?_)
  refine bw_putF (ws2 := (q1, .inl (kgC (kgHs X) 10, 11, .inl (fun _ => 0))) :: (q0, .inl (kgC (kgHs X) 11, 60, .inl (fun _ => 0))) :: (a, .inr (2, [.ref q0, .ref q1, .null, .int 0, .int 0, .int 0])) :: rest) S (hX rfl) 2 1 rfl cl_X1 tyX1_ok nmX1 (by decide) rfl tw_175 rfl rfl (by simp only [List.length_cons, List.length_nil]; omega) rfl dX1_init_17 ?_
  refine bw_aload_n S 0 rfl dX1_init_20 rfl ?_
  refine bw_bipush S dX1_init_21 (v := 33) (by decide) ?_
  refine bw_newa (atype := .int) (N' := 33) (ce2 := 3) (sl2 := 104) S (hX rfl).2 0 10 tw_130 rfl rfl (fun _ _ => rfl) (fun _ => rfl) (by decide) (by decide) (by decide) rfl rfl (Nat.le_of_ble_eq_true rfl) (Nat.le_of_ble_eq_true rfl) dX1_init_23 (fun q2 => ?_)
  refine bw_putF (ws2 := (q2, .inl (kgC (kgHs X) 10, 33, .inl (fun _ => 0))) :: (q1, .inl (kgC (kgHs X) 10, 11, .inl (fun _ => 0))) :: (q0, .inl (kgC (kgHs X) 11, 60, .inl (fun _ => 0))) :: (a, .inr (2, [.ref q0, .ref q1, .ref q2, .int 0, .int 0, .int 0])) :: rest) S (hX rfl) 3 2 rfl cl_X1 tyX1_ok nmX1 (by decide) rfl tw_176 rfl rfl (by simp only [List.length_cons, List.length_nil]; omega) rfl dX1_init_25 ?_
  exact bw_ret S hQ (fun n => [q0, q1, q2].getD n 0) rfl (Nat.le_refl _) (Nat.le_refl _) dX1_init_28
abbrev kg_zX5 : List Value := [.null, .int 0, .int 0, .null, .null, .int 0, .null, .int 0, .int 0, .int 0, .null, .int 0, .null, .int 0]
def kgWX5 (hs : kgH) (o : Nat → Nat) : va_W := [(o 6, .inl (kgC hs 11, 40, .inl (fun _ => 0))), (o 5, .inl (kgC hs 10, 244, .inl (fun _ => 0))), (o 4, .inl (kgC hs 11, 60, .inl (fun _ => 0))), (o 3, .inl (kgC hs 10, 3, .inl (fun _ => 0))), (o 2, .inl (kgC hs 10, 3, .inl (fun _ => 0))), (o 1, .inl (kgC hs 10, 1375, .inl (fun _ => 0))), (o 0, .inr (6, [.ref (o 1), .int 0, .int 0, .ref (o 2), .ref (o 3), .int 0, .ref (o 4), .int 0, .int 0, .int 0, .ref (o 5), .int 0, .ref (o 6), .int 0]))]
theorem vi_X3 : kgIW yX3_init cX3_init 1 0 := ⟨⟨tw_51, rfl⟩, tw_24, tw_52, by decide +kernel, by decide +kernel⟩
theorem vi_X0 : kgIW yX0_init cX0_init 2 0 := ⟨⟨tw_134, rfl⟩, tw_26, tw_135, by decide +kernel, by decide +kernel⟩
theorem vi_X2 : kgIW yX2_init cX2_init 1 0 := ⟨⟨tw_154, rfl⟩, tw_27, tw_155, by decide +kernel, by decide +kernel⟩
theorem vi_X1 : kgIW yX1_init cX1_init 1 0 := ⟨⟨tw_171, rfl⟩, tw_28, tw_172, by decide +kernel, by decide +kernel⟩
theorem vi_J4 : kgIW yJ4_init_da8c8 cJ4_init_da8c8 1 0 := ⟨⟨tw_195, rfl⟩, tw_30, tw_196, by decide +kernel, by decide +kernel⟩
theorem vi_J5 : kgIW yJ5_init_d00df cJ5_init_d00df 2 1 := ⟨⟨tw_198, rfl⟩, tw_29, tw_199, by decide +kernel, by decide +kernel⟩
theorem vi_X4 : kgIW yX4_init cX4_init 1 0 := ⟨⟨tw_43, rfl⟩, tw_23, tw_44, by decide +kernel, by decide +kernel⟩
def kgStt (l : List (Nat → Nat)) (n : Nat) : Nat := (l.getD (n / 15) id) (n % 15)
def kgWJ4 (hs : kgH) (o : Nat → Nat) : va_W := [(o 1, .inl (kgC hs 12, 16, .inl (fun _ => 0))), (o 0, .inr (0, [.ref (o 1), .int 0, .int 0, .int 0]))]
abbrev kg_zJ4 : List Value := [.null, .int 0, .int 0, .int 0]
theorem s_J5_init (hs : kgH) (l : Launch) (a : Nat) (rest : va_W) : Sdn hs l yJ5_init_d00df cJ5_init_d00df 2 { frames := 1, cells := 1, slots := 16, locals := 40 } [.ref a, .int 16] ((a, .inr (0, kg_zJ4)) :: rest) (fun o => kgWJ4 hs (kgCons a o) ++ rest) := by
  refine sd_n (by decide +kernel) (Nat.le_of_ble_eq_true rfl) hs l (fun X hh hl S hX hQ => ?_)
  subst hh
  subst hl
  refine bw_aload_n S 0 rfl dJ5_init_d00df_0 rfl ?_
  refine bw_objInit S tw_200 dJ5_init_d00df_1 (by decide) (by decide) (by decide) ?_
  refine bw_getCS S tw_201 dJ5_init_d00df_4 ?_
  refine bw_eqF (tgt := 25) S dJ5_init_d00df_7 (by decide) (by decide) ?_
  refine bw_aload_n S 0 rfl dJ5_init_d00df_10 rfl ?_
  refine bw_iload_n S 1 rfl dJ5_init_d00df_11 rfl ?_
  refine bw_newa (atype := .byte) (N' := 16) (ce2 := 1) (sl2 := 16) S (hX rfl).2 2 12 tw_224 rfl rfl (fun _ _ => rfl) (fun _ => rfl) (by decide) (by decide) (by decide) rfl rfl (Nat.le_of_ble_eq_true rfl) (Nat.le_of_ble_eq_true rfl) dJ5_init_d00df_12 (fun q => ?_)
  refine bw_put (ws2 := (q, .inl (kgC (kgHs X) 12, 16, .inl (fun _ => 0))) :: (a, .inr (0, [.ref q, .int 0, .int 0, .int 0])) :: rest) S 1 0 rfl cl_J4 tyJ4_ok nmJ4 (by decide) rfl tw_210 rfl rfl (by simp only [List.length_cons, List.length_nil]; omega) rfl dJ5_init_d00df_14 ?_
  refine bw_aload_n S 0 rfl dJ5_init_d00df_17 rfl ?_
  refine bw_iconst S dJ5_init_d00df_18 (v := 0) (by decide) ?_
  refine bw_put (ws2 := (q, .inl (kgC (kgHs X) 12, 16, .inl (fun _ => 0))) :: (a, .inr (0, [.ref q, .int 0, .int 0, .int 0])) :: rest) S 1 1 rfl cl_J4 tyJ4_ok nmJ4 (by decide) rfl tw_211 rfl rfl (by simp only [List.length_cons, List.length_nil]; omega) rfl dJ5_init_d00df_19 ?_
  refine bw_goto (tgt := 38) S dJ5_init_d00df_22 (by decide) ?_
  exact bw_ret S hQ (fun n => q) rfl (Nat.le_refl _) (Nat.le_refl _) dJ5_init_d00df_38
theorem s_J4_init (hs : kgH) (l : Launch) (a : Nat) (rest : va_W) : Sdn hs l yJ4_init_da8c8 cJ4_init_da8c8 1 { frames := 2, cells := 1, slots := 16, locals := 70 } [.ref a] ((a, .inr (0, kg_zJ4)) :: rest) (fun o => kgWJ4 hs (kgCons a o) ++ rest) := by
  refine sd_n (by decide +kernel) (Nat.le_of_ble_eq_true rfl) hs l (fun X hh hl S hX hQ => ?_)
  subst hh
  subst hl
  refine bw_aload_n S 0 rfl dJ4_init_da8c8_0 rfl ?_
  refine bw_bipush S dJ4_init_da8c8_1 (v := 16) (by decide) ?_
  refine bw_ctor (ce2 := 1) (sl2 := 16) S (hX rfl).2 [.int 16] vi_J5 tw_197 (s_J5_init _ _ a rest) (by decide) rfl rfl (Nat.le_of_ble_eq_true rfl) rfl rfl (Nat.le_of_ble_eq_true rfl) (Nat.le_of_ble_eq_true rfl) dJ4_init_da8c8_3 (fun o => ?_)
  exact bw_ret S hQ o rfl (Nat.le_refl _) (Nat.le_refl _) dJ4_init_da8c8_6
def kgWX0 (hs : kgH) (o : Nat → Nat) : va_W := kgWX3 hs (fun j => o (122 + j)) ++ (kgWX3 hs (fun j => o (107 + j)) ++ (kgWX3 hs (fun j => o (92 + j)) ++ (kgWX3 hs (fun j => o (77 + j)) ++ (kgWX3 hs (fun j => o (62 + j)) ++ (kgWX3 hs (fun j => o (47 + j)) ++ (kgWX3 hs (fun j => o (32 + j)) ++ (kgWX3 hs (fun j => o (17 + j)) ++ (kgWX3 hs (fun j => o (2 + j)) ++ [(o 1, .inl (kgC hs 13, 9, .inr (.inr (.inr (.inr (fun j => [some (o 2), some (o 17), some (o 32), some (o 47), some (o 62), some (o 77), some (o 92), some (o 107), some (o 122)].getD j none)))))), (o 0, .inr (1, [.ref (o 1), .int 0, .int 0]))]))))))))
abbrev kg_zX0 : List Value := [.null, .int 0, .int 0]
theorem s_X0_init (hs : kgH) (l : Launch) (a : Nat) (rest : va_W) : Sdn hs l yX0_init cX0_init 2 { frames := 2, cells := 136, slots := 1260, locals := 70 } [.ref a] ((a, .inr (1, kg_zX0)) :: rest) (fun o => kgWX0 hs (kgCons a o) ++ rest) := by
  refine sd_n (by decide +kernel) (Nat.le_of_ble_eq_true rfl) hs l (fun X hh hl S hX hQ => ?_)
  subst hh
  subst hl
  refine bw_aload_n S 0 rfl dX0_init_0 rfl ?_
  refine bw_objInit S tw_136 dX0_init_1 (by decide) (by decide) (by decide) ?_
  refine bw_aload_n S 0 rfl dX0_init_4 rfl ?_
  refine bw_bipush S dX0_init_5 (v := 9) (by decide) ?_
  refine bw_newq (N' := 9) (ce2 := 1) (sl2 := 9) S (hX rfl).2 tw_137 (by decide) (by decide) (by decide) rfl rfl (Nat.le_of_ble_eq_true rfl) (Nat.le_of_ble_eq_true rfl) dX0_init_7 (fun q => ?_)
  refine bw_putF (ws2 := (q, .inl (kgC (kgHs X) 13, 9, .inr (.inr (.inr (.inr (fun _ => none)))))) :: (a, .inr (1, [.ref q, .int 0, .int 0])) :: rest) S (hX rfl) 1 0 rfl cl_X0 tyX0_ok nmX0 (by decide) rfl tw_140 rfl rfl (by simp only [List.length_cons, List.length_nil]; omega) rfl dX0_init_10 ?_
  refine bw_iconst S dX0_init_13 (v := 0) (by decide) ?_
  refine bw_istore_n (L2 := [(0, .ref a), (1, .int 0)]) S [1, 0] dX0_init_14 rfl (by decide) rfl ?_
  refine bw_iload_n S 1 rfl dX0_init_15 rfl ?_
  refine bw_aload_n S 0 rfl dX0_init_16 rfl ?_
  refine bw_get S 1 0 rfl cl_X0 (by decide) rfl tw_140 rfl dX0_init_17 ?_
  refine bw_alen (n := 9) (kt := 13) S 0 3 rfl rfl (v := 9) (by decide) dX0_init_20 ?_
  refine bw_icmp_geF (tgt := 43) S dX0_init_21 (by decide) (by decide) ?_
  refine bw_aload_n S 0 rfl dX0_init_24 rfl ?_
  refine bw_get S 1 0 rfl cl_X0 (by decide) rfl tw_140 rfl dX0_init_25 ?_
  refine bw_iload_n S 1 rfl dX0_init_28 rfl ?_
  refine bw_new (ce2 := 2) (sl2 := 27) S (hX rfl).2 cl_X3 tyX3_ok tw_137 tw_49 tw_24 (fs := kg_zX3) (by decide +kernel) rfl rfl (Nat.le_of_ble_eq_true rfl) (Nat.le_of_ble_eq_true rfl) dX0_init_29 (fun s0 => ?_)
  refine bw_dup S dX0_init_32 ?_
  refine bw_ctor (ce2 := 16) (sl2 := 148) S (hX rfl).2 [] vi_X3 tw_139 (s_X3_init _ _ s0 _) (by decide) rfl rfl (Nat.le_of_ble_eq_true rfl) rfl rfl (Nat.le_of_ble_eq_true rfl) (Nat.le_of_ble_eq_true rfl) dX0_init_33 (fun o0 => ?_)
  refine bw_astq (ws2 := kgWX3 (kgHs X) (kgCons s0 o0) ++ ((q, .inl (kgC (kgHs X) 13, 9, .inr (.inr (.inr (.inr (va_up (fun _ => none) 0 (some s0))))))) :: (a, .inr (1, [.ref q, .int 0, .int 0])) :: rest)) S 15 14 rfl rfl (vp_in_iff.mpr (by decide)) rfl dX0_init_36 ?_
  refine bw_iinc (v := 1) (L2 := [(0, .ref a), (1, .int 1)]) S [1, 0] 1 dX0_init_37 rfl (by decide) (by decide) rfl ?_
  refine bw_goto (tgt := 15) S dX0_init_40 (by decide) ?_
  refine bw_iload_n S 1 rfl dX0_init_15 rfl ?_
  refine bw_aload_n S 0 rfl dX0_init_16 rfl ?_
  refine bw_get S 16 0 rfl cl_X0 (by decide) rfl tw_140 rfl dX0_init_17 ?_
  refine bw_alen (n := 9) (kt := 13) S 15 3 rfl rfl (v := 9) (by decide) dX0_init_20 ?_
  refine bw_icmp_geF (tgt := 43) S dX0_init_21 (by decide) (by decide) ?_
  refine bw_aload_n S 0 rfl dX0_init_24 rfl ?_
  refine bw_get S 16 0 rfl cl_X0 (by decide) rfl tw_140 rfl dX0_init_25 ?_
  refine bw_iload_n S 1 rfl dX0_init_28 rfl ?_
  refine bw_new (ce2 := 17) (sl2 := 166) S (hX rfl).2 cl_X3 tyX3_ok tw_137 tw_49 tw_24 (fs := kg_zX3) (by decide +kernel) rfl rfl (Nat.le_of_ble_eq_true rfl) (Nat.le_of_ble_eq_true rfl) dX0_init_29 (fun s1 => ?_)
  refine bw_dup S dX0_init_32 ?_
  refine bw_ctor (ce2 := 31) (sl2 := 287) S (hX rfl).2 [] vi_X3 tw_139 (s_X3_init _ _ s1 _) (by decide) rfl rfl (Nat.le_of_ble_eq_true rfl) rfl rfl (Nat.le_of_ble_eq_true rfl) (Nat.le_of_ble_eq_true rfl) dX0_init_33 (fun o1 => ?_)
  refine bw_astq (ws2 := kgWX3 (kgHs X) (kgCons s1 o1) ++ (kgWX3 (kgHs X) (kgCons s0 o0) ++ ((q, .inl (kgC (kgHs X) 13, 9, .inr (.inr (.inr (.inr (va_up (va_up (fun _ => none) 0 (some s0)) 1 (some s1))))))) :: (a, .inr (1, [.ref q, .int 0, .int 0])) :: rest))) S 30 14 rfl rfl (vp_in_iff.mpr (by decide)) rfl dX0_init_36 ?_
  refine bw_iinc (v := 2) (L2 := [(0, .ref a), (1, .int 2)]) S [1, 0] 1 dX0_init_37 rfl (by decide) (by decide) rfl ?_
  refine bw_goto (tgt := 15) S dX0_init_40 (by decide) ?_
  refine bw_iload_n S 1 rfl dX0_init_15 rfl ?_
  refine bw_aload_n S 0 rfl dX0_init_16 rfl ?_
  refine bw_get S 31 0 rfl cl_X0 (by decide) rfl tw_140 rfl dX0_init_17 ?_
  refine bw_alen (n := 9) (kt := 13) S 30 3 rfl rfl (v := 9) (by decide) dX0_init_20 ?_
  refine bw_icmp_geF (tgt := 43) S dX0_init_21 (by decide) (by decide) ?_
  refine bw_aload_n S 0 rfl dX0_init_24 rfl ?_
  refine bw_get S 31 0 rfl cl_X0 (by decide) rfl tw_140 rfl dX0_init_25 ?_
  refine bw_iload_n S 1 rfl dX0_init_28 rfl ?_
  refine bw_new (ce2 := 32) (sl2 := 305) S (hX rfl).2 cl_X3 tyX3_ok tw_137 tw_49 tw_24 (fs := kg_zX3) (by decide +kernel) rfl rfl (Nat.le_of_ble_eq_true rfl) (Nat.le_of_ble_eq_true rfl) dX0_init_29 (fun s2 => ?_)
  refine bw_dup S dX0_init_32 ?_
  refine bw_ctor (ce2 := 46) (sl2 := 426) S (hX rfl).2 [] vi_X3 tw_139 (s_X3_init _ _ s2 _) (by decide) rfl rfl (Nat.le_of_ble_eq_true rfl) rfl rfl (Nat.le_of_ble_eq_true rfl) (Nat.le_of_ble_eq_true rfl) dX0_init_33 (fun o2 => ?_)
  refine bw_astq (ws2 := kgWX3 (kgHs X) (kgCons s2 o2) ++ (kgWX3 (kgHs X) (kgCons s1 o1) ++ (kgWX3 (kgHs X) (kgCons s0 o0) ++ ((q, .inl (kgC (kgHs X) 13, 9, .inr (.inr (.inr (.inr (va_up (va_up (va_up (fun _ => none) 0 (some s0)) 1 (some s1)) 2 (some s2))))))) :: (a, .inr (1, [.ref q, .int 0, .int 0])) :: rest)))) S 45 14 rfl rfl (vp_in_iff.mpr (by decide)) rfl dX0_init_36 ?_
  refine bw_iinc (v := 3) (L2 := [(0, .ref a), (1, .int 3)]) S [1, 0] 1 dX0_init_37 rfl (by decide) (by decide) rfl ?_
  refine bw_goto (tgt := 15) S dX0_init_40 (by decide) ?_
  refine bw_iload_n S 1 rfl dX0_init_15 rfl ?_
  refine bw_aload_n S 0 rfl dX0_init_16 rfl ?_
  refine bw_get S 46 0 rfl cl_X0 (by decide) rfl tw_140 rfl dX0_init_17 ?_
  refine bw_alen (n := 9) (kt := 13) S 45 3 rfl rfl (v := 9) (by decide) dX0_init_20 ?_
  refine bw_icmp_geF (tgt := 43) S dX0_init_21 (by decide) (by decide) ?_
  refine bw_aload_n S 0 rfl dX0_init_24 rfl ?_
  refine bw_get S 46 0 rfl cl_X0 (by decide) rfl tw_140 rfl dX0_init_25 ?_
  refine bw_iload_n S 1 rfl dX0_init_28 rfl ?_
  refine bw_new (ce2 := 47) (sl2 := 444) S (hX rfl).2 cl_X3 tyX3_ok tw_137 tw_49 tw_24 (fs := kg_zX3) (by decide +kernel) rfl rfl (Nat.le_of_ble_eq_true rfl) (Nat.le_of_ble_eq_true rfl) dX0_init_29 (fun s3 => ?_)
  refine bw_dup S dX0_init_32 ?_
  refine bw_ctor (ce2 := 61) (sl2 := 565) S (hX rfl).2 [] vi_X3 tw_139 (s_X3_init _ _ s3 _) (by decide) rfl rfl (Nat.le_of_ble_eq_true rfl) rfl rfl (Nat.le_of_ble_eq_true rfl) (Nat.le_of_ble_eq_true rfl) dX0_init_33 (fun o3 => ?_)
  refine bw_astq (ws2 := kgWX3 (kgHs X) (kgCons s3 o3) ++ (kgWX3 (kgHs X) (kgCons s2 o2) ++ (kgWX3 (kgHs X) (kgCons s1 o1) ++ (kgWX3 (kgHs X) (kgCons s0 o0) ++ ((q, .inl (kgC (kgHs X) 13, 9, .inr (.inr (.inr (.inr (va_up (va_up (va_up (va_up (fun _ => none) 0 (some s0)) 1 (some s1)) 2 (some s2)) 3 (some s3))))))) :: (a, .inr (1, [.ref q, .int 0, .int 0])) :: rest))))) S 60 14 rfl rfl (vp_in_iff.mpr (by decide)) rfl dX0_init_36 ?_
  refine bw_iinc (v := 4) (L2 := [(0, .ref a), (1, .int 4)]) S [1, 0] 1 dX0_init_37 rfl (by decide) (by decide) rfl ?_
  refine bw_goto (tgt := 15) S dX0_init_40 (by decide) ?_
  refine bw_iload_n S 1 rfl dX0_init_15 rfl ?_
  refine bw_aload_n S 0 rfl dX0_init_16 rfl ?_
  refine bw_get S 61 0 rfl cl_X0 (by decide) rfl tw_140 rfl dX0_init_17 ?_
  refine bw_alen (n := 9) (kt := 13) S 60 3 rfl rfl (v := 9) (by decide) dX0_init_20 ?_
  refine bw_icmp_geF (tgt := 43) S dX0_init_21 (by decide) (by decide) ?_
  refine bw_aload_n S 0 rfl dX0_init_24 rfl ?_
  refine bw_get S 61 0 rfl cl_X0 (by decide) rfl tw_140 rfl dX0_init_25 ?_
  refine bw_iload_n S 1 rfl dX0_init_28 rfl ?_
  refine bw_new (ce2 := 62) (sl2 := 583) S (hX rfl).2 cl_X3 tyX3_ok tw_137 tw_49 tw_24 (fs := kg_zX3) (by decide +kernel) rfl rfl (Nat.le_of_ble_eq_true rfl) (Nat.le_of_ble_eq_true rfl) dX0_init_29 (fun s4 => ?_)
  refine bw_dup S dX0_init_32 ?_
  refine bw_ctor (ce2 := 76) (sl2 := 704) S (hX rfl).2 [] vi_X3 tw_139 (s_X3_init _ _ s4 _) (by decide) rfl rfl (Nat.le_of_ble_eq_true rfl) rfl rfl (Nat.le_of_ble_eq_true rfl) (Nat.le_of_ble_eq_true rfl) dX0_init_33 (fun o4 => ?_)
  refine bw_astq (ws2 := kgWX3 (kgHs X) (kgCons s4 o4) ++ (kgWX3 (kgHs X) (kgCons s3 o3) ++ (kgWX3 (kgHs X) (kgCons s2 o2) ++ (kgWX3 (kgHs X) (kgCons s1 o1) ++ (kgWX3 (kgHs X) (kgCons s0 o0) ++ ((q, .inl (kgC (kgHs X) 13, 9, .inr (.inr (.inr (.inr (va_up (va_up (va_up (va_up (va_up (fun _ => none) 0 (some s0)) 1 (some s1)) 2 (some s2)) 3 (some s3)) 4 (some s4))))))) :: (a, .inr (1, [.ref q, .int 0, .int 0])) :: rest)))))) S 75 14 rfl rfl (vp_in_iff.mpr (by decide)) rfl dX0_init_36 ?_
  refine bw_iinc (v := 5) (L2 := [(0, .ref a), (1, .int 5)]) S [1, 0] 1 dX0_init_37 rfl (by decide) (by decide) rfl ?_
  refine bw_goto (tgt := 15) S dX0_init_40 (by decide) ?_
  refine bw_iload_n S 1 rfl dX0_init_15 rfl ?_
  refine bw_aload_n S 0 rfl dX0_init_16 rfl ?_
  refine bw_get S 76 0 rfl cl_X0 (by decide) rfl tw_140 rfl dX0_init_17 ?_
  refine bw_alen (n := 9) (kt := 13) S 75 3 rfl rfl (v := 9) (by decide) dX0_init_20 ?_
  refine bw_icmp_geF (tgt := 43) S dX0_init_21 (by decide) (by decide) ?_
  refine bw_aload_n S 0 rfl dX0_init_24 rfl ?_
  refine bw_get S 76 0 rfl cl_X0 (by decide) rfl tw_140 rfl dX0_init_25 ?_
  refine bw_iload_n S 1 rfl dX0_init_28 rfl ?_
  refine bw_new (ce2 := 77) (sl2 := 722) S (hX rfl).2 cl_X3 tyX3_ok tw_137 tw_49 tw_24 (fs := kg_zX3) (by decide +kernel) rfl rfl (Nat.le_of_ble_eq_true rfl) (Nat.le_of_ble_eq_true rfl) dX0_init_29 (fun s5 => ?_)
  refine bw_dup S dX0_init_32 ?_
  refine bw_ctor (ce2 := 91) (sl2 := 843) S (hX rfl).2 [] vi_X3 tw_139 (s_X3_init _ _ s5 _) (by decide) rfl rfl (Nat.le_of_ble_eq_true rfl) rfl rfl (Nat.le_of_ble_eq_true rfl) (Nat.le_of_ble_eq_true rfl) dX0_init_33 (fun o5 => ?_)
  refine bw_astq (ws2 := kgWX3 (kgHs X) (kgCons s5 o5) ++ (kgWX3 (kgHs X) (kgCons s4 o4) ++ (kgWX3 (kgHs X) (kgCons s3 o3) ++ (kgWX3 (kgHs X) (kgCons s2 o2) ++ (kgWX3 (kgHs X) (kgCons s1 o1) ++ (kgWX3 (kgHs X) (kgCons s0 o0) ++ ((q, .inl (kgC (kgHs X) 13, 9, .inr (.inr (.inr (.inr (va_up (va_up (va_up (va_up (va_up (va_up (fun _ => none) 0 (some s0)) 1 (some s1)) 2 (some s2)) 3 (some s3)) 4 (some s4)) 5 (some s5))))))) :: (a, .inr (1, [.ref q, .int 0, .int 0])) :: rest))))))) S 90 14 rfl rfl (vp_in_iff.mpr (by decide)) rfl dX0_init_36 ?_
  refine bw_iinc (v := 6) (L2 := [(0, .ref a), (1, .int 6)]) S [1, 0] 1 dX0_init_37 rfl (by decide) (by decide) rfl ?_
  refine bw_goto (tgt := 15) S dX0_init_40 (by decide) ?_
  refine bw_iload_n S 1 rfl dX0_init_15 rfl ?_
  refine bw_aload_n S 0 rfl dX0_init_16 rfl ?_
  refine bw_get S 91 0 rfl cl_X0 (by decide) rfl tw_140 rfl dX0_init_17 ?_
  refine bw_alen (n := 9) (kt := 13) S 90 3 rfl rfl (v := 9) (by decide) dX0_init_20 ?_
  refine bw_icmp_geF (tgt := 43) S dX0_init_21 (by decide) (by decide) ?_
  refine bw_aload_n S 0 rfl dX0_init_24 rfl ?_
  refine bw_get S 91 0 rfl cl_X0 (by decide) rfl tw_140 rfl dX0_init_25 ?_
  refine bw_iload_n S 1 rfl dX0_init_28 rfl ?_
  refine bw_new (ce2 := 92) (sl2 := 861) S (hX rfl).2 cl_X3 tyX3_ok tw_137 tw_49 tw_24 (fs := kg_zX3) (by decide +kernel) rfl rfl (Nat.le_of_ble_eq_true rfl) (Nat.le_of_ble_eq_true rfl) dX0_init_29 (fun s6 => ?_)
  refine bw_dup S dX0_init_32 ?_
  refine bw_ctor (ce2 := 106) (sl2 := 982) S (hX rfl).2 [] vi_X3 tw_139 (s_X3_init _ _ s6 _) (by decide) rfl rfl (Nat.le_of_ble_eq_true rfl) rfl rfl (Nat.le_of_ble_eq_true rfl) (Nat.le_of_ble_eq_true rfl) dX0_init_33 (fun o6 => ?_)
  refine bw_astq (ws2 := kgWX3 (kgHs X) (kgCons s6 o6) ++ (kgWX3 (kgHs X) (kgCons s5 o5) ++ (kgWX3 (kgHs X) (kgCons s4 o4) ++ (kgWX3 (kgHs X) (kgCons s3 o3) ++ (kgWX3 (kgHs X) (kgCons s2 o2) ++ (kgWX3 (kgHs X) (kgCons s1 o1) ++ (kgWX3 (kgHs X) (kgCons s0 o0) ++ ((q, .inl (kgC (kgHs X) 13, 9, .inr (.inr (.inr (.inr (va_up (va_up (va_up (va_up (va_up (va_up (va_up (fun _ => none) 0 (some s0)) 1 (some s1)) 2 (some s2)) 3 (some s3)) 4 (some s4)) 5 (some s5)) 6 (some s6))))))) :: (a, .inr (1, [.ref q, .int 0, .int 0])) :: rest)))))))) S 105 14 rfl rfl (vp_in_iff.mpr (by decide)) rfl dX0_init_36 ?_
  refine bw_iinc (v := 7) (L2 := [(0, .ref a), (1, .int 7)]) S [1, 0] 1 dX0_init_37 rfl (by decide) (by decide) rfl ?_
  refine bw_goto (tgt := 15) S dX0_init_40 (by decide) ?_
  refine bw_iload_n S 1 rfl dX0_init_15 rfl ?_
  refine bw_aload_n S 0 rfl dX0_init_16 rfl ?_
  refine bw_get S 106 0 rfl cl_X0 (by decide) rfl tw_140 rfl dX0_init_17 ?_
  refine bw_alen (n := 9) (kt := 13) S 105 3 rfl rfl (v := 9) (by decide) dX0_init_20 ?_
  refine bw_icmp_geF (tgt := 43) S dX0_init_21 (by decide) (by decide) ?_
  refine bw_aload_n S 0 rfl dX0_init_24 rfl ?_
  refine bw_get S 106 0 rfl cl_X0 (by decide) rfl tw_140 rfl dX0_init_25 ?_
  refine bw_iload_n S 1 rfl dX0_init_28 rfl ?_
  refine bw_new (ce2 := 107) (sl2 := 1000) S (hX rfl).2 cl_X3 tyX3_ok tw_137 tw_49 tw_24 (fs := kg_zX3) (by decide +kernel) rfl rfl (Nat.le_of_ble_eq_true rfl) (Nat.le_of_ble_eq_true rfl) dX0_init_29 (fun s7 => ?_)
  refine bw_dup S dX0_init_32 ?_
  refine bw_ctor (ce2 := 121) (sl2 := 1121) S (hX rfl).2 [] vi_X3 tw_139 (s_X3_init _ _ s7 _) (by decide) rfl rfl (Nat.le_of_ble_eq_true rfl) rfl rfl (Nat.le_of_ble_eq_true rfl) (Nat.le_of_ble_eq_true rfl) dX0_init_33 (fun o7 => ?_)
  refine bw_astq (ws2 := kgWX3 (kgHs X) (kgCons s7 o7) ++ (kgWX3 (kgHs X) (kgCons s6 o6) ++ (kgWX3 (kgHs X) (kgCons s5 o5) ++ (kgWX3 (kgHs X) (kgCons s4 o4) ++ (kgWX3 (kgHs X) (kgCons s3 o3) ++ (kgWX3 (kgHs X) (kgCons s2 o2) ++ (kgWX3 (kgHs X) (kgCons s1 o1) ++ (kgWX3 (kgHs X) (kgCons s0 o0) ++ ((q, .inl (kgC (kgHs X) 13, 9, .inr (.inr (.inr (.inr (va_up (va_up (va_up (va_up (va_up (va_up (va_up (va_up (fun _ => none) 0 (some s0)) 1 (some s1)) 2 (some s2)) 3 (some s3)) 4 (some s4)) 5 (some s5)) 6 (some s6)) 7 (some s7))))))) :: (a, .inr (1, [.ref q, .int 0, .int 0])) :: rest))))))))) S 120 14 rfl rfl (vp_in_iff.mpr (by decide)) rfl dX0_init_36 ?_
  refine bw_iinc (v := 8) (L2 := [(0, .ref a), (1, .int 8)]) S [1, 0] 1 dX0_init_37 rfl (by decide) (by decide) rfl ?_
  refine bw_goto (tgt := 15) S dX0_init_40 (by decide) ?_
  refine bw_iload_n S 1 rfl dX0_init_15 rfl ?_
  refine bw_aload_n S 0 rfl dX0_init_16 rfl ?_
  refine bw_get S 121 0 rfl cl_X0 (by decide) rfl tw_140 rfl dX0_init_17 ?_
  refine bw_alen (n := 9) (kt := 13) S 120 3 rfl rfl (v := 9) (by decide) dX0_init_20 ?_
  refine bw_icmp_geF (tgt := 43) S dX0_init_21 (by decide) (by decide) ?_
  refine bw_aload_n S 0 rfl dX0_init_24 rfl ?_
  refine bw_get S 121 0 rfl cl_X0 (by decide) rfl tw_140 rfl dX0_init_25 ?_
  refine bw_iload_n S 1 rfl dX0_init_28 rfl ?_
  refine bw_new (ce2 := 122) (sl2 := 1139) S (hX rfl).2 cl_X3 tyX3_ok tw_137 tw_49 tw_24 (fs := kg_zX3) (by decide +kernel) rfl rfl (Nat.le_of_ble_eq_true rfl) (Nat.le_of_ble_eq_true rfl) dX0_init_29 (fun s8 => ?_)
  refine bw_dup S dX0_init_32 ?_
  refine bw_ctor (ce2 := 136) (sl2 := 1260) S (hX rfl).2 [] vi_X3 tw_139 (s_X3_init _ _ s8 _) (by decide) rfl rfl (Nat.le_of_ble_eq_true rfl) rfl rfl (Nat.le_of_ble_eq_true rfl) (Nat.le_of_ble_eq_true rfl) dX0_init_33 (fun o8 => ?_)
  refine bw_astq (ws2 := kgWX3 (kgHs X) (kgCons s8 o8) ++ (kgWX3 (kgHs X) (kgCons s7 o7) ++ (kgWX3 (kgHs X) (kgCons s6 o6) ++ (kgWX3 (kgHs X) (kgCons s5 o5) ++ (kgWX3 (kgHs X) (kgCons s4 o4) ++ (kgWX3 (kgHs X) (kgCons s3 o3) ++ (kgWX3 (kgHs X) (kgCons s2 o2) ++ (kgWX3 (kgHs X) (kgCons s1 o1) ++ (kgWX3 (kgHs X) (kgCons s0 o0) ++ ((q, .inl (kgC (kgHs X) 13, 9, .inr (.inr (.inr (.inr (va_up (va_up (va_up (va_up (va_up (va_up (va_up (va_up (va_up (fun _ => none) 0 (some s0)) 1 (some s1)) 2 (some s2)) 3 (some s3)) 4 (some s4)) 5 (some s5)) 6 (some s6)) 7 (some s7)) 8 (some s8))))))) :: (a, .inr (1, [.ref q, .int 0, .int 0])) :: rest)))))))))) S 135 14 rfl rfl (vp_in_iff.mpr (by decide)) rfl dX0_init_36 ?_
  refine bw_iinc (v := 9) (L2 := [(0, .ref a), (1, .int 9)]) S [1, 0] 1 dX0_init_37 rfl (by decide) (by decide) rfl ?_
  refine bw_goto (tgt := 15) S dX0_init_40 (by decide) ?_
  refine bw_iload_n S 1 rfl dX0_init_15 rfl ?_
  refine bw_aload_n S 0 rfl dX0_init_16 rfl ?_
  refine bw_get S 136 0 rfl cl_X0 (by decide) rfl tw_140 rfl dX0_init_17 ?_
  refine bw_alen (n := 9) (kt := 13) S 135 3 rfl rfl (v := 9) (by decide) dX0_init_20 ?_
  refine bw_icmp_geT (tgt := 43) S dX0_init_21 (by decide) (by decide) ?_
  refine bw_arr (ws2 := kgWX3 (kgHs X) (kgCons s8 o8) ++ (kgWX3 (kgHs X) (kgCons s7 o7) ++ (kgWX3 (kgHs X) (kgCons s6 o6) ++ (kgWX3 (kgHs X) (kgCons s5 o5) ++ (kgWX3 (kgHs X) (kgCons s4 o4) ++ (kgWX3 (kgHs X) (kgCons s3 o3) ++ (kgWX3 (kgHs X) (kgCons s2 o2) ++ (kgWX3 (kgHs X) (kgCons s1 o1) ++ (kgWX3 (kgHs X) (kgCons s0 o0) ++ ((q, .inl (kgC (kgHs X) 13, 9, .inr (.inr (.inr (.inr (fun j => [some s0, some s1, some s2, some s3, some s4, some s5, some s6, some s7, some s8].getD j none)))))) :: (a, .inr (1, [.ref q, .int 0, .int 0])) :: rest)))))))))) S 135 rfl (g := (fun j => [some s0, some s1, some s2, some s3, some s4, some s5, some s6, some s7, some s8].getD j none)) (fun j hj => by
    match j, hj with
    | 0, _ => rfl
    | 1, _ => rfl
    | 2, _ => rfl
    | 3, _ => rfl
    | 4, _ => rfl
    | 5, _ => rfl
    | 6, _ => rfl
    | 7, _ => rfl
    | 8, _ => rfl) rfl ?_
  exact bw_ret S hQ (fun n => if n = 0 then q else kgStt [kgCons s0 o0, kgCons s1 o1, kgCons s2 o2, kgCons s3 o3, kgCons s4 o4, kgCons s5 o5, kgCons s6 o6, kgCons s7 o7, kgCons s8 o8] (n - 1)) rfl (Nat.le_refl _) (Nat.le_refl _) dX0_init_43
def kgWX4 (hs : kgH) (o : Nat → Nat) (rest : va_W) : va_W := kgWJ4 hs (fun j => o (175 + j)) ++ (kgWX1 hs (fun j => o (171 + j)) ++ (kgWX2 hs (fun j => o (168 + j)) ++ (kgWX0 hs (fun j => o (31 + j)) ++ (kgWX3 hs (fun j => o (16 + j)) ++ (kgWX3 hs (fun j => o (1 + j)) ++ ((o 0, .inr (5, [.ref (o 1), .ref (o 16), .ref (o 31), .ref (o 168), .ref (o 171), .ref (o 175), .int 0])) :: rest))))))
abbrev kg_zX4 : List Value := [.null, .null, .null, .null, .null, .null, .int 0]
theorem s_X4_init (hs : kgH) (l : Launch) (a : Nat) (rest : va_W) : Sdn hs l yX4_init cX4_init 1 { frames := 3, cells := 176, slots := 1680, locals := 120 } [.ref a] ((a, .inr (5, kg_zX4)) :: rest) (fun o => kgWX4 hs (kgCons a o) rest) := by
  refine sd_n (by decide +kernel) (Nat.le_of_ble_eq_true rfl) hs l (fun X hh hl S hX hQ => ?_)
  subst hh
  subst hl
  refine bw_aload_n S 0 rfl dX4_init_0 rfl ?_
  refine bw_objInit S tw_45 dX4_init_1 (by decide) (by decide) (by decide) ?_
  refine bw_aload_n S 0 rfl dX4_init_4 rfl ?_
  refine bw_new (ce2 := 1) (sl2 := 18) S (hX rfl).2 cl_X3 tyX3_ok tw_48 tw_49 tw_24 (fs := kg_zX3) (by decide +kernel) rfl rfl (Nat.le_of_ble_eq_true rfl) (Nat.le_of_ble_eq_true rfl) dX4_init_5 (fun c0 => ?_)
  refine bw_dup S dX4_init_8 ?_
  refine bw_ctor (ce2 := 15) (sl2 := 139) S (hX rfl).2 [] vi_X3 tw_50 (s_X3_init _ _ c0 _) (by decide) rfl rfl (Nat.le_of_ble_eq_true rfl) rfl rfl (Nat.le_of_ble_eq_true rfl) (Nat.le_of_ble_eq_true rfl) dX4_init_9 (fun o0 => ?_)
  refine bw_putF (ws2 := kgWX3 (kgHs X) (kgCons c0 o0) ++ ((a, .inr (5, [.ref c0, .null, .null, .null, .null, .null, .int 0])) :: rest)) S (hX rfl) 15 0 rfl cl_X4 tyX4_ok nmX4 (by decide) rfl tw_225 rfl rfl (by simp only [List.length_cons, List.length_nil]; omega) rfl dX4_init_12 ?_
  refine bw_aload_n S 0 rfl dX4_init_15 rfl ?_
  refine bw_new (ce2 := 16) (sl2 := 157) S (hX rfl).2 cl_X3 tyX3_ok tw_48 tw_49 tw_24 (fs := kg_zX3) (by decide +kernel) rfl rfl (Nat.le_of_ble_eq_true rfl) (Nat.le_of_ble_eq_true rfl) dX4_init_16 (fun c1 => ?_)
  refine bw_dup S dX4_init_19 ?_
  refine bw_ctor (ce2 := 30) (sl2 := 278) S (hX rfl).2 [] vi_X3 tw_50 (s_X3_init _ _ c1 _) (by decide) rfl rfl (Nat.le_of_ble_eq_true rfl) rfl rfl (Nat.le_of_ble_eq_true rfl) (Nat.le_of_ble_eq_true rfl) dX4_init_20 (fun o1 => ?_)
  refine bw_putF (ws2 := kgWX3 (kgHs X) (kgCons c1 o1) ++ (kgWX3 (kgHs X) (kgCons c0 o0) ++ ((a, .inr (5, [.ref c0, .ref c1, .null, .null, .null, .null, .int 0])) :: rest))) S (hX rfl) 30 1 rfl cl_X4 tyX4_ok nmX4 (by decide) rfl tw_226 rfl rfl (by simp only [List.length_cons, List.length_nil]; omega) rfl dX4_init_23 ?_
  refine bw_aload_n S 0 rfl dX4_init_26 rfl ?_
  refine bw_new (ce2 := 31) (sl2 := 281) S (hX rfl).2 cl_X0 tyX0_ok tw_131 tw_132 tw_26 (fs := kg_zX0) (by decide +kernel) rfl rfl (Nat.le_of_ble_eq_true rfl) (Nat.le_of_ble_eq_true rfl) dX4_init_27 (fun c2 => ?_)
  refine bw_dup S dX4_init_30 ?_
  refine bw_ctor (ce2 := 167) (sl2 := 1541) S (hX rfl).2 [] vi_X0 tw_133 (s_X0_init _ _ c2 _) (by decide) rfl rfl (Nat.le_of_ble_eq_true rfl) rfl rfl (Nat.le_of_ble_eq_true rfl) (Nat.le_of_ble_eq_true rfl) dX4_init_31 (fun o2 => ?_)
  refine bw_putF (ws2 := kgWX0 (kgHs X) (kgCons c2 o2) ++ (kgWX3 (kgHs X) (kgCons c1 o1) ++ (kgWX3 (kgHs X) (kgCons c0 o0) ++ ((a, .inr (5, [.ref c0, .ref c1, .ref c2, .null, .null, .null, .int 0])) :: rest)))) S (hX rfl) 167 2 rfl cl_X4 tyX4_ok nmX4 (by decide) rfl tw_227 rfl rfl (by simp only [List.length_cons, List.length_nil]; omega) rfl dX4_init_34 ?_
  refine bw_aload_n S 0 rfl dX4_init_37 rfl ?_
  refine bw_new (ce2 := 168) (sl2 := 1544) S (hX rfl).2 cl_X2 tyX2_ok tw_151 tw_152 tw_27 (fs := kg_zX2) (by decide +kernel) rfl rfl (Nat.le_of_ble_eq_true rfl) (Nat.le_of_ble_eq_true rfl) dX4_init_38 (fun c3 => ?_)
  refine bw_dup S dX4_init_41 ?_
  refine bw_ctorN (ce2 := 170) (sl2 := 1550) S (hX rfl).2 [] vi_X2 (fun h => h.2.2.2.2.2.2.2.2.1) (s_X2_init _ _ c3 _) (by decide) rfl rfl (Nat.le_of_ble_eq_true rfl) rfl rfl (Nat.le_of_ble_eq_true rfl) (Nat.le_of_ble_eq_true rfl) dX4_init_42 (fun o3 => ?_)
  refine bw_putF (ws2 := kgWX2 (kgHs X) (kgCons c3 o3) ++ (kgWX0 (kgHs X) (kgCons c2 o2) ++ (kgWX3 (kgHs X) (kgCons c1 o1) ++ (kgWX3 (kgHs X) (kgCons c0 o0) ++ ((a, .inr (5, [.ref c0, .ref c1, .ref c2, .ref c3, .null, .null, .int 0])) :: rest))))) S (hX rfl) 170 3 rfl cl_X4 tyX4_ok nmX4 (by decide) rfl tw_228 rfl rfl (by simp only [List.length_cons, List.length_nil]; omega) rfl dX4_init_45 ?_
  refine bw_aload_n S 0 rfl dX4_init_48 rfl ?_
  refine bw_new (ce2 := 171) (sl2 := 1556) S (hX rfl).2 cl_X1 tyX1_ok tw_168 tw_169 tw_28 (fs := kg_zX1) (by decide +kernel) rfl rfl (Nat.le_of_ble_eq_true rfl) (Nat.le_of_ble_eq_true rfl) dX4_init_49 (fun c4 => ?_)
  refine bw_dup S dX4_init_52 ?_
  refine bw_ctorN (ce2 := 174) (sl2 := 1660) S (hX rfl).2 [] vi_X1 (fun h => h.2.2.2.2.2.2.2.2.2.1) (s_X1_init _ _ c4 _) (by decide) rfl rfl (Nat.le_of_ble_eq_true rfl) rfl rfl (Nat.le_of_ble_eq_true rfl) (Nat.le_of_ble_eq_true rfl) dX4_init_53 (fun o4 => ?_)
  refine bw_putF (ws2 := kgWX1 (kgHs X) (kgCons c4 o4) ++ (kgWX2 (kgHs X) (kgCons c3 o3) ++ (kgWX0 (kgHs X) (kgCons c2 o2) ++ (kgWX3 (kgHs X) (kgCons c1 o1) ++ (kgWX3 (kgHs X) (kgCons c0 o0) ++ ((a, .inr (5, [.ref c0, .ref c1, .ref c2, .ref c3, .ref c4, .null, .int 0])) :: rest)))))) S (hX rfl) 174 4 rfl cl_X4 tyX4_ok nmX4 (by decide) rfl tw_229 rfl rfl (by simp only [List.length_cons, List.length_nil]; omega) rfl dX4_init_56 ?_
  refine bw_aload_n S 0 rfl dX4_init_59 rfl ?_
  refine bw_new (ce2 := 175) (sl2 := 1664) S (hX rfl).2 cl_J4 tyJ4_ok tw_192 tw_193 tw_30 (fs := kg_zJ4) (by decide +kernel) rfl rfl (Nat.le_of_ble_eq_true rfl) (Nat.le_of_ble_eq_true rfl) dX4_init_60 (fun c5 => ?_)
  refine bw_dup S dX4_init_63 ?_
  refine bw_ctor (ce2 := 176) (sl2 := 1680) S (hX rfl).2 [] vi_J4 tw_194 (s_J4_init _ _ c5 _) (by decide) rfl rfl (Nat.le_of_ble_eq_true rfl) rfl rfl (Nat.le_of_ble_eq_true rfl) (Nat.le_of_ble_eq_true rfl) dX4_init_64 (fun o5 => ?_)
  refine bw_putF (ws2 := kgWJ4 (kgHs X) (kgCons c5 o5) ++ (kgWX1 (kgHs X) (kgCons c4 o4) ++ (kgWX2 (kgHs X) (kgCons c3 o3) ++ (kgWX0 (kgHs X) (kgCons c2 o2) ++ (kgWX3 (kgHs X) (kgCons c1 o1) ++ (kgWX3 (kgHs X) (kgCons c0 o0) ++ ((a, .inr (5, [.ref c0, .ref c1, .ref c2, .ref c3, .ref c4, .ref c5, .int 0])) :: rest))))))) S (hX rfl) 176 5 rfl cl_X4 tyX4_ok nmX4 (by decide) rfl tw_230 rfl rfl (by simp only [List.length_cons, List.length_nil]; omega) rfl dX4_init_67 ?_
  exact bw_ret S hQ (fun n => if n < 15 then kgCons c0 o0 (n - 0) else if n < 30 then kgCons c1 o1 (n - 15) else if n < 167 then kgCons c2 o2 (n - 30) else if n < 170 then kgCons c3 o3 (n - 167) else if n < 174 then kgCons c4 o4 (n - 170) else kgCons c5 o5 (n - 174)) rfl (Nat.le_refl _) (Nat.le_refl _) dX4_init_70

