theorem on_two {s : kgS} (w : kgWF s) {t : Nat} : (onI s t = -1015 ∧ onf (fnd (fun k => decide (s.1 10 k = t + 1)) (kgN s) 0) (fun k => [40] ++ dgs k ++ [41]) [] = []) ∨ (∃ j, j < kgN s ∧ s.1 10 j = t + 1 ∧ onI s t = nI j ∧ onf (fnd (fun k => decide (s.1 10 k = t + 1)) (kgN s) 0) (fun k => [40] ++ dgs k ++ [41]) [] = [40] ++ dgs j ++ [41]) := by
  unfold onI
  cases e : fnd (fun k => decide (s.1 10 k = t + 1)) (kgN s) 0 with
  | none => exact Or.inl ⟨rfl, rfl⟩
  | some j =>
    have hj := fnd_some e
    exact Or.inr ⟨j, by omega, of_decide_eq_true hj.2.2, rfl, rfl⟩
set_option maxHeartbeats 4000000 in
set_option maxRecDepth 100000 in
theorem tn_4 {X : kgCX Unit} (S : Cx X cL_law RL 31 12 446 929218 6314595) (hX : kgB (kgHs X) ≤ X.2.2.2.2.1.heap.size) {s : kgS} {I : kgM} {ce sl : Nat} (hce : ce + 100 ≤ 929218) (hsl : sl + 2000 ≤ 6314595) (hG : RepG I 1 s) (w : kgWF s) {xa : va_W} {v2 v4 v5 v6 v7 v8 v9 v10 v11 v12 v16 : Int32} {o1 o2 o3 : Nat}
    (kk : ∀ a T, txP (kgHs X) a (stA s 6) T → AW (kgXs X (xa ++ T)) 31 (ce + 84) (sl + 1920) none (some ()) 1110 [(0, .ref (kgX (kgHs X) 3)), (1, .ref (kgO (kgHs X) 0)), (2, .int (v2)), (3, .int (nI (kgN s))), (4, .int (v4)), (5, .int (v5)), (6, .int (v6)), (7, .int (v7)), (8, .int (v8)), (9, .int (v9)), (10, .int (v10)), (11, .int (v11)), (12, .int (v12)), (13, .ref (o1)), (14, .ref (o2)), (15, .ref (o3)), (16, .int (v16)), (18, .ref (a)), (19, .int (nI (6)))] [] I) : AW (kgXs X xa) 31 ce sl none (some ()) 997 [(0, .ref (kgX (kgHs X) 3)), (1, .ref (kgO (kgHs X) 0)), (2, .int (v2)), (3, .int (nI (kgN s))), (4, .int (v4)), (5, .int (v5)), (6, .int (v6)), (7, .int (v7)), (8, .int (v8)), (9, .int (v9)), (10, .int (v10)), (11, .int (v11)), (12, .int (v12)), (13, .ref (o1)), (14, .ref (o2)), (15, .ref (o3)), (16, .int (v16))] [] I := by
  have hn := w.1
  have loop : ∀ (d t a : Nat) (T : va_W), t + d = 6 → txP (kgHs X) a (stA s t) T → AW (kgXs X (xa ++ T)) 31 (ce + 14 * t) (sl + 320 * t) none (some ()) 1004 [(0, .ref (kgX (kgHs X) 3)), (1, .ref (kgO (kgHs X) 0)), (2, .int (v2)), (3, .int (nI (kgN s))), (4, .int (v4)), (5, .int (v5)), (6, .int (v6)), (7, .int (v7)), (8, .int (v8)), (9, .int (v9)), (10, .int (v10)), (11, .int (v11)), (12, .int (v12)), (13, .ref (o1)), (14, .ref (o2)), (15, .ref (o3)), (16, .int (v16)), (18, .ref (a)), (19, .int (nI (t)))] [] I := by
    intro d
    induction d with
    | zero =>
      intro t a T ht hT
      have e6 : t = 6 := by omega
      rw [e6] at hT
      rw [e6]
      refine aw_widen (k := (ce + 84)) (n := (sl + 1920)) (by omega) (by omega) ?_
      refine aw_iload S.xo 18 rfl dL_law_1004 ?_
      refine aw_bipush (v := (6 : Int32)) S.xo dL_law_1006 (by decide) ?_
      refine aw_icmp_geT (tgt := 1110) S.xo dL_law_1008 (by decide) (Int32.le_refl _) ?_
      exact kk a T hT
    | succ d ih =>
      intro t a T ht0 hT
      have ht : t < 6 := by omega
      have b5 := w.2.2.1 t ht
      have sg := stA_len w t (by omega)
      have sg1 := stA_len w (t + 1) (by omega)
      refine aw_iload S.xo 18 rfl dL_law_1004 ?_
      refine aw_bipush (v := (6 : Int32)) S.xo dL_law_1006 (by decide) ?_
      refine aw_icmp_geF (tgt := 1110) S.xo dL_law_1008 (by decide) (nI_ge (b := 6) (by omega) (by omega)) ?_
      refine aw_aload_n S.xo 1 rfl dL_law_1011 rfl ?_
      refine aw_iload S.xo 18 rfl dL_law_1012 ?_
      refine aw_iconst (v := (0 : Int32)) S.xo dL_law_1014 (by decide) ?_
      rcases on_two w (t := t) with ⟨on1, on2⟩ | ⟨j, hj, hj2, on1, on2⟩
      · refine lw_cV (ce2 := (ce + 14 * t)) (sl2 := (sl + 320 * t)) S.xo 0 [.int (nI t), .int (0)] (r_stF hG w ht) vw_X4_stoveOf cl_X4 (by decide) (by decide) tw_290 (s_X4_stoveOf _ _ _ (nI t) (0) I) ⟨by decide, by decide⟩ rfl rfl (Nat.le_of_ble_eq_true rfl) (Nat.le_refl _) (Nat.le_refl _) (by omega) (by omega) dL_law_1015 ?_
        refine aw_eqi (y := -1015) (on1) ?_
        refine aw_istore (L2 := [(0, .ref (kgX (kgHs X) 3)), (1, .ref (kgO (kgHs X) 0)), (2, .int (v2)), (3, .int (nI (kgN s))), (4, .int (v4)), (5, .int (v5)), (6, .int (v6)), (7, .int (v7)), (8, .int (v8)), (9, .int (v9)), (10, .int (v10)), (11, .int (v11)), (12, .int (v12)), (13, .ref (o1)), (14, .ref (o2)), (15, .ref (o3)), (16, .int (v16)), (18, .ref (a)), (19, .int (nI (t))), (20, .int (-1015))]) S.xo [1, 2, 3, 4, 5, 6, 7, 8, 9, 10, 11, 12, 13, 14, 15, 16, 17, 18, 19, 0] dL_law_1018 (by decide) rfl ?_
        refine lx_newB (ce2 := ((ce + 14 * t) + 2)) (sl2 := ((sl + 320 * t) + 20)) S hX tw_826 tw_827 ⟨by decide, by decide⟩ (Nat.le_of_ble_eq_true rfl) (by omega) (by omega) (by omega) (by omega) dL_law_1020 dL_law_1023 dL_law_1024 (fun q101 b101 c101 g101 m101 h101 => ?_)
        have z101 : ([] : List Nat).length ≤ 0 := Nat.le_refl _
        refine aw_aload S.xo 17 rfl dL_law_1027 ?_
        refine lx_addP (ce2 := ((ce + 14 * t) + 3)) (sl2 := ((sl + 320 * t) + 54)) S h101 hT sg.2 (by omega) tw_828 ⟨by decide, by decide⟩ (Nat.le_of_ble_eq_true rfl) (by omega) (by omega) (by omega) (by omega) dL_law_1029 (fun b102 c102 g102 m102 h102 => ?_)
        have z102 := len_app z101 sg.1
        refine aw_aload_n S.xo 1 rfl dL_law_1032 rfl ?_
        refine aw_iload S.xo 18 rfl dL_law_1033 ?_
        refine aw_iconst (v := (1 : Int32)) S.xo dL_law_1035 (by decide) ?_
        refine lw_cV (ce2 := ((ce + 14 * t) + 3)) (sl2 := ((sl + 320 * t) + 54)) S.xo 0 [.int (nI t), .int (1)] (r_stT hG ht) vw_X4_stoveOf cl_X4 (by decide) (by decide) tw_290 (s_X4_stoveOf _ _ _ (nI t) (1) I) ⟨by decide, by decide⟩ rfl rfl (Nat.le_of_ble_eq_true rfl) (Nat.le_refl _) (Nat.le_refl _) (by omega) (by omega) dL_law_1036 ?_
        have y103 : (dgs (s.1 5 t)).length ≤ 1 := Nat.le_of_eq (dgs_1 (by omega))
        refine lw_addI (v := s.1 5 t) (ce2 := ((ce + 14 * t) + 4)) (sl2 := ((sl + 320 * t) + 88)) S h102 (by omega) (by omega) tw_858 ⟨by decide, by decide⟩ (Nat.le_of_ble_eq_true rfl) (by omega) (by omega) (by omega) (by omega) dL_law_1039 (fun b103 c103 g103 m103 h103 => ?_)
        have z103 := len_app z102 y103
        refine aw_iload S.xo 19 rfl dL_law_1042 ?_
        refine aw_if_geF (tgt := 1052) (y := 0) S.xo dL_law_1044 (by decide) (by decide) ?_
        refine aw_ldcT S.xo 5 (by decide) rfl rfl dL_law_1047 ?_
        refine aw_goto (tgt := 1077) S.xo dL_law_1049 (by decide) ?_
        have y104 := (kg_cs_ok 5 (by decide)).2.1
        refine lx_addC (ce2 := ((ce + 14 * t) + 5)) (sl2 := ((sl + 320 * t) + 122)) S 5 (by decide) h103 (by omega) tw_828 ⟨by decide, by decide⟩ (Nat.le_of_ble_eq_true rfl) (by omega) (by omega) (by omega) (by omega) dL_law_1077 (fun b104 c104 g104 m104 h104 => ?_)
        have z104 := len_app z103 y104
        have eT : [] ++ stA s t ++ dgs (s.1 5 t) ++ kg_cs 5 = stA s (t + 1) := by
          rw [List.append_assoc]
          show stA s t ++ (dgs (s.1 5 t) ++ kg_cs 5) = stA s t ++ (dgs (s.1 5 t) ++ onf (fnd (fun k => decide (s.1 10 k = t + 1)) (kgN s) 0) (fun k => [40] ++ dgs k ++ [41]) [])
          rw [on2]; rfl
        rw [eT] at h104 z104
        rw [eT]
        refine lx_toS (ce2 := ((ce + 14 * t) + 7)) (sl2 := ((sl + 320 * t) + 160)) S hX h104 (sg1.2) (by omega) tw_859 ⟨by decide, by decide⟩ (Nat.le_of_ble_eq_true rfl) (by omega) (by omega) (by omega) (by omega) dL_law_1080 (fun a105 v105 g105 h105 => ?_)
        refine aw_astore (L2 := [(0, .ref (kgX (kgHs X) 3)), (1, .ref (kgO (kgHs X) 0)), (2, .int (v2)), (3, .int (nI (kgN s))), (4, .int (v4)), (5, .int (v5)), (6, .int (v6)), (7, .int (v7)), (8, .int (v8)), (9, .int (v9)), (10, .int (v10)), (11, .int (v11)), (12, .int (v12)), (13, .ref (o1)), (14, .ref (o2)), (15, .ref (o3)), (16, .int (v16)), (18, .ref (a105)), (19, .int (nI (t))), (20, .int (-1015))]) S.xo [1, 2, 3, 4, 5, 6, 7, 8, 9, 10, 11, 12, 13, 14, 15, 16, 17, 0, 18, 19] dL_law_1083 (by decide) rfl ?_
        refine aw_drop (xt2 := (xa ++ stc (kgHs X) a105 v105 (stA s (t + 1)) g105)) (by rw [List.append_nil]; exact List.Sublist.append (List.sublist_append_left _ _) (List.Sublist.refl _)) ?_
        refine aw_iload S.xo 19 rfl dL_law_1085 ?_
        refine aw_if_ltT (tgt := 1104) (y := 0) S.xo dL_law_1087 (by decide) (by decide) ?_
        refine aw_iinc (v := nI (t + 1)) (L2 := [(0, .ref (kgX (kgHs X) 3)), (1, .ref (kgO (kgHs X) 0)), (2, .int (v2)), (3, .int (nI (kgN s))), (4, .int (v4)), (5, .int (v5)), (6, .int (v6)), (7, .int (v7)), (8, .int (v8)), (9, .int (v9)), (10, .int (v10)), (11, .int (v11)), (12, .int (v12)), (13, .ref (o1)), (14, .ref (o2)), (15, .ref (o3)), (16, .int (v16)), (18, .ref (a105)), (19, .int (nI (t + 1))), (20, .int (-1015))]) S.xo [1, 2, 3, 4, 5, 6, 7, 8, 9, 10, 11, 12, 13, 14, 15, 16, 17, 18, 0, 19] 18 dL_law_1104 rfl (nI_1 t) (by decide) rfl ?_
        refine aw_goto (tgt := 1004) S.xo dL_law_1107 (by decide) ?_
        refine aw_sub (L2 := [(0, .ref (kgX (kgHs X) 3)), (1, .ref (kgO (kgHs X) 0)), (2, .int (v2)), (3, .int (nI (kgN s))), (4, .int (v4)), (5, .int (v5)), (6, .int (v6)), (7, .int (v7)), (8, .int (v8)), (9, .int (v9)), (10, .int (v10)), (11, .int (v11)), (12, .int (v12)), (13, .ref (o1)), (14, .ref (o2)), (15, .ref (o3)), (16, .int (v16)), (18, .ref (a105)), (19, .int (nI (t + 1)))]) [0, 1, 2, 3, 4, 5, 6, 7, 8, 9, 10, 11, 12, 13, 14, 15, 16, 17, 18] rfl ?_
        refine aw_widen (k := (ce + 14 * (t + 1))) (n := (sl + 320 * (t + 1))) (by omega) (by omega) ?_
        exact ih (t + 1) a105 _ (by omega) (Or.inr ⟨v105, g105, h105, rfl⟩)
      · refine lw_cV (ce2 := (ce + 14 * t)) (sl2 := (sl + 320 * t)) S.xo 0 [.int (nI t), .int (0)] (r_stF hG w ht) vw_X4_stoveOf cl_X4 (by decide) (by decide) tw_290 (s_X4_stoveOf _ _ _ (nI t) (0) I) ⟨by decide, by decide⟩ rfl rfl (Nat.le_of_ble_eq_true rfl) (Nat.le_refl _) (Nat.le_refl _) (by omega) (by omega) dL_law_1015 ?_
        refine aw_eqi (y := nI j) (on1) ?_
        refine aw_istore (L2 := [(0, .ref (kgX (kgHs X) 3)), (1, .ref (kgO (kgHs X) 0)), (2, .int (v2)), (3, .int (nI (kgN s))), (4, .int (v4)), (5, .int (v5)), (6, .int (v6)), (7, .int (v7)), (8, .int (v8)), (9, .int (v9)), (10, .int (v10)), (11, .int (v11)), (12, .int (v12)), (13, .ref (o1)), (14, .ref (o2)), (15, .ref (o3)), (16, .int (v16)), (18, .ref (a)), (19, .int (nI (t))), (20, .int (nI j))]) S.xo [1, 2, 3, 4, 5, 6, 7, 8, 9, 10, 11, 12, 13, 14, 15, 16, 17, 18, 19, 0] dL_law_1018 (by decide) rfl ?_
        refine lx_newB (ce2 := ((ce + 14 * t) + 2)) (sl2 := ((sl + 320 * t) + 20)) S hX tw_826 tw_827 ⟨by decide, by decide⟩ (Nat.le_of_ble_eq_true rfl) (by omega) (by omega) (by omega) (by omega) dL_law_1020 dL_law_1023 dL_law_1024 (fun q106 b106 c106 g106 m106 h106 => ?_)
        have z106 : ([] : List Nat).length ≤ 0 := Nat.le_refl _
        refine aw_aload S.xo 17 rfl dL_law_1027 ?_
        refine lx_addP (ce2 := ((ce + 14 * t) + 3)) (sl2 := ((sl + 320 * t) + 54)) S h106 hT sg.2 (by omega) tw_828 ⟨by decide, by decide⟩ (Nat.le_of_ble_eq_true rfl) (by omega) (by omega) (by omega) (by omega) dL_law_1029 (fun b107 c107 g107 m107 h107 => ?_)
        have z107 := len_app z106 sg.1
        refine aw_aload_n S.xo 1 rfl dL_law_1032 rfl ?_
        refine aw_iload S.xo 18 rfl dL_law_1033 ?_
        refine aw_iconst (v := (1 : Int32)) S.xo dL_law_1035 (by decide) ?_
        refine lw_cV (ce2 := ((ce + 14 * t) + 3)) (sl2 := ((sl + 320 * t) + 54)) S.xo 0 [.int (nI t), .int (1)] (r_stT hG ht) vw_X4_stoveOf cl_X4 (by decide) (by decide) tw_290 (s_X4_stoveOf _ _ _ (nI t) (1) I) ⟨by decide, by decide⟩ rfl rfl (Nat.le_of_ble_eq_true rfl) (Nat.le_refl _) (Nat.le_refl _) (by omega) (by omega) dL_law_1036 ?_
        have y108 : (dgs (s.1 5 t)).length ≤ 1 := Nat.le_of_eq (dgs_1 (by omega))
        refine lw_addI (v := s.1 5 t) (ce2 := ((ce + 14 * t) + 4)) (sl2 := ((sl + 320 * t) + 88)) S h107 (by omega) (by omega) tw_858 ⟨by decide, by decide⟩ (Nat.le_of_ble_eq_true rfl) (by omega) (by omega) (by omega) (by omega) dL_law_1039 (fun b108 c108 g108 m108 h108 => ?_)
        have z108 := len_app z107 y108
        refine aw_iload S.xo 19 rfl dL_law_1042 ?_
        refine aw_if_geT (tgt := 1052) (y := 0) S.xo dL_law_1044 (by decide) (nI_pos' (by omega)) ?_
        refine lx_newB (ce2 := ((ce + 14 * t) + 6)) (sl2 := ((sl + 320 * t) + 108)) S hX tw_826 tw_827 ⟨by decide, by decide⟩ (Nat.le_of_ble_eq_true rfl) (by omega) (by omega) (by omega) (by omega) dL_law_1052 dL_law_1055 dL_law_1056 (fun q109 b109 c109 g109 m109 h109 => ?_)
        have z109 : ([] : List Nat).length ≤ 0 := Nat.le_refl _
        refine aw_ldcT S.xo 10 (by decide) rfl rfl dL_law_1059 ?_
        have y110 := (kg_cs_ok 10 (by decide)).2.1
        refine lx_addC (ce2 := ((ce + 14 * t) + 7)) (sl2 := ((sl + 320 * t) + 142)) S 10 (by decide) h109 (by omega) tw_828 ⟨by decide, by decide⟩ (Nat.le_of_ble_eq_true rfl) (by omega) (by omega) (by omega) (by omega) dL_law_1061 (fun b110 c110 g110 m110 h110 => ?_)
        have z110 := len_app z109 y110
        refine aw_iload S.xo 19 rfl dL_law_1064 ?_
        have y111 : (dgs (j)).length ≤ 1 := Nat.le_of_eq (dgs_1 (by omega))
        refine lw_addI (v := j) (ce2 := ((ce + 14 * t) + 8)) (sl2 := ((sl + 320 * t) + 176)) S h110 (by omega) (by omega) tw_858 ⟨by decide, by decide⟩ (Nat.le_of_ble_eq_true rfl) (by omega) (by omega) (by omega) (by omega) dL_law_1066 (fun b111 c111 g111 m111 h111 => ?_)
        have z111 := len_app z110 y111
        refine aw_ldcT S.xo 11 (by decide) rfl rfl dL_law_1069 ?_
        have y112 := (kg_cs_ok 11 (by decide)).2.1
        refine lx_addC (ce2 := ((ce + 14 * t) + 9)) (sl2 := ((sl + 320 * t) + 210)) S 11 (by decide) h111 (by omega) tw_828 ⟨by decide, by decide⟩ (Nat.le_of_ble_eq_true rfl) (by omega) (by omega) (by omega) (by omega) dL_law_1071 (fun b112 c112 g112 m112 h112 => ?_)
        have z112 := len_app z111 y112
        refine lx_toS (ce2 := ((ce + 14 * t) + 11)) (sl2 := ((sl + 320 * t) + 248)) S hX h112 (((goodL.nil.app (cs_good (by decide))).app (dgs_good (by omega))).app (cs_good (by decide))) (by omega) tw_859 ⟨by decide, by decide⟩ (Nat.le_of_ble_eq_true rfl) (by omega) (by omega) (by omega) (by omega) dL_law_1074 (fun a113 v113 g113 h113 => ?_)
        refine lx_addT (ce2 := ((ce + 14 * t) + 12)) (sl2 := ((sl + 320 * t) + 282)) S h108 h113 (((goodL.nil.app (cs_good (by decide))).app (dgs_good (by omega))).app (cs_good (by decide))) (by omega) tw_828 ⟨by decide, by decide⟩ (Nat.le_of_ble_eq_true rfl) (by omega) (by omega) (by omega) (by omega) dL_law_1077 (fun b114 c114 g114 m114 h114 => ?_)
        have z114 := len_app z108 z112
        have eT : [] ++ stA s t ++ dgs (s.1 5 t) ++ ([] ++ kg_cs 10 ++ dgs (j) ++ kg_cs 11) = stA s (t + 1) := by
          rw [List.append_assoc]
          show stA s t ++ (dgs (s.1 5 t) ++ ([] ++ kg_cs 10 ++ dgs (j) ++ kg_cs 11)) = stA s t ++ (dgs (s.1 5 t) ++ onf (fnd (fun k => decide (s.1 10 k = t + 1)) (kgN s) 0) (fun k => [40] ++ dgs k ++ [41]) [])
          rw [on2]; rfl
        rw [eT] at h114 z114
        rw [eT]
        refine lx_toS (ce2 := ((ce + 14 * t) + 14)) (sl2 := ((sl + 320 * t) + 320)) S hX h114 (sg1.2) (by omega) tw_859 ⟨by decide, by decide⟩ (Nat.le_of_ble_eq_true rfl) (by omega) (by omega) (by omega) (by omega) dL_law_1080 (fun a115 v115 g115 h115 => ?_)
        refine aw_astore (L2 := [(0, .ref (kgX (kgHs X) 3)), (1, .ref (kgO (kgHs X) 0)), (2, .int (v2)), (3, .int (nI (kgN s))), (4, .int (v4)), (5, .int (v5)), (6, .int (v6)), (7, .int (v7)), (8, .int (v8)), (9, .int (v9)), (10, .int (v10)), (11, .int (v11)), (12, .int (v12)), (13, .ref (o1)), (14, .ref (o2)), (15, .ref (o3)), (16, .int (v16)), (18, .ref (a115)), (19, .int (nI (t))), (20, .int (nI j))]) S.xo [1, 2, 3, 4, 5, 6, 7, 8, 9, 10, 11, 12, 13, 14, 15, 16, 17, 0, 18, 19] dL_law_1083 (by decide) rfl ?_
        refine aw_drop (xt2 := (xa ++ stc (kgHs X) a115 v115 (stA s (t + 1)) g115)) (by rw [List.append_nil]; exact List.Sublist.append (List.sublist_append_left _ _) (List.Sublist.refl _)) ?_
        refine aw_iload S.xo 19 rfl dL_law_1085 ?_
        refine aw_if_ltF (tgt := 1104) (y := 0) S.xo dL_law_1087 (by decide) (nI_pos (by omega)) ?_
        refine aw_aload_n S.xo 1 rfl dL_law_1090 rfl ?_
        refine aw_iload S.xo 19 rfl dL_law_1091 ?_
        refine aw_iconst (v := (5 : Int32)) S.xo dL_law_1093 (by decide) ?_
        refine lw_cV (ce2 := ((ce + 14 * t) + 14)) (sl2 := ((sl + 320 * t) + 320)) S.xo 0 [.int (nI j), .int (5)] (r_k5 hG w hj) vw_X4_kettleOf cl_X4 (by decide) (by decide) tw_256 (s_X4_kettleOf _ _ _ (nI j) (5) I) ⟨by decide, by decide⟩ rfl rfl (Nat.le_of_ble_eq_true rfl) (Nat.le_refl _) (Nat.le_refl _) (by omega) (by omega) dL_law_1094 ?_
        refine aw_eqi (y := nI t) (by unfold stI; rw [if_neg (by omega), hj2, Nat.add_sub_cancel]) ?_
        refine aw_iload S.xo 18 rfl dL_law_1097 ?_
        refine aw_icmp_eqT (tgt := 1104) S.xo dL_law_1099 (by decide) (rfl) ?_
        refine aw_iinc (v := nI (t + 1)) (L2 := [(0, .ref (kgX (kgHs X) 3)), (1, .ref (kgO (kgHs X) 0)), (2, .int (v2)), (3, .int (nI (kgN s))), (4, .int (v4)), (5, .int (v5)), (6, .int (v6)), (7, .int (v7)), (8, .int (v8)), (9, .int (v9)), (10, .int (v10)), (11, .int (v11)), (12, .int (v12)), (13, .ref (o1)), (14, .ref (o2)), (15, .ref (o3)), (16, .int (v16)), (18, .ref (a115)), (19, .int (nI (t + 1))), (20, .int (nI j))]) S.xo [1, 2, 3, 4, 5, 6, 7, 8, 9, 10, 11, 12, 13, 14, 15, 16, 17, 18, 0, 19] 18 dL_law_1104 rfl (nI_1 t) (by decide) rfl ?_
        refine aw_goto (tgt := 1004) S.xo dL_law_1107 (by decide) ?_
        refine aw_sub (L2 := [(0, .ref (kgX (kgHs X) 3)), (1, .ref (kgO (kgHs X) 0)), (2, .int (v2)), (3, .int (nI (kgN s))), (4, .int (v4)), (5, .int (v5)), (6, .int (v6)), (7, .int (v7)), (8, .int (v8)), (9, .int (v9)), (10, .int (v10)), (11, .int (v11)), (12, .int (v12)), (13, .ref (o1)), (14, .ref (o2)), (15, .ref (o3)), (16, .int (v16)), (18, .ref (a115)), (19, .int (nI (t + 1)))]) [0, 1, 2, 3, 4, 5, 6, 7, 8, 9, 10, 11, 12, 13, 14, 15, 16, 17, 18] rfl ?_
        refine aw_widen (k := (ce + 14 * (t + 1))) (n := (sl + 320 * (t + 1))) (by omega) (by omega) ?_
        exact ih (t + 1) a115 _ (by omega) (Or.inr ⟨v115, g115, h115, rfl⟩)
  refine aw_xeq (xt2 := (xa ++ [])) (List.append_nil _).symm ?_
  refine aw_ldcT S.xo 5 (by decide) rfl rfl dL_law_997 ?_
  refine aw_astore (L2 := [(0, .ref (kgX (kgHs X) 3)), (1, .ref (kgO (kgHs X) 0)), (2, .int (v2)), (3, .int (nI (kgN s))), (4, .int (v4)), (5, .int (v5)), (6, .int (v6)), (7, .int (v7)), (8, .int (v8)), (9, .int (v9)), (10, .int (v10)), (11, .int (v11)), (12, .int (v12)), (13, .ref (o1)), (14, .ref (o2)), (15, .ref (o3)), (16, .int (v16)), (18, .ref (kgK (kgHs X) 5))]) S.xo [1, 2, 3, 4, 5, 6, 7, 8, 9, 10, 11, 12, 13, 14, 15, 16, 17, 0] dL_law_999 (by decide) rfl ?_
  refine aw_iconst (v := (0 : Int32)) S.xo dL_law_1001 (by decide) ?_
  refine aw_istore (L2 := [(0, .ref (kgX (kgHs X) 3)), (1, .ref (kgO (kgHs X) 0)), (2, .int (v2)), (3, .int (nI (kgN s))), (4, .int (v4)), (5, .int (v5)), (6, .int (v6)), (7, .int (v7)), (8, .int (v8)), (9, .int (v9)), (10, .int (v10)), (11, .int (v11)), (12, .int (v12)), (13, .ref (o1)), (14, .ref (o2)), (15, .ref (o3)), (16, .int (v16)), (18, .ref (kgK (kgHs X) 5)), (19, .int (0))]) S.xo [1, 2, 3, 4, 5, 6, 7, 8, 9, 10, 11, 12, 13, 14, 15, 16, 17, 18, 0] dL_law_1002 (by decide) rfl ?_
  exact loop 6 0 _ [] (Nat.zero_add _) (Or.inl ⟨rfl, rfl, rfl⟩)
