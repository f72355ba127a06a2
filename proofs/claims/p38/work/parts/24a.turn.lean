set_option maxHeartbeats 4000000 in
set_option maxRecDepth 100000 in
theorem tn_0 {X : kgCX Unit} (S : Cx X cL_law RL 31 12 446 929218 6314595) (hX : kgB (kgHs X) ≤ X.2.2.2.2.1.heap.size) {s : kgS} {I : kgM} {ce sl : Nat} (hce : ce + 3 ≤ 929218) (hsl : sl + 12 ≤ 6314595) (hG : RepG I 1 s) {v2 : Int32}
    (kk : ∀ o1 o2 o3, AW (kgXs X [arc (kgHs X) o1 (oF s 0), arc (kgHs X) o2 (kF s 0), arc (kgHs X) o3 (wF s 0)]) 31 (ce + 3) (sl + 12) none (some ()) 71 [(0, .ref (kgX (kgHs X) 3)), (1, .ref (kgO (kgHs X) 0)), (2, .int (v2)), (3, .int (nI (kgN s))), (4, .int (0)), (5, .int (0)), (6, .int (0)), (7, .int (0)), (8, .int (0)), (9, .int (0)), (10, .int (0)), (11, .int (0)), (12, .int (0)), (13, .ref (o1)), (14, .ref (o2)), (15, .ref (o3)), (16, .int (1))] [] I) : AW (kgXs X []) 31 ce sl none (some ()) 20 [(0, .ref (kgX (kgHs X) 3)), (1, .ref (kgO (kgHs X) 0)), (2, .int (v2))] [] I := by
  refine aw_aload_n S.xo 1 rfl dL_law_20 rfl ?_
  refine aw_iconst (v := (0 : Int32)) S.xo dL_law_21 (by decide) ?_
  refine lw_cV (ce2 := ce) (sl2 := sl) S.xo 0 [.int (0)] (r_a0 hG) vw_X4_account cl_X4 (by decide) (by decide) tw_564 (s_X4_account _ _ _ (0) I) ⟨by decide, by decide⟩ rfl rfl (Nat.le_of_ble_eq_true rfl) (Nat.le_refl _) (Nat.le_refl _) (by omega) (by omega) dL_law_22 ?_
  refine aw_istore_n (L2 := [(0, .ref (kgX (kgHs X) 3)), (1, .ref (kgO (kgHs X) 0)), (2, .int (v2)), (3, .int (nI (kgN s)))]) S.xo [1, 2, 3, 0] dL_law_25 rfl (by decide) rfl ?_
  refine aw_iconst (v := (0 : Int32)) S.xo dL_law_26 (by decide) ?_
  refine aw_istore (L2 := [(0, .ref (kgX (kgHs X) 3)), (1, .ref (kgO (kgHs X) 0)), (2, .int (v2)), (3, .int (nI (kgN s))), (4, .int (0))]) S.xo [1, 2, 3, 4, 0] dL_law_27 (by decide) rfl ?_
  refine aw_iconst (v := (0 : Int32)) S.xo dL_law_29 (by decide) ?_
  refine aw_istore (L2 := [(0, .ref (kgX (kgHs X) 3)), (1, .ref (kgO (kgHs X) 0)), (2, .int (v2)), (3, .int (nI (kgN s))), (4, .int (0)), (5, .int (0))]) S.xo [1, 2, 3, 4, 5, 0] dL_law_30 (by decide) rfl ?_
  refine aw_iconst (v := (0 : Int32)) S.xo dL_law_32 (by decide) ?_
  refine aw_istore (L2 := [(0, .ref (kgX (kgHs X) 3)), (1, .ref (kgO (kgHs X) 0)), (2, .int (v2)), (3, .int (nI (kgN s))), (4, .int (0)), (5, .int (0)), (6, .int (0))]) S.xo [1, 2, 3, 4, 5, 6, 0] dL_law_33 (by decide) rfl ?_
  refine aw_iconst (v := (0 : Int32)) S.xo dL_law_35 (by decide) ?_
  refine aw_istore (L2 := [(0, .ref (kgX (kgHs X) 3)), (1, .ref (kgO (kgHs X) 0)), (2, .int (v2)), (3, .int (nI (kgN s))), (4, .int (0)), (5, .int (0)), (6, .int (0)), (7, .int (0))]) S.xo [1, 2, 3, 4, 5, 6, 7, 0] dL_law_36 (by decide) rfl ?_
  refine aw_iconst (v := (0 : Int32)) S.xo dL_law_38 (by decide) ?_
  refine aw_istore (L2 := [(0, .ref (kgX (kgHs X) 3)), (1, .ref (kgO (kgHs X) 0)), (2, .int (v2)), (3, .int (nI (kgN s))), (4, .int (0)), (5, .int (0)), (6, .int (0)), (7, .int (0)), (8, .int (0))]) S.xo [1, 2, 3, 4, 5, 6, 7, 8, 0] dL_law_39 (by decide) rfl ?_
  refine aw_iconst (v := (0 : Int32)) S.xo dL_law_41 (by decide) ?_
  refine aw_istore (L2 := [(0, .ref (kgX (kgHs X) 3)), (1, .ref (kgO (kgHs X) 0)), (2, .int (v2)), (3, .int (nI (kgN s))), (4, .int (0)), (5, .int (0)), (6, .int (0)), (7, .int (0)), (8, .int (0)), (9, .int (0))]) S.xo [1, 2, 3, 4, 5, 6, 7, 8, 9, 0] dL_law_42 (by decide) rfl ?_
  refine aw_iconst (v := (0 : Int32)) S.xo dL_law_44 (by decide) ?_
  refine aw_istore (L2 := [(0, .ref (kgX (kgHs X) 3)), (1, .ref (kgO (kgHs X) 0)), (2, .int (v2)), (3, .int (nI (kgN s))), (4, .int (0)), (5, .int (0)), (6, .int (0)), (7, .int (0)), (8, .int (0)), (9, .int (0)), (10, .int (0))]) S.xo [1, 2, 3, 4, 5, 6, 7, 8, 9, 10, 0] dL_law_45 (by decide) rfl ?_
  refine aw_iconst (v := (0 : Int32)) S.xo dL_law_47 (by decide) ?_
  refine aw_istore (L2 := [(0, .ref (kgX (kgHs X) 3)), (1, .ref (kgO (kgHs X) 0)), (2, .int (v2)), (3, .int (nI (kgN s))), (4, .int (0)), (5, .int (0)), (6, .int (0)), (7, .int (0)), (8, .int (0)), (9, .int (0)), (10, .int (0)), (11, .int (0))]) S.xo [1, 2, 3, 4, 5, 6, 7, 8, 9, 10, 11, 0] dL_law_48 (by decide) rfl ?_
  refine aw_iconst (v := (0 : Int32)) S.xo dL_law_50 (by decide) ?_
  refine aw_istore (L2 := [(0, .ref (kgX (kgHs X) 3)), (1, .ref (kgO (kgHs X) 0)), (2, .int (v2)), (3, .int (nI (kgN s))), (4, .int (0)), (5, .int (0)), (6, .int (0)), (7, .int (0)), (8, .int (0)), (9, .int (0)), (10, .int (0)), (11, .int (0)), (12, .int (0))]) S.xo [1, 2, 3, 4, 5, 6, 7, 8, 9, 10, 11, 12, 0] dL_law_51 (by decide) rfl ?_
  refine aw_iconst (v := (4 : Int32)) S.xo dL_law_53 (by decide) ?_
  refine lw_new4 (ce2 := (ce + 1)) (sl2 := (sl + 4)) S hX (by omega) (by omega) (by omega) (by omega) dL_law_54 (fun o1 => ?_)
  refine aw_astore (L2 := [(0, .ref (kgX (kgHs X) 3)), (1, .ref (kgO (kgHs X) 0)), (2, .int (v2)), (3, .int (nI (kgN s))), (4, .int (0)), (5, .int (0)), (6, .int (0)), (7, .int (0)), (8, .int (0)), (9, .int (0)), (10, .int (0)), (11, .int (0)), (12, .int (0)), (13, .ref (o1))]) S.xo [1, 2, 3, 4, 5, 6, 7, 8, 9, 10, 11, 12, 13, 0] dL_law_56 (by decide) rfl ?_
  refine aw_iconst (v := (4 : Int32)) S.xo dL_law_58 (by decide) ?_
  refine lw_new4 (ce2 := (ce + 2)) (sl2 := (sl + 8)) S hX (by omega) (by omega) (by omega) (by omega) dL_law_59 (fun o2 => ?_)
  refine aw_astore (L2 := [(0, .ref (kgX (kgHs X) 3)), (1, .ref (kgO (kgHs X) 0)), (2, .int (v2)), (3, .int (nI (kgN s))), (4, .int (0)), (5, .int (0)), (6, .int (0)), (7, .int (0)), (8, .int (0)), (9, .int (0)), (10, .int (0)), (11, .int (0)), (12, .int (0)), (13, .ref (o1)), (14, .ref (o2))]) S.xo [1, 2, 3, 4, 5, 6, 7, 8, 9, 10, 11, 12, 13, 14, 0] dL_law_61 (by decide) rfl ?_
  refine aw_iconst (v := (4 : Int32)) S.xo dL_law_63 (by decide) ?_
  refine lw_new4 (ce2 := (ce + 3)) (sl2 := (sl + 12)) S hX (by omega) (by omega) (by omega) (by omega) dL_law_64 (fun o3 => ?_)
  refine aw_astore (L2 := [(0, .ref (kgX (kgHs X) 3)), (1, .ref (kgO (kgHs X) 0)), (2, .int (v2)), (3, .int (nI (kgN s))), (4, .int (0)), (5, .int (0)), (6, .int (0)), (7, .int (0)), (8, .int (0)), (9, .int (0)), (10, .int (0)), (11, .int (0)), (12, .int (0)), (13, .ref (o1)), (14, .ref (o2)), (15, .ref (o3))]) S.xo [1, 2, 3, 4, 5, 6, 7, 8, 9, 10, 11, 12, 13, 14, 15, 0] dL_law_66 (by decide) rfl ?_
  refine aw_iconst (v := (1 : Int32)) S.xo dL_law_68 (by decide) ?_
  refine aw_istore (L2 := [(0, .ref (kgX (kgHs X) 3)), (1, .ref (kgO (kgHs X) 0)), (2, .int (v2)), (3, .int (nI (kgN s))), (4, .int (0)), (5, .int (0)), (6, .int (0)), (7, .int (0)), (8, .int (0)), (9, .int (0)), (10, .int (0)), (11, .int (0)), (12, .int (0)), (13, .ref (o1)), (14, .ref (o2)), (15, .ref (o3)), (16, .int (1))]) S.xo [1, 2, 3, 4, 5, 6, 7, 8, 9, 10, 11, 12, 13, 14, 15, 16, 0] dL_law_69 (by decide) rfl ?_
  exact kk o1 o2 o3
set_option maxHeartbeats 4000000 in
set_option maxRecDepth 100000 in
theorem tn_1 {X : kgCX Unit} (S : Cx X cL_law RL 31 12 446 929218 6314595) {s : kgS} {I : kgM} {ce sl : Nat} (hce : ce ≤ 929218) (hsl : sl ≤ 6314595) (hG : RepG I 1 s) (w : kgWF s) {v2 : Int32} {o1 o2 o3 : Nat} {f2 f3 : Nat → Int32}
    (kk : AW (kgXs X [arc (kgHs X) o1 (oF s 12), arc (kgHs X) o2 f2, arc (kgHs X) o3 f3]) 31 ce sl none (some ()) 109 [(0, .ref (kgX (kgHs X) 3)), (1, .ref (kgO (kgHs X) 0)), (2, .int (v2)), (3, .int (nI (kgN s))), (4, .int (0)), (5, .int (0)), (6, .int (0)), (7, .int (0)), (8, .int (0)), (9, .int (0)), (10, .int (0)), (11, .int (0)), (12, .int (0)), (13, .ref (o1)), (14, .ref (o2)), (15, .ref (o3)), (16, .int (0))] [] I) : AW (kgXs X [arc (kgHs X) o1 (oF s 0), arc (kgHs X) o2 f2, arc (kgHs X) o3 f3]) 31 ce sl none (some ()) 71 [(0, .ref (kgX (kgHs X) 3)), (1, .ref (kgO (kgHs X) 0)), (2, .int (v2)), (3, .int (nI (kgN s))), (4, .int (0)), (5, .int (0)), (6, .int (0)), (7, .int (0)), (8, .int (0)), (9, .int (0)), (10, .int (0)), (11, .int (0)), (12, .int (0)), (13, .ref (o1)), (14, .ref (o2)), (15, .ref (o3)), (16, .int (1))] [] I := by
  have hn := w.1
  have loop : ∀ d p : Nat, p + d = 12 → AW (kgXs X [arc (kgHs X) o1 (oF s p), arc (kgHs X) o2 f2, arc (kgHs X) o3 f3]) 31 ce sl none (some ()) 71 [(0, .ref (kgX (kgHs X) 3)), (1, .ref (kgO (kgHs X) 0)), (2, .int (v2)), (3, .int (nI (kgN s))), (4, .int (0)), (5, .int (0)), (6, .int (0)), (7, .int (0)), (8, .int (0)), (9, .int (0)), (10, .int (0)), (11, .int (0)), (12, .int (0)), (13, .ref (o1)), (14, .ref (o2)), (15, .ref (o3)), (16, .int (nI (p + 1)))] [] I := by
    intro d
    induction d with
    | zero =>
      intro p hp
      rw [show p = 12 by omega]
      refine aw_iload S.xo 16 rfl dL_law_71 ?_
      refine aw_bipush (v := (13 : Int32)) S.xo dL_law_73 (by decide) ?_
      refine aw_icmp_geT (tgt := 106) S.xo dL_law_75 (by decide) (Int32.le_refl _) ?_
      refine aw_iconst (v := (0 : Int32)) S.xo dL_law_106 (by decide) ?_
      refine aw_istore (L2 := [(0, .ref (kgX (kgHs X) 3)), (1, .ref (kgO (kgHs X) 0)), (2, .int (v2)), (3, .int (nI (kgN s))), (4, .int (0)), (5, .int (0)), (6, .int (0)), (7, .int (0)), (8, .int (0)), (9, .int (0)), (10, .int (0)), (11, .int (0)), (12, .int (0)), (13, .ref (o1)), (14, .ref (o2)), (15, .ref (o3)), (16, .int (0))]) S.xo [1, 2, 3, 4, 5, 6, 7, 8, 9, 10, 11, 12, 13, 14, 15, 16, 0] dL_law_107 (by decide) rfl ?_
      exact kk
    | succ d ih =>
      intro p hp
      have bo := w.2.1 (p + 1) (by omega) (by omega)
      refine aw_iload S.xo 16 rfl dL_law_71 ?_
      refine aw_bipush (v := (13 : Int32)) S.xo dL_law_73 (by decide) ?_
      refine aw_icmp_geF (tgt := 106) S.xo dL_law_75 (by decide) (nI_ge (b := 13) (by omega) (by omega)) ?_
      refine aw_aload_n S.xo 1 rfl dL_law_78 rfl ?_
      refine aw_iload S.xo 16 rfl dL_law_79 ?_
      refine lw_cV (ce2 := ce) (sl2 := sl) S.xo 0 [.int (nI (p + 1))] (r_owner hG w (by omega) (by omega)) vw_X4_owner cl_X4 (by decide) (by decide) tw_246 (s_X4_owner _ _ _ (nI (p + 1)) I) ⟨by decide, by decide⟩ rfl rfl (Nat.le_of_ble_eq_true rfl) (Nat.le_refl _) (Nat.le_refl _) (by omega) (by omega) dL_law_81 ?_
      by_cases c1 : s.1 1 (p + 1) = 0
      · refine aw_eqi (y := -1015) (if_pos c1) ?_
        refine aw_if_ltT (tgt := 100) (y := 0) S.xo dL_law_84 (by decide) (by decide) ?_
        rw [oF_n c1]
        refine aw_iinc (v := nI (p + 1 + 1)) (L2 := [(0, .ref (kgX (kgHs X) 3)), (1, .ref (kgO (kgHs X) 0)), (2, .int (v2)), (3, .int (nI (kgN s))), (4, .int (0)), (5, .int (0)), (6, .int (0)), (7, .int (0)), (8, .int (0)), (9, .int (0)), (10, .int (0)), (11, .int (0)), (12, .int (0)), (13, .ref (o1)), (14, .ref (o2)), (15, .ref (o3)), (16, .int (nI (p + 1 + 1)))]) S.xo [1, 2, 3, 4, 5, 6, 7, 8, 9, 10, 11, 12, 13, 14, 15, 16, 0] 16 dL_law_100 rfl (nI_1 (p + 1)) (by decide) rfl ?_
        refine aw_goto (tgt := 71) S.xo dL_law_103 (by decide) ?_
        exact ih (p + 1) (by omega)
      · refine aw_eqi (y := nI (s.1 1 (p + 1) - 1)) (if_neg c1) ?_
        refine aw_if_ltF (tgt := 100) (y := 0) S.xo dL_law_84 (by decide) (nI_pos (by omega)) ?_
        refine aw_aload S.xo 13 rfl dL_law_87 ?_
        refine aw_aload_n S.xo 1 rfl dL_law_89 rfl ?_
        refine aw_iload S.xo 16 rfl dL_law_90 ?_
        refine lw_cV (ce2 := ce) (sl2 := sl) S.xo 0 [.int (nI (p + 1))] (r_owner hG w (by omega) (by omega)) vw_X4_owner cl_X4 (by decide) (by decide) tw_246 (s_X4_owner _ _ _ (nI (p + 1)) I) ⟨by decide, by decide⟩ rfl rfl (Nat.le_of_ble_eq_true rfl) (Nat.le_refl _) (Nat.le_refl _) (by omega) (by omega) dL_law_92 ?_
        refine aw_eqi (y := nI (s.1 1 (p + 1) - 1)) (if_neg c1) ?_
        refine aw_dup2 S.xo dL_law_95 rfl rfl ?_
        refine lw_xld (f := oF s p) (j := s.1 1 (p + 1) - 1) S 0 rfl (by omega) dL_law_96 ?_
        refine aw_iconst (v := (1 : Int32)) S.xo dL_law_97 (by decide) ?_
        refine aw_iadd S.xo dL_law_98 ?_
        refine lw_xst (f := oF s p) (j := s.1 1 (p + 1) - 1) S 0 rfl (by omega) dL_law_99 ?_
        refine aw_xeq (xt2 := [arc (kgHs X) o1 (oF s (p + 1)), arc (kgHs X) o2 f2, arc (kgHs X) o3 f3]) (congrArg (fun z => [arc (kgHs X) o1 z, arc (kgHs X) o2 f2, arc (kgHs X) o3 f3]) (oF_s (by omega))) ?_
        refine aw_iinc (v := nI (p + 1 + 1)) (L2 := [(0, .ref (kgX (kgHs X) 3)), (1, .ref (kgO (kgHs X) 0)), (2, .int (v2)), (3, .int (nI (kgN s))), (4, .int (0)), (5, .int (0)), (6, .int (0)), (7, .int (0)), (8, .int (0)), (9, .int (0)), (10, .int (0)), (11, .int (0)), (12, .int (0)), (13, .ref (o1)), (14, .ref (o2)), (15, .ref (o3)), (16, .int (nI (p + 1 + 1)))]) S.xo [1, 2, 3, 4, 5, 6, 7, 8, 9, 10, 11, 12, 13, 14, 15, 16, 0] 16 dL_law_100 rfl (nI_1 (p + 1)) (by decide) rfl ?_
        refine aw_goto (tgt := 71) S.xo dL_law_103 (by decide) ?_
        exact ih (p + 1) (by omega)
  exact loop 12 0 (Nat.zero_add _)
