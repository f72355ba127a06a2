theorem bm_ne {s : kgS} (w : kgWF s) {k : Nat} (hk : k < kgN s) (z : ¬ hU s k = 0) : ¬ bmI (hU s k) (s.1 9 k) = -1015 := by
  have b := w.2.2.2.1 k hk
  have hh := hU_le w hk
  obtain ⟨h, eh⟩ : ∃ h, hU s k = h + 1 := ⟨hU s k - 1, by omega⟩
  have a1 := bm_all h (by omega) (s.1 9 k - 4) (by omega)
  rw [show s.1 9 k - 4 + 4 = s.1 9 k by omega, ← eh] at a1
  exact a1.2
theorem max_v {x : Nat} (I : kgM) (h : x ≤ 20 := by omega) : f_J9_max_7cf53 1 (nI x) I = some ((if x = 0 then 1 else nI x), I) := by
  unfold f_J9_max_7cf53
  by_cases c : x = 0
  · rw [if_pos c, c, if_neg (by decide)]
  · rw [if_neg c]
    by_cases c2 : x = 1
    · rw [c2, if_neg (by decide)]; rfl
    · rw [if_pos (show (1 : Int32) < nI x from nI_lt (a := 1) (by omega) (by omega))]
set_option maxHeartbeats 4000000 in
set_option maxRecDepth 100000 in
theorem lk_5 {X : kgCX Unit} (S : Cx X cL_law RL 31 12 446 929218 6314595) (hLn : kgO (kgHs X) 184 = kgO (kgHs X) 175) {s : kgS} {J : kgM} {ce sl : Nat} (hce : ce ≤ 929218) (hsl : sl ≤ 6314595) (hG : RepG J 1 s) (w : kgWF s) (hx2 : kgX2 s) {k : Nat} (hk : k < kgN s) (hJ : LnC (tlB s k (tlA s k)) J) {xa : va_W} {v2 v4 v5 v6 v7 v8 v9 v10 v11 v12 : Int32} {o1 o2 o3 a v : Nat} {g : Nat → Int32} (hst : stK (tlB s k (tlA s k)) g)
    (kk : AW (kgXs X xa) 31 ce sl none (some ()) 778 [(0, .ref (kgX (kgHs X) 3)), (1, .ref (kgO (kgHs X) 0)), (2, .int (v2)), (3, .int (nI (kgN s))), (4, .int (v4)), (5, .int (v5)), (6, .int (v6)), (7, .int (v7)), (8, .int (v8)), (9, .int (v9)), (10, .int (v10)), (11, .int (v11)), (12, .int (v12)), (13, .ref (o1)), (14, .ref (o2)), (15, .ref (o3)), (16, .int (nI k)), (17, .int (nI (s.1 6 k))), (18, .int (nI (s.1 7 k))), (19, .int (nI (s.1 8 k))), (20, .int (nI (5 * s.1 9 k))), (21, .int (stI s k)), (22, .int (nI (hU s k))), (23, .int (nI (s.1 11 k))), (24, .int (b2i (bo s k))), (25, .int (b2i (wh s k))), (26, .int (bmI (hU s k) (s.1 9 k))), (27, .int (nI (tlB s k (tlA s k)).length)), (28, .int (b2i (decide (s.1 13 k = 1)))), (29, .ref (a))] [] J) : AW (kgXs X (xa ++ (stc (kgHs X) a v (tlB s k (tlA s k)) g ++ []))) 31 ce sl none (some ()) 568 [(0, .ref (kgX (kgHs X) 3)), (1, .ref (kgO (kgHs X) 0)), (2, .int (v2)), (3, .int (nI (kgN s))), (4, .int (v4)), (5, .int (v5)), (6, .int (v6)), (7, .int (v7)), (8, .int (v8)), (9, .int (v9)), (10, .int (v10)), (11, .int (v11)), (12, .int (v12)), (13, .ref (o1)), (14, .ref (o2)), (15, .ref (o3)), (16, .int (nI k)), (17, .int (nI (s.1 6 k))), (18, .int (nI (s.1 7 k))), (19, .int (nI (s.1 8 k))), (20, .int (nI (5 * s.1 9 k))), (21, .int (stI s k)), (22, .int (nI (hU s k))), (23, .int (nI (s.1 11 k))), (24, .int (b2i (bo s k))), (25, .int (b2i (wh s k))), (26, .int (bmI (hU s k) (s.1 9 k))), (27, .int (nI (tlB s k (tlA s k)).length)), (28, .int (b2i (decide (s.1 13 k = 1)))), (29, .ref (a))] [] J := by
  have hn := w.1
  have b := w.2.2.2.1 k hk
  have x2 := hx2 k hk
  unfold x2k at x2
  have x3 := x2.2.2
  have p1 := pop_1 w hk
  have tg := tl_good w hk
  have t34 := tl_34 w hk
  refine aw_aload_n S.xo 1 rfl dL_law_568 rfl ?_
  refine aw_iload S.xo 27 rfl dL_law_569 ?_
  refine aw_aload S.xo 29 rfl dL_law_571 ?_
  refine lw_cS (ce2 := ce) (sl2 := sl) S.xo [.ref (kgO (kgHs X) 0), .int (nI (tlB s k (tlA s k)).length), .ref (a)] (rfl) vw_L_isLine tw_796 (s_L_isLine (kgHs (kgXs X (xa ++ (stc (kgHs X) a v (tlB s k (tlA s k)) g ++ [])))) _ hLn (stc_str (o := kgO (kgHs X)) (xb := []) (by omega)) hst.2 hJ tg t34) ⟨by decide, by decide⟩ rfl rfl (Nat.le_of_ble_eq_true rfl) (Nat.le_refl _) (Nat.le_refl _) (by omega) (by omega) dL_law_573 ?_
  refine aw_drop (xt2 := xa) (List.sublist_append_left _ _) ?_
  refine aw_if_eqF (tgt := 776) (y := 0) S.xo dL_law_576 (by decide) (by decide) ?_
  suffices k595 : AW (kgXs X xa) 31 ce sl none (some ()) 595 [(0, .ref (kgX (kgHs X) 3)), (1, .ref (kgO (kgHs X) 0)), (2, .int (v2)), (3, .int (nI (kgN s))), (4, .int (v4)), (5, .int (v5)), (6, .int (v6)), (7, .int (v7)), (8, .int (v8)), (9, .int (v9)), (10, .int (v10)), (11, .int (v11)), (12, .int (v12)), (13, .ref (o1)), (14, .ref (o2)), (15, .ref (o3)), (16, .int (nI k)), (17, .int (nI (s.1 6 k))), (18, .int (nI (s.1 7 k))), (19, .int (nI (s.1 8 k))), (20, .int (nI (5 * s.1 9 k))), (21, .int (stI s k)), (22, .int (nI (hU s k))), (23, .int (nI (s.1 11 k))), (24, .int (b2i (bo s k))), (25, .int (b2i (wh s k))), (26, .int (bmI (hU s k) (s.1 9 k))), (27, .int (nI (tlB s k (tlA s k)).length)), (28, .int (b2i (decide (s.1 13 k = 1)))), (29, .ref (a))] [] J from (by
    by_cases c1 : s.1 13 k = 1
    · refine aw_iload S.xo 28 rfl dL_law_579 ?_
      refine aw_if_eqF (tgt := 595) (y := 0) S.xo dL_law_581 (by decide) (by rw [decide_eq_true c1]; decide) ?_
      refine aw_aload_n S.xo 1 rfl dL_law_584 rfl ?_
      refine aw_iload S.xo 16 rfl dL_law_585 ?_
      refine aw_iconst (v := (4 : Int32)) S.xo dL_law_587 (by decide) ?_
      refine lw_cV (ce2 := ce) (sl2 := sl) S.xo 0 [.int (nI k), .int (4)] (r_k4 hG w hk) vw_X4_kettleOf cl_X4 (by decide) (by decide) tw_256 (s_X4_kettleOf _ _ _ (nI k) (4) J) ⟨by decide, by decide⟩ rfl rfl (Nat.le_of_ble_eq_true rfl) (Nat.le_refl _) (Nat.le_refl _) (by omega) (by omega) dL_law_588 ?_
      refine aw_iconst (v := (1 : Int32)) S.xo dL_law_591 (by decide) ?_
      refine aw_icmp_eqF (tgt := 776) S.xo dL_law_592 (by decide) (fun z => by have := (nI_eq (b := 1) (by omega) (by omega)).mp z; omega) ?_
      exact k595
    · refine aw_iload S.xo 28 rfl dL_law_579 ?_
      refine aw_if_eqT (tgt := 595) (y := 0) S.xo dL_law_581 (by decide) (by rw [decide_eq_false c1]; rfl) ?_
      exact k595)
  refine aw_aload_n S.xo 1 rfl dL_law_595 rfl ?_
  refine aw_iload S.xo 18 rfl dL_law_596 ?_
  refine lw_cV (ce2 := ce) (sl2 := sl) S.xo 0 [.int (nI (s.1 7 k))] (r_owner hG w b.2.1 b.2.2.1) vw_X4_owner cl_X4 (by decide) (by decide) tw_246 (s_X4_owner _ _ _ (nI (s.1 7 k)) J) ⟨by decide, by decide⟩ rfl rfl (Nat.le_of_ble_eq_true rfl) (Nat.le_refl _) (Nat.le_refl _) (by omega) (by omega) dL_law_598 ?_
  refine aw_eqi (y := nI (s.1 6 k)) (by unfold owI; rw [x3, if_neg (by omega), Nat.add_sub_cancel]) ?_
  refine aw_iload S.xo 17 rfl dL_law_601 ?_
  refine aw_icmp_neF (tgt := 776) S.xo dL_law_603 (by decide) (rfl) ?_
  refine aw_iload S.xo 20 rfl dL_law_606 ?_
  refine aw_bipush (v := (20 : Int32)) S.xo dL_law_608 (by decide) ?_
  refine aw_icmp_ltF (tgt := 776) S.xo dL_law_610 (by decide) (nI_nlt (b := 20) (by omega) (by omega)) ?_
  refine aw_iload S.xo 20 rfl dL_law_613 ?_
  refine aw_bipush (v := (100 : Int32)) S.xo dL_law_615 (by decide) ?_
  refine aw_icmp_gtF (tgt := 776) S.xo dL_law_617 (by decide) (nI_nlt (a := 100) (by omega) (by omega)) ?_
  refine aw_iload S.xo 19 rfl dL_law_620 ?_
  refine aw_if_ltF (tgt := 776) (y := 0) S.xo dL_law_622 (by decide) (nI_pos (by omega)) ?_
  refine aw_iload S.xo 19 rfl dL_law_625 ?_
  refine aw_bipush (v := (20 : Int32)) S.xo dL_law_627 (by decide) ?_
  refine aw_icmp_gtF (tgt := 776) S.xo dL_law_629 (by decide) (nI_nlt (a := 20) (by omega) (by omega)) ?_
  suffices k642 : AW (kgXs X xa) 31 ce sl none (some ()) 642 [(0, .ref (kgX (kgHs X) 3)), (1, .ref (kgO (kgHs X) 0)), (2, .int (v2)), (3, .int (nI (kgN s))), (4, .int (v4)), (5, .int (v5)), (6, .int (v6)), (7, .int (v7)), (8, .int (v8)), (9, .int (v9)), (10, .int (v10)), (11, .int (v11)), (12, .int (v12)), (13, .ref (o1)), (14, .ref (o2)), (15, .ref (o3)), (16, .int (nI k)), (17, .int (nI (s.1 6 k))), (18, .int (nI (s.1 7 k))), (19, .int (nI (s.1 8 k))), (20, .int (nI (5 * s.1 9 k))), (21, .int (stI s k)), (22, .int (nI (hU s k))), (23, .int (nI (s.1 11 k))), (24, .int (b2i (bo s k))), (25, .int (b2i (wh s k))), (26, .int (bmI (hU s k) (s.1 9 k))), (27, .int (nI (tlB s k (tlA s k)).length)), (28, .int (b2i (decide (s.1 13 k = 1)))), (29, .ref (a))] [] J from (by
    by_cases c1 : 0 < s.1 11 k
    · refine aw_iload S.xo 23 rfl dL_law_632 ?_
      refine aw_if_leF (tgt := 642) (y := 0) S.xo dL_law_634 (by decide) (nI_nle c1 (by omega)) ?_
      refine aw_iload S.xo 21 rfl dL_law_637 ?_
      refine aw_eqi (y := -1015) (if_pos (by omega)) ?_
      refine aw_if_geF (tgt := 776) (y := 0) S.xo dL_law_639 (by decide) (by decide) ?_
      exact k642
    · refine aw_iload S.xo 23 rfl dL_law_632 ?_
      refine aw_if_leT (tgt := 642) (y := 0) S.xo dL_law_634 (by decide) (nI_le (b := 0) (by omega) (by omega)) ?_
      exact k642)
  refine aw_iload S.xo 23 rfl dL_law_642 ?_
  refine aw_bipush (v := (6 : Int32)) S.xo dL_law_644 (by decide) ?_
  refine aw_icmp_gtF (tgt := 776) S.xo dL_law_646 (by decide) (nI_nlt (a := 6) (by omega) (by omega)) ?_
  refine aw_aload_n S.xo 1 rfl dL_law_649 rfl ?_
  refine aw_iload S.xo 16 rfl dL_law_650 ?_
  refine aw_bipush (v := (9 : Int32)) S.xo dL_law_652 (by decide) ?_
  refine lw_cV (ce2 := ce) (sl2 := sl) S.xo 0 [.int (nI k), .int (9)] (r_k9 hG w hk) vw_X4_kettleOf cl_X4 (by decide) (by decide) tw_256 (s_X4_kettleOf _ _ _ (nI k) (9) J) ⟨by decide, by decide⟩ rfl rfl (Nat.le_of_ble_eq_true rfl) (Nat.le_refl _) (Nat.le_refl _) (by omega) (by omega) dL_law_654 ?_
  refine aw_iconst (v := (1 : Int32)) S.xo dL_law_657 (by decide) ?_
  refine aw_icmp_gtF (tgt := 776) S.xo dL_law_658 (by decide) (nI_nlt (a := 1) p1 (by omega)) ?_
  refine aw_aload_n S.xo 1 rfl dL_law_661 rfl ?_
  refine aw_iload S.xo 16 rfl dL_law_662 ?_
  refine aw_bipush (v := (6 : Int32)) S.xo dL_law_664 (by decide) ?_
  refine lw_cV (ce2 := ce) (sl2 := sl) S.xo 0 [.int (nI k), .int (6)] (r_k6 hG w hk) vw_X4_kettleOf cl_X4 (by decide) (by decide) tw_256 (s_X4_kettleOf _ _ _ (nI k) (6) J) ⟨by decide, by decide⟩ rfl rfl (Nat.le_of_ble_eq_true rfl) (Nat.le_refl _) (Nat.le_refl _) (by omega) (by omega) dL_law_666 ?_
  suffices k678 : AW (kgXs X xa) 31 ce sl none (some ()) 678 [(0, .ref (kgX (kgHs X) 3)), (1, .ref (kgO (kgHs X) 0)), (2, .int (v2)), (3, .int (nI (kgN s))), (4, .int (v4)), (5, .int (v5)), (6, .int (v6)), (7, .int (v7)), (8, .int (v8)), (9, .int (v9)), (10, .int (v10)), (11, .int (v11)), (12, .int (v12)), (13, .ref (o1)), (14, .ref (o2)), (15, .ref (o3)), (16, .int (nI k)), (17, .int (nI (s.1 6 k))), (18, .int (nI (s.1 7 k))), (19, .int (nI (s.1 8 k))), (20, .int (nI (5 * s.1 9 k))), (21, .int (stI s k)), (22, .int (nI (hU s k))), (23, .int (nI (s.1 11 k))), (24, .int (b2i (bo s k))), (25, .int (b2i (wh s k))), (26, .int (bmI (hU s k) (s.1 9 k))), (27, .int (nI (tlB s k (tlA s k)).length)), (28, .int (b2i (decide (s.1 13 k = 1)))), (29, .ref (a))] [.int (b2i (bo s k))] J from (by
    by_cases c1 : bo s k = true
    · refine aw_iconst (v := (1 : Int32)) S.xo dL_law_669 (by decide) ?_
      refine aw_icmp_neF (tgt := 677) S.xo dL_law_670 (by decide) (by rw [c1]; rfl) ?_
      refine aw_iconst (v := (1 : Int32)) S.xo dL_law_673 (by decide) ?_
      refine aw_goto (tgt := 678) S.xo dL_law_674 (by decide) ?_
      refine aw_eqi (y := b2i (bo s k)) (by rw [c1]; rfl) ?_
      exact k678
    · refine aw_iconst (v := (1 : Int32)) S.xo dL_law_669 (by decide) ?_
      refine aw_icmp_neT (tgt := 677) S.xo dL_law_670 (by decide) (by rw [b2i_z c1]; decide) ?_
      refine aw_iconst (v := (0 : Int32)) S.xo dL_law_677 (by decide) ?_
      refine aw_eqi (y := b2i (bo s k)) ((b2i_z c1).symm) ?_
      exact k678)
  refine aw_iload S.xo 24 rfl dL_law_678 ?_
  refine aw_icmp_neF (tgt := 776) S.xo dL_law_680 (by decide) (rfl) ?_
  refine aw_aload_n S.xo 1 rfl dL_law_683 rfl ?_
  refine aw_iload S.xo 16 rfl dL_law_684 ?_
  refine aw_bipush (v := (7 : Int32)) S.xo dL_law_686 (by decide) ?_
  refine lw_cV (ce2 := ce) (sl2 := sl) S.xo 0 [.int (nI k), .int (7)] (r_k7 hG w hk) vw_X4_kettleOf cl_X4 (by decide) (by decide) tw_256 (s_X4_kettleOf _ _ _ (nI k) (7) J) ⟨by decide, by decide⟩ rfl rfl (Nat.le_of_ble_eq_true rfl) (Nat.le_refl _) (Nat.le_refl _) (by omega) (by omega) dL_law_688 ?_
  suffices k700 : AW (kgXs X xa) 31 ce sl none (some ()) 700 [(0, .ref (kgX (kgHs X) 3)), (1, .ref (kgO (kgHs X) 0)), (2, .int (v2)), (3, .int (nI (kgN s))), (4, .int (v4)), (5, .int (v5)), (6, .int (v6)), (7, .int (v7)), (8, .int (v8)), (9, .int (v9)), (10, .int (v10)), (11, .int (v11)), (12, .int (v12)), (13, .ref (o1)), (14, .ref (o2)), (15, .ref (o3)), (16, .int (nI k)), (17, .int (nI (s.1 6 k))), (18, .int (nI (s.1 7 k))), (19, .int (nI (s.1 8 k))), (20, .int (nI (5 * s.1 9 k))), (21, .int (stI s k)), (22, .int (nI (hU s k))), (23, .int (nI (s.1 11 k))), (24, .int (b2i (bo s k))), (25, .int (b2i (wh s k))), (26, .int (bmI (hU s k) (s.1 9 k))), (27, .int (nI (tlB s k (tlA s k)).length)), (28, .int (b2i (decide (s.1 13 k = 1)))), (29, .ref (a))] [.int (b2i (wh s k))] J from (by
    by_cases c1 : wh s k = true
    · refine aw_iconst (v := (1 : Int32)) S.xo dL_law_691 (by decide) ?_
      refine aw_icmp_neF (tgt := 699) S.xo dL_law_692 (by decide) (by rw [c1]; rfl) ?_
      refine aw_iconst (v := (1 : Int32)) S.xo dL_law_695 (by decide) ?_
      refine aw_goto (tgt := 700) S.xo dL_law_696 (by decide) ?_
      refine aw_eqi (y := b2i (wh s k)) (by rw [c1]; rfl) ?_
      exact k700
    · refine aw_iconst (v := (1 : Int32)) S.xo dL_law_691 (by decide) ?_
      refine aw_icmp_neT (tgt := 699) S.xo dL_law_692 (by decide) (by rw [b2i_z c1]; decide) ?_
      refine aw_iconst (v := (0 : Int32)) S.xo dL_law_699 (by decide) ?_
      refine aw_eqi (y := b2i (wh s k)) ((b2i_z c1).symm) ?_
      exact k700)
  refine aw_iload S.xo 25 rfl dL_law_700 ?_
  refine aw_icmp_neF (tgt := 776) S.xo dL_law_702 (by decide) (rfl) ?_
  refine aw_aload_n S.xo 1 rfl dL_law_705 rfl ?_
  refine aw_iload S.xo 16 rfl dL_law_706 ?_
  refine lw_cV (ce2 := ce) (sl2 := sl) S.xo 0 [.int (nI k)] (c_boilsIn hG w hk) vw_X4_boilsIn cl_X4 (by decide) (by decide) tw_327 (s_X4_boilsIn _ _ _ (nI k) J) ⟨by decide, by decide⟩ rfl rfl (Nat.le_of_ble_eq_true rfl) (Nat.le_refl _) (Nat.le_refl _) (by omega) (by omega) dL_law_708 ?_
  refine aw_iload S.xo 26 rfl dL_law_711 ?_
  refine aw_icmp_neF (tgt := 776) S.xo dL_law_713 (by decide) (rfl) ?_
  refine aw_aload_n S.xo 1 rfl dL_law_716 rfl ?_
  refine aw_iload S.xo 16 rfl dL_law_717 ?_
  refine lw_cV (ce2 := ce) (sl2 := sl) S.xo 0 [.int (nI k)] (c_boilsInAgain hG w hk) vw_X4_boilsInAgain cl_X4 (by decide) (by decide) tw_335 (s_X4_boilsInAgain _ _ _ (nI k) J) ⟨by decide, by decide⟩ rfl rfl (Nat.le_of_ble_eq_true rfl) (Nat.le_refl _) (Nat.le_refl _) (by omega) (by omega) dL_law_719 ?_
  refine aw_iload S.xo 26 rfl dL_law_722 ?_
  refine aw_icmp_neF (tgt := 776) S.xo dL_law_724 (by decide) (rfl) ?_
  refine aw_aload_n S.xo 1 rfl dL_law_727 rfl ?_
  refine aw_iload S.xo 16 rfl dL_law_728 ?_
  refine lw_cV (ce2 := ce) (sl2 := sl) S.xo 0 [.int (nI k)] (r_dry hG w hk) vw_X4_dryIn cl_X4 (by decide) (by decide) tw_339 (s_X4_dryIn _ _ _ (nI k) J) ⟨by decide, by decide⟩ rfl rfl (Nat.le_of_ble_eq_true rfl) (Nat.le_refl _) (Nat.le_refl _) (by omega) (by omega) dL_law_730 ?_
  refine aw_iload S.xo 26 rfl dL_law_733 ?_
  suffices k756 : AW (kgXs X xa) 31 ce sl none (some ()) 756 [(0, .ref (kgX (kgHs X) 3)), (1, .ref (kgO (kgHs X) 0)), (2, .int (v2)), (3, .int (nI (kgN s))), (4, .int (v4)), (5, .int (v5)), (6, .int (v6)), (7, .int (v7)), (8, .int (v8)), (9, .int (v9)), (10, .int (v10)), (11, .int (v11)), (12, .int (v12)), (13, .ref (o1)), (14, .ref (o2)), (15, .ref (o3)), (16, .int (nI k)), (17, .int (nI (s.1 6 k))), (18, .int (nI (s.1 7 k))), (19, .int (nI (s.1 8 k))), (20, .int (nI (5 * s.1 9 k))), (21, .int (stI s k)), (22, .int (nI (hU s k))), (23, .int (nI (s.1 11 k))), (24, .int (b2i (bo s k))), (25, .int (b2i (wh s k))), (26, .int (bmI (hU s k) (s.1 9 k))), (27, .int (nI (tlB s k (tlA s k)).length)), (28, .int (b2i (decide (s.1 13 k = 1)))), (29, .ref (a))] [.int (drI s k), .int (drI s k)] J from (by
    by_cases z : hU s k = 0
    · refine aw_sipush (v := (-1015 : Int32)) S.xo dL_law_735 (by decide) ?_
      refine aw_icmp_neF (tgt := 747) S.xo dL_law_738 (by decide) (if_pos z) ?_
      refine aw_sipush (v := (-1015 : Int32)) S.xo dL_law_741 (by decide) ?_
      refine aw_goto (tgt := 756) S.xo dL_law_744 (by decide) ?_
      refine aw_eqi (y := drI s k) (by unfold drI; rw [if_pos z]) ?_
      exact k756
    · refine aw_sipush (v := (-1015 : Int32)) S.xo dL_law_735 (by decide) ?_
      refine aw_icmp_neT (tgt := 747) S.xo dL_law_738 (by decide) (bm_ne w hk z) ?_
      refine aw_iload S.xo 26 rfl dL_law_747 ?_
      refine aw_iconst (v := (1 : Int32)) S.xo dL_law_749 (by decide) ?_
      refine aw_iload S.xo 19 rfl dL_law_750 ?_
      refine lw_cS (ce2 := ce) (sl2 := sl) S.xo [.int (1), .int (nI (s.1 8 k))] (max_v J) vw_J9_max_7cf53 tw_825 (s_J9_max_7cf53 _ _ _ _ _ _) ⟨by decide, by decide⟩ rfl rfl (Nat.le_of_ble_eq_true rfl) (Nat.le_refl _) (Nat.le_refl _) (by omega) (by omega) dL_law_752 ?_
      refine aw_iadd S.xo dL_law_755 ?_
      refine aw_eqi (y := drI s k) (by unfold drI; rw [if_neg z]) ?_
      exact k756)
  refine aw_icmp_neF (tgt := 776) S.xo dL_law_756 (by decide) (rfl) ?_
  suffices k778 : AW (kgXs X xa) 31 ce sl none (some ()) 778 [(0, .ref (kgX (kgHs X) 3)), (1, .ref (kgO (kgHs X) 0)), (2, .int (v2)), (3, .int (nI (kgN s))), (4, .int (v4)), (5, .int (v5)), (6, .int (v6)), (7, .int (v7)), (8, .int (v8)), (9, .int (v9)), (10, .int (v10)), (11, .int (v11)), (12, .int (v12)), (13, .ref (o1)), (14, .ref (o2)), (15, .ref (o3)), (16, .int (nI k)), (17, .int (nI (s.1 6 k))), (18, .int (nI (s.1 7 k))), (19, .int (nI (s.1 8 k))), (20, .int (nI (5 * s.1 9 k))), (21, .int (stI s k)), (22, .int (nI (hU s k))), (23, .int (nI (s.1 11 k))), (24, .int (b2i (bo s k))), (25, .int (b2i (wh s k))), (26, .int (bmI (hU s k) (s.1 9 k))), (27, .int (nI (tlB s k (tlA s k)).length)), (28, .int (b2i (decide (s.1 13 k = 1)))), (29, .ref (a))] [] J from (by
    by_cases c1 : s.1 10 k = 0
    · refine aw_iload S.xo 21 rfl dL_law_759 ?_
      refine aw_eqi (y := -1015) (if_pos c1) ?_
      refine aw_if_ltT (tgt := 778) (y := 0) S.xo dL_law_761 (by decide) (by decide) ?_
      exact k778
    · refine aw_iload S.xo 21 rfl dL_law_759 ?_
      refine aw_eqi (y := nI (s.1 10 k - 1)) (if_neg c1) ?_
      refine aw_if_ltF (tgt := 778) (y := 0) S.xo dL_law_761 (by decide) (nI_pos (by omega)) ?_
      refine aw_aload_n S.xo 1 rfl dL_law_764 rfl ?_
      refine aw_iload S.xo 21 rfl dL_law_765 ?_
      refine aw_eqi (y := nI (s.1 10 k - 1)) (if_neg c1) ?_
      refine aw_iconst (v := (0 : Int32)) S.xo dL_law_767 (by decide) ?_
      refine lw_cV (ce2 := ce) (sl2 := sl) S.xo 0 [.int (nI (s.1 10 k - 1)), .int (0)] (r_stF hG w (t := s.1 10 k - 1) (by omega)) vw_X4_stoveOf cl_X4 (by decide) (by decide) tw_290 (s_X4_stoveOf _ _ _ (nI (s.1 10 k - 1)) (0) J) ⟨by decide, by decide⟩ rfl rfl (Nat.le_of_ble_eq_true rfl) (Nat.le_refl _) (Nat.le_refl _) (by omega) (by omega) dL_law_768 ?_
      refine aw_eqi (y := nI k) (on_of w hk (by omega)) ?_
      refine aw_iload S.xo 16 rfl dL_law_771 ?_
      refine aw_icmp_eqT (tgt := 778) S.xo dL_law_773 (by decide) (rfl) ?_
      exact k778)
  exact kk
theorem st_ne {s : kgS} (w : kgWF s) {j k : Nat} (hj : j < k) (hk : k < kgN s) (c1 : ¬ s.1 10 k = 0) : ¬ stI s j = stI s k := by
  have hn := w.1
  have bk := w.2.2.2.1 k hk
  have bj := w.2.2.2.1 j (by omega)
  have hd := w.2.2.2.2.1 j k hj hk
  unfold stI
  rw [if_neg c1]
  by_cases c2 : s.1 10 j = 0
  · rw [if_pos c2]
    intro z
    have := congrArg Int32.toInt z
    rw [nI_toInt (by omega), show (-1015 : Int32).toInt = -1015 from by decide] at this
    omega
  · rw [if_neg c2]
    intro z
    have := (nI_eq (by omega) (by omega)).mp z
    have := hd c2 c1
    omega
set_option maxHeartbeats 4000000 in
set_option maxRecDepth 100000 in
theorem lk_6 {X : kgCX Unit} (S : Cx X cL_law RL 31 12 446 929218 6314595) {s : kgS} {J : kgM} {ce sl : Nat} (hce : ce ≤ 929218) (hsl : sl ≤ 6314595) (hG : RepG J 1 s) (w : kgWF s) {k : Nat} (hk : k < kgN s) {xa : va_W} {v2 v4 v5 v6 v7 v8 v11 v12 : Int32} {o1 o2 o3 : Nat}
    (kk : AW (kgXs X xa) 31 ce sl none (some ()) 872 [(0, .ref (kgX (kgHs X) 3)), (1, .ref (kgO (kgHs X) 0)), (2, .int (v2)), (3, .int (nI (kgN s))), (4, .int (v4)), (5, .int (v5)), (6, .int (v6)), (7, .int (v7)), (8, .int (v8)), (9, .int (nI (orf (k + 1) (wh s) (fun k => k)))), (10, .int (acM s k k)), (11, .int (v11)), (12, .int (v12)), (13, .ref (o1)), (14, .ref (o2)), (15, .ref (o3)), (16, .int (nI k)), (18, .int (nI (s.1 7 k))), (21, .int (stI s k)), (25, .int (b2i (wh s k))), (30, .int (nI k))] [] J) : AW (kgXs X xa) 31 ce sl none (some ()) 778 [(0, .ref (kgX (kgHs X) 3)), (1, .ref (kgO (kgHs X) 0)), (2, .int (v2)), (3, .int (nI (kgN s))), (4, .int (v4)), (5, .int (v5)), (6, .int (v6)), (7, .int (v7)), (8, .int (v8)), (9, .int (nI (orf (k + 1) (wh s) (fun k => k)))), (10, .int (smI k (fun b => smI (kgN s) (fun a => gF s a b)))), (11, .int (v11)), (12, .int (v12)), (13, .ref (o1)), (14, .ref (o2)), (15, .ref (o3)), (16, .int (nI k)), (18, .int (nI (s.1 7 k))), (21, .int (stI s k)), (25, .int (b2i (wh s k)))] [] J := by
  have hn := w.1
  have b := w.2.2.2.1 k hk
  have loop : ∀ d j : Nat, j + d = k → AW (kgXs X xa) 31 ce sl none (some ()) 781 [(0, .ref (kgX (kgHs X) 3)), (1, .ref (kgO (kgHs X) 0)), (2, .int (v2)), (3, .int (nI (kgN s))), (4, .int (v4)), (5, .int (v5)), (6, .int (v6)), (7, .int (v7)), (8, .int (v8)), (9, .int (nI (orf (k + 1) (wh s) (fun k => k)))), (10, .int (acM s k j)), (11, .int (v11)), (12, .int (v12)), (13, .ref (o1)), (14, .ref (o2)), (15, .ref (o3)), (16, .int (nI k)), (18, .int (nI (s.1 7 k))), (21, .int (stI s k)), (25, .int (b2i (wh s k))), (30, .int (nI j))] [] J := by
    intro d
    induction d with
    | zero =>
      intro j hj
      rw [show j = k by omega]
      refine aw_iload S.xo 20 rfl dL_law_781 ?_
      refine aw_iload S.xo 16 rfl dL_law_783 ?_
      refine aw_icmp_geT (tgt := 872) S.xo dL_law_785 (by decide) (Int32.le_refl _) ?_
      exact kk
    | succ d ih =>
      intro j hj
      have hj2 : j < k := by omega
      have hjn : j < kgN s := by omega
      have bj := w.2.2.2.1 j hjn
      have hor := or_lt (s := s) (k := k + 1) (by omega)
      have bitw : ((nI (orf (k + 1) (wh s) (fun k => k))) >>> (nI j &&& 31)) &&& 1 = b2i (wh s j) := by
        rw [bit_v (by omega) (by omega)]
        exact congrArg b2i (orf_id (by omega))
      refine aw_iload S.xo 20 rfl dL_law_781 ?_
      refine aw_iload S.xo 16 rfl dL_law_783 ?_
      refine aw_icmp_geF (tgt := 872) S.xo dL_law_785 (by decide) (nI_ge hj2 (by omega)) ?_
      suffices k829 : AW (kgXs X xa) 31 ce sl none (some ()) 829 [(0, .ref (kgX (kgHs X) 3)), (1, .ref (kgO (kgHs X) 0)), (2, .int (v2)), (3, .int (nI (kgN s))), (4, .int (v4)), (5, .int (v5)), (6, .int (v6)), (7, .int (v7)), (8, .int (v8)), (9, .int (nI (orf (k + 1) (wh s) (fun k => k)))), (10, .int (acM s k j)), (11, .int (v11)), (12, .int (v12)), (13, .ref (o1)), (14, .ref (o2)), (15, .ref (o3)), (16, .int (nI k)), (18, .int (nI (s.1 7 k))), (21, .int (stI s k)), (25, .int (b2i (wh s k))), (30, .int (nI j))] [] J from (by
        by_cases c1 : s.1 10 k = 0
        · refine aw_iload S.xo 18 rfl dL_law_788 ?_
          refine aw_eqi (y := -1015) (if_pos c1) ?_
          refine aw_if_ltT (tgt := 829) (y := 0) S.xo dL_law_790 (by decide) (by decide) ?_
          exact k829
        · by_cases c2 : s.1 10 j = 0
          · refine aw_iload S.xo 18 rfl dL_law_788 ?_
            refine aw_eqi (y := nI (s.1 10 k - 1)) (if_neg c1) ?_
            refine aw_if_ltF (tgt := 829) (y := 0) S.xo dL_law_790 (by decide) (nI_pos (by omega)) ?_
            refine aw_aload_n S.xo 1 rfl dL_law_793 rfl ?_
            refine aw_iload S.xo 20 rfl dL_law_794 ?_
            refine aw_iconst (v := (5 : Int32)) S.xo dL_law_796 (by decide) ?_
            refine lw_cV (ce2 := ce) (sl2 := sl) S.xo 0 [.int (nI j), .int (5)] (r_k5 hG w hjn) vw_X4_kettleOf cl_X4 (by decide) (by decide) tw_256 (s_X4_kettleOf _ _ _ (nI j) (5) J) ⟨by decide, by decide⟩ rfl rfl (Nat.le_of_ble_eq_true rfl) (Nat.le_refl _) (Nat.le_refl _) (by omega) (by omega) dL_law_797 ?_
            refine aw_iload S.xo 18 rfl dL_law_800 ?_
            refine aw_icmp_eqF (tgt := 827) S.xo dL_law_802 (by decide) (st_ne w hj2 hk c1) ?_
            refine aw_aload_n S.xo 1 rfl dL_law_805 rfl ?_
            refine aw_iload S.xo 20 rfl dL_law_806 ?_
            refine aw_iconst (v := (5 : Int32)) S.xo dL_law_808 (by decide) ?_
            refine lw_cV (ce2 := ce) (sl2 := sl) S.xo 0 [.int (nI j), .int (5)] (r_k5 hG w hjn) vw_X4_kettleOf cl_X4 (by decide) (by decide) tw_256 (s_X4_kettleOf _ _ _ (nI j) (5) J) ⟨by decide, by decide⟩ rfl rfl (Nat.le_of_ble_eq_true rfl) (Nat.le_refl _) (Nat.le_refl _) (by omega) (by omega) dL_law_809 ?_
            refine aw_eqi (y := -1015) (if_pos c2) ?_
            refine aw_if_ltT (tgt := 829) (y := 0) S.xo dL_law_812 (by decide) (by decide) ?_
            exact k829
          · refine aw_iload S.xo 18 rfl dL_law_788 ?_
            refine aw_eqi (y := nI (s.1 10 k - 1)) (if_neg c1) ?_
            refine aw_if_ltF (tgt := 829) (y := 0) S.xo dL_law_790 (by decide) (nI_pos (by omega)) ?_
            refine aw_aload_n S.xo 1 rfl dL_law_793 rfl ?_
            refine aw_iload S.xo 20 rfl dL_law_794 ?_
            refine aw_iconst (v := (5 : Int32)) S.xo dL_law_796 (by decide) ?_
            refine lw_cV (ce2 := ce) (sl2 := sl) S.xo 0 [.int (nI j), .int (5)] (r_k5 hG w hjn) vw_X4_kettleOf cl_X4 (by decide) (by decide) tw_256 (s_X4_kettleOf _ _ _ (nI j) (5) J) ⟨by decide, by decide⟩ rfl rfl (Nat.le_of_ble_eq_true rfl) (Nat.le_refl _) (Nat.le_refl _) (by omega) (by omega) dL_law_797 ?_
            refine aw_iload S.xo 18 rfl dL_law_800 ?_
            refine aw_icmp_eqF (tgt := 827) S.xo dL_law_802 (by decide) (st_ne w hj2 hk c1) ?_
            refine aw_aload_n S.xo 1 rfl dL_law_805 rfl ?_
            refine aw_iload S.xo 20 rfl dL_law_806 ?_
            refine aw_iconst (v := (5 : Int32)) S.xo dL_law_808 (by decide) ?_
            refine lw_cV (ce2 := ce) (sl2 := sl) S.xo 0 [.int (nI j), .int (5)] (r_k5 hG w hjn) vw_X4_kettleOf cl_X4 (by decide) (by decide) tw_256 (s_X4_kettleOf _ _ _ (nI j) (5) J) ⟨by decide, by decide⟩ rfl rfl (Nat.le_of_ble_eq_true rfl) (Nat.le_refl _) (Nat.le_refl _) (by omega) (by omega) dL_law_809 ?_
            refine aw_eqi (y := nI (s.1 10 j - 1)) (if_neg c2) ?_
            refine aw_if_ltF (tgt := 829) (y := 0) S.xo dL_law_812 (by decide) (nI_pos (by omega)) ?_
            refine aw_aload_n S.xo 1 rfl dL_law_815 rfl ?_
            refine aw_iload S.xo 20 rfl dL_law_816 ?_
            refine aw_iconst (v := (1 : Int32)) S.xo dL_law_818 (by decide) ?_
            refine lw_cV (ce2 := ce) (sl2 := sl) S.xo 0 [.int (nI j), .int (1)] (r_k1 hG w hjn) vw_X4_kettleOf cl_X4 (by decide) (by decide) tw_256 (s_X4_kettleOf _ _ _ (nI j) (1) J) ⟨by decide, by decide⟩ rfl rfl (Nat.le_of_ble_eq_true rfl) (Nat.le_refl _) (Nat.le_refl _) (by omega) (by omega) dL_law_819 ?_
            refine aw_iload S.xo 17 rfl dL_law_822 ?_
            refine aw_icmp_neT (tgt := 829) S.xo dL_law_824 (by decide) (fun z => (w.2.2.2.2.1 j k hj2 hk c2 c1).2 ((nI_eq (by omega) (by omega)).mp z)) ?_
            exact k829)
      refine aw_iload S.xo 10 rfl dL_law_829 ?_
      suffices k863 : AW (kgXs X xa) 31 ce sl none (some ()) 863 [(0, .ref (kgX (kgHs X) 3)), (1, .ref (kgO (kgHs X) 0)), (2, .int (v2)), (3, .int (nI (kgN s))), (4, .int (v4)), (5, .int (v5)), (6, .int (v6)), (7, .int (v7)), (8, .int (v8)), (9, .int (nI (orf (k + 1) (wh s) (fun k => k)))), (10, .int (acM s k j)), (11, .int (v11)), (12, .int (v12)), (13, .ref (o1)), (14, .ref (o2)), (15, .ref (o3)), (16, .int (nI k)), (18, .int (nI (s.1 7 k))), (21, .int (stI s k)), (25, .int (b2i (wh s k))), (30, .int (nI j))] [.int (vv s j k), .int (acM s k j)] J from (by
        by_cases c1 : wh s k = true
        · by_cases c2 : wh s j = true
          · refine aw_iload S.xo 19 rfl dL_law_831 ?_
            refine aw_if_eqF (tgt := 862) (y := 0) S.xo dL_law_833 (by decide) (b2i_n0 c1) ?_
            refine aw_iload S.xo 9 rfl dL_law_836 ?_
            refine aw_iload S.xo 20 rfl dL_law_838 ?_
            refine aw_ishr S.xo dL_law_840 ?_
            refine aw_iconst (v := (1 : Int32)) S.xo dL_law_841 (by decide) ?_
            refine aw_iand S.xo dL_law_842 ?_
            refine aw_eqi (y := b2i (wh s j)) (bitw) ?_
            refine aw_iconst (v := (1 : Int32)) S.xo dL_law_843 (by decide) ?_
            refine aw_icmp_neF (tgt := 862) S.xo dL_law_844 (by decide) (by rw [c2]; rfl) ?_
            refine aw_iload S.xo 17 rfl dL_law_847 ?_
            refine aw_aload_n S.xo 1 rfl dL_law_849 rfl ?_
            refine aw_iload S.xo 20 rfl dL_law_850 ?_
            refine aw_iconst (v := (1 : Int32)) S.xo dL_law_852 (by decide) ?_
            refine lw_cV (ce2 := ce) (sl2 := sl) S.xo 0 [.int (nI j), .int (1)] (r_k1 hG w hjn) vw_X4_kettleOf cl_X4 (by decide) (by decide) tw_256 (s_X4_kettleOf _ _ _ (nI j) (1) J) ⟨by decide, by decide⟩ rfl rfl (Nat.le_of_ble_eq_true rfl) (Nat.le_refl _) (Nat.le_refl _) (by omega) (by omega) dL_law_853 ?_
            refine lw_cS (ce2 := ce) (sl2 := sl) S.xo [.int (nI (s.1 7 k)), .int (nI (s.1 7 j))] (r_sound (by omega) (by omega) (by omega) (by omega) J) vw_L_sound tw_773 (s_L_sound _ _ _ _ _ _) ⟨by decide, by decide⟩ rfl rfl (Nat.le_of_ble_eq_true rfl) (Nat.le_refl _) (Nat.le_refl _) (by omega) (by omega) dL_law_856 ?_
            refine aw_goto (tgt := 863) S.xo dL_law_859 (by decide) ?_
            refine aw_eqi (y := vv s j k) (by rw [vv_v (by rw [c1, c2]; rfl)]; exact if_neg (fun z => wf_dist w j k hj2 hk c2 c1 z.symm)) ?_
            exact k863
          · refine aw_iload S.xo 19 rfl dL_law_831 ?_
            refine aw_if_eqF (tgt := 862) (y := 0) S.xo dL_law_833 (by decide) (b2i_n0 c1) ?_
            refine aw_iload S.xo 9 rfl dL_law_836 ?_
            refine aw_iload S.xo 20 rfl dL_law_838 ?_
            refine aw_ishr S.xo dL_law_840 ?_
            refine aw_iconst (v := (1 : Int32)) S.xo dL_law_841 (by decide) ?_
            refine aw_iand S.xo dL_law_842 ?_
            refine aw_eqi (y := b2i (wh s j)) (bitw) ?_
            refine aw_iconst (v := (1 : Int32)) S.xo dL_law_843 (by decide) ?_
            refine aw_icmp_neT (tgt := 862) S.xo dL_law_844 (by decide) (by rw [b2i_z c2]; decide) ?_
            refine aw_iconst (v := (0 : Int32)) S.xo dL_law_862 (by decide) ?_
            refine aw_eqi (y := vv s j k) ((vv_n (by rw [c1, Bool.eq_false_iff.mpr c2]; decide)).symm) ?_
            exact k863
        · refine aw_iload S.xo 19 rfl dL_law_831 ?_
          refine aw_if_eqT (tgt := 862) (y := 0) S.xo dL_law_833 (by decide) (b2i_z c1) ?_
          refine aw_iconst (v := (0 : Int32)) S.xo dL_law_862 (by decide) ?_
          refine aw_eqi (y := vv s j k) ((vv_n (by rw [Bool.eq_false_iff.mpr c1, Bool.false_and]; decide)).symm) ?_
          exact k863)
      refine aw_iadd S.xo dL_law_863 ?_
      refine aw_eqi (y := acM s k (j + 1)) ((acM_s hj2).symm) ?_
      refine aw_istore (L2 := [(0, .ref (kgX (kgHs X) 3)), (1, .ref (kgO (kgHs X) 0)), (2, .int (v2)), (3, .int (nI (kgN s))), (4, .int (v4)), (5, .int (v5)), (6, .int (v6)), (7, .int (v7)), (8, .int (v8)), (9, .int (nI (orf (k + 1) (wh s) (fun k => k)))), (10, .int (acM s k (j + 1))), (11, .int (v11)), (12, .int (v12)), (13, .ref (o1)), (14, .ref (o2)), (15, .ref (o3)), (16, .int (nI k)), (18, .int (nI (s.1 7 k))), (21, .int (stI s k)), (25, .int (b2i (wh s k))), (30, .int (nI j))]) S.xo [1, 2, 3, 4, 5, 6, 7, 8, 9, 10, 0, 11, 12, 13, 14, 15, 16, 17, 18, 19, 20] dL_law_864 (by decide) rfl ?_
      refine aw_iinc (v := nI (j + 1)) (L2 := [(0, .ref (kgX (kgHs X) 3)), (1, .ref (kgO (kgHs X) 0)), (2, .int (v2)), (3, .int (nI (kgN s))), (4, .int (v4)), (5, .int (v5)), (6, .int (v6)), (7, .int (v7)), (8, .int (v8)), (9, .int (nI (orf (k + 1) (wh s) (fun k => k)))), (10, .int (acM s k (j + 1))), (11, .int (v11)), (12, .int (v12)), (13, .ref (o1)), (14, .ref (o2)), (15, .ref (o3)), (16, .int (nI k)), (18, .int (nI (s.1 7 k))), (21, .int (stI s k)), (25, .int (b2i (wh s k))), (30, .int (nI (j + 1)))]) S.xo [1, 2, 3, 4, 5, 6, 7, 8, 9, 10, 11, 12, 13, 14, 15, 16, 17, 18, 19, 20, 0] 20 dL_law_866 rfl (nI_1 j) (by decide) rfl ?_
      refine aw_goto (tgt := 781) S.xo dL_law_869 (by decide) ?_
      exact ih (j + 1) (by omega)
  rw [← acM_0]
  refine aw_iconst (v := (0 : Int32)) S.xo dL_law_778 (by decide) ?_
  refine aw_istore (L2 := [(0, .ref (kgX (kgHs X) 3)), (1, .ref (kgO (kgHs X) 0)), (2, .int (v2)), (3, .int (nI (kgN s))), (4, .int (v4)), (5, .int (v5)), (6, .int (v6)), (7, .int (v7)), (8, .int (v8)), (9, .int (nI (orf (k + 1) (wh s) (fun k => k)))), (10, .int (acM s k 0)), (11, .int (v11)), (12, .int (v12)), (13, .ref (o1)), (14, .ref (o2)), (15, .ref (o3)), (16, .int (nI k)), (18, .int (nI (s.1 7 k))), (21, .int (stI s k)), (25, .int (b2i (wh s k))), (30, .int (0))]) S.xo [1, 2, 3, 4, 5, 6, 7, 8, 9, 10, 11, 12, 13, 14, 15, 16, 17, 18, 19, 20, 0] dL_law_779 (by decide) rfl ?_
  exact loop k 0 (Nat.zero_add _)
