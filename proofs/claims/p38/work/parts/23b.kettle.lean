theorem bar_s {k : Nat} {f : Nat → Nat} (h : f k ≤ 1) : nI (smN k f) + b2i (decide (f k = 1)) = nI (smN (k + 1) f) := by
  show _ = nI (smN k f + f k)
  rw [← nI_add]
  by_cases c : f k = 1
  · rw [c]; rfl
  · rw [show f k = 0 by omega]; rfl
theorem len_app {l t : List Nat} {n m : Nat} (h1 : l.length ≤ n) (h2 : t.length ≤ m) : (l ++ t).length ≤ n + m := by rw [List.length_append]; omega
theorem tl_34 {s : kgS} (w : kgWF s) {k : Nat} (hk : k < kgN s) : (tlB s k (tlA s k)).length ≤ 34 := by
  have h := tl_len w hk
  have h2 := h.2.2.2 (tlA s k)
  omega
set_option maxHeartbeats 4000000 in
set_option maxRecDepth 100000 in
theorem lk_3 {X : kgCX Unit} (S : Cx X cL_law RL 31 12 446 929218 6314595) (hLn : kgO (kgHs X) 184 = kgO (kgHs X) 175) {s : kgS} {I : kgM} {ce sl : Nat} (hce : ce + 17 ≤ 929218) (hsl : sl + 578 ≤ 6314595) (hG : RepG I 1 s) (w : kgWF s) (hL : LnB I) {k : Nat} (hk : k < kgN s) {xa : va_W} {v2 v4 v5 v6 v8 v9 v10 v11 v12 : Int32} {o1 o2 o3 : Nat}
    (kk : ∀ J, LnC (tlB s k (tlA s k)) J → lfC I J → AW (kgXs X xa) 31 (ce + 17) (sl + 578) none (some ()) 395 [(0, .ref (kgX (kgHs X) 3)), (1, .ref (kgO (kgHs X) 0)), (2, .int (v2)), (3, .int (nI (kgN s))), (4, .int (v4)), (5, .int (v5)), (6, .int (v6)), (7, .int (nI (smN (k + 1) (s.1 13)))), (8, .int (v8)), (9, .int (v9)), (10, .int (v10)), (11, .int (v11)), (12, .int (v12)), (13, .ref (o1)), (14, .ref (o2)), (15, .ref (o3)), (16, .int (nI k)), (17, .int (nI (s.1 6 k))), (18, .int (nI (s.1 7 k))), (19, .int (nI (s.1 8 k))), (20, .int (nI (5 * s.1 9 k))), (21, .int (stI s k)), (22, .int (nI (hU s k))), (23, .int (nI (s.1 11 k))), (24, .int (b2i (bo s k))), (25, .int (b2i (wh s k))), (26, .int (bmI (hU s k) (s.1 9 k))), (27, .int (nI (tlB s k (tlA s k)).length)), (28, .int (b2i (decide (s.1 13 k = 1))))] [] J) : AW (kgXs X xa) 31 ce sl none (some ()) 349 [(0, .ref (kgX (kgHs X) 3)), (1, .ref (kgO (kgHs X) 0)), (2, .int (v2)), (3, .int (nI (kgN s))), (4, .int (v4)), (5, .int (v5)), (6, .int (v6)), (7, .int (nI (smN k (s.1 13)))), (8, .int (v8)), (9, .int (v9)), (10, .int (v10)), (11, .int (v11)), (12, .int (v12)), (13, .ref (o1)), (14, .ref (o2)), (15, .ref (o3)), (16, .int (nI k)), (17, .int (nI (s.1 6 k))), (18, .int (nI (s.1 7 k))), (19, .int (nI (s.1 8 k))), (20, .int (nI (5 * s.1 9 k))), (21, .int (stI s k)), (22, .int (nI (hU s k))), (23, .int (nI (s.1 11 k))), (24, .int (b2i (bo s k))), (25, .int (b2i (wh s k))), (26, .int (bmI (hU s k) (s.1 9 k)))] [] I := by
  have hn := w.1
  have b := w.2.2.2.1 k hk
  obtain ⟨n, n34, l3⟩ := hL.2
  obtain ⟨J, j1, j2, j3⟩ := c_tell hG w hk hL.1 l3 n34
  have tg := tl_good w hk
  have t34 := tl_34 w hk
  refine aw_aload_n S.xo 1 rfl dL_law_349 rfl ?_
  refine aw_iload S.xo 16 rfl dL_law_350 ?_
  refine lw_cV (ce2 := (ce + 17)) (sl2 := (sl + 578)) S.xo 0 [.int (nI k)] (j1) vw_X4_tell cl_X4 (by decide) (by decide) tw_400 (s_X4_tell (kgHs (kgXs X xa)) _ hLn (nI k) I) ⟨by decide, by decide⟩ rfl rfl (Nat.le_of_ble_eq_true rfl) (by omega) (by omega) (by omega) (by omega) dL_law_352 ?_
  refine aw_istore (L2 := [(0, .ref (kgX (kgHs X) 3)), (1, .ref (kgO (kgHs X) 0)), (2, .int (v2)), (3, .int (nI (kgN s))), (4, .int (v4)), (5, .int (v5)), (6, .int (v6)), (7, .int (nI (smN k (s.1 13)))), (8, .int (v8)), (9, .int (v9)), (10, .int (v10)), (11, .int (v11)), (12, .int (v12)), (13, .ref (o1)), (14, .ref (o2)), (15, .ref (o3)), (16, .int (nI k)), (17, .int (nI (s.1 6 k))), (18, .int (nI (s.1 7 k))), (19, .int (nI (s.1 8 k))), (20, .int (nI (5 * s.1 9 k))), (21, .int (stI s k)), (22, .int (nI (hU s k))), (23, .int (nI (s.1 11 k))), (24, .int (b2i (bo s k))), (25, .int (b2i (wh s k))), (26, .int (bmI (hU s k) (s.1 9 k))), (27, .int (nI (tlB s k (tlA s k)).length))]) S.xo [1, 2, 3, 4, 5, 6, 7, 8, 9, 10, 11, 12, 13, 14, 15, 16, 17, 18, 19, 20, 21, 22, 23, 24, 25, 26, 27, 0] dL_law_355 (by decide) rfl ?_
  suffices k378 : AW (kgXs X xa) 31 (ce + 17) (sl + 578) none (some ()) 378 [(0, .ref (kgX (kgHs X) 3)), (1, .ref (kgO (kgHs X) 0)), (2, .int (v2)), (3, .int (nI (kgN s))), (4, .int (v4)), (5, .int (v5)), (6, .int (v6)), (7, .int (nI (smN k (s.1 13)))), (8, .int (v8)), (9, .int (v9)), (10, .int (v10)), (11, .int (v11)), (12, .int (v12)), (13, .ref (o1)), (14, .ref (o2)), (15, .ref (o3)), (16, .int (nI k)), (17, .int (nI (s.1 6 k))), (18, .int (nI (s.1 7 k))), (19, .int (nI (s.1 8 k))), (20, .int (nI (5 * s.1 9 k))), (21, .int (stI s k)), (22, .int (nI (hU s k))), (23, .int (nI (s.1 11 k))), (24, .int (b2i (bo s k))), (25, .int (b2i (wh s k))), (26, .int (bmI (hU s k) (s.1 9 k))), (27, .int (nI (tlB s k (tlA s k)).length))] [.int (b2i (decide (s.1 13 k = 1)))] J from (by
    by_cases c1 : s.1 13 k = 1
    · refine aw_iload S.xo 27 rfl dL_law_357 ?_
      refine aw_if_leF (tgt := 377) (y := 0) S.xo dL_law_359 (by decide) (nI_nle tl_pos (by omega)) ?_
      refine aw_aload_n S.xo 1 rfl dL_law_362 rfl ?_
      refine aw_iload S.xo 27 rfl dL_law_363 ?_
      refine aw_bipush (v := (35 : Int32)) S.xo dL_law_365 (by decide) ?_
      refine lw_cS (ce2 := (ce + 17)) (sl2 := (sl + 578)) S.xo [.ref (kgO (kgHs X) 0), .int (nI (tlB s k (tlA s k)).length), .int (35)] (rfl) vw_L_has tw_777 (s_L_has (kgHs (kgXs X xa)) _ hLn j2 tg t34) ⟨by decide, by decide⟩ rfl rfl (Nat.le_of_ble_eq_true rfl) (Nat.le_refl _) (Nat.le_refl _) (by omega) (by omega) dL_law_367 ?_
      refine aw_eqi (y := b2i (decide (s.1 13 k = 1))) (congrArg b2i (tl_has w hk)) ?_
      refine aw_if_eqF (tgt := 377) (y := 0) S.xo dL_law_370 (by decide) (by rw [decide_eq_true c1]; decide) ?_
      refine aw_iconst (v := (1 : Int32)) S.xo dL_law_373 (by decide) ?_
      refine aw_goto (tgt := 378) S.xo dL_law_374 (by decide) ?_
      refine aw_eqi (y := b2i (decide (s.1 13 k = 1))) (by rw [decide_eq_true c1]; rfl) ?_
      exact k378
    · refine aw_iload S.xo 27 rfl dL_law_357 ?_
      refine aw_if_leF (tgt := 377) (y := 0) S.xo dL_law_359 (by decide) (nI_nle tl_pos (by omega)) ?_
      refine aw_aload_n S.xo 1 rfl dL_law_362 rfl ?_
      refine aw_iload S.xo 27 rfl dL_law_363 ?_
      refine aw_bipush (v := (35 : Int32)) S.xo dL_law_365 (by decide) ?_
      refine lw_cS (ce2 := (ce + 17)) (sl2 := (sl + 578)) S.xo [.ref (kgO (kgHs X) 0), .int (nI (tlB s k (tlA s k)).length), .int (35)] (rfl) vw_L_has tw_777 (s_L_has (kgHs (kgXs X xa)) _ hLn j2 tg t34) ⟨by decide, by decide⟩ rfl rfl (Nat.le_of_ble_eq_true rfl) (Nat.le_refl _) (Nat.le_refl _) (by omega) (by omega) dL_law_367 ?_
      refine aw_eqi (y := b2i (decide (s.1 13 k = 1))) (congrArg b2i (tl_has w hk)) ?_
      refine aw_if_eqT (tgt := 377) (y := 0) S.xo dL_law_370 (by decide) (by rw [decide_eq_false c1]; rfl) ?_
      refine aw_iconst (v := (0 : Int32)) S.xo dL_law_377 (by decide) ?_
      refine aw_eqi (y := b2i (decide (s.1 13 k = 1))) (by rw [decide_eq_false c1]; rfl) ?_
      exact k378)
  refine aw_istore (L2 := [(0, .ref (kgX (kgHs X) 3)), (1, .ref (kgO (kgHs X) 0)), (2, .int (v2)), (3, .int (nI (kgN s))), (4, .int (v4)), (5, .int (v5)), (6, .int (v6)), (7, .int (nI (smN k (s.1 13)))), (8, .int (v8)), (9, .int (v9)), (10, .int (v10)), (11, .int (v11)), (12, .int (v12)), (13, .ref (o1)), (14, .ref (o2)), (15, .ref (o3)), (16, .int (nI k)), (17, .int (nI (s.1 6 k))), (18, .int (nI (s.1 7 k))), (19, .int (nI (s.1 8 k))), (20, .int (nI (5 * s.1 9 k))), (21, .int (stI s k)), (22, .int (nI (hU s k))), (23, .int (nI (s.1 11 k))), (24, .int (b2i (bo s k))), (25, .int (b2i (wh s k))), (26, .int (bmI (hU s k) (s.1 9 k))), (27, .int (nI (tlB s k (tlA s k)).length)), (28, .int (b2i (decide (s.1 13 k = 1))))]) S.xo [1, 2, 3, 4, 5, 6, 7, 8, 9, 10, 11, 12, 13, 14, 15, 16, 17, 18, 19, 20, 21, 22, 23, 24, 25, 26, 27, 28, 0] dL_law_378 (by decide) rfl ?_
  refine aw_iload S.xo 7 rfl dL_law_380 ?_
  suffices k392 : AW (kgXs X xa) 31 (ce + 17) (sl + 578) none (some ()) 392 [(0, .ref (kgX (kgHs X) 3)), (1, .ref (kgO (kgHs X) 0)), (2, .int (v2)), (3, .int (nI (kgN s))), (4, .int (v4)), (5, .int (v5)), (6, .int (v6)), (7, .int (nI (smN k (s.1 13)))), (8, .int (v8)), (9, .int (v9)), (10, .int (v10)), (11, .int (v11)), (12, .int (v12)), (13, .ref (o1)), (14, .ref (o2)), (15, .ref (o3)), (16, .int (nI k)), (17, .int (nI (s.1 6 k))), (18, .int (nI (s.1 7 k))), (19, .int (nI (s.1 8 k))), (20, .int (nI (5 * s.1 9 k))), (21, .int (stI s k)), (22, .int (nI (hU s k))), (23, .int (nI (s.1 11 k))), (24, .int (b2i (bo s k))), (25, .int (b2i (wh s k))), (26, .int (bmI (hU s k) (s.1 9 k))), (27, .int (nI (tlB s k (tlA s k)).length)), (28, .int (b2i (decide (s.1 13 k = 1))))] [.int (b2i (decide (s.1 13 k = 1))), .int (nI (smN k (s.1 13)))] J from (by
    by_cases c1 : s.1 13 k = 1
    · refine aw_iload S.xo 28 rfl dL_law_382 ?_
      refine aw_if_eqF (tgt := 391) (y := 0) S.xo dL_law_384 (by decide) (by rw [decide_eq_true c1]; decide) ?_
      refine aw_iconst (v := (1 : Int32)) S.xo dL_law_387 (by decide) ?_
      refine aw_goto (tgt := 392) S.xo dL_law_388 (by decide) ?_
      refine aw_eqi (y := b2i (decide (s.1 13 k = 1))) (by rw [decide_eq_true c1]; rfl) ?_
      exact k392
    · refine aw_iload S.xo 28 rfl dL_law_382 ?_
      refine aw_if_eqT (tgt := 391) (y := 0) S.xo dL_law_384 (by decide) (by rw [decide_eq_false c1]; rfl) ?_
      refine aw_iconst (v := (0 : Int32)) S.xo dL_law_391 (by decide) ?_
      refine aw_eqi (y := b2i (decide (s.1 13 k = 1))) (by rw [decide_eq_false c1]; rfl) ?_
      exact k392)
  refine aw_iadd S.xo dL_law_392 ?_
  refine aw_eqi (y := nI (smN (k + 1) (s.1 13))) (bar_s (by omega)) ?_
  refine aw_istore (L2 := [(0, .ref (kgX (kgHs X) 3)), (1, .ref (kgO (kgHs X) 0)), (2, .int (v2)), (3, .int (nI (kgN s))), (4, .int (v4)), (5, .int (v5)), (6, .int (v6)), (7, .int (nI (smN (k + 1) (s.1 13)))), (8, .int (v8)), (9, .int (v9)), (10, .int (v10)), (11, .int (v11)), (12, .int (v12)), (13, .ref (o1)), (14, .ref (o2)), (15, .ref (o3)), (16, .int (nI k)), (17, .int (nI (s.1 6 k))), (18, .int (nI (s.1 7 k))), (19, .int (nI (s.1 8 k))), (20, .int (nI (5 * s.1 9 k))), (21, .int (stI s k)), (22, .int (nI (hU s k))), (23, .int (nI (s.1 11 k))), (24, .int (b2i (bo s k))), (25, .int (b2i (wh s k))), (26, .int (bmI (hU s k) (s.1 9 k))), (27, .int (nI (tlB s k (tlA s k)).length)), (28, .int (b2i (decide (s.1 13 k = 1))))]) S.xo [1, 2, 3, 4, 5, 6, 7, 0, 8, 9, 10, 11, 12, 13, 14, 15, 16, 17, 18, 19, 20, 21, 22, 23, 24, 25, 26, 27, 28] dL_law_393 (by decide) rfl ?_
  exact kk J j2 j3
theorem tl_S {s : kgS} (w : kgWF s) {k : Nat} (hk : k < kgN s) : (tlS s k).length ≤ 2 := (tl_len w hk).2.1
theorem tl_X {s : kgS} (w : kgWF s) {k : Nat} (hk : k < kgN s) : (tlX s k).length ≤ 2 := (tl_len w hk).2.2.1
set_option maxHeartbeats 4000000 in
set_option maxRecDepth 100000 in
theorem lk_4 {X : kgCX Unit} (S : Cx X cL_law RL 31 12 446 929218 6314595) (hX : kgB (kgHs X) ≤ X.2.2.2.2.1.heap.size) {s : kgS} {J : kgM} {ce sl : Nat} (hce : ce + 60 ≤ 929218) (hsl : sl + 2000 ≤ 6314595) (hG : RepG J 1 s) (w : kgWF s) {k : Nat} (hk : k < kgN s) {xa : va_W} {v2 v4 v5 v6 v7 v8 v9 v10 v11 v12 : Int32} {o1 o2 o3 : Nat}
    (kk : ∀ a34 v34 g34, stK (tlB s k (tlA s k)) g34 → AW (kgXs X (xa ++ (stc (kgHs X) a34 v34 (tlB s k (tlA s k)) g34 ++ []))) 31 (ce + 32) (sl + 786) none (some ()) 568 [(0, .ref (kgX (kgHs X) 3)), (1, .ref (kgO (kgHs X) 0)), (2, .int (v2)), (3, .int (nI (kgN s))), (4, .int (v4)), (5, .int (v5)), (6, .int (v6)), (7, .int (v7)), (8, .int (v8)), (9, .int (v9)), (10, .int (v10)), (11, .int (v11)), (12, .int (v12)), (13, .ref (o1)), (14, .ref (o2)), (15, .ref (o3)), (16, .int (nI k)), (17, .int (nI (s.1 6 k))), (18, .int (nI (s.1 7 k))), (19, .int (nI (s.1 8 k))), (20, .int (nI (5 * s.1 9 k))), (21, .int (stI s k)), (22, .int (nI (hU s k))), (23, .int (nI (s.1 11 k))), (24, .int (b2i (bo s k))), (25, .int (b2i (wh s k))), (26, .int (bmI (hU s k) (s.1 9 k))), (27, .int (nI (tlB s k (tlA s k)).length)), (28, .int (b2i (decide (s.1 13 k = 1)))), (29, .ref (a34))] [] J) : AW (kgXs X xa) 31 ce sl none (some ()) 395 [(0, .ref (kgX (kgHs X) 3)), (1, .ref (kgO (kgHs X) 0)), (2, .int (v2)), (3, .int (nI (kgN s))), (4, .int (v4)), (5, .int (v5)), (6, .int (v6)), (7, .int (v7)), (8, .int (v8)), (9, .int (v9)), (10, .int (v10)), (11, .int (v11)), (12, .int (v12)), (13, .ref (o1)), (14, .ref (o2)), (15, .ref (o3)), (16, .int (nI k)), (17, .int (nI (s.1 6 k))), (18, .int (nI (s.1 7 k))), (19, .int (nI (s.1 8 k))), (20, .int (nI (5 * s.1 9 k))), (21, .int (stI s k)), (22, .int (nI (hU s k))), (23, .int (nI (s.1 11 k))), (24, .int (b2i (bo s k))), (25, .int (b2i (wh s k))), (26, .int (bmI (hU s k) (s.1 9 k))), (27, .int (nI (tlB s k (tlA s k)).length)), (28, .int (b2i (decide (s.1 13 k = 1))))] [] J := by
  have hn := w.1
  have b := w.2.2.2.1 k hk
  refine lx_newB (ce2 := (ce + 2)) (sl2 := (sl + 20)) S hX tw_826 tw_827 ⟨by decide, by decide⟩ (Nat.le_of_ble_eq_true rfl) (by omega) (by omega) (by omega) (by omega) dL_law_395 dL_law_398 dL_law_399 (fun q1 b1 c1 g1 m1 h1 => ?_)
  have z1 : ([] : List Nat).length ≤ 0 := Nat.le_refl _
  refine aw_iload S.xo 16 rfl dL_law_402 ?_
  have y2 : (dgs (k)).length ≤ 3 := dgs_3 _
  refine lw_addI (v := k) (ce2 := (ce + 3)) (sl2 := (sl + 54)) S h1 (by omega) (by omega) tw_858 ⟨by decide, by decide⟩ (Nat.le_of_ble_eq_true rfl) (by omega) (by omega) (by omega) (by omega) dL_law_404 (fun b2 c2 g2 m2 h2 => ?_)
  have z2 := len_app z1 y2
  refine aw_ldcT S.xo 0 (by decide) rfl rfl dL_law_407 ?_
  have y3 := (kg_cs_ok 0 (by decide)).2.1
  refine lx_addC (ce2 := (ce + 4)) (sl2 := (sl + 88)) S 0 (by decide) h2 (by omega) tw_828 ⟨by decide, by decide⟩ (Nat.le_of_ble_eq_true rfl) (by omega) (by omega) (by omega) (by omega) dL_law_409 (fun b3 c3 g3 m3 h3 => ?_)
  have z3 := len_app z2 y3
  refine aw_iload S.xo 17 rfl dL_law_412 ?_
  have y4 : (dgs (s.1 6 k)).length ≤ 3 := dgs_3 _
  refine lw_addI (v := s.1 6 k) (ce2 := (ce + 5)) (sl2 := (sl + 122)) S h3 (by omega) (by omega) tw_858 ⟨by decide, by decide⟩ (Nat.le_of_ble_eq_true rfl) (by omega) (by omega) (by omega) (by omega) dL_law_414 (fun b4 c4 g4 m4 h4 => ?_)
  have z4 := len_app z3 y4
  refine aw_ldcT S.xo 1 (by decide) rfl rfl dL_law_417 ?_
  have y5 := (kg_cs_ok 1 (by decide)).2.1
  refine lx_addC (ce2 := (ce + 6)) (sl2 := (sl + 156)) S 1 (by decide) h4 (by omega) tw_828 ⟨by decide, by decide⟩ (Nat.le_of_ble_eq_true rfl) (by omega) (by omega) (by omega) (by omega) dL_law_419 (fun b5 c5 g5 m5 h5 => ?_)
  have z5 := len_app z4 y5
  refine aw_iload S.xo 18 rfl dL_law_422 ?_
  have y6 : (dgs (s.1 7 k)).length ≤ 3 := dgs_3 _
  refine lw_addI (v := s.1 7 k) (ce2 := (ce + 7)) (sl2 := (sl + 190)) S h5 (by omega) (by omega) tw_858 ⟨by decide, by decide⟩ (Nat.le_of_ble_eq_true rfl) (by omega) (by omega) (by omega) (by omega) dL_law_424 (fun b6 c6 g6 m6 h6 => ?_)
  have z6 := len_app z5 y6
  refine aw_ldcT S.xo 2 (by decide) rfl rfl dL_law_427 ?_
  have y7 := (kg_cs_ok 2 (by decide)).2.1
  refine lx_addC (ce2 := (ce + 8)) (sl2 := (sl + 224)) S 2 (by decide) h6 (by omega) tw_828 ⟨by decide, by decide⟩ (Nat.le_of_ble_eq_true rfl) (by omega) (by omega) (by omega) (by omega) dL_law_429 (fun b7 c7 g7 m7 h7 => ?_)
  have z7 := len_app z6 y7
  refine aw_iload S.xo 19 rfl dL_law_432 ?_
  have y8 : (dgs (s.1 8 k)).length ≤ 3 := dgs_3 _
  refine lw_addI (v := s.1 8 k) (ce2 := (ce + 9)) (sl2 := (sl + 258)) S h7 (by omega) (by omega) tw_858 ⟨by decide, by decide⟩ (Nat.le_of_ble_eq_true rfl) (by omega) (by omega) (by omega) (by omega) dL_law_434 (fun b8 c8 g8 m8 h8 => ?_)
  have z8 := len_app z7 y8
  refine aw_ldcT S.xo 3 (by decide) rfl rfl dL_law_437 ?_
  have y9 := (kg_cs_ok 3 (by decide)).2.1
  refine lx_addC (ce2 := (ce + 10)) (sl2 := (sl + 292)) S 3 (by decide) h8 (by omega) tw_828 ⟨by decide, by decide⟩ (Nat.le_of_ble_eq_true rfl) (by omega) (by omega) (by omega) (by omega) dL_law_439 (fun b9 c9 g9 m9 h9 => ?_)
  have z9 := len_app z8 y9
  refine aw_iload S.xo 20 rfl dL_law_442 ?_
  have y10 : (dgs (5 * s.1 9 k)).length ≤ 3 := dgs_3 _
  refine lw_addI (v := 5 * s.1 9 k) (ce2 := (ce + 11)) (sl2 := (sl + 326)) S h9 (by omega) (by omega) tw_858 ⟨by decide, by decide⟩ (Nat.le_of_ble_eq_true rfl) (by omega) (by omega) (by omega) (by omega) dL_law_444 (fun b10 c10 g10 m10 h10 => ?_)
  have z10 := len_app z9 y10
  suffices k11 : ∀ b11 c11 g11 m11, sbK ([] ++ dgs (k) ++ kg_cs 0 ++ dgs (s.1 6 k) ++ kg_cs 1 ++ dgs (s.1 7 k) ++ kg_cs 2 ++ dgs (s.1 8 k) ++ kg_cs 3 ++ dgs (5 * s.1 9 k) ++ (if nI (s.1 12 k) = 0 then [95] else [])) c11 g11 → AW (kgXs X (xa ++ (sbc (kgHs X) q1 ([] ++ dgs (k) ++ kg_cs 0 ++ dgs (s.1 6 k) ++ kg_cs 1 ++ dgs (s.1 7 k) ++ kg_cs 2 ++ dgs (s.1 8 k) ++ kg_cs 3 ++ dgs (5 * s.1 9 k) ++ (if nI (s.1 12 k) = 0 then [95] else [])) b11 c11 g11 m11 ++ []))) 31 (ce + 12) (sl + 360) none (some ()) 467 [(0, .ref (kgX (kgHs X) 3)), (1, .ref (kgO (kgHs X) 0)), (2, .int (v2)), (3, .int (nI (kgN s))), (4, .int (v4)), (5, .int (v5)), (6, .int (v6)), (7, .int (v7)), (8, .int (v8)), (9, .int (v9)), (10, .int (v10)), (11, .int (v11)), (12, .int (v12)), (13, .ref (o1)), (14, .ref (o2)), (15, .ref (o3)), (16, .int (nI k)), (17, .int (nI (s.1 6 k))), (18, .int (nI (s.1 7 k))), (19, .int (nI (s.1 8 k))), (20, .int (nI (5 * s.1 9 k))), (21, .int (stI s k)), (22, .int (nI (hU s k))), (23, .int (nI (s.1 11 k))), (24, .int (b2i (bo s k))), (25, .int (b2i (wh s k))), (26, .int (bmI (hU s k) (s.1 9 k))), (27, .int (nI (tlB s k (tlA s k)).length)), (28, .int (b2i (decide (s.1 13 k = 1))))] [.ref (q1)] J from (by
    by_cases c1 : s.1 12 k = 0
    · refine aw_aload_n S.xo 1 rfl dL_law_447 rfl ?_
      refine aw_iload S.xo 16 rfl dL_law_448 ?_
      refine aw_iconst (v := (4 : Int32)) S.xo dL_law_450 (by decide) ?_
      refine lw_cV (ce2 := (ce + 11)) (sl2 := (sl + 326)) S.xo 0 [.int (nI k), .int (4)] (r_k4 hG w hk) vw_X4_kettleOf cl_X4 (by decide) (by decide) tw_256 (s_X4_kettleOf _ _ _ (nI k) (4) J) ⟨by decide, by decide⟩ rfl rfl (Nat.le_of_ble_eq_true rfl) (Nat.le_refl _) (Nat.le_refl _) (by omega) (by omega) dL_law_451 ?_
      refine aw_if_neF (tgt := 462) (y := 0) S.xo dL_law_454 (by decide) (by rw [c1]; rfl) ?_
      refine aw_ldcT S.xo 4 (by decide) rfl rfl dL_law_457 ?_
      refine aw_goto (tgt := 464) S.xo dL_law_459 (by decide) ?_
      have y12 := (kg_cs_ok 4 (by decide)).2.1
      refine lx_addC (ce2 := (ce + 12)) (sl2 := (sl + 360)) S 4 (by decide) h10 (by omega) tw_828 ⟨by decide, by decide⟩ (Nat.le_of_ble_eq_true rfl) (by omega) (by omega) (by omega) (by omega) dL_law_464 (fun b12 c12 g12 m12 h12 => ?_)
      have z12 := len_app z10 y12
      have e11 : [] ++ dgs (k) ++ kg_cs 0 ++ dgs (s.1 6 k) ++ kg_cs 1 ++ dgs (s.1 7 k) ++ kg_cs 2 ++ dgs (s.1 8 k) ++ kg_cs 3 ++ dgs (5 * s.1 9 k) ++ kg_cs 4 = [] ++ dgs (k) ++ kg_cs 0 ++ dgs (s.1 6 k) ++ kg_cs 1 ++ dgs (s.1 7 k) ++ kg_cs 2 ++ dgs (s.1 8 k) ++ kg_cs 3 ++ dgs (5 * s.1 9 k) ++ (if nI (s.1 12 k) = 0 then [95] else []) := congrArg (fun z => [] ++ dgs (k) ++ kg_cs 0 ++ dgs (s.1 6 k) ++ kg_cs 1 ++ dgs (s.1 7 k) ++ kg_cs 2 ++ dgs (s.1 8 k) ++ kg_cs 3 ++ dgs (5 * s.1 9 k) ++ z) (show kg_cs 4 = (if nI (s.1 12 k) = 0 then [95] else []) from by rw [if_pos (by rw [c1]; rfl)]; rfl)
      rw [e11] at h12
      rw [e11]
      refine aw_widen (k := (ce + 12)) (n := (sl + 360)) (by omega) (by omega) ?_
      exact k11 b12 c12 g12 m12 h12
    · refine aw_aload_n S.xo 1 rfl dL_law_447 rfl ?_
      refine aw_iload S.xo 16 rfl dL_law_448 ?_
      refine aw_iconst (v := (4 : Int32)) S.xo dL_law_450 (by decide) ?_
      refine lw_cV (ce2 := (ce + 11)) (sl2 := (sl + 326)) S.xo 0 [.int (nI k), .int (4)] (r_k4 hG w hk) vw_X4_kettleOf cl_X4 (by decide) (by decide) tw_256 (s_X4_kettleOf _ _ _ (nI k) (4) J) ⟨by decide, by decide⟩ rfl rfl (Nat.le_of_ble_eq_true rfl) (Nat.le_refl _) (Nat.le_refl _) (by omega) (by omega) dL_law_451 ?_
      refine aw_if_neT (tgt := 462) (y := 0) S.xo dL_law_454 (by decide) (nI_ne0 (by omega) (by omega)) ?_
      refine aw_ldcT S.xo 5 (by decide) rfl rfl dL_law_462 ?_
      have y13 := (kg_cs_ok 5 (by decide)).2.1
      refine lx_addC (ce2 := (ce + 12)) (sl2 := (sl + 360)) S 5 (by decide) h10 (by omega) tw_828 ⟨by decide, by decide⟩ (Nat.le_of_ble_eq_true rfl) (by omega) (by omega) (by omega) (by omega) dL_law_464 (fun b13 c13 g13 m13 h13 => ?_)
      have z13 := len_app z10 y13
      have e11 : [] ++ dgs (k) ++ kg_cs 0 ++ dgs (s.1 6 k) ++ kg_cs 1 ++ dgs (s.1 7 k) ++ kg_cs 2 ++ dgs (s.1 8 k) ++ kg_cs 3 ++ dgs (5 * s.1 9 k) ++ kg_cs 5 = [] ++ dgs (k) ++ kg_cs 0 ++ dgs (s.1 6 k) ++ kg_cs 1 ++ dgs (s.1 7 k) ++ kg_cs 2 ++ dgs (s.1 8 k) ++ kg_cs 3 ++ dgs (5 * s.1 9 k) ++ (if nI (s.1 12 k) = 0 then [95] else []) := congrArg (fun z => [] ++ dgs (k) ++ kg_cs 0 ++ dgs (s.1 6 k) ++ kg_cs 1 ++ dgs (s.1 7 k) ++ kg_cs 2 ++ dgs (s.1 8 k) ++ kg_cs 3 ++ dgs (5 * s.1 9 k) ++ z) (show kg_cs 5 = (if nI (s.1 12 k) = 0 then [95] else []) from by rw [if_neg (nI_ne0 (by omega) (by omega))]; rfl)
      rw [e11] at h13
      rw [e11]
      refine aw_widen (k := (ce + 12)) (n := (sl + 360)) (by omega) (by omega) ?_
      exact k11 b13 c13 g13 m13 h13)
  intro b11 c11 g11 m11 h11
  have z11 := len_app z10 (show ((if nI (s.1 12 k) = 0 then [95] else [])).length ≤ 1 from ite_len (by decide) (by decide))
  suffices k14 : ∀ b14 c14 g14 m14, sbK ([] ++ dgs (k) ++ kg_cs 0 ++ dgs (s.1 6 k) ++ kg_cs 1 ++ dgs (s.1 7 k) ++ kg_cs 2 ++ dgs (s.1 8 k) ++ kg_cs 3 ++ dgs (5 * s.1 9 k) ++ (if nI (s.1 12 k) = 0 then [95] else []) ++ (if nI (s.1 13 k) = (1 : Int32) then [35] else [])) c14 g14 → AW (kgXs X (xa ++ (sbc (kgHs X) q1 ([] ++ dgs (k) ++ kg_cs 0 ++ dgs (s.1 6 k) ++ kg_cs 1 ++ dgs (s.1 7 k) ++ kg_cs 2 ++ dgs (s.1 8 k) ++ kg_cs 3 ++ dgs (5 * s.1 9 k) ++ (if nI (s.1 12 k) = 0 then [95] else []) ++ (if nI (s.1 13 k) = (1 : Int32) then [35] else [])) b14 c14 g14 m14 ++ []))) 31 (ce + 13) (sl + 394) none (some ()) 482 [(0, .ref (kgX (kgHs X) 3)), (1, .ref (kgO (kgHs X) 0)), (2, .int (v2)), (3, .int (nI (kgN s))), (4, .int (v4)), (5, .int (v5)), (6, .int (v6)), (7, .int (v7)), (8, .int (v8)), (9, .int (v9)), (10, .int (v10)), (11, .int (v11)), (12, .int (v12)), (13, .ref (o1)), (14, .ref (o2)), (15, .ref (o3)), (16, .int (nI k)), (17, .int (nI (s.1 6 k))), (18, .int (nI (s.1 7 k))), (19, .int (nI (s.1 8 k))), (20, .int (nI (5 * s.1 9 k))), (21, .int (stI s k)), (22, .int (nI (hU s k))), (23, .int (nI (s.1 11 k))), (24, .int (b2i (bo s k))), (25, .int (b2i (wh s k))), (26, .int (bmI (hU s k) (s.1 9 k))), (27, .int (nI (tlB s k (tlA s k)).length)), (28, .int (b2i (decide (s.1 13 k = 1))))] [.ref (q1)] J from (by
    by_cases c1 : s.1 13 k = 1
    · refine aw_iload S.xo 28 rfl dL_law_467 ?_
      refine aw_if_eqF (tgt := 477) (y := 0) S.xo dL_law_469 (by decide) (by rw [decide_eq_true c1]; decide) ?_
      refine aw_ldcT S.xo 6 (by decide) rfl rfl dL_law_472 ?_
      refine aw_goto (tgt := 479) S.xo dL_law_474 (by decide) ?_
      have y15 := (kg_cs_ok 6 (by decide)).2.1
      refine lx_addC (ce2 := (ce + 13)) (sl2 := (sl + 394)) S 6 (by decide) h11 (by omega) tw_828 ⟨by decide, by decide⟩ (Nat.le_of_ble_eq_true rfl) (by omega) (by omega) (by omega) (by omega) dL_law_479 (fun b15 c15 g15 m15 h15 => ?_)
      have z15 := len_app z11 y15
      have e14 : [] ++ dgs (k) ++ kg_cs 0 ++ dgs (s.1 6 k) ++ kg_cs 1 ++ dgs (s.1 7 k) ++ kg_cs 2 ++ dgs (s.1 8 k) ++ kg_cs 3 ++ dgs (5 * s.1 9 k) ++ (if nI (s.1 12 k) = 0 then [95] else []) ++ kg_cs 6 = [] ++ dgs (k) ++ kg_cs 0 ++ dgs (s.1 6 k) ++ kg_cs 1 ++ dgs (s.1 7 k) ++ kg_cs 2 ++ dgs (s.1 8 k) ++ kg_cs 3 ++ dgs (5 * s.1 9 k) ++ (if nI (s.1 12 k) = 0 then [95] else []) ++ (if nI (s.1 13 k) = (1 : Int32) then [35] else []) := congrArg (fun z => [] ++ dgs (k) ++ kg_cs 0 ++ dgs (s.1 6 k) ++ kg_cs 1 ++ dgs (s.1 7 k) ++ kg_cs 2 ++ dgs (s.1 8 k) ++ kg_cs 3 ++ dgs (5 * s.1 9 k) ++ (if nI (s.1 12 k) = 0 then [95] else []) ++ z) (show kg_cs 6 = (if nI (s.1 13 k) = (1 : Int32) then [35] else []) from by rw [if_pos (by rw [c1]; rfl)]; rfl)
      rw [e14] at h15
      rw [e14]
      refine aw_widen (k := (ce + 13)) (n := (sl + 394)) (by omega) (by omega) ?_
      exact k14 b15 c15 g15 m15 h15
    · refine aw_iload S.xo 28 rfl dL_law_467 ?_
      refine aw_if_eqT (tgt := 477) (y := 0) S.xo dL_law_469 (by decide) (by rw [decide_eq_false c1]; rfl) ?_
      refine aw_ldcT S.xo 5 (by decide) rfl rfl dL_law_477 ?_
      have y16 := (kg_cs_ok 5 (by decide)).2.1
      refine lx_addC (ce2 := (ce + 13)) (sl2 := (sl + 394)) S 5 (by decide) h11 (by omega) tw_828 ⟨by decide, by decide⟩ (Nat.le_of_ble_eq_true rfl) (by omega) (by omega) (by omega) (by omega) dL_law_479 (fun b16 c16 g16 m16 h16 => ?_)
      have z16 := len_app z11 y16
      have e14 : [] ++ dgs (k) ++ kg_cs 0 ++ dgs (s.1 6 k) ++ kg_cs 1 ++ dgs (s.1 7 k) ++ kg_cs 2 ++ dgs (s.1 8 k) ++ kg_cs 3 ++ dgs (5 * s.1 9 k) ++ (if nI (s.1 12 k) = 0 then [95] else []) ++ kg_cs 5 = [] ++ dgs (k) ++ kg_cs 0 ++ dgs (s.1 6 k) ++ kg_cs 1 ++ dgs (s.1 7 k) ++ kg_cs 2 ++ dgs (s.1 8 k) ++ kg_cs 3 ++ dgs (5 * s.1 9 k) ++ (if nI (s.1 12 k) = 0 then [95] else []) ++ (if nI (s.1 13 k) = (1 : Int32) then [35] else []) := congrArg (fun z => [] ++ dgs (k) ++ kg_cs 0 ++ dgs (s.1 6 k) ++ kg_cs 1 ++ dgs (s.1 7 k) ++ kg_cs 2 ++ dgs (s.1 8 k) ++ kg_cs 3 ++ dgs (5 * s.1 9 k) ++ (if nI (s.1 12 k) = 0 then [95] else []) ++ z) (show kg_cs 5 = (if nI (s.1 13 k) = (1 : Int32) then [35] else []) from by rw [if_neg (show ¬ nI (s.1 13 k) = (1 : Int32) from fun z => c1 ((nI_eq (b := 1) (by omega) (by omega)).mp z))]; rfl)
      rw [e14] at h16
      rw [e14]
      refine aw_widen (k := (ce + 13)) (n := (sl + 394)) (by omega) (by omega) ?_
      exact k14 b16 c16 g16 m16 h16)
  intro b14 c14 g14 m14 h14
  have z14 := len_app z11 (show ((if nI (s.1 13 k) = (1 : Int32) then [35] else [])).length ≤ 1 from ite_len (by decide) (by decide))
  suffices k17 : ∀ b17 c17 g17 m17, sbK ([] ++ dgs (k) ++ kg_cs 0 ++ dgs (s.1 6 k) ++ kg_cs 1 ++ dgs (s.1 7 k) ++ kg_cs 2 ++ dgs (s.1 8 k) ++ kg_cs 3 ++ dgs (5 * s.1 9 k) ++ (if nI (s.1 12 k) = 0 then [95] else []) ++ (if nI (s.1 13 k) = (1 : Int32) then [35] else []) ++ tlS s k) c17 g17 → AW (kgXs X (xa ++ (sbc (kgHs X) q1 ([] ++ dgs (k) ++ kg_cs 0 ++ dgs (s.1 6 k) ++ kg_cs 1 ++ dgs (s.1 7 k) ++ kg_cs 2 ++ dgs (s.1 8 k) ++ kg_cs 3 ++ dgs (5 * s.1 9 k) ++ (if nI (s.1 12 k) = 0 then [95] else []) ++ (if nI (s.1 13 k) = (1 : Int32) then [35] else []) ++ tlS s k) b17 c17 g17 m17 ++ []))) 31 (ce + 21) (sl + 554) none (some ()) 515 [(0, .ref (kgX (kgHs X) 3)), (1, .ref (kgO (kgHs X) 0)), (2, .int (v2)), (3, .int (nI (kgN s))), (4, .int (v4)), (5, .int (v5)), (6, .int (v6)), (7, .int (v7)), (8, .int (v8)), (9, .int (v9)), (10, .int (v10)), (11, .int (v11)), (12, .int (v12)), (13, .ref (o1)), (14, .ref (o2)), (15, .ref (o3)), (16, .int (nI k)), (17, .int (nI (s.1 6 k))), (18, .int (nI (s.1 7 k))), (19, .int (nI (s.1 8 k))), (20, .int (nI (5 * s.1 9 k))), (21, .int (stI s k)), (22, .int (nI (hU s k))), (23, .int (nI (s.1 11 k))), (24, .int (b2i (bo s k))), (25, .int (b2i (wh s k))), (26, .int (bmI (hU s k) (s.1 9 k))), (27, .int (nI (tlB s k (tlA s k)).length)), (28, .int (b2i (decide (s.1 13 k = 1))))] [.ref (q1)] J from (by
    by_cases c1 : s.1 10 k = 0
    · refine aw_iload S.xo 21 rfl dL_law_482 ?_
      refine aw_if_ltT (tgt := 510) (y := 0) S.xo dL_law_484 (by decide) (by unfold stI; rw [if_pos c1]; decide) ?_
      refine aw_ldcT S.xo 5 (by decide) rfl rfl dL_law_510 ?_
      have y18 := (kg_cs_ok 5 (by decide)).2.1
      refine lx_addC (ce2 := (ce + 14)) (sl2 := (sl + 428)) S 5 (by decide) h14 (by omega) tw_828 ⟨by decide, by decide⟩ (Nat.le_of_ble_eq_true rfl) (by omega) (by omega) (by omega) (by omega) dL_law_512 (fun b18 c18 g18 m18 h18 => ?_)
      have z18 := len_app z14 y18
      have e17 : [] ++ dgs (k) ++ kg_cs 0 ++ dgs (s.1 6 k) ++ kg_cs 1 ++ dgs (s.1 7 k) ++ kg_cs 2 ++ dgs (s.1 8 k) ++ kg_cs 3 ++ dgs (5 * s.1 9 k) ++ (if nI (s.1 12 k) = 0 then [95] else []) ++ (if nI (s.1 13 k) = (1 : Int32) then [35] else []) ++ kg_cs 5 = [] ++ dgs (k) ++ kg_cs 0 ++ dgs (s.1 6 k) ++ kg_cs 1 ++ dgs (s.1 7 k) ++ kg_cs 2 ++ dgs (s.1 8 k) ++ kg_cs 3 ++ dgs (5 * s.1 9 k) ++ (if nI (s.1 12 k) = 0 then [95] else []) ++ (if nI (s.1 13 k) = (1 : Int32) then [35] else []) ++ tlS s k := congrArg (fun z => [] ++ dgs (k) ++ kg_cs 0 ++ dgs (s.1 6 k) ++ kg_cs 1 ++ dgs (s.1 7 k) ++ kg_cs 2 ++ dgs (s.1 8 k) ++ kg_cs 3 ++ dgs (5 * s.1 9 k) ++ (if nI (s.1 12 k) = 0 then [95] else []) ++ (if nI (s.1 13 k) = (1 : Int32) then [35] else []) ++ z) (show kg_cs 5 = tlS s k from by unfold tlS; rw [if_pos c1]; rfl)
      rw [e17] at h18
      rw [e17]
      refine aw_widen (k := (ce + 21)) (n := (sl + 554)) (by omega) (by omega) ?_
      exact k17 b18 c18 g18 m18 h18
    · refine aw_iload S.xo 21 rfl dL_law_482 ?_
      refine aw_if_ltF (tgt := 510) (y := 0) S.xo dL_law_484 (by decide) (by unfold stI; rw [if_neg c1]; exact nI_pos (by omega)) ?_
      refine lx_newB (ce2 := (ce + 15)) (sl2 := (sl + 414)) S hX tw_826 tw_827 ⟨by decide, by decide⟩ (Nat.le_of_ble_eq_true rfl) (by omega) (by omega) (by omega) (by omega) dL_law_487 dL_law_490 dL_law_491 (fun q19 b19 c19 g19 m19 h19 => ?_)
      have z19 : ([] : List Nat).length ≤ 0 := Nat.le_refl _
      refine aw_ldcT S.xo 7 (by decide) rfl rfl dL_law_494 ?_
      have y20 := (kg_cs_ok 7 (by decide)).2.1
      refine lx_addC (ce2 := (ce + 16)) (sl2 := (sl + 448)) S 7 (by decide) h19 (by omega) tw_828 ⟨by decide, by decide⟩ (Nat.le_of_ble_eq_true rfl) (by omega) (by omega) (by omega) (by omega) dL_law_496 (fun b20 c20 g20 m20 h20 => ?_)
      have z20 := len_app z19 y20
      refine aw_iload S.xo 21 rfl dL_law_499 ?_
      refine aw_eqi (y := nI (s.1 10 k - 1)) (if_neg c1) ?_
      have y21 : (dgs (s.1 10 k - 1)).length ≤ 1 := Nat.le_of_eq (dgs_1 (by omega))
      refine lw_addI (v := s.1 10 k - 1) (ce2 := (ce + 17)) (sl2 := (sl + 482)) S h20 (by omega) (by omega) tw_858 ⟨by decide, by decide⟩ (Nat.le_of_ble_eq_true rfl) (by omega) (by omega) (by omega) (by omega) dL_law_501 (fun b21 c21 g21 m21 h21 => ?_)
      have z21 := len_app z20 y21
      refine lx_toS (ce2 := (ce + 19)) (sl2 := (sl + 520)) S hX h21 ((goodL.nil.app (cs_good (by decide))).app (dgs_good (by omega))) (by omega) tw_859 ⟨by decide, by decide⟩ (Nat.le_of_ble_eq_true rfl) (by omega) (by omega) (by omega) (by omega) dL_law_504 (fun a22 v22 g22 h22 => ?_)
      refine aw_goto (tgt := 512) S.xo dL_law_507 (by decide) ?_
      refine lx_addT (ce2 := (ce + 20)) (sl2 := (sl + 554)) S h14 h22 ((goodL.nil.app (cs_good (by decide))).app (dgs_good (by omega))) (by omega) tw_828 ⟨by decide, by decide⟩ (Nat.le_of_ble_eq_true rfl) (by omega) (by omega) (by omega) (by omega) dL_law_512 (fun b23 c23 g23 m23 h23 => ?_)
      have z23 := len_app z14 z21
      have e17 : [] ++ dgs (k) ++ kg_cs 0 ++ dgs (s.1 6 k) ++ kg_cs 1 ++ dgs (s.1 7 k) ++ kg_cs 2 ++ dgs (s.1 8 k) ++ kg_cs 3 ++ dgs (5 * s.1 9 k) ++ (if nI (s.1 12 k) = 0 then [95] else []) ++ (if nI (s.1 13 k) = (1 : Int32) then [35] else []) ++ ([] ++ kg_cs 7 ++ dgs (s.1 10 k - 1)) = [] ++ dgs (k) ++ kg_cs 0 ++ dgs (s.1 6 k) ++ kg_cs 1 ++ dgs (s.1 7 k) ++ kg_cs 2 ++ dgs (s.1 8 k) ++ kg_cs 3 ++ dgs (5 * s.1 9 k) ++ (if nI (s.1 12 k) = 0 then [95] else []) ++ (if nI (s.1 13 k) = (1 : Int32) then [35] else []) ++ tlS s k := congrArg (fun z => [] ++ dgs (k) ++ kg_cs 0 ++ dgs (s.1 6 k) ++ kg_cs 1 ++ dgs (s.1 7 k) ++ kg_cs 2 ++ dgs (s.1 8 k) ++ kg_cs 3 ++ dgs (5 * s.1 9 k) ++ (if nI (s.1 12 k) = 0 then [95] else []) ++ (if nI (s.1 13 k) = (1 : Int32) then [35] else []) ++ z) (show ([] ++ kg_cs 7 ++ dgs (s.1 10 k - 1)) = tlS s k from by unfold tlS; rw [if_neg c1]; rfl)
      rw [e17] at h23
      rw [e17]
      refine aw_widen (k := (ce + 21)) (n := (sl + 554)) (by omega) (by omega) ?_
      exact k17 b23 c23 g23 m23 h23)
  intro b17 c17 g17 m17 h17
  have z17 := len_app z14 (tl_S w hk)
  suffices k24 : ∀ b24 c24 g24 m24, sbK ([] ++ dgs (k) ++ kg_cs 0 ++ dgs (s.1 6 k) ++ kg_cs 1 ++ dgs (s.1 7 k) ++ kg_cs 2 ++ dgs (s.1 8 k) ++ kg_cs 3 ++ dgs (5 * s.1 9 k) ++ (if nI (s.1 12 k) = 0 then [95] else []) ++ (if nI (s.1 13 k) = (1 : Int32) then [35] else []) ++ tlS s k ++ (if b2i (wh s k) = 0 then [] else [33])) c24 g24 → AW (kgXs X (xa ++ (sbc (kgHs X) q1 ([] ++ dgs (k) ++ kg_cs 0 ++ dgs (s.1 6 k) ++ kg_cs 1 ++ dgs (s.1 7 k) ++ kg_cs 2 ++ dgs (s.1 8 k) ++ kg_cs 3 ++ dgs (5 * s.1 9 k) ++ (if nI (s.1 12 k) = 0 then [95] else []) ++ (if nI (s.1 13 k) = (1 : Int32) then [35] else []) ++ tlS s k ++ (if b2i (wh s k) = 0 then [] else [33])) b24 c24 g24 m24 ++ []))) 31 (ce + 22) (sl + 588) none (some ()) 530 [(0, .ref (kgX (kgHs X) 3)), (1, .ref (kgO (kgHs X) 0)), (2, .int (v2)), (3, .int (nI (kgN s))), (4, .int (v4)), (5, .int (v5)), (6, .int (v6)), (7, .int (v7)), (8, .int (v8)), (9, .int (v9)), (10, .int (v10)), (11, .int (v11)), (12, .int (v12)), (13, .ref (o1)), (14, .ref (o2)), (15, .ref (o3)), (16, .int (nI k)), (17, .int (nI (s.1 6 k))), (18, .int (nI (s.1 7 k))), (19, .int (nI (s.1 8 k))), (20, .int (nI (5 * s.1 9 k))), (21, .int (stI s k)), (22, .int (nI (hU s k))), (23, .int (nI (s.1 11 k))), (24, .int (b2i (bo s k))), (25, .int (b2i (wh s k))), (26, .int (bmI (hU s k) (s.1 9 k))), (27, .int (nI (tlB s k (tlA s k)).length)), (28, .int (b2i (decide (s.1 13 k = 1))))] [.ref (q1)] J from (by
    by_cases c1 : wh s k = true
    · refine aw_iload S.xo 25 rfl dL_law_515 ?_
      refine aw_if_eqF (tgt := 525) (y := 0) S.xo dL_law_517 (by decide) (b2i_n0 c1) ?_
      refine aw_ldcT S.xo 8 (by decide) rfl rfl dL_law_520 ?_
      refine aw_goto (tgt := 527) S.xo dL_law_522 (by decide) ?_
      have y25 := (kg_cs_ok 8 (by decide)).2.1
      refine lx_addC (ce2 := (ce + 22)) (sl2 := (sl + 588)) S 8 (by decide) h17 (by omega) tw_828 ⟨by decide, by decide⟩ (Nat.le_of_ble_eq_true rfl) (by omega) (by omega) (by omega) (by omega) dL_law_527 (fun b25 c25 g25 m25 h25 => ?_)
      have z25 := len_app z17 y25
      have e24 : [] ++ dgs (k) ++ kg_cs 0 ++ dgs (s.1 6 k) ++ kg_cs 1 ++ dgs (s.1 7 k) ++ kg_cs 2 ++ dgs (s.1 8 k) ++ kg_cs 3 ++ dgs (5 * s.1 9 k) ++ (if nI (s.1 12 k) = 0 then [95] else []) ++ (if nI (s.1 13 k) = (1 : Int32) then [35] else []) ++ tlS s k ++ kg_cs 8 = [] ++ dgs (k) ++ kg_cs 0 ++ dgs (s.1 6 k) ++ kg_cs 1 ++ dgs (s.1 7 k) ++ kg_cs 2 ++ dgs (s.1 8 k) ++ kg_cs 3 ++ dgs (5 * s.1 9 k) ++ (if nI (s.1 12 k) = 0 then [95] else []) ++ (if nI (s.1 13 k) = (1 : Int32) then [35] else []) ++ tlS s k ++ (if b2i (wh s k) = 0 then [] else [33]) := congrArg (fun z => [] ++ dgs (k) ++ kg_cs 0 ++ dgs (s.1 6 k) ++ kg_cs 1 ++ dgs (s.1 7 k) ++ kg_cs 2 ++ dgs (s.1 8 k) ++ kg_cs 3 ++ dgs (5 * s.1 9 k) ++ (if nI (s.1 12 k) = 0 then [95] else []) ++ (if nI (s.1 13 k) = (1 : Int32) then [35] else []) ++ tlS s k ++ z) (show kg_cs 8 = (if b2i (wh s k) = 0 then [] else [33]) from by rw [if_neg (b2i_n0 c1)]; rfl)
      rw [e24] at h25
      rw [e24]
      refine aw_widen (k := (ce + 22)) (n := (sl + 588)) (by omega) (by omega) ?_
      exact k24 b25 c25 g25 m25 h25
    · refine aw_iload S.xo 25 rfl dL_law_515 ?_
      refine aw_if_eqT (tgt := 525) (y := 0) S.xo dL_law_517 (by decide) (b2i_z c1) ?_
      refine aw_ldcT S.xo 5 (by decide) rfl rfl dL_law_525 ?_
      have y26 := (kg_cs_ok 5 (by decide)).2.1
      refine lx_addC (ce2 := (ce + 22)) (sl2 := (sl + 588)) S 5 (by decide) h17 (by omega) tw_828 ⟨by decide, by decide⟩ (Nat.le_of_ble_eq_true rfl) (by omega) (by omega) (by omega) (by omega) dL_law_527 (fun b26 c26 g26 m26 h26 => ?_)
      have z26 := len_app z17 y26
      have e24 : [] ++ dgs (k) ++ kg_cs 0 ++ dgs (s.1 6 k) ++ kg_cs 1 ++ dgs (s.1 7 k) ++ kg_cs 2 ++ dgs (s.1 8 k) ++ kg_cs 3 ++ dgs (5 * s.1 9 k) ++ (if nI (s.1 12 k) = 0 then [95] else []) ++ (if nI (s.1 13 k) = (1 : Int32) then [35] else []) ++ tlS s k ++ kg_cs 5 = [] ++ dgs (k) ++ kg_cs 0 ++ dgs (s.1 6 k) ++ kg_cs 1 ++ dgs (s.1 7 k) ++ kg_cs 2 ++ dgs (s.1 8 k) ++ kg_cs 3 ++ dgs (5 * s.1 9 k) ++ (if nI (s.1 12 k) = 0 then [95] else []) ++ (if nI (s.1 13 k) = (1 : Int32) then [35] else []) ++ tlS s k ++ (if b2i (wh s k) = 0 then [] else [33]) := congrArg (fun z => [] ++ dgs (k) ++ kg_cs 0 ++ dgs (s.1 6 k) ++ kg_cs 1 ++ dgs (s.1 7 k) ++ kg_cs 2 ++ dgs (s.1 8 k) ++ kg_cs 3 ++ dgs (5 * s.1 9 k) ++ (if nI (s.1 12 k) = 0 then [95] else []) ++ (if nI (s.1 13 k) = (1 : Int32) then [35] else []) ++ tlS s k ++ z) (show kg_cs 5 = (if b2i (wh s k) = 0 then [] else [33]) from by rw [if_pos (b2i_z c1)]; rfl)
      rw [e24] at h26
      rw [e24]
      refine aw_widen (k := (ce + 22)) (n := (sl + 588)) (by omega) (by omega) ?_
      exact k24 b26 c26 g26 m26 h26)
  intro b24 c24 g24 m24 h24
  have z24 := len_app z17 (show ((if b2i (wh s k) = 0 then [] else [33])).length ≤ 1 from ite_len (by decide) (by decide))
  suffices k27 : ∀ b27 c27 g27 m27, sbK ([] ++ dgs (k) ++ kg_cs 0 ++ dgs (s.1 6 k) ++ kg_cs 1 ++ dgs (s.1 7 k) ++ kg_cs 2 ++ dgs (s.1 8 k) ++ kg_cs 3 ++ dgs (5 * s.1 9 k) ++ (if nI (s.1 12 k) = 0 then [95] else []) ++ (if nI (s.1 13 k) = (1 : Int32) then [35] else []) ++ tlS s k ++ (if b2i (wh s k) = 0 then [] else [33]) ++ tlX s k) c27 g27 → AW (kgXs X (xa ++ (sbc (kgHs X) q1 ([] ++ dgs (k) ++ kg_cs 0 ++ dgs (s.1 6 k) ++ kg_cs 1 ++ dgs (s.1 7 k) ++ kg_cs 2 ++ dgs (s.1 8 k) ++ kg_cs 3 ++ dgs (5 * s.1 9 k) ++ (if nI (s.1 12 k) = 0 then [95] else []) ++ (if nI (s.1 13 k) = (1 : Int32) then [35] else []) ++ tlS s k ++ (if b2i (wh s k) = 0 then [] else [33]) ++ tlX s k) b27 c27 g27 m27 ++ []))) 31 (ce + 30) (sl + 748) none (some ()) 563 [(0, .ref (kgX (kgHs X) 3)), (1, .ref (kgO (kgHs X) 0)), (2, .int (v2)), (3, .int (nI (kgN s))), (4, .int (v4)), (5, .int (v5)), (6, .int (v6)), (7, .int (v7)), (8, .int (v8)), (9, .int (v9)), (10, .int (v10)), (11, .int (v11)), (12, .int (v12)), (13, .ref (o1)), (14, .ref (o2)), (15, .ref (o3)), (16, .int (nI k)), (17, .int (nI (s.1 6 k))), (18, .int (nI (s.1 7 k))), (19, .int (nI (s.1 8 k))), (20, .int (nI (5 * s.1 9 k))), (21, .int (stI s k)), (22, .int (nI (hU s k))), (23, .int (nI (s.1 11 k))), (24, .int (b2i (bo s k))), (25, .int (b2i (wh s k))), (26, .int (bmI (hU s k) (s.1 9 k))), (27, .int (nI (tlB s k (tlA s k)).length)), (28, .int (b2i (decide (s.1 13 k = 1))))] [.ref (q1)] J from (by
    by_cases c1 : 0 < s.1 11 k
    · refine aw_iload S.xo 23 rfl dL_law_530 ?_
      refine aw_if_leF (tgt := 558) (y := 0) S.xo dL_law_532 (by decide) (nI_nle c1 (by omega)) ?_
      refine lx_newB (ce2 := (ce + 24)) (sl2 := (sl + 608)) S hX tw_826 tw_827 ⟨by decide, by decide⟩ (Nat.le_of_ble_eq_true rfl) (by omega) (by omega) (by omega) (by omega) dL_law_535 dL_law_538 dL_law_539 (fun q28 b28 c28 g28 m28 h28 => ?_)
      have z28 : ([] : List Nat).length ≤ 0 := Nat.le_refl _
      refine aw_ldcT S.xo 9 (by decide) rfl rfl dL_law_542 ?_
      have y29 := (kg_cs_ok 9 (by decide)).2.1
      refine lx_addC (ce2 := (ce + 25)) (sl2 := (sl + 642)) S 9 (by decide) h28 (by omega) tw_828 ⟨by decide, by decide⟩ (Nat.le_of_ble_eq_true rfl) (by omega) (by omega) (by omega) (by omega) dL_law_544 (fun b29 c29 g29 m29 h29 => ?_)
      have z29 := len_app z28 y29
      refine aw_iload S.xo 23 rfl dL_law_547 ?_
      have y30 : (dgs (s.1 11 k)).length ≤ 1 := Nat.le_of_eq (dgs_1 (by omega))
      refine lw_addI (v := s.1 11 k) (ce2 := (ce + 26)) (sl2 := (sl + 676)) S h29 (by omega) (by omega) tw_858 ⟨by decide, by decide⟩ (Nat.le_of_ble_eq_true rfl) (by omega) (by omega) (by omega) (by omega) dL_law_549 (fun b30 c30 g30 m30 h30 => ?_)
      have z30 := len_app z29 y30
      refine lx_toS (ce2 := (ce + 28)) (sl2 := (sl + 714)) S hX h30 ((goodL.nil.app (cs_good (by decide))).app (dgs_good (by omega))) (by omega) tw_859 ⟨by decide, by decide⟩ (Nat.le_of_ble_eq_true rfl) (by omega) (by omega) (by omega) (by omega) dL_law_552 (fun a31 v31 g31 h31 => ?_)
      refine aw_goto (tgt := 560) S.xo dL_law_555 (by decide) ?_
      refine lx_addT (ce2 := (ce + 29)) (sl2 := (sl + 748)) S h24 h31 ((goodL.nil.app (cs_good (by decide))).app (dgs_good (by omega))) (by omega) tw_828 ⟨by decide, by decide⟩ (Nat.le_of_ble_eq_true rfl) (by omega) (by omega) (by omega) (by omega) dL_law_560 (fun b32 c32 g32 m32 h32 => ?_)
      have z32 := len_app z24 z30
      have e27 : [] ++ dgs (k) ++ kg_cs 0 ++ dgs (s.1 6 k) ++ kg_cs 1 ++ dgs (s.1 7 k) ++ kg_cs 2 ++ dgs (s.1 8 k) ++ kg_cs 3 ++ dgs (5 * s.1 9 k) ++ (if nI (s.1 12 k) = 0 then [95] else []) ++ (if nI (s.1 13 k) = (1 : Int32) then [35] else []) ++ tlS s k ++ (if b2i (wh s k) = 0 then [] else [33]) ++ ([] ++ kg_cs 9 ++ dgs (s.1 11 k)) = [] ++ dgs (k) ++ kg_cs 0 ++ dgs (s.1 6 k) ++ kg_cs 1 ++ dgs (s.1 7 k) ++ kg_cs 2 ++ dgs (s.1 8 k) ++ kg_cs 3 ++ dgs (5 * s.1 9 k) ++ (if nI (s.1 12 k) = 0 then [95] else []) ++ (if nI (s.1 13 k) = (1 : Int32) then [35] else []) ++ tlS s k ++ (if b2i (wh s k) = 0 then [] else [33]) ++ tlX s k := congrArg (fun z => [] ++ dgs (k) ++ kg_cs 0 ++ dgs (s.1 6 k) ++ kg_cs 1 ++ dgs (s.1 7 k) ++ kg_cs 2 ++ dgs (s.1 8 k) ++ kg_cs 3 ++ dgs (5 * s.1 9 k) ++ (if nI (s.1 12 k) = 0 then [95] else []) ++ (if nI (s.1 13 k) = (1 : Int32) then [35] else []) ++ tlS s k ++ (if b2i (wh s k) = 0 then [] else [33]) ++ z) (show ([] ++ kg_cs 9 ++ dgs (s.1 11 k)) = tlX s k from by unfold tlX; rw [if_neg (nI_nle c1 (by omega))]; rfl)
      rw [e27] at h32
      rw [e27]
      refine aw_widen (k := (ce + 30)) (n := (sl + 748)) (by omega) (by omega) ?_
      exact k27 b32 c32 g32 m32 h32
    · refine aw_iload S.xo 23 rfl dL_law_530 ?_
      refine aw_if_leT (tgt := 558) (y := 0) S.xo dL_law_532 (by decide) (nI_le (b := 0) (by omega) (by omega)) ?_
      refine aw_ldcT S.xo 5 (by decide) rfl rfl dL_law_558 ?_
      have y33 := (kg_cs_ok 5 (by decide)).2.1
      refine lx_addC (ce2 := (ce + 23)) (sl2 := (sl + 622)) S 5 (by decide) h24 (by omega) tw_828 ⟨by decide, by decide⟩ (Nat.le_of_ble_eq_true rfl) (by omega) (by omega) (by omega) (by omega) dL_law_560 (fun b33 c33 g33 m33 h33 => ?_)
      have z33 := len_app z24 y33
      have e27 : [] ++ dgs (k) ++ kg_cs 0 ++ dgs (s.1 6 k) ++ kg_cs 1 ++ dgs (s.1 7 k) ++ kg_cs 2 ++ dgs (s.1 8 k) ++ kg_cs 3 ++ dgs (5 * s.1 9 k) ++ (if nI (s.1 12 k) = 0 then [95] else []) ++ (if nI (s.1 13 k) = (1 : Int32) then [35] else []) ++ tlS s k ++ (if b2i (wh s k) = 0 then [] else [33]) ++ kg_cs 5 = [] ++ dgs (k) ++ kg_cs 0 ++ dgs (s.1 6 k) ++ kg_cs 1 ++ dgs (s.1 7 k) ++ kg_cs 2 ++ dgs (s.1 8 k) ++ kg_cs 3 ++ dgs (5 * s.1 9 k) ++ (if nI (s.1 12 k) = 0 then [95] else []) ++ (if nI (s.1 13 k) = (1 : Int32) then [35] else []) ++ tlS s k ++ (if b2i (wh s k) = 0 then [] else [33]) ++ tlX s k := congrArg (fun z => [] ++ dgs (k) ++ kg_cs 0 ++ dgs (s.1 6 k) ++ kg_cs 1 ++ dgs (s.1 7 k) ++ kg_cs 2 ++ dgs (s.1 8 k) ++ kg_cs 3 ++ dgs (5 * s.1 9 k) ++ (if nI (s.1 12 k) = 0 then [95] else []) ++ (if nI (s.1 13 k) = (1 : Int32) then [35] else []) ++ tlS s k ++ (if b2i (wh s k) = 0 then [] else [33]) ++ z) (show kg_cs 5 = tlX s k from by unfold tlX; rw [if_pos (show nI (s.1 11 k) ≤ (0 : Int32) from nI_le (b := 0) (by omega) (by omega))]; rfl)
      rw [e27] at h33
      rw [e27]
      refine aw_widen (k := (ce + 30)) (n := (sl + 748)) (by omega) (by omega) ?_
      exact k27 b33 c33 g33 m33 h33)
  intro b27 c27 g27 m27 h27
  have z27 := len_app z24 (tl_X w hk)
  have eT : [] ++ dgs (k) ++ kg_cs 0 ++ dgs (s.1 6 k) ++ kg_cs 1 ++ dgs (s.1 7 k) ++ kg_cs 2 ++ dgs (s.1 8 k) ++ kg_cs 3 ++ dgs (5 * s.1 9 k) ++ (if nI (s.1 12 k) = 0 then [95] else []) ++ (if nI (s.1 13 k) = (1 : Int32) then [35] else []) ++ tlS s k ++ (if b2i (wh s k) = 0 then [] else [33]) ++ tlX s k = tlB s k (tlA s k) := rfl
  rw [eT] at h27 z27
  rw [eT]
  refine lx_toS (ce2 := (ce + 32)) (sl2 := (sl + 786)) S hX h27 (tl_good w hk) (by omega) tw_859 ⟨by decide, by decide⟩ (Nat.le_of_ble_eq_true rfl) (by omega) (by omega) (by omega) (by omega) dL_law_563 (fun a34 v34 g34 h34 => ?_)
  refine aw_astore (L2 := [(0, .ref (kgX (kgHs X) 3)), (1, .ref (kgO (kgHs X) 0)), (2, .int (v2)), (3, .int (nI (kgN s))), (4, .int (v4)), (5, .int (v5)), (6, .int (v6)), (7, .int (v7)), (8, .int (v8)), (9, .int (v9)), (10, .int (v10)), (11, .int (v11)), (12, .int (v12)), (13, .ref (o1)), (14, .ref (o2)), (15, .ref (o3)), (16, .int (nI k)), (17, .int (nI (s.1 6 k))), (18, .int (nI (s.1 7 k))), (19, .int (nI (s.1 8 k))), (20, .int (nI (5 * s.1 9 k))), (21, .int (stI s k)), (22, .int (nI (hU s k))), (23, .int (nI (s.1 11 k))), (24, .int (b2i (bo s k))), (25, .int (b2i (wh s k))), (26, .int (bmI (hU s k) (s.1 9 k))), (27, .int (nI (tlB s k (tlA s k)).length)), (28, .int (b2i (decide (s.1 13 k = 1)))), (29, .ref (a34))]) S.xo [1, 2, 3, 4, 5, 6, 7, 8, 9, 10, 11, 12, 13, 14, 15, 16, 17, 18, 19, 20, 21, 22, 23, 24, 25, 26, 27, 28, 29, 0] dL_law_566 (by decide) rfl ?_
  exact kk a34 v34 g34 h34
