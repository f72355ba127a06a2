set_option maxHeartbeats 4000000 in
set_option maxRecDepth 100000 in
theorem tn_7 {X : kgCX Unit} (S : Cx X cL_law RL 31 12 446 929218 6314595) {s : kgS} {I : kgM} {ce sl : Nat} (hce : ce ≤ 929218) (hsl : sl ≤ 6314595) (hG : RepG I 1 s) (w : kgWF s) {B : Int} (hB : B < 1000000000) (hp : kgPt B s) {v2 v4 v5 v6 v7 v8 v9 v10 v11 v12 v16 : Int32} {o1 o2 o3 : Nat} {f2 f3 : Nat → Int32}
    (kk : AW (kgXs X [arc (kgHs X) o1 (oF s 12), arc (kgHs X) o2 f2, arc (kgHs X) o3 f3]) 31 ce sl none (some ()) 1510 [(0, .ref (kgX (kgHs X) 3)), (1, .ref (kgO (kgHs X) 0)), (2, .int (v2)), (3, .int (nI (kgN s))), (4, .int (v4)), (5, .int (v5)), (6, .int (v6)), (7, .int (v7)), (8, .int (v8)), (9, .int (v9)), (10, .int (v10)), (11, .int (v11)), (12, .int (v12)), (13, .ref (o1)), (14, .ref (o2)), (15, .ref (o3)), (16, .int (v16))] [] I) : AW (kgXs X [arc (kgHs X) o1 (oF s 12), arc (kgHs X) o2 f2, arc (kgHs X) o3 f3]) 31 ce sl none (some ()) 1418 [(0, .ref (kgX (kgHs X) 3)), (1, .ref (kgO (kgHs X) 0)), (2, .int (v2)), (3, .int (nI (kgN s))), (4, .int (v4)), (5, .int (v5)), (6, .int (v6)), (7, .int (v7)), (8, .int (v8)), (9, .int (v9)), (10, .int (v10)), (11, .int (v11)), (12, .int (v12)), (13, .ref (o1)), (14, .ref (o2)), (15, .ref (o3)), (16, .int (v16))] [] I := by
  have hn := w.1
  have z0 : (0 : Int32).toInt = 0 := rfl
  have loop : ∀ d r : Nat, r + d = 3 → AW (kgXs X [arc (kgHs X) o1 (oF s 12), arc (kgHs X) o2 f2, arc (kgHs X) o3 f3]) 31 ce sl none (some ()) 1421 [(0, .ref (kgX (kgHs X) 3)), (1, .ref (kgO (kgHs X) 0)), (2, .int (v2)), (3, .int (nI (kgN s))), (4, .int (v4)), (5, .int (v5)), (6, .int (v6)), (7, .int (v7)), (8, .int (v8)), (9, .int (v9)), (10, .int (v10)), (11, .int (v11)), (12, .int (v12)), (13, .ref (o1)), (14, .ref (o2)), (15, .ref (o3)), (16, .int (v16)), (19, .int (nI (r + 1)))] [] I := by
    intro d
    induction d with
    | zero =>
      intro r hr
      rw [show r = 3 by omega]
      refine aw_iload S.xo 17 rfl dL_law_1421 ?_
      refine aw_iconst (v := (4 : Int32)) S.xo dL_law_1423 (by decide) ?_
      refine aw_icmp_geT (tgt := 1510) S.xo dL_law_1424 (by decide) (Int32.le_refl _) ?_
      refine aw_sub (L2 := [(0, .ref (kgX (kgHs X) 3)), (1, .ref (kgO (kgHs X) 0)), (2, .int (v2)), (3, .int (nI (kgN s))), (4, .int (v4)), (5, .int (v5)), (6, .int (v6)), (7, .int (v7)), (8, .int (v8)), (9, .int (v9)), (10, .int (v10)), (11, .int (v11)), (12, .int (v12)), (13, .ref (o1)), (14, .ref (o2)), (15, .ref (o3)), (16, .int (v16))]) [0, 1, 2, 3, 4, 5, 6, 7, 8, 9, 10, 11, 12, 13, 14, 15, 16] rfl ?_
      exact kk
    | succ d ih =>
      intro r hr
      obtain ⟨a, ha, ca, ra⟩ := r_ranked hG w (r := r) (by omega)
      obtain ⟨b, hb, cb, rb⟩ := r_ranked hG w (r := r + 1) (by omega)
      have hab : (s.2 b).toInt < (s.2 a).toInt ∨ (s.2 a).toInt = (s.2 b).toInt ∧ (own s b < own s a ∨ own s a = own s b ∧ a < b) := by
        rw [← aM_iff (s := s) (k := b) (j := a)]
        cases e : aM s b a with
        | true => rfl
        | false =>
          have e2 : aM s a b = true := by
            have e3 : ¬ aM s b a = true := by rw [e]; decide
            rw [aM_iff] at e3 ⊢
            have : a ≠ b := fun z => by rw [z] at ca; omega
            omega
          have := (rkM (s := s)).2.1 b a hb ha e2
          omega
      have pa := hp a ha
      have pb := hp b hb
      have oa := own_le s a
      have ob := own_le s b
      have e1 : (s.2 a - s.2 b).toInt = (s.2 a).toInt - (s.2 b).toInt := by
        rw [Int32.toInt_sub, Int.bmod_eq_of_le (by omega) (by omega)]
      have eo : (nI (own s a) - nI (own s b)).toInt = (own s a : Int) - own s b := pk_sub_toInt (by omega) (by omega)
      have t1 : s.2 a - s.2 b = 0 → (s.2 a).toInt = (s.2 b).toInt := fun h => by have := congrArg Int32.toInt h; rw [e1, z0] at this; omega
      have t2 : nI (own s a) - nI (own s b) = 0 → own s a = own s b := fun h => by have := congrArg Int32.toInt h; rw [eo, z0] at this; omega
      refine aw_iload S.xo 17 rfl dL_law_1421 ?_
      refine aw_iconst (v := (4 : Int32)) S.xo dL_law_1423 (by decide) ?_
      refine aw_icmp_geF (tgt := 1510) S.xo dL_law_1424 (by decide) (nI_ge (b := 4) (by omega) (by omega)) ?_
      refine aw_aload_n S.xo 1 rfl dL_law_1427 rfl ?_
      refine aw_iload S.xo 17 rfl dL_law_1428 ?_
      refine aw_iconst (v := (1 : Int32)) S.xo dL_law_1430 (by decide) ?_
      refine aw_isub S.xo dL_law_1431 ?_
      refine aw_eqi (y := nI r) (nI_pred r) ?_
      refine lw_cV (ce2 := ce) (sl2 := sl) S.xo 0 [.int (nI r)] (ra) vw_X4_ranked cl_X4 (by decide) (by decide) tw_373 (s_X4_ranked _ _ _ (nI r) I) ⟨by decide, by decide⟩ rfl rfl (Nat.le_of_ble_eq_true rfl) (Nat.le_refl _) (Nat.le_refl _) (by omega) (by omega) dL_law_1432 ?_
      refine aw_istore (L2 := [(0, .ref (kgX (kgHs X) 3)), (1, .ref (kgO (kgHs X) 0)), (2, .int (v2)), (3, .int (nI (kgN s))), (4, .int (v4)), (5, .int (v5)), (6, .int (v6)), (7, .int (v7)), (8, .int (v8)), (9, .int (v9)), (10, .int (v10)), (11, .int (v11)), (12, .int (v12)), (13, .ref (o1)), (14, .ref (o2)), (15, .ref (o3)), (16, .int (v16)), (19, .int (nI (r + 1))), (20, .int (nI a))]) S.xo [1, 2, 3, 4, 5, 6, 7, 8, 9, 10, 11, 12, 13, 14, 15, 16, 17, 18, 0] dL_law_1435 (by decide) rfl ?_
      refine aw_aload_n S.xo 1 rfl dL_law_1437 rfl ?_
      refine aw_iload S.xo 17 rfl dL_law_1438 ?_
      refine lw_cV (ce2 := ce) (sl2 := sl) S.xo 0 [.int (nI (r + 1))] (rb) vw_X4_ranked cl_X4 (by decide) (by decide) tw_373 (s_X4_ranked _ _ _ (nI (r + 1)) I) ⟨by decide, by decide⟩ rfl rfl (Nat.le_of_ble_eq_true rfl) (Nat.le_refl _) (Nat.le_refl _) (by omega) (by omega) dL_law_1440 ?_
      refine aw_istore (L2 := [(0, .ref (kgX (kgHs X) 3)), (1, .ref (kgO (kgHs X) 0)), (2, .int (v2)), (3, .int (nI (kgN s))), (4, .int (v4)), (5, .int (v5)), (6, .int (v6)), (7, .int (v7)), (8, .int (v8)), (9, .int (v9)), (10, .int (v10)), (11, .int (v11)), (12, .int (v12)), (13, .ref (o1)), (14, .ref (o2)), (15, .ref (o3)), (16, .int (v16)), (19, .int (nI (r + 1))), (20, .int (nI a)), (21, .int (nI b))]) S.xo [1, 2, 3, 4, 5, 6, 7, 8, 9, 10, 11, 12, 13, 14, 15, 16, 17, 18, 19, 0] dL_law_1443 (by decide) rfl ?_
      refine aw_aload_n S.xo 1 rfl dL_law_1445 rfl ?_
      refine aw_iload S.xo 18 rfl dL_law_1446 ?_
      refine aw_iconst (v := (0 : Int32)) S.xo dL_law_1448 (by decide) ?_
      refine lw_cV (ce2 := ce) (sl2 := sl) S.xo 0 [.int (nI a), .int (0)] (r_m0 hG ha) vw_X4_memberOf cl_X4 (by decide) (by decide) tw_354 (s_X4_memberOf _ _ _ (nI a) (0) I) ⟨by decide, by decide⟩ rfl rfl (Nat.le_of_ble_eq_true rfl) (Nat.le_refl _) (Nat.le_refl _) (by omega) (by omega) dL_law_1449 ?_
      refine aw_aload_n S.xo 1 rfl dL_law_1452 rfl ?_
      refine aw_iload S.xo 19 rfl dL_law_1453 ?_
      refine aw_iconst (v := (0 : Int32)) S.xo dL_law_1455 (by decide) ?_
      refine lw_cV (ce2 := ce) (sl2 := sl) S.xo 0 [.int (nI b), .int (0)] (r_m0 hG hb) vw_X4_memberOf cl_X4 (by decide) (by decide) tw_354 (s_X4_memberOf _ _ _ (nI b) (0) I) ⟨by decide, by decide⟩ rfl rfl (Nat.le_of_ble_eq_true rfl) (Nat.le_refl _) (Nat.le_refl _) (by omega) (by omega) dL_law_1456 ?_
      refine aw_isub S.xo dL_law_1459 ?_
      refine aw_istore (L2 := [(0, .ref (kgX (kgHs X) 3)), (1, .ref (kgO (kgHs X) 0)), (2, .int (v2)), (3, .int (nI (kgN s))), (4, .int (v4)), (5, .int (v5)), (6, .int (v6)), (7, .int (v7)), (8, .int (v8)), (9, .int (v9)), (10, .int (v10)), (11, .int (v11)), (12, .int (v12)), (13, .ref (o1)), (14, .ref (o2)), (15, .ref (o3)), (16, .int (v16)), (19, .int (nI (r + 1))), (20, .int (nI a)), (21, .int (nI b)), (22, .int ((s.2 a : Int32) - (s.2 b)))]) S.xo [1, 2, 3, 4, 5, 6, 7, 8, 9, 10, 11, 12, 13, 14, 15, 16, 17, 18, 19, 20, 0] dL_law_1460 (by decide) rfl ?_
      refine aw_aload S.xo 13 rfl dL_law_1462 ?_
      refine aw_iload S.xo 18 rfl dL_law_1464 ?_
      refine lw_xld (f := oF s 12) (j := a) S 0 rfl (ha) dL_law_1466 ?_
      refine aw_eqi (y := nI (own s a)) (rfl) ?_
      refine aw_aload S.xo 13 rfl dL_law_1467 ?_
      refine aw_iload S.xo 19 rfl dL_law_1469 ?_
      refine lw_xld (f := oF s 12) (j := b) S 0 rfl (hb) dL_law_1471 ?_
      refine aw_eqi (y := nI (own s b)) (rfl) ?_
      refine aw_isub S.xo dL_law_1472 ?_
      refine aw_istore (L2 := [(0, .ref (kgX (kgHs X) 3)), (1, .ref (kgO (kgHs X) 0)), (2, .int (v2)), (3, .int (nI (kgN s))), (4, .int (v4)), (5, .int (v5)), (6, .int (v6)), (7, .int (v7)), (8, .int (v8)), (9, .int (v9)), (10, .int (v10)), (11, .int (v11)), (12, .int (v12)), (13, .ref (o1)), (14, .ref (o2)), (15, .ref (o3)), (16, .int (v16)), (19, .int (nI (r + 1))), (20, .int (nI a)), (21, .int (nI b)), (22, .int ((s.2 a : Int32) - (s.2 b))), (23, .int ((nI (own s a) : Int32) - (nI (own s b))))]) S.xo [1, 2, 3, 4, 5, 6, 7, 8, 9, 10, 11, 12, 13, 14, 15, 16, 17, 18, 19, 20, 21, 0] dL_law_1473 (by decide) rfl ?_
      suffices k1504 : AW (kgXs X [arc (kgHs X) o1 (oF s 12), arc (kgHs X) o2 f2, arc (kgHs X) o3 f3]) 31 ce sl none (some ()) 1504 [(0, .ref (kgX (kgHs X) 3)), (1, .ref (kgO (kgHs X) 0)), (2, .int (v2)), (3, .int (nI (kgN s))), (4, .int (v4)), (5, .int (v5)), (6, .int (v6)), (7, .int (v7)), (8, .int (v8)), (9, .int (v9)), (10, .int (v10)), (11, .int (v11)), (12, .int (v12)), (13, .ref (o1)), (14, .ref (o2)), (15, .ref (o3)), (16, .int (v16)), (19, .int (nI (r + 1))), (20, .int (nI a)), (21, .int (nI b)), (22, .int ((s.2 a : Int32) - (s.2 b))), (23, .int ((nI (own s a) : Int32) - (nI (own s b))))] [] I from (by
        by_cases c1 : s.2 a - s.2 b = 0
        · by_cases c2 : nI (own s a) - nI (own s b) = 0
          · refine aw_iload S.xo 20 rfl dL_law_1475 ?_
            refine aw_if_ltF (tgt := 1502) (y := 0) S.xo dL_law_1477 (by decide) (by rw [lt_t, e1, z0]; omega) ?_
            refine aw_iload S.xo 20 rfl dL_law_1480 ?_
            refine aw_if_neF (tgt := 1504) (y := 0) S.xo dL_law_1482 (by decide) (c1) ?_
            refine aw_iload S.xo 21 rfl dL_law_1485 ?_
            refine aw_if_ltF (tgt := 1502) (y := 0) S.xo dL_law_1487 (by decide) (by have := t1 c1; rw [lt_t, eo, z0]; omega) ?_
            refine aw_iload S.xo 21 rfl dL_law_1490 ?_
            refine aw_if_neF (tgt := 1504) (y := 0) S.xo dL_law_1492 (by decide) (c2) ?_
            refine aw_iload S.xo 18 rfl dL_law_1495 ?_
            refine aw_iload S.xo 19 rfl dL_law_1497 ?_
            refine aw_icmp_leT (tgt := 1504) S.xo dL_law_1499 (by decide) (nI_le (by have := t1 c1; have := t2 c2; omega) (by omega)) ?_
            exact k1504
          · refine aw_iload S.xo 20 rfl dL_law_1475 ?_
            refine aw_if_ltF (tgt := 1502) (y := 0) S.xo dL_law_1477 (by decide) (by rw [lt_t, e1, z0]; omega) ?_
            refine aw_iload S.xo 20 rfl dL_law_1480 ?_
            refine aw_if_neF (tgt := 1504) (y := 0) S.xo dL_law_1482 (by decide) (c1) ?_
            refine aw_iload S.xo 21 rfl dL_law_1485 ?_
            refine aw_if_ltF (tgt := 1502) (y := 0) S.xo dL_law_1487 (by decide) (by have := t1 c1; rw [lt_t, eo, z0]; omega) ?_
            refine aw_iload S.xo 21 rfl dL_law_1490 ?_
            refine aw_if_neT (tgt := 1504) (y := 0) S.xo dL_law_1492 (by decide) (c2) ?_
            exact k1504
        · refine aw_iload S.xo 20 rfl dL_law_1475 ?_
          refine aw_if_ltF (tgt := 1502) (y := 0) S.xo dL_law_1477 (by decide) (by rw [lt_t, e1, z0]; omega) ?_
          refine aw_iload S.xo 20 rfl dL_law_1480 ?_
          refine aw_if_neT (tgt := 1504) (y := 0) S.xo dL_law_1482 (by decide) (c1) ?_
          exact k1504)
      refine aw_iinc (v := nI (r + 1 + 1)) (L2 := [(0, .ref (kgX (kgHs X) 3)), (1, .ref (kgO (kgHs X) 0)), (2, .int (v2)), (3, .int (nI (kgN s))), (4, .int (v4)), (5, .int (v5)), (6, .int (v6)), (7, .int (v7)), (8, .int (v8)), (9, .int (v9)), (10, .int (v10)), (11, .int (v11)), (12, .int (v12)), (13, .ref (o1)), (14, .ref (o2)), (15, .ref (o3)), (16, .int (v16)), (19, .int (nI (r + 1 + 1))), (20, .int (nI a)), (21, .int (nI b)), (22, .int ((s.2 a : Int32) - (s.2 b))), (23, .int ((nI (own s a) : Int32) - (nI (own s b))))]) S.xo [1, 2, 3, 4, 5, 6, 7, 8, 9, 10, 11, 12, 13, 14, 15, 16, 17, 0, 18, 19, 20, 21] 17 dL_law_1504 rfl (nI_1 (r + 1)) (by decide) rfl ?_
      refine aw_goto (tgt := 1421) S.xo dL_law_1507 (by decide) ?_
      refine aw_sub (L2 := [(0, .ref (kgX (kgHs X) 3)), (1, .ref (kgO (kgHs X) 0)), (2, .int (v2)), (3, .int (nI (kgN s))), (4, .int (v4)), (5, .int (v5)), (6, .int (v6)), (7, .int (v7)), (8, .int (v8)), (9, .int (v9)), (10, .int (v10)), (11, .int (v11)), (12, .int (v12)), (13, .ref (o1)), (14, .ref (o2)), (15, .ref (o3)), (16, .int (v16)), (19, .int (nI (r + 1 + 1)))]) [0, 1, 2, 3, 4, 5, 6, 7, 8, 9, 10, 11, 12, 13, 14, 15, 16, 17] rfl ?_
      exact ih (r + 1) (by omega)
  refine aw_iconst (v := (1 : Int32)) S.xo dL_law_1418 (by decide) ?_
  refine aw_istore (L2 := [(0, .ref (kgX (kgHs X) 3)), (1, .ref (kgO (kgHs X) 0)), (2, .int (v2)), (3, .int (nI (kgN s))), (4, .int (v4)), (5, .int (v5)), (6, .int (v6)), (7, .int (v7)), (8, .int (v8)), (9, .int (v9)), (10, .int (v10)), (11, .int (v11)), (12, .int (v12)), (13, .ref (o1)), (14, .ref (o2)), (15, .ref (o3)), (16, .int (v16)), (19, .int (1))]) S.xo [1, 2, 3, 4, 5, 6, 7, 8, 9, 10, 11, 12, 13, 14, 15, 16, 17, 0] dL_law_1419 (by decide) rfl ?_
  exact loop 3 0 (Nat.zero_add _)
set_option maxHeartbeats 4000000 in
set_option maxRecDepth 100000 in
theorem tn_8 {X : kgCX Unit} (S : Cx X cL_law RL 31 12 446 929218 6314595) {s : kgS} {I : kgM} {ce sl : Nat} (hce : ce ≤ 929218) (hsl : sl ≤ 6314595) (hG : RepG I 1 s) (w : kgWF s) (h0 : 0 < kgN s) {v2 v4 v5 v6 v7 v8 v9 v10 v11 v12 v16 : Int32} {o1 o2 o3 : Nat} {f2 f3 : Nat → Int32}
    (kk : AW (kgXs X [arc (kgHs X) o1 (oF s 12), arc (kgHs X) o2 f2, arc (kgHs X) o3 f3]) 31 ce sl none (some ()) 1606 [(0, .ref (kgX (kgHs X) 3)), (1, .ref (kgO (kgHs X) 0)), (2, .int (v2))] [] I) : AW (kgXs X [arc (kgHs X) o1 (oF s 12), arc (kgHs X) o2 f2, arc (kgHs X) o3 f3]) 31 ce sl none (some ()) 1510 [(0, .ref (kgX (kgHs X) 3)), (1, .ref (kgO (kgHs X) 0)), (2, .int (v2)), (3, .int (nI (kgN s))), (4, .int (v4)), (5, .int (v5)), (6, .int (v6)), (7, .int (v7)), (8, .int (v8)), (9, .int (v9)), (10, .int (v10)), (11, .int (v11)), (12, .int (v12)), (13, .ref (o1)), (14, .ref (o2)), (15, .ref (o3)), (16, .int (v16))] [] I := by
  have hn := w.1
  have z0 : (0 : Int32).toInt = 0 := rfl
  have loop : ∀ d r : Nat, r + 1 + d = kgN s → AW (kgXs X [arc (kgHs X) o1 (oF s 12), arc (kgHs X) o2 f2, arc (kgHs X) o3 f3]) 31 ce sl none (some ()) 1513 [(0, .ref (kgX (kgHs X) 3)), (1, .ref (kgO (kgHs X) 0)), (2, .int (v2)), (3, .int (nI (kgN s))), (4, .int (v4)), (5, .int (v5)), (6, .int (v6)), (7, .int (v7)), (8, .int (v8)), (9, .int (v9)), (10, .int (v10)), (11, .int (v11)), (12, .int (v12)), (13, .ref (o1)), (14, .ref (o2)), (15, .ref (o3)), (16, .int (v16)), (19, .int (nI (r + 1)))] [] I := by
    intro d
    induction d with
    | zero =>
      intro r hr
      rw [show r + 1 = kgN s by omega]
      refine aw_iload S.xo 17 rfl dL_law_1513 ?_
      refine aw_iload_n S.xo 3 rfl dL_law_1515 rfl ?_
      refine aw_icmp_geT (tgt := 1606) S.xo dL_law_1516 (by decide) (Int32.le_refl _) ?_
      refine aw_sub (L2 := [(0, .ref (kgX (kgHs X) 3)), (1, .ref (kgO (kgHs X) 0)), (2, .int (v2))]) [0, 1, 2] rfl ?_
      exact kk
    | succ d ih =>
      intro r hr
      obtain ⟨a, ha, ca, ra⟩ := r_hottest hG w (r := r) (by omega)
      obtain ⟨b, hb, cb, rb⟩ := r_hottest hG w (r := r + 1) (by omega)
      have hab : s.1 9 b < s.1 9 a ∨ s.1 9 a = s.1 9 b ∧ (s.1 8 a < s.1 8 b ∨ s.1 8 a = s.1 8 b ∧ a < b) := by
        rw [← aK_iff (s := s) (k := b) (j := a)]
        cases e : aK s b a with
        | true => rfl
        | false =>
          have e2 : aK s a b = true := by
            have e3 : ¬ aK s b a = true := by rw [e]; decide
            rw [aK_iff] at e3 ⊢
            have : a ≠ b := fun z => by rw [z] at ca; omega
            omega
          have := (rkK (s := s) (n := kgN s)).2.1 b a hb ha e2
          omega
      have ba := w.2.2.2.1 a ha
      have bb := w.2.2.2.1 b hb
      have e1 : (nI (5 * s.1 9 a) - nI (5 * s.1 9 b)).toInt = ((5 * s.1 9 a : Nat) : Int) - ((5 * s.1 9 b : Nat) : Int) := pk_sub_toInt (by omega) (by omega)
      have eo : (nI (s.1 8 b) - nI (s.1 8 a)).toInt = (s.1 8 b : Int) - s.1 8 a := pk_sub_toInt (by omega) (by omega)
      have t1 : nI (5 * s.1 9 a) - nI (5 * s.1 9 b) = 0 → s.1 9 a = s.1 9 b := fun h => by have := congrArg Int32.toInt h; rw [e1, z0] at this; omega
      have t2 : nI (s.1 8 b) - nI (s.1 8 a) = 0 → s.1 8 b = s.1 8 a := fun h => by have := congrArg Int32.toInt h; rw [eo, z0] at this; omega
      refine aw_iload S.xo 17 rfl dL_law_1513 ?_
      refine aw_iload_n S.xo 3 rfl dL_law_1515 rfl ?_
      refine aw_icmp_geF (tgt := 1606) S.xo dL_law_1516 (by decide) (nI_ge (by omega) (by omega)) ?_
      refine aw_aload_n S.xo 1 rfl dL_law_1519 rfl ?_
      refine aw_iload S.xo 17 rfl dL_law_1520 ?_
      refine aw_iconst (v := (1 : Int32)) S.xo dL_law_1522 (by decide) ?_
      refine aw_isub S.xo dL_law_1523 ?_
      refine aw_eqi (y := nI r) (nI_pred r) ?_
      refine lw_cV (ce2 := ce) (sl2 := sl) S.xo 0 [.int (nI r)] (ra) vw_X4_hottest cl_X4 (by decide) (by decide) tw_388 (s_X4_hottest _ _ _ (nI r) I) ⟨by decide, by decide⟩ rfl rfl (Nat.le_of_ble_eq_true rfl) (Nat.le_refl _) (Nat.le_refl _) (by omega) (by omega) dL_law_1524 ?_
      refine aw_istore (L2 := [(0, .ref (kgX (kgHs X) 3)), (1, .ref (kgO (kgHs X) 0)), (2, .int (v2)), (3, .int (nI (kgN s))), (4, .int (v4)), (5, .int (v5)), (6, .int (v6)), (7, .int (v7)), (8, .int (v8)), (9, .int (v9)), (10, .int (v10)), (11, .int (v11)), (12, .int (v12)), (13, .ref (o1)), (14, .ref (o2)), (15, .ref (o3)), (16, .int (v16)), (19, .int (nI (r + 1))), (20, .int (nI a))]) S.xo [1, 2, 3, 4, 5, 6, 7, 8, 9, 10, 11, 12, 13, 14, 15, 16, 17, 18, 0] dL_law_1527 (by decide) rfl ?_
      refine aw_aload_n S.xo 1 rfl dL_law_1529 rfl ?_
      refine aw_iload S.xo 17 rfl dL_law_1530 ?_
      refine lw_cV (ce2 := ce) (sl2 := sl) S.xo 0 [.int (nI (r + 1))] (rb) vw_X4_hottest cl_X4 (by decide) (by decide) tw_388 (s_X4_hottest _ _ _ (nI (r + 1)) I) ⟨by decide, by decide⟩ rfl rfl (Nat.le_of_ble_eq_true rfl) (Nat.le_refl _) (Nat.le_refl _) (by omega) (by omega) dL_law_1532 ?_
      refine aw_istore (L2 := [(0, .ref (kgX (kgHs X) 3)), (1, .ref (kgO (kgHs X) 0)), (2, .int (v2)), (3, .int (nI (kgN s))), (4, .int (v4)), (5, .int (v5)), (6, .int (v6)), (7, .int (v7)), (8, .int (v8)), (9, .int (v9)), (10, .int (v10)), (11, .int (v11)), (12, .int (v12)), (13, .ref (o1)), (14, .ref (o2)), (15, .ref (o3)), (16, .int (v16)), (19, .int (nI (r + 1))), (20, .int (nI a)), (21, .int (nI b))]) S.xo [1, 2, 3, 4, 5, 6, 7, 8, 9, 10, 11, 12, 13, 14, 15, 16, 17, 18, 19, 0] dL_law_1535 (by decide) rfl ?_
      refine aw_aload_n S.xo 1 rfl dL_law_1537 rfl ?_
      refine aw_iload S.xo 18 rfl dL_law_1538 ?_
      refine aw_iconst (v := (3 : Int32)) S.xo dL_law_1540 (by decide) ?_
      refine lw_cV (ce2 := ce) (sl2 := sl) S.xo 0 [.int (nI a), .int (3)] (r_k3 hG w ha) vw_X4_kettleOf cl_X4 (by decide) (by decide) tw_256 (s_X4_kettleOf _ _ _ (nI a) (3) I) ⟨by decide, by decide⟩ rfl rfl (Nat.le_of_ble_eq_true rfl) (Nat.le_refl _) (Nat.le_refl _) (by omega) (by omega) dL_law_1541 ?_
      refine aw_aload_n S.xo 1 rfl dL_law_1544 rfl ?_
      refine aw_iload S.xo 19 rfl dL_law_1545 ?_
      refine aw_iconst (v := (3 : Int32)) S.xo dL_law_1547 (by decide) ?_
      refine lw_cV (ce2 := ce) (sl2 := sl) S.xo 0 [.int (nI b), .int (3)] (r_k3 hG w hb) vw_X4_kettleOf cl_X4 (by decide) (by decide) tw_256 (s_X4_kettleOf _ _ _ (nI b) (3) I) ⟨by decide, by decide⟩ rfl rfl (Nat.le_of_ble_eq_true rfl) (Nat.le_refl _) (Nat.le_refl _) (by omega) (by omega) dL_law_1548 ?_
      refine aw_isub S.xo dL_law_1551 ?_
      refine aw_istore (L2 := [(0, .ref (kgX (kgHs X) 3)), (1, .ref (kgO (kgHs X) 0)), (2, .int (v2)), (3, .int (nI (kgN s))), (4, .int (v4)), (5, .int (v5)), (6, .int (v6)), (7, .int (v7)), (8, .int (v8)), (9, .int (v9)), (10, .int (v10)), (11, .int (v11)), (12, .int (v12)), (13, .ref (o1)), (14, .ref (o2)), (15, .ref (o3)), (16, .int (v16)), (19, .int (nI (r + 1))), (20, .int (nI a)), (21, .int (nI b)), (22, .int ((nI (5 * s.1 9 a) : Int32) - (nI (5 * s.1 9 b))))]) S.xo [1, 2, 3, 4, 5, 6, 7, 8, 9, 10, 11, 12, 13, 14, 15, 16, 17, 18, 19, 20, 0] dL_law_1552 (by decide) rfl ?_
      refine aw_aload_n S.xo 1 rfl dL_law_1554 rfl ?_
      refine aw_iload S.xo 19 rfl dL_law_1555 ?_
      refine aw_iconst (v := (2 : Int32)) S.xo dL_law_1557 (by decide) ?_
      refine lw_cV (ce2 := ce) (sl2 := sl) S.xo 0 [.int (nI b), .int (2)] (r_k2 hG w hb) vw_X4_kettleOf cl_X4 (by decide) (by decide) tw_256 (s_X4_kettleOf _ _ _ (nI b) (2) I) ⟨by decide, by decide⟩ rfl rfl (Nat.le_of_ble_eq_true rfl) (Nat.le_refl _) (Nat.le_refl _) (by omega) (by omega) dL_law_1558 ?_
      refine aw_aload_n S.xo 1 rfl dL_law_1561 rfl ?_
      refine aw_iload S.xo 18 rfl dL_law_1562 ?_
      refine aw_iconst (v := (2 : Int32)) S.xo dL_law_1564 (by decide) ?_
      refine lw_cV (ce2 := ce) (sl2 := sl) S.xo 0 [.int (nI a), .int (2)] (r_k2 hG w ha) vw_X4_kettleOf cl_X4 (by decide) (by decide) tw_256 (s_X4_kettleOf _ _ _ (nI a) (2) I) ⟨by decide, by decide⟩ rfl rfl (Nat.le_of_ble_eq_true rfl) (Nat.le_refl _) (Nat.le_refl _) (by omega) (by omega) dL_law_1565 ?_
      refine aw_isub S.xo dL_law_1568 ?_
      refine aw_istore (L2 := [(0, .ref (kgX (kgHs X) 3)), (1, .ref (kgO (kgHs X) 0)), (2, .int (v2)), (3, .int (nI (kgN s))), (4, .int (v4)), (5, .int (v5)), (6, .int (v6)), (7, .int (v7)), (8, .int (v8)), (9, .int (v9)), (10, .int (v10)), (11, .int (v11)), (12, .int (v12)), (13, .ref (o1)), (14, .ref (o2)), (15, .ref (o3)), (16, .int (v16)), (19, .int (nI (r + 1))), (20, .int (nI a)), (21, .int (nI b)), (22, .int ((nI (5 * s.1 9 a) : Int32) - (nI (5 * s.1 9 b)))), (23, .int ((nI (s.1 8 b) : Int32) - (nI (s.1 8 a))))]) S.xo [1, 2, 3, 4, 5, 6, 7, 8, 9, 10, 11, 12, 13, 14, 15, 16, 17, 18, 19, 20, 21, 0] dL_law_1569 (by decide) rfl ?_
      suffices k1600 : AW (kgXs X [arc (kgHs X) o1 (oF s 12), arc (kgHs X) o2 f2, arc (kgHs X) o3 f3]) 31 ce sl none (some ()) 1600 [(0, .ref (kgX (kgHs X) 3)), (1, .ref (kgO (kgHs X) 0)), (2, .int (v2)), (3, .int (nI (kgN s))), (4, .int (v4)), (5, .int (v5)), (6, .int (v6)), (7, .int (v7)), (8, .int (v8)), (9, .int (v9)), (10, .int (v10)), (11, .int (v11)), (12, .int (v12)), (13, .ref (o1)), (14, .ref (o2)), (15, .ref (o3)), (16, .int (v16)), (19, .int (nI (r + 1))), (20, .int (nI a)), (21, .int (nI b)), (22, .int ((nI (5 * s.1 9 a) : Int32) - (nI (5 * s.1 9 b)))), (23, .int ((nI (s.1 8 b) : Int32) - (nI (s.1 8 a))))] [] I from (by
        by_cases c1 : nI (5 * s.1 9 a) - nI (5 * s.1 9 b) = 0
        · by_cases c2 : nI (s.1 8 b) - nI (s.1 8 a) = 0
          · refine aw_iload S.xo 20 rfl dL_law_1571 ?_
            refine aw_if_ltF (tgt := 1598) (y := 0) S.xo dL_law_1573 (by decide) (by rw [lt_t, e1, z0]; omega) ?_
            refine aw_iload S.xo 20 rfl dL_law_1576 ?_
            refine aw_if_neF (tgt := 1600) (y := 0) S.xo dL_law_1578 (by decide) (c1) ?_
            refine aw_iload S.xo 21 rfl dL_law_1581 ?_
            refine aw_if_ltF (tgt := 1598) (y := 0) S.xo dL_law_1583 (by decide) (by have := t1 c1; rw [lt_t, eo, z0]; omega) ?_
            refine aw_iload S.xo 21 rfl dL_law_1586 ?_
            refine aw_if_neF (tgt := 1600) (y := 0) S.xo dL_law_1588 (by decide) (c2) ?_
            refine aw_iload S.xo 18 rfl dL_law_1591 ?_
            refine aw_iload S.xo 19 rfl dL_law_1593 ?_
            refine aw_icmp_leT (tgt := 1600) S.xo dL_law_1595 (by decide) (nI_le (by have := t1 c1; have := t2 c2; omega) (by omega)) ?_
            exact k1600
          · refine aw_iload S.xo 20 rfl dL_law_1571 ?_
            refine aw_if_ltF (tgt := 1598) (y := 0) S.xo dL_law_1573 (by decide) (by rw [lt_t, e1, z0]; omega) ?_
            refine aw_iload S.xo 20 rfl dL_law_1576 ?_
            refine aw_if_neF (tgt := 1600) (y := 0) S.xo dL_law_1578 (by decide) (c1) ?_
            refine aw_iload S.xo 21 rfl dL_law_1581 ?_
            refine aw_if_ltF (tgt := 1598) (y := 0) S.xo dL_law_1583 (by decide) (by have := t1 c1; rw [lt_t, eo, z0]; omega) ?_
            refine aw_iload S.xo 21 rfl dL_law_1586 ?_
            refine aw_if_neT (tgt := 1600) (y := 0) S.xo dL_law_1588 (by decide) (c2) ?_
            exact k1600
        · refine aw_iload S.xo 20 rfl dL_law_1571 ?_
          refine aw_if_ltF (tgt := 1598) (y := 0) S.xo dL_law_1573 (by decide) (by rw [lt_t, e1, z0]; omega) ?_
          refine aw_iload S.xo 20 rfl dL_law_1576 ?_
          refine aw_if_neT (tgt := 1600) (y := 0) S.xo dL_law_1578 (by decide) (c1) ?_
          exact k1600)
      refine aw_iinc (v := nI (r + 1 + 1)) (L2 := [(0, .ref (kgX (kgHs X) 3)), (1, .ref (kgO (kgHs X) 0)), (2, .int (v2)), (3, .int (nI (kgN s))), (4, .int (v4)), (5, .int (v5)), (6, .int (v6)), (7, .int (v7)), (8, .int (v8)), (9, .int (v9)), (10, .int (v10)), (11, .int (v11)), (12, .int (v12)), (13, .ref (o1)), (14, .ref (o2)), (15, .ref (o3)), (16, .int (v16)), (19, .int (nI (r + 1 + 1))), (20, .int (nI a)), (21, .int (nI b)), (22, .int ((nI (5 * s.1 9 a) : Int32) - (nI (5 * s.1 9 b)))), (23, .int ((nI (s.1 8 b) : Int32) - (nI (s.1 8 a))))]) S.xo [1, 2, 3, 4, 5, 6, 7, 8, 9, 10, 11, 12, 13, 14, 15, 16, 17, 0, 18, 19, 20, 21] 17 dL_law_1600 rfl (nI_1 (r + 1)) (by decide) rfl ?_
      refine aw_goto (tgt := 1513) S.xo dL_law_1603 (by decide) ?_
      refine aw_sub (L2 := [(0, .ref (kgX (kgHs X) 3)), (1, .ref (kgO (kgHs X) 0)), (2, .int (v2)), (3, .int (nI (kgN s))), (4, .int (v4)), (5, .int (v5)), (6, .int (v6)), (7, .int (v7)), (8, .int (v8)), (9, .int (v9)), (10, .int (v10)), (11, .int (v11)), (12, .int (v12)), (13, .ref (o1)), (14, .ref (o2)), (15, .ref (o3)), (16, .int (v16)), (19, .int (nI (r + 1 + 1)))]) [0, 1, 2, 3, 4, 5, 6, 7, 8, 9, 10, 11, 12, 13, 14, 15, 16, 17] rfl ?_
      exact ih (r + 1) (by omega)
  refine aw_iconst (v := (1 : Int32)) S.xo dL_law_1510 (by decide) ?_
  refine aw_istore (L2 := [(0, .ref (kgX (kgHs X) 3)), (1, .ref (kgO (kgHs X) 0)), (2, .int (v2)), (3, .int (nI (kgN s))), (4, .int (v4)), (5, .int (v5)), (6, .int (v6)), (7, .int (v7)), (8, .int (v8)), (9, .int (v9)), (10, .int (v10)), (11, .int (v11)), (12, .int (v12)), (13, .ref (o1)), (14, .ref (o2)), (15, .ref (o3)), (16, .int (v16)), (19, .int (1))]) S.xo [1, 2, 3, 4, 5, 6, 7, 8, 9, 10, 11, 12, 13, 14, 15, 16, 17, 0] dL_law_1511 (by decide) rfl ?_
  exact loop (kgN s - 1) 0 (by omega)
