set_option maxHeartbeats 4000000 in
set_option maxRecDepth 100000 in
theorem tn_2 {X : kgCX Unit} (S : Cx X cL_law RL 31 12 446 929218 6314595) (hX : kgB (kgHs X) ≤ X.2.2.2.2.1.heap.size) (hLn : kgO (kgHs X) 184 = kgO (kgHs X) 175) {s : kgS} {I : kgM} {ce sl : Nat} (hce : ce + 600 ≤ 929218) (hsl : sl + 17000 ≤ 6314595) (hG : RepG I 1 s) (w : kgWF s) (hx2 : kgX2 s) (hL : LnB I) {v2 v11 v12 : Int32} {o1 o2 o3 : Nat} {f1 : Nat → Int32}
    (kk : ∀ J, LnB J → lfC I J → AW (kgXs X [arc (kgHs X) o1 f1, arc (kgHs X) o2 (kF s (kgN s)), arc (kgHs X) o3 (wF s (kgN s))]) 31 (ce + 490) (sl + 13640) none (some ()) 878 [(0, .ref (kgX (kgHs X) 3)), (1, .ref (kgO (kgHs X) 0)), (2, .int (v2)), (3, .int (nI (kgN s))), (4, .int (nI (cnt (kgN s) (fun k => decide (s.1 10 k ≠ 0))))), (5, .int (nI (cnt (kgN s) (bo s)))), (6, .int (nI (smN (kgN s) (s.1 12)))), (7, .int (nI (smN (kgN s) (s.1 13)))), (8, .int (nI (smN (kgN s) (s.1 8)))), (9, .int (nI (orf (kgN s) (wh s) (fun k => k)))), (10, .int (smI (kgN s) (fun b => smI (kgN s) (fun a => gF s a b)))), (11, .int (v11)), (12, .int (v12)), (13, .ref (o1)), (14, .ref (o2)), (15, .ref (o3)), (16, .int (nI (kgN s)))] [] J) : AW (kgXs X [arc (kgHs X) o1 f1, arc (kgHs X) o2 (kF s (0)), arc (kgHs X) o3 (wF s (0))]) 31 ce sl none (some ()) 109 [(0, .ref (kgX (kgHs X) 3)), (1, .ref (kgO (kgHs X) 0)), (2, .int (v2)), (3, .int (nI (kgN s))), (4, .int (nI (cnt (0) (fun k => decide (s.1 10 k ≠ 0))))), (5, .int (nI (cnt (0) (bo s)))), (6, .int (nI (smN (0) (s.1 12)))), (7, .int (nI (smN (0) (s.1 13)))), (8, .int (nI (smN (0) (s.1 8)))), (9, .int (nI (orf (0) (wh s) (fun k => k)))), (10, .int (smI (0) (fun b => smI (kgN s) (fun a => gF s a b)))), (11, .int (v11)), (12, .int (v12)), (13, .ref (o1)), (14, .ref (o2)), (15, .ref (o3)), (16, .int (nI (0)))] [] I := by
  have hn := w.1
  have loop : ∀ (d k : Nat) (I2 : kgM), k + d = kgN s → RepG I2 1 s → LnB I2 → lfC I I2 → AW (kgXs X [arc (kgHs X) o1 f1, arc (kgHs X) o2 (kF s (k)), arc (kgHs X) o3 (wF s (k))]) 31 (ce + 49 * k) (sl + 1364 * k) none (some ()) 109 [(0, .ref (kgX (kgHs X) 3)), (1, .ref (kgO (kgHs X) 0)), (2, .int (v2)), (3, .int (nI (kgN s))), (4, .int (nI (cnt (k) (fun k => decide (s.1 10 k ≠ 0))))), (5, .int (nI (cnt (k) (bo s)))), (6, .int (nI (smN (k) (s.1 12)))), (7, .int (nI (smN (k) (s.1 13)))), (8, .int (nI (smN (k) (s.1 8)))), (9, .int (nI (orf (k) (wh s) (fun k => k)))), (10, .int (smI (k) (fun b => smI (kgN s) (fun a => gF s a b)))), (11, .int (v11)), (12, .int (v12)), (13, .ref (o1)), (14, .ref (o2)), (15, .ref (o3)), (16, .int (nI (k)))] [] I2 := by
    intro d
    induction d with
    | zero =>
      intro k I hk hG hL h0
      rw [show k = kgN s by omega]
      refine aw_iload S.xo 16 rfl dL_law_109 ?_
      refine aw_iload_n S.xo 3 rfl dL_law_111 rfl ?_
      refine aw_icmp_geT (tgt := 878) S.xo dL_law_112 (by decide) (Int32.le_refl _) ?_
      exact aw_widen (by omega) (by omega) (kk I hL h0)
    | succ d ih =>
      intro k I hk0 hG hL h0
      have hk : k < kgN s := by omega
      refine aw_iload S.xo 16 rfl dL_law_109 ?_
      refine aw_iload_n S.xo 3 rfl dL_law_111 rfl ?_
      refine aw_icmp_geF (tgt := 878) S.xo dL_law_112 (by decide) (nI_ge hk (by omega)) ?_
      refine lk_1 S (by omega) (by omega) hG w hk ?_
      refine lk_2 (v4 := 0) (v5 := 0) (v6 := 0) (v8 := 0) (v9 := 0) S (by omega) (by omega) hG w hk ?_
      refine lk_3 S hLn (by omega) (by omega) hG w hL hk (fun J j1 j2 => ?_)
      have hG1 : RepG J 1 s := j2.G hG
      refine lk_4 S hX (by omega) (by omega) hG1 w hk (fun a v g hst => ?_)
      refine lk_5 S hLn (by omega) (by omega) hG1 w hx2 hk j1 hst ?_
      refine aw_sub (L2 := [(0, .ref (kgX (kgHs X) 3)), (1, .ref (kgO (kgHs X) 0)), (2, .int (v2)), (3, .int (nI (kgN s))), (4, .int (nI (cnt (k + 1) (fun k => decide (s.1 10 k ≠ 0))))), (5, .int (nI (cnt (k + 1) (bo s)))), (6, .int (nI (smN (k + 1) (s.1 12)))), (7, .int (nI (smN (k + 1) (s.1 13)))), (8, .int (nI (smN (k + 1) (s.1 8)))), (9, .int (nI (orf (k + 1) (wh s) (fun k => k)))), (10, .int (smI k (fun b => smI (kgN s) (fun a => gF s a b)))), (11, .int (v11)), (12, .int (v12)), (13, .ref (o1)), (14, .ref (o2)), (15, .ref (o3)), (16, .int (nI k)), (18, .int (nI (s.1 7 k))), (21, .int (stI s k)), (25, .int (b2i (wh s k)))]) [0, 1, 2, 3, 4, 5, 6, 7, 8, 9, 10, 11, 12, 13, 14, 15, 16, 18, 21, 25] rfl ?_
      refine lk_6 S (by omega) (by omega) hG1 w hk ?_
      rw [acM_k (by omega)]
      refine aw_iinc (v := nI (k + 1)) (L2 := [(0, .ref (kgX (kgHs X) 3)), (1, .ref (kgO (kgHs X) 0)), (2, .int (v2)), (3, .int (nI (kgN s))), (4, .int (nI (cnt (k + 1) (fun k => decide (s.1 10 k ≠ 0))))), (5, .int (nI (cnt (k + 1) (bo s)))), (6, .int (nI (smN (k + 1) (s.1 12)))), (7, .int (nI (smN (k + 1) (s.1 13)))), (8, .int (nI (smN (k + 1) (s.1 8)))), (9, .int (nI (orf (k + 1) (wh s) (fun k => k)))), (10, .int (smI (k + 1) (fun b => smI (kgN s) (fun a => gF s a b)))), (11, .int (v11)), (12, .int (v12)), (13, .ref (o1)), (14, .ref (o2)), (15, .ref (o3)), (16, .int (nI (k + 1))), (18, .int (nI (s.1 7 k))), (21, .int (stI s k)), (25, .int (b2i (wh s k))), (30, .int (nI k))]) S.xo [1, 2, 3, 4, 5, 6, 7, 8, 9, 10, 11, 12, 13, 14, 15, 16, 0, 17, 18, 19, 20] 16 dL_law_872 rfl (nI_1 k) (by decide) rfl ?_
      refine aw_goto (tgt := 109) S.xo dL_law_875 (by decide) ?_
      refine aw_sub (L2 := [(0, .ref (kgX (kgHs X) 3)), (1, .ref (kgO (kgHs X) 0)), (2, .int (v2)), (3, .int (nI (kgN s))), (4, .int (nI (cnt (k + 1) (fun k => decide (s.1 10 k ≠ 0))))), (5, .int (nI (cnt (k + 1) (bo s)))), (6, .int (nI (smN (k + 1) (s.1 12)))), (7, .int (nI (smN (k + 1) (s.1 13)))), (8, .int (nI (smN (k + 1) (s.1 8)))), (9, .int (nI (orf (k + 1) (wh s) (fun k => k)))), (10, .int (smI (k + 1) (fun b => smI (kgN s) (fun a => gF s a b)))), (11, .int (v11)), (12, .int (v12)), (13, .ref (o1)), (14, .ref (o2)), (15, .ref (o3)), (16, .int (nI (k + 1)))]) [0, 1, 2, 3, 4, 5, 6, 7, 8, 9, 10, 11, 12, 13, 14, 15, 16] rfl ?_
      refine aw_widen (k := (ce + 49 * (k + 1))) (n := (sl + 1364 * (k + 1))) (by omega) (by omega) ?_
      exact ih (k + 1) J (by omega) hG1 (j1.toB (tl_34 w hk)) (h0.trans j2)
  exact loop (kgN s) 0 I (Nat.zero_add _) hG hL lfC.rf
