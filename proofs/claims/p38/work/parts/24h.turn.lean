set_option maxHeartbeats 4000000 in
set_option maxRecDepth 100000 in
theorem tn_9 {X : kgCX Unit} (S : Cx X cL_law RL 31 12 446 929218 6314595) (hX : kgB (kgHs X) ≤ X.2.2.2.2.1.heap.size) (hLn : kgO (kgHs X) 184 = kgO (kgHs X) 175) {N : Nat} (hN : N ≤ 260) {sc : Nat → Int32} (hS : ScOK (kgHs X) N sc) {t : Nat} (ht : t < 4) {s : kgS} {I : kgM} {ce sl : Nat} (hce : ce + 1200 ≤ 929218) (hsl : sl + 40000 ≤ 6314595) (hI : InvC (bnI (40 + t)) s I) (h0 : 0 < kgN s)
    (kk : ∀ s' J, InvC (bnI (40 + t + 1)) s' J → 0 < kgN s' → AW (kgXs X []) 31 (ce + 602) (sl + 16422) none (some ()) 15 [(0, .ref (kgX (kgHs X) 3)), (1, .ref (kgO (kgHs X) 0)), (2, .int (nI (t + 1)))] [] J) : AW (kgXs X []) 31 ce sl none (some ()) 15 [(0, .ref (kgX (kgHs X) 3)), (1, .ref (kgO (kgHs X) 0)), (2, .int (nI (t)))] [] I := by
  have hG := hI.2.1
  have w := hI.2.2.1
  have hn := w.1
  have hx2 := hI.2.2.2.2.1
  have hL := hI.2.2.2.2.2.2
  refine aw_iload_n S.xo 2 rfl dL_law_15 rfl ?_
  refine aw_iconst (v := (4 : Int32)) S.xo dL_law_16 (by decide) ?_
  refine aw_icmp_geF (tgt := 1623) S.xo dL_law_17 (by decide) (nI_ge (b := 4) ht (by omega)) ?_
  refine tn_0 S hX (by omega) (by omega) hG (fun o1 o2 o3 => ?_)
  refine tn_1 S (by omega) (by omega) hG w ?_
  refine tn_2 (v11 := 0) (v12 := 0) S hX hLn (by omega) (by omega) hG w hx2 hL (fun J j1 j2 => ?_)
  have hI2 := hI.lf j2 j1
  have hG2 := hI2.2.1
  refine tn_3 S (by omega) (by omega) hG2 w ?_
  refine aw_sub (L2 := [(0, .ref (kgX (kgHs X) 3)), (1, .ref (kgO (kgHs X) 0)), (2, .int (nI t)), (3, .int (nI (kgN s))), (4, .int (nI (cnt (kgN s) (fun k => decide (s.1 10 k ≠ 0))))), (5, .int (nI (cnt (kgN s) (bo s)))), (6, .int (nI (smN (kgN s) (s.1 12)))), (7, .int (nI (smN (kgN s) (s.1 13)))), (8, .int (nI (smN (kgN s) (s.1 8)))), (9, .int (nI (wK s))), (10, .int (smI (kgN s) (fun b => smI (kgN s) (fun a => gF s a b)))), (11, .int (0)), (12, .int (0)), (13, .ref (o1)), (14, .ref (o2)), (15, .ref (o3)), (16, .int (nI (lbP (wP s) (12)).1))]) [0, 1, 2, 3, 4, 5, 6, 7, 8, 9, 10, 11, 12, 13, 14, 15, 16] rfl ?_
  refine tn_4 S hX (by omega) (by omega) hG2 w (fun a T hT => ?_)
  refine tn_5 S (by omega) (by omega) hG2 w ?_
  refine tn_6 S hLn (by omega) (by omega) hG2 w j1 h0 hT (fun J2 j3 j4 => ?_)
  have hI3 := hI2.lf j4 j3
  refine aw_sub (L2 := [(0, .ref (kgX (kgHs X) 3)), (1, .ref (kgO (kgHs X) 0)), (2, .int (nI t)), (3, .int (nI (kgN s))), (4, .int (nI (cnt (kgN s) (fun k => decide (s.1 10 k ≠ 0))))), (5, .int (nI (cnt (kgN s) (bo s)))), (6, .int (nI (smN (kgN s) (s.1 12)))), (7, .int (nI (smN (kgN s) (s.1 13)))), (8, .int (nI (smN (kgN s) (s.1 8)))), (9, .int (nI (wK s))), (10, .int (hvS s)), (11, .int (smI 4 s.2)), (12, .int (smI 4 (fun k => s.2 (4 + k)))), (13, .ref (o1)), (14, .ref (o2)), (15, .ref (o3)), (16, .int (nI (lbP (wP s) (12)).1))]) [0, 1, 2, 3, 4, 5, 6, 7, 8, 9, 10, 11, 12, 13, 14, 15, 16] rfl ?_
  refine tn_7 S (by omega) (by omega) hI3.2.1 w (B := bnI (40 + t)) (by unfold bnI; omega) hI.2.2.2.1 ?_
  refine tn_8 S (by omega) (by omega) hI3.2.1 w h0 ?_
  refine aw_drop (xt2 := []) (List.nil_sublist _) ?_
  obtain ⟨s2, J3, g1, g2, g3⟩ := acts_v hN sc (q := 40 + t) (by omega) (k := 90 + 4 * t) (by omega) hI3 h0
  refine aw_aload_n S.xo 1 rfl dL_law_1606 rfl ?_
  refine aw_aload_n S.xo 0 rfl dL_law_1607 rfl ?_
  refine aw_bipush (v := (90 : Int32)) S.xo dL_law_1608 (by decide) ?_
  refine aw_iconst (v := (4 : Int32)) S.xo dL_law_1610 (by decide) ?_
  refine aw_iload_n S.xo 2 rfl dL_law_1611 rfl ?_
  refine aw_imul S.xo dL_law_1612 ?_
  refine aw_eqi (y := nI (4 * t)) (nI_mul 4 t) ?_
  refine aw_iadd S.xo dL_law_1613 ?_
  refine aw_eqi (y := nI (90 + 4 * t)) (nI_add 90 _) ?_
  refine lw_cT (ce2 := (ce + 3 + 490 + 84 + 25)) (sl2 := (sl + 12 + 13640 + 1920 + 850)) (st := []) S.xo [.ref (kgO (kgHs X) 0), .ref (kgX (kgHs X) 3), .int (nI (90 + 4 * t))] g1 vw_L_acts tw_701 (s_L_acts (kgHs (kgXs X [])) _ _ N sc hS (nI (90 + 4 * t)) J2) ⟨by decide, by decide⟩ rfl rfl (Nat.le_of_ble_eq_true rfl) (Nat.le_refl _) (Nat.le_refl _) (by omega) (by omega) dL_law_1614 ?_
  refine aw_iinc (v := nI (t + 1)) (L2 := [(0, .ref (kgX (kgHs X) 3)), (1, .ref (kgO (kgHs X) 0)), (2, .int (nI (t + 1)))]) S.xo [1, 2, 0] 2 dL_law_1617 rfl (nI_1 t) (by decide) rfl ?_
  refine aw_goto (tgt := 15) S.xo dL_law_1620 (by decide) ?_
  exact aw_widen (by omega) (by omega) (kk s2 J3 g2 (Nat.lt_of_lt_of_le h0 g3.2.2))
set_option maxHeartbeats 4000000 in
set_option maxRecDepth 100000 in
theorem tn_10 {X : kgCX Unit} (S : Cx X cL_law RL 31 12 446 929218 6314595) (hX : kgB (kgHs X) ≤ X.2.2.2.2.1.heap.size) (hLn : kgO (kgHs X) 184 = kgO (kgHs X) 175) {N : Nat} (hN : N ≤ 260) {sc : Nat → Int32} (hS : ScOK (kgHs X) N sc) {ce sl : Nat} (hce : ce + 4000 ≤ 929218) (hsl : sl + 110000 ≤ 6314595)
    (hend : ∀ (I : kgM) (L : List (Nat × Value)), AW (kgXs X []) 31 929218 6314595 none (some ()) 1623 L [] I) : ∀ (d t : Nat) (s : kgS) (I : kgM), t + d = 4 → InvC (bnI (40 + t)) s I → 0 < kgN s → AW (kgXs X []) 31 (ce + 602 * t) (sl + 16422 * t) none (some ()) 15 [(0, .ref (kgX (kgHs X) 3)), (1, .ref (kgO (kgHs X) 0)), (2, .int (nI (t)))] [] I := by
    intro d
    induction d with
    | zero =>
      intro t s I ht hI h0
      rw [show t = 4 by omega]
      refine aw_iload_n S.xo 2 rfl dL_law_15 rfl ?_
      refine aw_iconst (v := (4 : Int32)) S.xo dL_law_16 (by decide) ?_
      refine aw_icmp_geT (tgt := 1623) S.xo dL_law_17 (by decide) (Int32.le_refl _) ?_
      exact aw_widen (by omega) (by omega) (hend I _)
    | succ d ih =>
      intro t s I ht hI h0
      refine tn_9 S hX hLn hN hS (by omega) (by omega) (by omega) hI h0 (fun s2 J a b => ?_)
      exact aw_widen (by omega) (by omega) (ih (t + 1) s2 J (by omega) (by rw [show 40 + (t + 1) = 40 + t + 1 by omega]; exact a) b)
set_option maxHeartbeats 4000000 in
set_option maxRecDepth 100000 in
theorem tn_11 {X : kgCX Unit} (S : Cx X cL_law RL 31 12 446 929218 6314595) (hX : kgB (kgHs X) ≤ X.2.2.2.2.1.heap.size) (hLn : kgO (kgHs X) 184 = kgO (kgHs X) 175) {N : Nat} (hN : N ≤ 260) {sc : Nat → Int32} (hS : ScOK (kgHs X) N sc) {ce sl : Nat} (hce : ce + 4000 ≤ 929218) (hsl : sl + 110000 ≤ 6314595)
    (hend : ∀ (I : kgM) (L : List (Nat × Value)), AW (kgXs X []) 31 929218 6314595 none (some ()) 1623 L [] I) {s : kgS} {I : kgM} (hI : InvC (bnI 0) s I) (h4 : ∀ m, m < 4 → own s m < 4) : AW (kgXs X []) 31 ce sl none (some ()) 8 [(0, .ref (kgX (kgHs X) 3)), (1, .ref (kgO (kgHs X) 0))] [] I := by
  obtain ⟨s2, J, g1, g2, g3⟩ := build_v hN sc hI h4
  refine aw_aload_n S.xo 1 rfl dL_law_8 rfl ?_
  refine aw_aload_n S.xo 0 rfl dL_law_9 rfl ?_
  refine lw_cT (ce2 := ce) (sl2 := sl) (st := []) S.xo [.ref (kgO (kgHs X) 0), .ref (kgX (kgHs X) 3)] g1 vw_L_build tw_614 (s_L_build (kgHs (kgXs X [])) _ _ N sc hS I) ⟨by decide, by decide⟩ rfl rfl (Nat.le_of_ble_eq_true rfl) (Nat.le_refl _) (Nat.le_refl _) (by omega) (by omega) dL_law_10 ?_
  refine aw_iconst (v := (0 : Int32)) S.xo dL_law_13 (by decide) ?_
  refine aw_istore_n (L2 := [(0, .ref (kgX (kgHs X) 3)), (1, .ref (kgO (kgHs X) 0)), (2, .int (0))]) S.xo [1, 2, 0] dL_law_14 rfl (by decide) rfl ?_
  exact tn_10 S hX hLn hN hS hce hsl hend 4 0 s2 J (by omega) g2 g3
