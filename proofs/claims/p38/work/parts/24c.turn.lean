theorem fr_s {s : kgS} {p k : Nat} (h : wh s k = true) : b2i (frE s p k) &&& b2i (!decide (s.1 7 k = p)) = b2i (frE s p (k + 1)) := by
  show _ = b2i (frE s p k && !(wh s k && decide (s.1 7 k = p)))
  rw [h, Bool.true_and]
  cases frE s p k <;> cases decide (s.1 7 k = p) <;> rfl
theorem ft_s {s : kgS} {p k : Nat} (h : wh s k = true) : ftP s p k + sdl p (s.1 7 k) = ftP s p (k + 1) := by
  show _ = ftP s p k + (if wh s k = true then sdl p (s.1 7 k) else 0)
  rw [if_pos h]
theorem fr_n {s : kgS} {p k : Nat} (h : ¬ wh s k = true) : frE s p k = frE s p (k + 1) := by
  show _ = (frE s p k && !(wh s k && decide (s.1 7 k = p)))
  rw [Bool.eq_false_iff.mpr h, Bool.false_and]; simp
theorem ft_n {s : kgS} {p k : Nat} (h : ¬ wh s k = true) : ftP s p k = ftP s p (k + 1) := by
  show _ = ftP s p k + (if wh s k = true then sdl p (s.1 7 k) else 0)
  rw [if_neg h, Int32.add_zero]
set_option maxHeartbeats 4000000 in
set_option maxRecDepth 100000 in
theorem tn_3i {X : kgCX Unit} (S : Cx X cL_law RL 31 12 446 929218 6314595) {s : kgS} {I : kgM} {ce sl : Nat} (hce : ce ≤ 929218) (hsl : sl ≤ 6314595) (hG : RepG I 1 s) (w : kgWF s) {p : Nat} (hp : p < 12) {xt : va_W} {v2 v4 v5 v6 v7 v8 v10 v11 v12 : Int32} {o1 o2 o3 : Nat}
    (kk : AW (kgXs X xt) 31 ce sl none (some ()) 968 [(0, .ref (kgX (kgHs X) 3)), (1, .ref (kgO (kgHs X) 0)), (2, .int (v2)), (3, .int (nI (kgN s))), (4, .int (v4)), (5, .int (v5)), (6, .int (v6)), (7, .int (v7)), (8, .int (v8)), (9, .int (nI (wK s))), (10, .int (v10)), (11, .int (v11)), (12, .int (v12)), (13, .ref (o1)), (14, .ref (o2)), (15, .ref (o3)), (16, .int (nI (lbP (wP s) (p)).1)), (17, .int ((lbP (wP s) (p)).2)), (18, .int (nI (p + 1))), (19, .int (ftP s (p + 1) (kgN s))), (20, .int (b2i (frE s (p + 1) (kgN s)))), (21, .int (nI (kgN s)))] [] I) : AW (kgXs X xt) 31 ce sl none (some ()) 904 [(0, .ref (kgX (kgHs X) 3)), (1, .ref (kgO (kgHs X) 0)), (2, .int (v2)), (3, .int (nI (kgN s))), (4, .int (v4)), (5, .int (v5)), (6, .int (v6)), (7, .int (v7)), (8, .int (v8)), (9, .int (nI (wK s))), (10, .int (v10)), (11, .int (v11)), (12, .int (v12)), (13, .ref (o1)), (14, .ref (o2)), (15, .ref (o3)), (16, .int (nI (lbP (wP s) (p)).1)), (17, .int ((lbP (wP s) (p)).2)), (18, .int (nI (p + 1))), (19, .int (ftP s (p + 1) (0))), (20, .int (b2i (frE s (p + 1) (0)))), (21, .int (nI (0)))] [] I := by
  have hn := w.1
  have hl := wK_lt w
  have loop : ∀ d k : Nat, k + d = kgN s → AW (kgXs X xt) 31 ce sl none (some ()) 904 [(0, .ref (kgX (kgHs X) 3)), (1, .ref (kgO (kgHs X) 0)), (2, .int (v2)), (3, .int (nI (kgN s))), (4, .int (v4)), (5, .int (v5)), (6, .int (v6)), (7, .int (v7)), (8, .int (v8)), (9, .int (nI (wK s))), (10, .int (v10)), (11, .int (v11)), (12, .int (v12)), (13, .ref (o1)), (14, .ref (o2)), (15, .ref (o3)), (16, .int (nI (lbP (wP s) (p)).1)), (17, .int ((lbP (wP s) (p)).2)), (18, .int (nI (p + 1))), (19, .int (ftP s (p + 1) (k))), (20, .int (b2i (frE s (p + 1) (k)))), (21, .int (nI (k)))] [] I := by
    intro d
    induction d with
    | zero =>
      intro k hk
      rw [show k = kgN s by omega]
      refine aw_iload S.xo 21 rfl dL_law_904 ?_
      refine aw_iload_n S.xo 3 rfl dL_law_906 rfl ?_
      refine aw_icmp_geT (tgt := 968) S.xo dL_law_907 (by decide) (Int32.le_refl _) ?_
      exact kk
    | succ d ih =>
      intro k hk0
      have hk : k < kgN s := by omega
      have b := w.2.2.2.1 k hk
      have bitw : ((nI (wK s)) >>> (nI k &&& 31)) &&& 1 = b2i (wh s k) := by
        rw [bit_v (by omega) (by omega)]
        exact congrArg b2i (orf_id hk)
      refine aw_iload S.xo 21 rfl dL_law_904 ?_
      refine aw_iload_n S.xo 3 rfl dL_law_906 rfl ?_
      refine aw_icmp_geF (tgt := 968) S.xo dL_law_907 (by decide) (nI_ge hk (by omega)) ?_
      refine aw_iload S.xo 9 rfl dL_law_910 ?_
      refine aw_iload S.xo 21 rfl dL_law_912 ?_
      refine aw_ishr S.xo dL_law_914 ?_
      refine aw_iconst (v := (1 : Int32)) S.xo dL_law_915 (by decide) ?_
      refine aw_iand S.xo dL_law_916 ?_
      refine aw_eqi (y := b2i (wh s k)) (bitw) ?_
      by_cases c1 : wh s k = true
      · refine aw_if_neT (tgt := 923) (y := 0) S.xo dL_law_917 (by decide) (b2i_n0 c1) ?_
        refine aw_iload S.xo 20 rfl dL_law_923 ?_
        refine aw_aload_n S.xo 1 rfl dL_law_925 rfl ?_
        refine aw_iload S.xo 21 rfl dL_law_926 ?_
        refine aw_iconst (v := (1 : Int32)) S.xo dL_law_928 (by decide) ?_
        refine lw_cV (ce2 := ce) (sl2 := sl) S.xo 0 [.int (nI k), .int (1)] (r_k1 hG w hk) vw_X4_kettleOf cl_X4 (by decide) (by decide) tw_256 (s_X4_kettleOf _ _ _ (nI k) (1) I) ⟨by decide, by decide⟩ rfl rfl (Nat.le_of_ble_eq_true rfl) (Nat.le_refl _) (Nat.le_refl _) (by omega) (by omega) dL_law_929 ?_
        refine aw_iload S.xo 18 rfl dL_law_932 ?_
        suffices k942 : AW (kgXs X xt) 31 ce sl none (some ()) 942 [(0, .ref (kgX (kgHs X) 3)), (1, .ref (kgO (kgHs X) 0)), (2, .int (v2)), (3, .int (nI (kgN s))), (4, .int (v4)), (5, .int (v5)), (6, .int (v6)), (7, .int (v7)), (8, .int (v8)), (9, .int (nI (wK s))), (10, .int (v10)), (11, .int (v11)), (12, .int (v12)), (13, .ref (o1)), (14, .ref (o2)), (15, .ref (o3)), (16, .int (nI (lbP (wP s) (p)).1)), (17, .int ((lbP (wP s) (p)).2)), (18, .int (nI (p + 1))), (19, .int (ftP s (p + 1) (k))), (20, .int (b2i (frE s (p + 1) (k)))), (21, .int (nI (k)))] [.int (b2i (!decide (s.1 7 k = p + 1))), .int (b2i (frE s (p + 1) (k)))] I from (by
          by_cases c2 : s.1 7 k = p + 1
          · refine aw_icmp_eqT (tgt := 941) S.xo dL_law_934 (by decide) (by rw [c2]) ?_
            refine aw_iconst (v := (0 : Int32)) S.xo dL_law_941 (by decide) ?_
            refine aw_eqi (y := b2i (!decide (s.1 7 k = p + 1))) (by rw [decide_eq_true c2]; rfl) ?_
            exact k942
          · refine aw_icmp_eqF (tgt := 941) S.xo dL_law_934 (by decide) (fun z => c2 ((nI_eq (by omega) (by omega)).mp z)) ?_
            refine aw_iconst (v := (1 : Int32)) S.xo dL_law_937 (by decide) ?_
            refine aw_goto (tgt := 942) S.xo dL_law_938 (by decide) ?_
            refine aw_eqi (y := b2i (!decide (s.1 7 k = p + 1))) (by rw [decide_eq_false c2]; rfl) ?_
            exact k942)
        refine aw_iand S.xo dL_law_942 ?_
        refine aw_eqi (y := b2i (frE s (p + 1) (k + 1))) (fr_s c1) ?_
        refine aw_istore (L2 := [(0, .ref (kgX (kgHs X) 3)), (1, .ref (kgO (kgHs X) 0)), (2, .int (v2)), (3, .int (nI (kgN s))), (4, .int (v4)), (5, .int (v5)), (6, .int (v6)), (7, .int (v7)), (8, .int (v8)), (9, .int (nI (wK s))), (10, .int (v10)), (11, .int (v11)), (12, .int (v12)), (13, .ref (o1)), (14, .ref (o2)), (15, .ref (o3)), (16, .int (nI (lbP (wP s) (p)).1)), (17, .int ((lbP (wP s) (p)).2)), (18, .int (nI (p + 1))), (19, .int (ftP s (p + 1) (k))), (20, .int (b2i (frE s (p + 1) (k + 1)))), (21, .int (nI (k)))]) S.xo [1, 2, 3, 4, 5, 6, 7, 8, 9, 10, 11, 12, 13, 14, 15, 16, 17, 18, 19, 20, 0, 21] dL_law_943 (by decide) rfl ?_
        refine aw_iload S.xo 19 rfl dL_law_945 ?_
        refine aw_iload S.xo 18 rfl dL_law_947 ?_
        refine aw_aload_n S.xo 1 rfl dL_law_949 rfl ?_
        refine aw_iload S.xo 21 rfl dL_law_950 ?_
        refine aw_iconst (v := (1 : Int32)) S.xo dL_law_952 (by decide) ?_
        refine lw_cV (ce2 := ce) (sl2 := sl) S.xo 0 [.int (nI k), .int (1)] (r_k1 hG w hk) vw_X4_kettleOf cl_X4 (by decide) (by decide) tw_256 (s_X4_kettleOf _ _ _ (nI k) (1) I) ⟨by decide, by decide⟩ rfl rfl (Nat.le_of_ble_eq_true rfl) (Nat.le_refl _) (Nat.le_refl _) (by omega) (by omega) dL_law_953 ?_
        refine lw_cS (ce2 := ce) (sl2 := sl) S.xo [.int (nI (p + 1)), .int (nI (s.1 7 k))] (r_sound (by omega) (by omega) (by omega) (by omega) I) vw_L_sound tw_773 (s_L_sound _ _ _ _ _ _) ⟨by decide, by decide⟩ rfl rfl (Nat.le_of_ble_eq_true rfl) (Nat.le_refl _) (Nat.le_refl _) (by omega) (by omega) dL_law_956 ?_
        refine aw_iadd S.xo dL_law_959 ?_
        refine aw_eqi (y := ftP s (p + 1) (k + 1)) (ft_s c1) ?_
        refine aw_istore (L2 := [(0, .ref (kgX (kgHs X) 3)), (1, .ref (kgO (kgHs X) 0)), (2, .int (v2)), (3, .int (nI (kgN s))), (4, .int (v4)), (5, .int (v5)), (6, .int (v6)), (7, .int (v7)), (8, .int (v8)), (9, .int (nI (wK s))), (10, .int (v10)), (11, .int (v11)), (12, .int (v12)), (13, .ref (o1)), (14, .ref (o2)), (15, .ref (o3)), (16, .int (nI (lbP (wP s) (p)).1)), (17, .int ((lbP (wP s) (p)).2)), (18, .int (nI (p + 1))), (19, .int (ftP s (p + 1) (k + 1))), (20, .int (b2i (frE s (p + 1) (k + 1)))), (21, .int (nI (k)))]) S.xo [1, 2, 3, 4, 5, 6, 7, 8, 9, 10, 11, 12, 13, 14, 15, 16, 17, 18, 19, 0, 20, 21] dL_law_960 (by decide) rfl ?_
        refine aw_iinc (v := nI (k + 1)) (L2 := [(0, .ref (kgX (kgHs X) 3)), (1, .ref (kgO (kgHs X) 0)), (2, .int (v2)), (3, .int (nI (kgN s))), (4, .int (v4)), (5, .int (v5)), (6, .int (v6)), (7, .int (v7)), (8, .int (v8)), (9, .int (nI (wK s))), (10, .int (v10)), (11, .int (v11)), (12, .int (v12)), (13, .ref (o1)), (14, .ref (o2)), (15, .ref (o3)), (16, .int (nI (lbP (wP s) (p)).1)), (17, .int ((lbP (wP s) (p)).2)), (18, .int (nI (p + 1))), (19, .int (ftP s (p + 1) (k + 1))), (20, .int (b2i (frE s (p + 1) (k + 1)))), (21, .int (nI (k + 1)))]) S.xo [1, 2, 3, 4, 5, 6, 7, 8, 9, 10, 11, 12, 13, 14, 15, 16, 17, 18, 19, 20, 21, 0] 21 dL_law_962 rfl (nI_1 k) (by decide) rfl ?_
        refine aw_goto (tgt := 904) S.xo dL_law_965 (by decide) ?_
        exact ih (k + 1) (by omega)
      · refine aw_if_neF (tgt := 923) (y := 0) S.xo dL_law_917 (by decide) (b2i_z c1) ?_
        refine aw_goto (tgt := 962) S.xo dL_law_920 (by decide) ?_
        refine aw_iinc (v := nI (k + 1)) (L2 := [(0, .ref (kgX (kgHs X) 3)), (1, .ref (kgO (kgHs X) 0)), (2, .int (v2)), (3, .int (nI (kgN s))), (4, .int (v4)), (5, .int (v5)), (6, .int (v6)), (7, .int (v7)), (8, .int (v8)), (9, .int (nI (wK s))), (10, .int (v10)), (11, .int (v11)), (12, .int (v12)), (13, .ref (o1)), (14, .ref (o2)), (15, .ref (o3)), (16, .int (nI (lbP (wP s) (p)).1)), (17, .int ((lbP (wP s) (p)).2)), (18, .int (nI (p + 1))), (19, .int (ftP s (p + 1) (k))), (20, .int (b2i (frE s (p + 1) (k)))), (21, .int (nI (k + 1)))]) S.xo [1, 2, 3, 4, 5, 6, 7, 8, 9, 10, 11, 12, 13, 14, 15, 16, 17, 18, 19, 20, 21, 0] 21 dL_law_962 rfl (nI_1 k) (by decide) rfl ?_
        refine aw_goto (tgt := 904) S.xo dL_law_965 (by decide) ?_
        rw [ft_n c1, fr_n c1]
        exact ih (k + 1) (by omega)
  exact loop (kgN s) 0 (Nat.zero_add _)
theorem lb_1 {m p : Nat} (h : m.testBit (p + 1) = true) : lbP m (p + 1) = lbP m p := if_pos h
theorem lb_2 {m p : Nat} (h : ¬ m.testBit (p + 1) = true) (h2 : fitI m (p + 1) ≤ (lbP m p).2) : lbP m (p + 1) = lbP m p := (if_neg h).trans (if_pos h2)
theorem lb_3 {m p : Nat} (h : ¬ m.testBit (p + 1) = true) (h2 : ¬ fitI m (p + 1) ≤ (lbP m p).2) : lbP m (p + 1) = (p + 1, fitI m (p + 1)) := (if_neg h).trans (if_neg h2)
set_option maxHeartbeats 4000000 in
set_option maxRecDepth 100000 in
theorem tn_3 {X : kgCX Unit} (S : Cx X cL_law RL 31 12 446 929218 6314595) {s : kgS} {I : kgM} {ce sl : Nat} (hce : ce ≤ 929218) (hsl : sl ≤ 6314595) (hG : RepG I 1 s) (w : kgWF s) {xt : va_W} {v2 v4 v5 v6 v7 v8 v10 v11 v12 v16 : Int32} {o1 o2 o3 : Nat}
    (kk : AW (kgXs X xt) 31 ce sl none (some ()) 997 [(0, .ref (kgX (kgHs X) 3)), (1, .ref (kgO (kgHs X) 0)), (2, .int (v2)), (3, .int (nI (kgN s))), (4, .int (v4)), (5, .int (v5)), (6, .int (v6)), (7, .int (v7)), (8, .int (v8)), (9, .int (nI (wK s))), (10, .int (v10)), (11, .int (v11)), (12, .int (v12)), (13, .ref (o1)), (14, .ref (o2)), (15, .ref (o3)), (16, .int (nI (lbP (wP s) (12)).1)), (17, .int ((lbP (wP s) (12)).2)), (18, .int (nI (12 + 1)))] [] I) : AW (kgXs X xt) 31 ce sl none (some ()) 878 [(0, .ref (kgX (kgHs X) 3)), (1, .ref (kgO (kgHs X) 0)), (2, .int (v2)), (3, .int (nI (kgN s))), (4, .int (v4)), (5, .int (v5)), (6, .int (v6)), (7, .int (v7)), (8, .int (v8)), (9, .int (nI (wK s))), (10, .int (v10)), (11, .int (v11)), (12, .int (v12)), (13, .ref (o1)), (14, .ref (o2)), (15, .ref (o3)), (16, .int (v16))] [] I := by
  have hn := w.1
  have loop : ∀ d p : Nat, p + d = 12 → AW (kgXs X xt) 31 ce sl none (some ()) 888 [(0, .ref (kgX (kgHs X) 3)), (1, .ref (kgO (kgHs X) 0)), (2, .int (v2)), (3, .int (nI (kgN s))), (4, .int (v4)), (5, .int (v5)), (6, .int (v6)), (7, .int (v7)), (8, .int (v8)), (9, .int (nI (wK s))), (10, .int (v10)), (11, .int (v11)), (12, .int (v12)), (13, .ref (o1)), (14, .ref (o2)), (15, .ref (o3)), (16, .int (nI (lbP (wP s) (p)).1)), (17, .int ((lbP (wP s) (p)).2)), (18, .int (nI (p + 1)))] [] I := by
    intro d
    induction d with
    | zero =>
      intro p hp
      rw [show p = 12 by omega]
      refine aw_iload S.xo 18 rfl dL_law_888 ?_
      refine aw_bipush (v := (13 : Int32)) S.xo dL_law_890 (by decide) ?_
      refine aw_icmp_geT (tgt := 997) S.xo dL_law_892 (by decide) (Int32.le_refl _) ?_
      exact kk
    | succ d ih =>
      intro p hp
      refine aw_iload S.xo 18 rfl dL_law_888 ?_
      refine aw_bipush (v := (13 : Int32)) S.xo dL_law_890 (by decide) ?_
      refine aw_icmp_geF (tgt := 997) S.xo dL_law_892 (by decide) (nI_ge (b := 13) (by omega) (by omega)) ?_
      refine aw_iconst (v := (0 : Int32)) S.xo dL_law_895 (by decide) ?_
      refine aw_istore (L2 := [(0, .ref (kgX (kgHs X) 3)), (1, .ref (kgO (kgHs X) 0)), (2, .int (v2)), (3, .int (nI (kgN s))), (4, .int (v4)), (5, .int (v5)), (6, .int (v6)), (7, .int (v7)), (8, .int (v8)), (9, .int (nI (wK s))), (10, .int (v10)), (11, .int (v11)), (12, .int (v12)), (13, .ref (o1)), (14, .ref (o2)), (15, .ref (o3)), (16, .int (nI (lbP (wP s) (p)).1)), (17, .int ((lbP (wP s) (p)).2)), (18, .int (nI (p + 1))), (19, .int (0))]) S.xo [1, 2, 3, 4, 5, 6, 7, 8, 9, 10, 11, 12, 13, 14, 15, 16, 17, 18, 19, 0] dL_law_896 (by decide) rfl ?_
      refine aw_iconst (v := (1 : Int32)) S.xo dL_law_898 (by decide) ?_
      refine aw_istore (L2 := [(0, .ref (kgX (kgHs X) 3)), (1, .ref (kgO (kgHs X) 0)), (2, .int (v2)), (3, .int (nI (kgN s))), (4, .int (v4)), (5, .int (v5)), (6, .int (v6)), (7, .int (v7)), (8, .int (v8)), (9, .int (nI (wK s))), (10, .int (v10)), (11, .int (v11)), (12, .int (v12)), (13, .ref (o1)), (14, .ref (o2)), (15, .ref (o3)), (16, .int (nI (lbP (wP s) (p)).1)), (17, .int ((lbP (wP s) (p)).2)), (18, .int (nI (p + 1))), (19, .int (0)), (20, .int (1))]) S.xo [1, 2, 3, 4, 5, 6, 7, 8, 9, 10, 11, 12, 13, 14, 15, 16, 17, 18, 19, 20, 0] dL_law_899 (by decide) rfl ?_
      refine aw_iconst (v := (0 : Int32)) S.xo dL_law_901 (by decide) ?_
      refine aw_istore (L2 := [(0, .ref (kgX (kgHs X) 3)), (1, .ref (kgO (kgHs X) 0)), (2, .int (v2)), (3, .int (nI (kgN s))), (4, .int (v4)), (5, .int (v5)), (6, .int (v6)), (7, .int (v7)), (8, .int (v8)), (9, .int (nI (wK s))), (10, .int (v10)), (11, .int (v11)), (12, .int (v12)), (13, .ref (o1)), (14, .ref (o2)), (15, .ref (o3)), (16, .int (nI (lbP (wP s) (p)).1)), (17, .int ((lbP (wP s) (p)).2)), (18, .int (nI (p + 1))), (19, .int (0)), (20, .int (1)), (21, .int (0))]) S.xo [1, 2, 3, 4, 5, 6, 7, 8, 9, 10, 11, 12, 13, 14, 15, 16, 17, 18, 19, 20, 21, 0] dL_law_902 (by decide) rfl ?_
      refine tn_3i S hce hsl hG w (by omega) ?_
      refine aw_iload S.xo 20 rfl dL_law_968 ?_
      have hfr := frE_orf (s := s) (p + 1) (kgN s)
      by_cases c1 : (wP s).testBit (p + 1) = true
      · refine aw_if_eqT (tgt := 991) (y := 0) S.xo dL_law_970 (by decide) (by rw [hfr, show (orf (kgN s) (wh s) (s.1 7)).testBit (p + 1) = true from c1]; rfl) ?_
        refine aw_iinc (v := nI (p + 1 + 1)) (L2 := [(0, .ref (kgX (kgHs X) 3)), (1, .ref (kgO (kgHs X) 0)), (2, .int (v2)), (3, .int (nI (kgN s))), (4, .int (v4)), (5, .int (v5)), (6, .int (v6)), (7, .int (v7)), (8, .int (v8)), (9, .int (nI (wK s))), (10, .int (v10)), (11, .int (v11)), (12, .int (v12)), (13, .ref (o1)), (14, .ref (o2)), (15, .ref (o3)), (16, .int (nI (lbP (wP s) (p)).1)), (17, .int ((lbP (wP s) (p)).2)), (18, .int (nI (p + 1 + 1))), (19, .int (ftP s (p + 1) (kgN s))), (20, .int (b2i (frE s (p + 1) (kgN s)))), (21, .int (nI (kgN s)))]) S.xo [1, 2, 3, 4, 5, 6, 7, 8, 9, 10, 11, 12, 13, 14, 15, 16, 17, 18, 0, 19, 20, 21] 18 dL_law_991 rfl (nI_1 (p + 1)) (by decide) rfl ?_
        refine aw_goto (tgt := 888) S.xo dL_law_994 (by decide) ?_
        refine aw_sub (L2 := [(0, .ref (kgX (kgHs X) 3)), (1, .ref (kgO (kgHs X) 0)), (2, .int (v2)), (3, .int (nI (kgN s))), (4, .int (v4)), (5, .int (v5)), (6, .int (v6)), (7, .int (v7)), (8, .int (v8)), (9, .int (nI (wK s))), (10, .int (v10)), (11, .int (v11)), (12, .int (v12)), (13, .ref (o1)), (14, .ref (o2)), (15, .ref (o3)), (16, .int (nI (lbP (wP s) (p)).1)), (17, .int ((lbP (wP s) (p)).2)), (18, .int (nI (p + 1 + 1)))]) [0, 1, 2, 3, 4, 5, 6, 7, 8, 9, 10, 11, 12, 13, 14, 15, 16, 17, 18] rfl ?_
        have e := ih (p + 1) (by omega)
        rw [lb_1 c1] at e
        exact e
      · have c1f : (wP s).testBit (p + 1) = false := Bool.eq_false_iff.mpr c1
        refine aw_if_eqF (tgt := 991) (y := 0) S.xo dL_law_970 (by decide) (by rw [hfr, show (orf (kgN s) (wh s) (s.1 7)).testBit (p + 1) = false from c1f]; decide) ?_
        refine aw_iload S.xo 19 rfl dL_law_973 ?_
        refine aw_eqi (y := fitI (wP s) (p + 1)) (ft_fit w c1f) ?_
        refine aw_iload S.xo 17 rfl dL_law_975 ?_
        by_cases c3 : fitI (wP s) (p + 1) ≤ (lbP (wP s) p).2
        · refine aw_icmp_gtF (tgt := 983) S.xo dL_law_977 (by decide) (fun z => by rw [lt_t] at z; rw [le_t] at c3; omega) ?_
          refine aw_goto (tgt := 991) S.xo dL_law_980 (by decide) ?_
          refine aw_iinc (v := nI (p + 1 + 1)) (L2 := [(0, .ref (kgX (kgHs X) 3)), (1, .ref (kgO (kgHs X) 0)), (2, .int (v2)), (3, .int (nI (kgN s))), (4, .int (v4)), (5, .int (v5)), (6, .int (v6)), (7, .int (v7)), (8, .int (v8)), (9, .int (nI (wK s))), (10, .int (v10)), (11, .int (v11)), (12, .int (v12)), (13, .ref (o1)), (14, .ref (o2)), (15, .ref (o3)), (16, .int (nI (lbP (wP s) (p)).1)), (17, .int ((lbP (wP s) (p)).2)), (18, .int (nI (p + 1 + 1))), (19, .int (ftP s (p + 1) (kgN s))), (20, .int (b2i (frE s (p + 1) (kgN s)))), (21, .int (nI (kgN s)))]) S.xo [1, 2, 3, 4, 5, 6, 7, 8, 9, 10, 11, 12, 13, 14, 15, 16, 17, 18, 0, 19, 20, 21] 18 dL_law_991 rfl (nI_1 (p + 1)) (by decide) rfl ?_
          refine aw_goto (tgt := 888) S.xo dL_law_994 (by decide) ?_
          refine aw_sub (L2 := [(0, .ref (kgX (kgHs X) 3)), (1, .ref (kgO (kgHs X) 0)), (2, .int (v2)), (3, .int (nI (kgN s))), (4, .int (v4)), (5, .int (v5)), (6, .int (v6)), (7, .int (v7)), (8, .int (v8)), (9, .int (nI (wK s))), (10, .int (v10)), (11, .int (v11)), (12, .int (v12)), (13, .ref (o1)), (14, .ref (o2)), (15, .ref (o3)), (16, .int (nI (lbP (wP s) (p)).1)), (17, .int ((lbP (wP s) (p)).2)), (18, .int (nI (p + 1 + 1)))]) [0, 1, 2, 3, 4, 5, 6, 7, 8, 9, 10, 11, 12, 13, 14, 15, 16, 17, 18] rfl ?_
          have e := ih (p + 1) (by omega)
          rw [lb_2 c1 c3] at e
          exact e
        · refine aw_icmp_gtT (tgt := 983) S.xo dL_law_977 (by decide) (by rw [lt_t]; rw [le_t] at c3; omega) ?_
          refine aw_iload S.xo 18 rfl dL_law_983 ?_
          refine aw_istore (L2 := [(0, .ref (kgX (kgHs X) 3)), (1, .ref (kgO (kgHs X) 0)), (2, .int (v2)), (3, .int (nI (kgN s))), (4, .int (v4)), (5, .int (v5)), (6, .int (v6)), (7, .int (v7)), (8, .int (v8)), (9, .int (nI (wK s))), (10, .int (v10)), (11, .int (v11)), (12, .int (v12)), (13, .ref (o1)), (14, .ref (o2)), (15, .ref (o3)), (16, .int (nI (p + 1))), (17, .int ((lbP (wP s) (p)).2)), (18, .int (nI (p + 1))), (19, .int (ftP s (p + 1) (kgN s))), (20, .int (b2i (frE s (p + 1) (kgN s)))), (21, .int (nI (kgN s)))]) S.xo [1, 2, 3, 4, 5, 6, 7, 8, 9, 10, 11, 12, 13, 14, 15, 16, 0, 17, 18, 19, 20, 21] dL_law_985 (by decide) rfl ?_
          refine aw_iload S.xo 19 rfl dL_law_987 ?_
          refine aw_eqi (y := fitI (wP s) (p + 1)) (ft_fit w c1f) ?_
          refine aw_istore (L2 := [(0, .ref (kgX (kgHs X) 3)), (1, .ref (kgO (kgHs X) 0)), (2, .int (v2)), (3, .int (nI (kgN s))), (4, .int (v4)), (5, .int (v5)), (6, .int (v6)), (7, .int (v7)), (8, .int (v8)), (9, .int (nI (wK s))), (10, .int (v10)), (11, .int (v11)), (12, .int (v12)), (13, .ref (o1)), (14, .ref (o2)), (15, .ref (o3)), (16, .int (nI (p + 1))), (17, .int (fitI (wP s) (p + 1))), (18, .int (nI (p + 1))), (19, .int (ftP s (p + 1) (kgN s))), (20, .int (b2i (frE s (p + 1) (kgN s)))), (21, .int (nI (kgN s)))]) S.xo [1, 2, 3, 4, 5, 6, 7, 8, 9, 10, 11, 12, 13, 14, 15, 16, 17, 0, 18, 19, 20, 21] dL_law_989 (by decide) rfl ?_
          refine aw_iinc (v := nI (p + 1 + 1)) (L2 := [(0, .ref (kgX (kgHs X) 3)), (1, .ref (kgO (kgHs X) 0)), (2, .int (v2)), (3, .int (nI (kgN s))), (4, .int (v4)), (5, .int (v5)), (6, .int (v6)), (7, .int (v7)), (8, .int (v8)), (9, .int (nI (wK s))), (10, .int (v10)), (11, .int (v11)), (12, .int (v12)), (13, .ref (o1)), (14, .ref (o2)), (15, .ref (o3)), (16, .int (nI (p + 1))), (17, .int (fitI (wP s) (p + 1))), (18, .int (nI (p + 1 + 1))), (19, .int (ftP s (p + 1) (kgN s))), (20, .int (b2i (frE s (p + 1) (kgN s)))), (21, .int (nI (kgN s)))]) S.xo [1, 2, 3, 4, 5, 6, 7, 8, 9, 10, 11, 12, 13, 14, 15, 16, 17, 18, 0, 19, 20, 21] 18 dL_law_991 rfl (nI_1 (p + 1)) (by decide) rfl ?_
          refine aw_goto (tgt := 888) S.xo dL_law_994 (by decide) ?_
          refine aw_sub (L2 := [(0, .ref (kgX (kgHs X) 3)), (1, .ref (kgO (kgHs X) 0)), (2, .int (v2)), (3, .int (nI (kgN s))), (4, .int (v4)), (5, .int (v5)), (6, .int (v6)), (7, .int (v7)), (8, .int (v8)), (9, .int (nI (wK s))), (10, .int (v10)), (11, .int (v11)), (12, .int (v12)), (13, .ref (o1)), (14, .ref (o2)), (15, .ref (o3)), (16, .int (nI (p + 1))), (17, .int (fitI (wP s) (p + 1))), (18, .int (nI (p + 1 + 1)))]) [0, 1, 2, 3, 4, 5, 6, 7, 8, 9, 10, 11, 12, 13, 14, 15, 16, 17, 18] rfl ?_
          have e := ih (p + 1) (by omega)
          rw [lb_3 c1 c3] at e
          exact e
  refine aw_iconst (v := (0 : Int32)) S.xo dL_law_878 (by decide) ?_
  refine aw_istore (L2 := [(0, .ref (kgX (kgHs X) 3)), (1, .ref (kgO (kgHs X) 0)), (2, .int (v2)), (3, .int (nI (kgN s))), (4, .int (v4)), (5, .int (v5)), (6, .int (v6)), (7, .int (v7)), (8, .int (v8)), (9, .int (nI (wK s))), (10, .int (v10)), (11, .int (v11)), (12, .int (v12)), (13, .ref (o1)), (14, .ref (o2)), (15, .ref (o3)), (16, .int (0))]) S.xo [1, 2, 3, 4, 5, 6, 7, 8, 9, 10, 11, 12, 13, 14, 15, 16, 0] dL_law_879 (by decide) rfl ?_
  refine aw_bipush (v := (-100 : Int32)) S.xo dL_law_881 (by decide) ?_
  refine aw_istore (L2 := [(0, .ref (kgX (kgHs X) 3)), (1, .ref (kgO (kgHs X) 0)), (2, .int (v2)), (3, .int (nI (kgN s))), (4, .int (v4)), (5, .int (v5)), (6, .int (v6)), (7, .int (v7)), (8, .int (v8)), (9, .int (nI (wK s))), (10, .int (v10)), (11, .int (v11)), (12, .int (v12)), (13, .ref (o1)), (14, .ref (o2)), (15, .ref (o3)), (16, .int (0)), (17, .int (-100))]) S.xo [1, 2, 3, 4, 5, 6, 7, 8, 9, 10, 11, 12, 13, 14, 15, 16, 17, 0] dL_law_883 (by decide) rfl ?_
  refine aw_iconst (v := (1 : Int32)) S.xo dL_law_885 (by decide) ?_
  refine aw_istore (L2 := [(0, .ref (kgX (kgHs X) 3)), (1, .ref (kgO (kgHs X) 0)), (2, .int (v2)), (3, .int (nI (kgN s))), (4, .int (v4)), (5, .int (v5)), (6, .int (v6)), (7, .int (v7)), (8, .int (v8)), (9, .int (nI (wK s))), (10, .int (v10)), (11, .int (v11)), (12, .int (v12)), (13, .ref (o1)), (14, .ref (o2)), (15, .ref (o3)), (16, .int (0)), (17, .int (-100)), (18, .int (1))]) S.xo [1, 2, 3, 4, 5, 6, 7, 8, 9, 10, 11, 12, 13, 14, 15, 16, 17, 18, 0] dL_law_886 (by decide) rfl ?_
  exact loop 12 0 (Nat.zero_add _)
