theorem hU_div {s : kgS} (w : kgWF s) {k : Nat} (hk : k < kgN s) (z : ¬ hU s k = 0) : (¬ (5 : Int32) * nI (hU s k) = 0) ∧ (((100 : Int32) - nI (5 * s.1 9 k)) + (5 : Int32) * nI (hU s k) - 1) / ((5 : Int32) * nI (hU s k)) = bmI (hU s k) (s.1 9 k) := by
  have b := w.2.2.2.1 k hk
  have hh := hU_le w hk
  obtain ⟨h, eh⟩ : ∃ h, hU s k = h + 1 := ⟨hU s k - 1, by omega⟩
  have a1 := bA_all h (by omega) (s.1 9 k - 4) (by omega)
  have a2 := b5_all h (by omega)
  rw [show s.1 9 k - 4 + 4 = s.1 9 k by omega] at a1
  rw [eh]
  exact ⟨a2.2, a1⟩
set_option maxHeartbeats 4000000 in
set_option maxRecDepth 100000 in
theorem lk_1 {X : kgCX Unit} (S : Cx X cL_law RL 31 12 446 929218 6314595) {s : kgS} {I : kgM} {ce sl : Nat} (hce : ce ≤ 929218) (hsl : sl ≤ 6314595) (hG : RepG I 1 s) (w : kgWF s) {k : Nat} (hk : k < kgN s) {xt : va_W} {v2 v4 v5 v6 v7 v8 v9 v10 v11 v12 : Int32} {o1 o2 o3 : Nat}
    (kk : AW (kgXs X xt) 31 ce sl none (some ()) 225 [(0, .ref (kgX (kgHs X) 3)), (1, .ref (kgO (kgHs X) 0)), (2, .int (v2)), (3, .int (nI (kgN s))), (4, .int (v4)), (5, .int (v5)), (6, .int (v6)), (7, .int (v7)), (8, .int (v8)), (9, .int (v9)), (10, .int (v10)), (11, .int (v11)), (12, .int (v12)), (13, .ref (o1)), (14, .ref (o2)), (15, .ref (o3)), (16, .int (nI k)), (17, .int (nI (s.1 6 k))), (18, .int (nI (s.1 7 k))), (19, .int (nI (s.1 8 k))), (20, .int (nI (5 * s.1 9 k))), (21, .int (stI s k)), (22, .int (nI (hU s k))), (23, .int (nI (s.1 11 k))), (24, .int (b2i (bo s k))), (25, .int (b2i (wh s k)))] [] I) : AW (kgXs X xt) 31 ce sl none (some ()) 115 [(0, .ref (kgX (kgHs X) 3)), (1, .ref (kgO (kgHs X) 0)), (2, .int (v2)), (3, .int (nI (kgN s))), (4, .int (v4)), (5, .int (v5)), (6, .int (v6)), (7, .int (v7)), (8, .int (v8)), (9, .int (v9)), (10, .int (v10)), (11, .int (v11)), (12, .int (v12)), (13, .ref (o1)), (14, .ref (o2)), (15, .ref (o3)), (16, .int (nI k))] [] I := by
  have hn := w.1
  have b := w.2.2.2.1 k hk
  have hh := hU_le w hk
  refine aw_aload_n S.xo 1 rfl dL_law_115 rfl ?_
  refine aw_iload S.xo 16 rfl dL_law_116 ?_
  refine aw_iconst (v := (0 : Int32)) S.xo dL_law_118 (by decide) ?_
  refine lw_cV (ce2 := ce) (sl2 := sl) S.xo 0 [.int (nI k), .int (0)] (r_k0 hG w hk) vw_X4_kettleOf cl_X4 (by decide) (by decide) tw_256 (s_X4_kettleOf _ _ _ (nI k) (0) I) ⟨by decide, by decide⟩ rfl rfl (Nat.le_of_ble_eq_true rfl) (Nat.le_refl _) (Nat.le_refl _) (by omega) (by omega) dL_law_119 ?_
  refine aw_istore (L2 := [(0, .ref (kgX (kgHs X) 3)), (1, .ref (kgO (kgHs X) 0)), (2, .int (v2)), (3, .int (nI (kgN s))), (4, .int (v4)), (5, .int (v5)), (6, .int (v6)), (7, .int (v7)), (8, .int (v8)), (9, .int (v9)), (10, .int (v10)), (11, .int (v11)), (12, .int (v12)), (13, .ref (o1)), (14, .ref (o2)), (15, .ref (o3)), (16, .int (nI k)), (17, .int (nI (s.1 6 k)))]) S.xo [1, 2, 3, 4, 5, 6, 7, 8, 9, 10, 11, 12, 13, 14, 15, 16, 17, 0] dL_law_122 (by decide) rfl ?_
  refine aw_aload_n S.xo 1 rfl dL_law_124 rfl ?_
  refine aw_iload S.xo 16 rfl dL_law_125 ?_
  refine aw_iconst (v := (1 : Int32)) S.xo dL_law_127 (by decide) ?_
  refine lw_cV (ce2 := ce) (sl2 := sl) S.xo 0 [.int (nI k), .int (1)] (r_k1 hG w hk) vw_X4_kettleOf cl_X4 (by decide) (by decide) tw_256 (s_X4_kettleOf _ _ _ (nI k) (1) I) ⟨by decide, by decide⟩ rfl rfl (Nat.le_of_ble_eq_true rfl) (Nat.le_refl _) (Nat.le_refl _) (by omega) (by omega) dL_law_128 ?_
  refine aw_istore (L2 := [(0, .ref (kgX (kgHs X) 3)), (1, .ref (kgO (kgHs X) 0)), (2, .int (v2)), (3, .int (nI (kgN s))), (4, .int (v4)), (5, .int (v5)), (6, .int (v6)), (7, .int (v7)), (8, .int (v8)), (9, .int (v9)), (10, .int (v10)), (11, .int (v11)), (12, .int (v12)), (13, .ref (o1)), (14, .ref (o2)), (15, .ref (o3)), (16, .int (nI k)), (17, .int (nI (s.1 6 k))), (18, .int (nI (s.1 7 k)))]) S.xo [1, 2, 3, 4, 5, 6, 7, 8, 9, 10, 11, 12, 13, 14, 15, 16, 17, 18, 0] dL_law_131 (by decide) rfl ?_
  refine aw_aload_n S.xo 1 rfl dL_law_133 rfl ?_
  refine aw_iload S.xo 16 rfl dL_law_134 ?_
  refine aw_iconst (v := (2 : Int32)) S.xo dL_law_136 (by decide) ?_
  refine lw_cV (ce2 := ce) (sl2 := sl) S.xo 0 [.int (nI k), .int (2)] (r_k2 hG w hk) vw_X4_kettleOf cl_X4 (by decide) (by decide) tw_256 (s_X4_kettleOf _ _ _ (nI k) (2) I) ⟨by decide, by decide⟩ rfl rfl (Nat.le_of_ble_eq_true rfl) (Nat.le_refl _) (Nat.le_refl _) (by omega) (by omega) dL_law_137 ?_
  refine aw_istore (L2 := [(0, .ref (kgX (kgHs X) 3)), (1, .ref (kgO (kgHs X) 0)), (2, .int (v2)), (3, .int (nI (kgN s))), (4, .int (v4)), (5, .int (v5)), (6, .int (v6)), (7, .int (v7)), (8, .int (v8)), (9, .int (v9)), (10, .int (v10)), (11, .int (v11)), (12, .int (v12)), (13, .ref (o1)), (14, .ref (o2)), (15, .ref (o3)), (16, .int (nI k)), (17, .int (nI (s.1 6 k))), (18, .int (nI (s.1 7 k))), (19, .int (nI (s.1 8 k)))]) S.xo [1, 2, 3, 4, 5, 6, 7, 8, 9, 10, 11, 12, 13, 14, 15, 16, 17, 18, 19, 0] dL_law_140 (by decide) rfl ?_
  refine aw_aload_n S.xo 1 rfl dL_law_142 rfl ?_
  refine aw_iload S.xo 16 rfl dL_law_143 ?_
  refine aw_iconst (v := (3 : Int32)) S.xo dL_law_145 (by decide) ?_
  refine lw_cV (ce2 := ce) (sl2 := sl) S.xo 0 [.int (nI k), .int (3)] (r_k3 hG w hk) vw_X4_kettleOf cl_X4 (by decide) (by decide) tw_256 (s_X4_kettleOf _ _ _ (nI k) (3) I) ⟨by decide, by decide⟩ rfl rfl (Nat.le_of_ble_eq_true rfl) (Nat.le_refl _) (Nat.le_refl _) (by omega) (by omega) dL_law_146 ?_
  refine aw_istore (L2 := [(0, .ref (kgX (kgHs X) 3)), (1, .ref (kgO (kgHs X) 0)), (2, .int (v2)), (3, .int (nI (kgN s))), (4, .int (v4)), (5, .int (v5)), (6, .int (v6)), (7, .int (v7)), (8, .int (v8)), (9, .int (v9)), (10, .int (v10)), (11, .int (v11)), (12, .int (v12)), (13, .ref (o1)), (14, .ref (o2)), (15, .ref (o3)), (16, .int (nI k)), (17, .int (nI (s.1 6 k))), (18, .int (nI (s.1 7 k))), (19, .int (nI (s.1 8 k))), (20, .int (nI (5 * s.1 9 k)))]) S.xo [1, 2, 3, 4, 5, 6, 7, 8, 9, 10, 11, 12, 13, 14, 15, 16, 17, 18, 19, 20, 0] dL_law_149 (by decide) rfl ?_
  refine aw_aload_n S.xo 1 rfl dL_law_151 rfl ?_
  refine aw_iload S.xo 16 rfl dL_law_152 ?_
  refine aw_iconst (v := (5 : Int32)) S.xo dL_law_154 (by decide) ?_
  refine lw_cV (ce2 := ce) (sl2 := sl) S.xo 0 [.int (nI k), .int (5)] (r_k5 hG w hk) vw_X4_kettleOf cl_X4 (by decide) (by decide) tw_256 (s_X4_kettleOf _ _ _ (nI k) (5) I) ⟨by decide, by decide⟩ rfl rfl (Nat.le_of_ble_eq_true rfl) (Nat.le_refl _) (Nat.le_refl _) (by omega) (by omega) dL_law_155 ?_
  refine aw_istore (L2 := [(0, .ref (kgX (kgHs X) 3)), (1, .ref (kgO (kgHs X) 0)), (2, .int (v2)), (3, .int (nI (kgN s))), (4, .int (v4)), (5, .int (v5)), (6, .int (v6)), (7, .int (v7)), (8, .int (v8)), (9, .int (v9)), (10, .int (v10)), (11, .int (v11)), (12, .int (v12)), (13, .ref (o1)), (14, .ref (o2)), (15, .ref (o3)), (16, .int (nI k)), (17, .int (nI (s.1 6 k))), (18, .int (nI (s.1 7 k))), (19, .int (nI (s.1 8 k))), (20, .int (nI (5 * s.1 9 k))), (21, .int (stI s k))]) S.xo [1, 2, 3, 4, 5, 6, 7, 8, 9, 10, 11, 12, 13, 14, 15, 16, 17, 18, 19, 20, 21, 0] dL_law_158 (by decide) rfl ?_
  refine aw_aload_n S.xo 1 rfl dL_law_160 rfl ?_
  refine aw_iload S.xo 16 rfl dL_law_161 ?_
  refine lw_cS (ce2 := ce) (sl2 := sl) S.xo [.ref (kgO (kgHs X) 0), .int (nI k)] (r_heat hG w hk) vw_L_heatUnder tw_770 (s_L_heatUnder _ _ _ _ _) ⟨by decide, by decide⟩ rfl rfl (Nat.le_of_ble_eq_true rfl) (Nat.le_refl _) (Nat.le_refl _) (by omega) (by omega) dL_law_163 ?_
  refine aw_istore (L2 := [(0, .ref (kgX (kgHs X) 3)), (1, .ref (kgO (kgHs X) 0)), (2, .int (v2)), (3, .int (nI (kgN s))), (4, .int (v4)), (5, .int (v5)), (6, .int (v6)), (7, .int (v7)), (8, .int (v8)), (9, .int (v9)), (10, .int (v10)), (11, .int (v11)), (12, .int (v12)), (13, .ref (o1)), (14, .ref (o2)), (15, .ref (o3)), (16, .int (nI k)), (17, .int (nI (s.1 6 k))), (18, .int (nI (s.1 7 k))), (19, .int (nI (s.1 8 k))), (20, .int (nI (5 * s.1 9 k))), (21, .int (stI s k)), (22, .int (nI (hU s k)))]) S.xo [1, 2, 3, 4, 5, 6, 7, 8, 9, 10, 11, 12, 13, 14, 15, 16, 17, 18, 19, 20, 21, 22, 0] dL_law_166 (by decide) rfl ?_
  refine aw_aload_n S.xo 1 rfl dL_law_168 rfl ?_
  refine aw_iload S.xo 16 rfl dL_law_169 ?_
  refine aw_bipush (v := (8 : Int32)) S.xo dL_law_171 (by decide) ?_
  refine lw_cV (ce2 := ce) (sl2 := sl) S.xo 0 [.int (nI k), .int (8)] (r_k8 hG w hk) vw_X4_kettleOf cl_X4 (by decide) (by decide) tw_256 (s_X4_kettleOf _ _ _ (nI k) (8) I) ⟨by decide, by decide⟩ rfl rfl (Nat.le_of_ble_eq_true rfl) (Nat.le_refl _) (Nat.le_refl _) (by omega) (by omega) dL_law_173 ?_
  refine aw_istore (L2 := [(0, .ref (kgX (kgHs X) 3)), (1, .ref (kgO (kgHs X) 0)), (2, .int (v2)), (3, .int (nI (kgN s))), (4, .int (v4)), (5, .int (v5)), (6, .int (v6)), (7, .int (v7)), (8, .int (v8)), (9, .int (v9)), (10, .int (v10)), (11, .int (v11)), (12, .int (v12)), (13, .ref (o1)), (14, .ref (o2)), (15, .ref (o3)), (16, .int (nI k)), (17, .int (nI (s.1 6 k))), (18, .int (nI (s.1 7 k))), (19, .int (nI (s.1 8 k))), (20, .int (nI (5 * s.1 9 k))), (21, .int (stI s k)), (22, .int (nI (hU s k))), (23, .int (nI (s.1 11 k)))]) S.xo [1, 2, 3, 4, 5, 6, 7, 8, 9, 10, 11, 12, 13, 14, 15, 16, 17, 18, 19, 20, 21, 22, 23, 0] dL_law_176 (by decide) rfl ?_
  suffices k195 : AW (kgXs X xt) 31 ce sl none (some ()) 195 [(0, .ref (kgX (kgHs X) 3)), (1, .ref (kgO (kgHs X) 0)), (2, .int (v2)), (3, .int (nI (kgN s))), (4, .int (v4)), (5, .int (v5)), (6, .int (v6)), (7, .int (v7)), (8, .int (v8)), (9, .int (v9)), (10, .int (v10)), (11, .int (v11)), (12, .int (v12)), (13, .ref (o1)), (14, .ref (o2)), (15, .ref (o3)), (16, .int (nI k)), (17, .int (nI (s.1 6 k))), (18, .int (nI (s.1 7 k))), (19, .int (nI (s.1 8 k))), (20, .int (nI (5 * s.1 9 k))), (21, .int (stI s k)), (22, .int (nI (hU s k))), (23, .int (nI (s.1 11 k)))] [.int (b2i (bo s k))] I from (by
    by_cases c1 : 0 < hU s k
    · by_cases c2 : s.1 9 k = 20
      · refine aw_iload S.xo 22 rfl dL_law_178 ?_
        refine aw_if_leF (tgt := 194) (y := 0) S.xo dL_law_180 (by decide) (nI_nle c1 (by omega)) ?_
        refine aw_iload S.xo 20 rfl dL_law_183 ?_
        refine aw_bipush (v := (100 : Int32)) S.xo dL_law_185 (by decide) ?_
        refine aw_icmp_neF (tgt := 194) S.xo dL_law_187 (by decide) (by rw [c2]; rfl) ?_
        refine aw_iconst (v := (1 : Int32)) S.xo dL_law_190 (by decide) ?_
        refine aw_goto (tgt := 195) S.xo dL_law_191 (by decide) ?_
        refine aw_eqi (y := b2i (bo s k)) (by unfold bo; rw [decide_eq_true c1, decide_eq_true c2]; rfl) ?_
        exact k195
      · refine aw_iload S.xo 22 rfl dL_law_178 ?_
        refine aw_if_leF (tgt := 194) (y := 0) S.xo dL_law_180 (by decide) (nI_nle c1 (by omega)) ?_
        refine aw_iload S.xo 20 rfl dL_law_183 ?_
        refine aw_bipush (v := (100 : Int32)) S.xo dL_law_185 (by decide) ?_
        refine aw_icmp_neT (tgt := 194) S.xo dL_law_187 (by decide) (fun z => c2 (by have := (nI_eq (a := 5 * s.1 9 k) (b := 100) (by omega) (by omega)).mp z; omega)) ?_
        refine aw_iconst (v := (0 : Int32)) S.xo dL_law_194 (by decide) ?_
        refine aw_eqi (y := b2i (bo s k)) (by unfold bo; rw [decide_eq_false c2, Bool.and_false]; rfl) ?_
        exact k195
    · refine aw_iload S.xo 22 rfl dL_law_178 ?_
      refine aw_if_leT (tgt := 194) (y := 0) S.xo dL_law_180 (by decide) (nI_le (b := 0) (by omega) (by omega)) ?_
      refine aw_iconst (v := (0 : Int32)) S.xo dL_law_194 (by decide) ?_
      refine aw_eqi (y := b2i (bo s k)) (by unfold bo; rw [decide_eq_false c1, Bool.false_and]; rfl) ?_
      exact k195)
  refine aw_istore (L2 := [(0, .ref (kgX (kgHs X) 3)), (1, .ref (kgO (kgHs X) 0)), (2, .int (v2)), (3, .int (nI (kgN s))), (4, .int (v4)), (5, .int (v5)), (6, .int (v6)), (7, .int (v7)), (8, .int (v8)), (9, .int (v9)), (10, .int (v10)), (11, .int (v11)), (12, .int (v12)), (13, .ref (o1)), (14, .ref (o2)), (15, .ref (o3)), (16, .int (nI k)), (17, .int (nI (s.1 6 k))), (18, .int (nI (s.1 7 k))), (19, .int (nI (s.1 8 k))), (20, .int (nI (5 * s.1 9 k))), (21, .int (stI s k)), (22, .int (nI (hU s k))), (23, .int (nI (s.1 11 k))), (24, .int (b2i (bo s k)))]) S.xo [1, 2, 3, 4, 5, 6, 7, 8, 9, 10, 11, 12, 13, 14, 15, 16, 17, 18, 19, 20, 21, 22, 23, 24, 0] dL_law_195 (by decide) rfl ?_
  suffices k223 : AW (kgXs X xt) 31 ce sl none (some ()) 223 [(0, .ref (kgX (kgHs X) 3)), (1, .ref (kgO (kgHs X) 0)), (2, .int (v2)), (3, .int (nI (kgN s))), (4, .int (v4)), (5, .int (v5)), (6, .int (v6)), (7, .int (v7)), (8, .int (v8)), (9, .int (v9)), (10, .int (v10)), (11, .int (v11)), (12, .int (v12)), (13, .ref (o1)), (14, .ref (o2)), (15, .ref (o3)), (16, .int (nI k)), (17, .int (nI (s.1 6 k))), (18, .int (nI (s.1 7 k))), (19, .int (nI (s.1 8 k))), (20, .int (nI (5 * s.1 9 k))), (21, .int (stI s k)), (22, .int (nI (hU s k))), (23, .int (nI (s.1 11 k))), (24, .int (b2i (bo s k)))] [.int (b2i (wh s k))] I from (by
    by_cases c1 : bo s k = true
    · by_cases c2 : 0 < s.1 8 k
      · by_cases c3 : s.1 12 k = 1
        · refine aw_iload S.xo 24 rfl dL_law_197 ?_
          refine aw_if_eqF (tgt := 222) (y := 0) S.xo dL_law_199 (by decide) (b2i_n0 c1) ?_
          refine aw_iload S.xo 19 rfl dL_law_202 ?_
          refine aw_if_leF (tgt := 222) (y := 0) S.xo dL_law_204 (by decide) (nI_nle c2 (by omega)) ?_
          refine aw_aload_n S.xo 1 rfl dL_law_207 rfl ?_
          refine aw_iload S.xo 16 rfl dL_law_208 ?_
          refine aw_iconst (v := (4 : Int32)) S.xo dL_law_210 (by decide) ?_
          refine lw_cV (ce2 := ce) (sl2 := sl) S.xo 0 [.int (nI k), .int (4)] (r_k4 hG w hk) vw_X4_kettleOf cl_X4 (by decide) (by decide) tw_256 (s_X4_kettleOf _ _ _ (nI k) (4) I) ⟨by decide, by decide⟩ rfl rfl (Nat.le_of_ble_eq_true rfl) (Nat.le_refl _) (Nat.le_refl _) (by omega) (by omega) dL_law_211 ?_
          refine aw_iconst (v := (1 : Int32)) S.xo dL_law_214 (by decide) ?_
          refine aw_icmp_neF (tgt := 222) S.xo dL_law_215 (by decide) (by rw [c3]; rfl) ?_
          refine aw_iconst (v := (1 : Int32)) S.xo dL_law_218 (by decide) ?_
          refine aw_goto (tgt := 223) S.xo dL_law_219 (by decide) ?_
          refine aw_eqi (y := b2i (wh s k)) (by unfold wh; rw [c1, decide_eq_true c2, decide_eq_true c3]; rfl) ?_
          exact k223
        · refine aw_iload S.xo 24 rfl dL_law_197 ?_
          refine aw_if_eqF (tgt := 222) (y := 0) S.xo dL_law_199 (by decide) (b2i_n0 c1) ?_
          refine aw_iload S.xo 19 rfl dL_law_202 ?_
          refine aw_if_leF (tgt := 222) (y := 0) S.xo dL_law_204 (by decide) (nI_nle c2 (by omega)) ?_
          refine aw_aload_n S.xo 1 rfl dL_law_207 rfl ?_
          refine aw_iload S.xo 16 rfl dL_law_208 ?_
          refine aw_iconst (v := (4 : Int32)) S.xo dL_law_210 (by decide) ?_
          refine lw_cV (ce2 := ce) (sl2 := sl) S.xo 0 [.int (nI k), .int (4)] (r_k4 hG w hk) vw_X4_kettleOf cl_X4 (by decide) (by decide) tw_256 (s_X4_kettleOf _ _ _ (nI k) (4) I) ⟨by decide, by decide⟩ rfl rfl (Nat.le_of_ble_eq_true rfl) (Nat.le_refl _) (Nat.le_refl _) (by omega) (by omega) dL_law_211 ?_
          refine aw_iconst (v := (1 : Int32)) S.xo dL_law_214 (by decide) ?_
          refine aw_icmp_neT (tgt := 222) S.xo dL_law_215 (by decide) (fun z => c3 ((nI_eq (b := 1) (by omega) (by omega)).mp z)) ?_
          refine aw_iconst (v := (0 : Int32)) S.xo dL_law_222 (by decide) ?_
          refine aw_eqi (y := b2i (wh s k)) (by unfold wh; rw [decide_eq_false c3, Bool.and_false, Bool.and_false]; rfl) ?_
          exact k223
      · refine aw_iload S.xo 24 rfl dL_law_197 ?_
        refine aw_if_eqF (tgt := 222) (y := 0) S.xo dL_law_199 (by decide) (b2i_n0 c1) ?_
        refine aw_iload S.xo 19 rfl dL_law_202 ?_
        refine aw_if_leT (tgt := 222) (y := 0) S.xo dL_law_204 (by decide) (nI_le (b := 0) (by omega) (by omega)) ?_
        refine aw_iconst (v := (0 : Int32)) S.xo dL_law_222 (by decide) ?_
        refine aw_eqi (y := b2i (wh s k)) (by unfold wh; rw [decide_eq_false c2, Bool.false_and, Bool.and_false]; rfl) ?_
        exact k223
    · refine aw_iload S.xo 24 rfl dL_law_197 ?_
      refine aw_if_eqT (tgt := 222) (y := 0) S.xo dL_law_199 (by decide) (b2i_z c1) ?_
      refine aw_iconst (v := (0 : Int32)) S.xo dL_law_222 (by decide) ?_
      refine aw_eqi (y := b2i (wh s k)) (by unfold wh; rw [Bool.eq_false_iff.mpr c1]; rfl) ?_
      exact k223)
  refine aw_istore (L2 := [(0, .ref (kgX (kgHs X) 3)), (1, .ref (kgO (kgHs X) 0)), (2, .int (v2)), (3, .int (nI (kgN s))), (4, .int (v4)), (5, .int (v5)), (6, .int (v6)), (7, .int (v7)), (8, .int (v8)), (9, .int (v9)), (10, .int (v10)), (11, .int (v11)), (12, .int (v12)), (13, .ref (o1)), (14, .ref (o2)), (15, .ref (o3)), (16, .int (nI k)), (17, .int (nI (s.1 6 k))), (18, .int (nI (s.1 7 k))), (19, .int (nI (s.1 8 k))), (20, .int (nI (5 * s.1 9 k))), (21, .int (stI s k)), (22, .int (nI (hU s k))), (23, .int (nI (s.1 11 k))), (24, .int (b2i (bo s k))), (25, .int (b2i (wh s k)))]) S.xo [1, 2, 3, 4, 5, 6, 7, 8, 9, 10, 11, 12, 13, 14, 15, 16, 17, 18, 19, 20, 21, 22, 23, 24, 25, 0] dL_law_223 (by decide) rfl ?_
  exact kk
set_option maxHeartbeats 4000000 in
set_option maxRecDepth 100000 in
theorem lk_2 {X : kgCX Unit} (S : Cx X cL_law RL 31 12 446 929218 6314595) {s : kgS} {I : kgM} {ce sl : Nat} (hce : ce ≤ 929218) (hsl : sl ≤ 6314595) (hG : RepG I 1 s) (w : kgWF s) {k : Nat} (hk : k < kgN s) {v2 v4 v5 v6 v7 v8 v9 v10 v11 v12 : Int32} {o1 o2 o3 : Nat} {f1 : Nat → Int32}
    (kk : AW (kgXs X [arc (kgHs X) o1 f1, arc (kgHs X) o2 (kF s (k + 1)), arc (kgHs X) o3 (wF s (k + 1))]) 31 ce sl none (some ()) 349 [(0, .ref (kgX (kgHs X) 3)), (1, .ref (kgO (kgHs X) 0)), (2, .int (v2)), (3, .int (nI (kgN s))), (4, .int (nI (cnt (k + 1) (fun k => decide (s.1 10 k ≠ 0))))), (5, .int (nI (cnt (k + 1) (bo s)))), (6, .int (nI (smN (k + 1) (s.1 12)))), (7, .int (v7)), (8, .int (nI (smN (k + 1) (s.1 8)))), (9, .int (nI (orf (k + 1) (wh s) (fun k => k)))), (10, .int (v10)), (11, .int (v11)), (12, .int (v12)), (13, .ref (o1)), (14, .ref (o2)), (15, .ref (o3)), (16, .int (nI k)), (17, .int (nI (s.1 6 k))), (18, .int (nI (s.1 7 k))), (19, .int (nI (s.1 8 k))), (20, .int (nI (5 * s.1 9 k))), (21, .int (stI s k)), (22, .int (nI (hU s k))), (23, .int (nI (s.1 11 k))), (24, .int (b2i (bo s k))), (25, .int (b2i (wh s k))), (26, .int (bmI (hU s k) (s.1 9 k)))] [] I) : AW (kgXs X [arc (kgHs X) o1 f1, arc (kgHs X) o2 (kF s k), arc (kgHs X) o3 (wF s k)]) 31 ce sl none (some ()) 225 [(0, .ref (kgX (kgHs X) 3)), (1, .ref (kgO (kgHs X) 0)), (2, .int (v2)), (3, .int (nI (kgN s))), (4, .int (nI (cnt k (fun k => decide (s.1 10 k ≠ 0))))), (5, .int (nI (cnt k (bo s)))), (6, .int (nI (smN k (s.1 12)))), (7, .int (v7)), (8, .int (nI (smN k (s.1 8)))), (9, .int (nI (orf k (wh s) (fun k => k)))), (10, .int (v10)), (11, .int (v11)), (12, .int (v12)), (13, .ref (o1)), (14, .ref (o2)), (15, .ref (o3)), (16, .int (nI k)), (17, .int (nI (s.1 6 k))), (18, .int (nI (s.1 7 k))), (19, .int (nI (s.1 8 k))), (20, .int (nI (5 * s.1 9 k))), (21, .int (stI s k)), (22, .int (nI (hU s k))), (23, .int (nI (s.1 11 k))), (24, .int (b2i (bo s k))), (25, .int (b2i (wh s k)))] [] I := by
  have hn := w.1
  have b := w.2.2.2.1 k hk
  have hh := hU_le w hk
  refine aw_iload S.xo 4 rfl dL_law_225 ?_
  suffices k237 : AW (kgXs X [arc (kgHs X) o1 f1, arc (kgHs X) o2 (kF s k), arc (kgHs X) o3 (wF s k)]) 31 ce sl none (some ()) 237 [(0, .ref (kgX (kgHs X) 3)), (1, .ref (kgO (kgHs X) 0)), (2, .int (v2)), (3, .int (nI (kgN s))), (4, .int (nI (cnt k (fun k => decide (s.1 10 k ≠ 0))))), (5, .int (nI (cnt k (bo s)))), (6, .int (nI (smN k (s.1 12)))), (7, .int (v7)), (8, .int (nI (smN k (s.1 8)))), (9, .int (nI (orf k (wh s) (fun k => k)))), (10, .int (v10)), (11, .int (v11)), (12, .int (v12)), (13, .ref (o1)), (14, .ref (o2)), (15, .ref (o3)), (16, .int (nI k)), (17, .int (nI (s.1 6 k))), (18, .int (nI (s.1 7 k))), (19, .int (nI (s.1 8 k))), (20, .int (nI (5 * s.1 9 k))), (21, .int (stI s k)), (22, .int (nI (hU s k))), (23, .int (nI (s.1 11 k))), (24, .int (b2i (bo s k))), (25, .int (b2i (wh s k)))] [.int (b2i (decide (s.1 10 k ≠ 0))), .int (nI (cnt k (fun k => decide (s.1 10 k ≠ 0))))] I from (by
    by_cases c1 : s.1 10 k = 0
    · refine aw_iload S.xo 21 rfl dL_law_227 ?_
      refine aw_if_ltT (tgt := 236) (y := 0) S.xo dL_law_229 (by decide) (by unfold stI; rw [if_pos c1]; decide) ?_
      refine aw_iconst (v := (0 : Int32)) S.xo dL_law_236 (by decide) ?_
      refine aw_eqi (y := b2i (decide (s.1 10 k ≠ 0))) (by rw [decide_eq_false (by omega)]; rfl) ?_
      exact k237
    · refine aw_iload S.xo 21 rfl dL_law_227 ?_
      refine aw_if_ltF (tgt := 236) (y := 0) S.xo dL_law_229 (by decide) (by unfold stI; rw [if_neg c1]; exact nI_pos (by omega)) ?_
      refine aw_iconst (v := (1 : Int32)) S.xo dL_law_232 (by decide) ?_
      refine aw_goto (tgt := 237) S.xo dL_law_233 (by decide) ?_
      refine aw_eqi (y := b2i (decide (s.1 10 k ≠ 0))) (by rw [decide_eq_true c1]; rfl) ?_
      exact k237)
  refine aw_iadd S.xo dL_law_237 ?_
  refine aw_eqi (y := nI (cnt (k + 1) (fun k => decide (s.1 10 k ≠ 0)))) (cnt_b k (fun k => decide (s.1 10 k ≠ 0))) ?_
  refine aw_istore (L2 := [(0, .ref (kgX (kgHs X) 3)), (1, .ref (kgO (kgHs X) 0)), (2, .int (v2)), (3, .int (nI (kgN s))), (4, .int (nI (cnt (k + 1) (fun k => decide (s.1 10 k ≠ 0))))), (5, .int (nI (cnt k (bo s)))), (6, .int (nI (smN k (s.1 12)))), (7, .int (v7)), (8, .int (nI (smN k (s.1 8)))), (9, .int (nI (orf k (wh s) (fun k => k)))), (10, .int (v10)), (11, .int (v11)), (12, .int (v12)), (13, .ref (o1)), (14, .ref (o2)), (15, .ref (o3)), (16, .int (nI k)), (17, .int (nI (s.1 6 k))), (18, .int (nI (s.1 7 k))), (19, .int (nI (s.1 8 k))), (20, .int (nI (5 * s.1 9 k))), (21, .int (stI s k)), (22, .int (nI (hU s k))), (23, .int (nI (s.1 11 k))), (24, .int (b2i (bo s k))), (25, .int (b2i (wh s k)))]) S.xo [1, 2, 3, 4, 0, 5, 6, 7, 8, 9, 10, 11, 12, 13, 14, 15, 16, 17, 18, 19, 20, 21, 22, 23, 24, 25] dL_law_238 (by decide) rfl ?_
  refine aw_iload S.xo 5 rfl dL_law_240 ?_
  suffices k252 : AW (kgXs X [arc (kgHs X) o1 f1, arc (kgHs X) o2 (kF s k), arc (kgHs X) o3 (wF s k)]) 31 ce sl none (some ()) 252 [(0, .ref (kgX (kgHs X) 3)), (1, .ref (kgO (kgHs X) 0)), (2, .int (v2)), (3, .int (nI (kgN s))), (4, .int (nI (cnt (k + 1) (fun k => decide (s.1 10 k ≠ 0))))), (5, .int (nI (cnt k (bo s)))), (6, .int (nI (smN k (s.1 12)))), (7, .int (v7)), (8, .int (nI (smN k (s.1 8)))), (9, .int (nI (orf k (wh s) (fun k => k)))), (10, .int (v10)), (11, .int (v11)), (12, .int (v12)), (13, .ref (o1)), (14, .ref (o2)), (15, .ref (o3)), (16, .int (nI k)), (17, .int (nI (s.1 6 k))), (18, .int (nI (s.1 7 k))), (19, .int (nI (s.1 8 k))), (20, .int (nI (5 * s.1 9 k))), (21, .int (stI s k)), (22, .int (nI (hU s k))), (23, .int (nI (s.1 11 k))), (24, .int (b2i (bo s k))), (25, .int (b2i (wh s k)))] [.int (b2i (bo s k)), .int (nI (cnt k (bo s)))] I from (by
    by_cases c1 : bo s k = true
    · refine aw_iload S.xo 24 rfl dL_law_242 ?_
      refine aw_if_eqF (tgt := 251) (y := 0) S.xo dL_law_244 (by decide) (b2i_n0 c1) ?_
      refine aw_iconst (v := (1 : Int32)) S.xo dL_law_247 (by decide) ?_
      refine aw_goto (tgt := 252) S.xo dL_law_248 (by decide) ?_
      refine aw_eqi (y := b2i (bo s k)) (by rw [c1]; rfl) ?_
      exact k252
    · refine aw_iload S.xo 24 rfl dL_law_242 ?_
      refine aw_if_eqT (tgt := 251) (y := 0) S.xo dL_law_244 (by decide) (b2i_z c1) ?_
      refine aw_iconst (v := (0 : Int32)) S.xo dL_law_251 (by decide) ?_
      refine aw_eqi (y := b2i (bo s k)) ((b2i_z c1).symm) ?_
      exact k252)
  refine aw_iadd S.xo dL_law_252 ?_
  refine aw_eqi (y := nI (cnt (k + 1) (bo s))) (cnt_b k (bo s)) ?_
  refine aw_istore (L2 := [(0, .ref (kgX (kgHs X) 3)), (1, .ref (kgO (kgHs X) 0)), (2, .int (v2)), (3, .int (nI (kgN s))), (4, .int (nI (cnt (k + 1) (fun k => decide (s.1 10 k ≠ 0))))), (5, .int (nI (cnt (k + 1) (bo s)))), (6, .int (nI (smN k (s.1 12)))), (7, .int (v7)), (8, .int (nI (smN k (s.1 8)))), (9, .int (nI (orf k (wh s) (fun k => k)))), (10, .int (v10)), (11, .int (v11)), (12, .int (v12)), (13, .ref (o1)), (14, .ref (o2)), (15, .ref (o3)), (16, .int (nI k)), (17, .int (nI (s.1 6 k))), (18, .int (nI (s.1 7 k))), (19, .int (nI (s.1 8 k))), (20, .int (nI (5 * s.1 9 k))), (21, .int (stI s k)), (22, .int (nI (hU s k))), (23, .int (nI (s.1 11 k))), (24, .int (b2i (bo s k))), (25, .int (b2i (wh s k)))]) S.xo [1, 2, 3, 4, 5, 0, 6, 7, 8, 9, 10, 11, 12, 13, 14, 15, 16, 17, 18, 19, 20, 21, 22, 23, 24, 25] dL_law_253 (by decide) rfl ?_
  refine aw_iload S.xo 6 rfl dL_law_255 ?_
  refine aw_aload_n S.xo 1 rfl dL_law_257 rfl ?_
  refine aw_iload S.xo 16 rfl dL_law_258 ?_
  refine aw_iconst (v := (4 : Int32)) S.xo dL_law_260 (by decide) ?_
  refine lw_cV (ce2 := ce) (sl2 := sl) S.xo 0 [.int (nI k), .int (4)] (r_k4 hG w hk) vw_X4_kettleOf cl_X4 (by decide) (by decide) tw_256 (s_X4_kettleOf _ _ _ (nI k) (4) I) ⟨by decide, by decide⟩ rfl rfl (Nat.le_of_ble_eq_true rfl) (Nat.le_refl _) (Nat.le_refl _) (by omega) (by omega) dL_law_261 ?_
  refine aw_iadd S.xo dL_law_264 ?_
  refine aw_eqi (y := nI (smN (k + 1) (s.1 12))) (nI_add _ _) ?_
  refine aw_istore (L2 := [(0, .ref (kgX (kgHs X) 3)), (1, .ref (kgO (kgHs X) 0)), (2, .int (v2)), (3, .int (nI (kgN s))), (4, .int (nI (cnt (k + 1) (fun k => decide (s.1 10 k ≠ 0))))), (5, .int (nI (cnt (k + 1) (bo s)))), (6, .int (nI (smN (k + 1) (s.1 12)))), (7, .int (v7)), (8, .int (nI (smN k (s.1 8)))), (9, .int (nI (orf k (wh s) (fun k => k)))), (10, .int (v10)), (11, .int (v11)), (12, .int (v12)), (13, .ref (o1)), (14, .ref (o2)), (15, .ref (o3)), (16, .int (nI k)), (17, .int (nI (s.1 6 k))), (18, .int (nI (s.1 7 k))), (19, .int (nI (s.1 8 k))), (20, .int (nI (5 * s.1 9 k))), (21, .int (stI s k)), (22, .int (nI (hU s k))), (23, .int (nI (s.1 11 k))), (24, .int (b2i (bo s k))), (25, .int (b2i (wh s k)))]) S.xo [1, 2, 3, 4, 5, 6, 0, 7, 8, 9, 10, 11, 12, 13, 14, 15, 16, 17, 18, 19, 20, 21, 22, 23, 24, 25] dL_law_265 (by decide) rfl ?_
  refine aw_iload S.xo 8 rfl dL_law_267 ?_
  refine aw_iload S.xo 19 rfl dL_law_269 ?_
  refine aw_iadd S.xo dL_law_271 ?_
  refine aw_eqi (y := nI (smN (k + 1) (s.1 8))) (nI_add _ _) ?_
  refine aw_istore (L2 := [(0, .ref (kgX (kgHs X) 3)), (1, .ref (kgO (kgHs X) 0)), (2, .int (v2)), (3, .int (nI (kgN s))), (4, .int (nI (cnt (k + 1) (fun k => decide (s.1 10 k ≠ 0))))), (5, .int (nI (cnt (k + 1) (bo s)))), (6, .int (nI (smN (k + 1) (s.1 12)))), (7, .int (v7)), (8, .int (nI (smN (k + 1) (s.1 8)))), (9, .int (nI (orf k (wh s) (fun k => k)))), (10, .int (v10)), (11, .int (v11)), (12, .int (v12)), (13, .ref (o1)), (14, .ref (o2)), (15, .ref (o3)), (16, .int (nI k)), (17, .int (nI (s.1 6 k))), (18, .int (nI (s.1 7 k))), (19, .int (nI (s.1 8 k))), (20, .int (nI (5 * s.1 9 k))), (21, .int (stI s k)), (22, .int (nI (hU s k))), (23, .int (nI (s.1 11 k))), (24, .int (b2i (bo s k))), (25, .int (b2i (wh s k)))]) S.xo [1, 2, 3, 4, 5, 6, 7, 8, 0, 9, 10, 11, 12, 13, 14, 15, 16, 17, 18, 19, 20, 21, 22, 23, 24, 25] dL_law_272 (by decide) rfl ?_
  refine aw_aload S.xo 14 rfl dL_law_274 ?_
  refine aw_iload S.xo 17 rfl dL_law_276 ?_
  refine aw_dup2 S.xo dL_law_278 rfl rfl ?_
  refine lw_xld (f := kF s k) (j := s.1 6 k) S 1 rfl (b.1) dL_law_279 ?_
  refine aw_iconst (v := (1 : Int32)) S.xo dL_law_280 (by decide) ?_
  refine aw_iadd S.xo dL_law_281 ?_
  refine lw_xst (f := kF s k) (j := s.1 6 k) S 1 rfl (b.1) dL_law_282 ?_
  refine aw_xeq (xt2 := [arc (kgHs X) o1 f1, arc (kgHs X) o2 (kF s (k + 1)), arc (kgHs X) o3 (wF s k)]) (congrArg (fun z => [arc (kgHs X) o1 f1, arc (kgHs X) o2 z, arc (kgHs X) o3 (wF s k)]) (kF_s k)) ?_
  refine aw_aload S.xo 15 rfl dL_law_283 ?_
  refine aw_iload S.xo 17 rfl dL_law_285 ?_
  refine aw_dup2 S.xo dL_law_287 rfl rfl ?_
  refine lw_xld (f := wF s k) (j := s.1 6 k) S 2 rfl (b.1) dL_law_288 ?_
  suffices k299 : AW (kgXs X [arc (kgHs X) o1 f1, arc (kgHs X) o2 (kF s (k + 1)), arc (kgHs X) o3 (wF s k)]) 31 ce sl none (some ()) 299 [(0, .ref (kgX (kgHs X) 3)), (1, .ref (kgO (kgHs X) 0)), (2, .int (v2)), (3, .int (nI (kgN s))), (4, .int (nI (cnt (k + 1) (fun k => decide (s.1 10 k ≠ 0))))), (5, .int (nI (cnt (k + 1) (bo s)))), (6, .int (nI (smN (k + 1) (s.1 12)))), (7, .int (v7)), (8, .int (nI (smN (k + 1) (s.1 8)))), (9, .int (nI (orf k (wh s) (fun k => k)))), (10, .int (v10)), (11, .int (v11)), (12, .int (v12)), (13, .ref (o1)), (14, .ref (o2)), (15, .ref (o3)), (16, .int (nI k)), (17, .int (nI (s.1 6 k))), (18, .int (nI (s.1 7 k))), (19, .int (nI (s.1 8 k))), (20, .int (nI (5 * s.1 9 k))), (21, .int (stI s k)), (22, .int (nI (hU s k))), (23, .int (nI (s.1 11 k))), (24, .int (b2i (bo s k))), (25, .int (b2i (wh s k)))] [.int (b2i (wh s k)), .int ((wF s k) (s.1 6 k)), .int (nI (s.1 6 k)), .ref (o3)] I from (by
    by_cases c1 : wh s k = true
    · refine aw_iload S.xo 25 rfl dL_law_289 ?_
      refine aw_if_eqF (tgt := 298) (y := 0) S.xo dL_law_291 (by decide) (b2i_n0 c1) ?_
      refine aw_iconst (v := (1 : Int32)) S.xo dL_law_294 (by decide) ?_
      refine aw_goto (tgt := 299) S.xo dL_law_295 (by decide) ?_
      refine aw_eqi (y := b2i (wh s k)) (by rw [c1]; rfl) ?_
      exact k299
    · refine aw_iload S.xo 25 rfl dL_law_289 ?_
      refine aw_if_eqT (tgt := 298) (y := 0) S.xo dL_law_291 (by decide) (b2i_z c1) ?_
      refine aw_iconst (v := (0 : Int32)) S.xo dL_law_298 (by decide) ?_
      refine aw_eqi (y := b2i (wh s k)) ((b2i_z c1).symm) ?_
      exact k299)
  refine aw_iadd S.xo dL_law_299 ?_
  refine lw_xst (f := wF s k) (j := s.1 6 k) S 2 rfl (b.1) dL_law_300 ?_
  refine aw_xeq (xt2 := [arc (kgHs X) o1 f1, arc (kgHs X) o2 (kF s (k + 1)), arc (kgHs X) o3 (wF s (k + 1))]) (congrArg (fun z => [arc (kgHs X) o1 f1, arc (kgHs X) o2 (kF s (k + 1)), arc (kgHs X) o3 z]) (wF_s k)) ?_
  refine aw_iload S.xo 9 rfl dL_law_301 ?_
  suffices k316 : AW (kgXs X [arc (kgHs X) o1 f1, arc (kgHs X) o2 (kF s (k + 1)), arc (kgHs X) o3 (wF s (k + 1))]) 31 ce sl none (some ()) 316 [(0, .ref (kgX (kgHs X) 3)), (1, .ref (kgO (kgHs X) 0)), (2, .int (v2)), (3, .int (nI (kgN s))), (4, .int (nI (cnt (k + 1) (fun k => decide (s.1 10 k ≠ 0))))), (5, .int (nI (cnt (k + 1) (bo s)))), (6, .int (nI (smN (k + 1) (s.1 12)))), (7, .int (v7)), (8, .int (nI (smN (k + 1) (s.1 8)))), (9, .int (nI (orf k (wh s) (fun k => k)))), (10, .int (v10)), (11, .int (v11)), (12, .int (v12)), (13, .ref (o1)), (14, .ref (o2)), (15, .ref (o3)), (16, .int (nI k)), (17, .int (nI (s.1 6 k))), (18, .int (nI (s.1 7 k))), (19, .int (nI (s.1 8 k))), (20, .int (nI (5 * s.1 9 k))), (21, .int (stI s k)), (22, .int (nI (hU s k))), (23, .int (nI (s.1 11 k))), (24, .int (b2i (bo s k))), (25, .int (b2i (wh s k)))] [.int (if wh s k = true then nI (2 ^ k) else 0), .int (nI (orf k (wh s) (fun k => k)))] I from (by
    by_cases c1 : wh s k = true
    · refine aw_iload S.xo 25 rfl dL_law_303 ?_
      refine aw_if_eqF (tgt := 315) (y := 0) S.xo dL_law_305 (by decide) (b2i_n0 c1) ?_
      refine aw_iconst (v := (1 : Int32)) S.xo dL_law_308 (by decide) ?_
      refine aw_iload S.xo 16 rfl dL_law_309 ?_
      refine aw_ishl S.xo dL_law_311 ?_
      refine aw_goto (tgt := 316) S.xo dL_law_312 (by decide) ?_
      refine aw_eqi (y := if wh s k = true then nI (2 ^ k) else 0) (by rw [if_pos c1]; exact kl_shl1 (by omega)) ?_
      exact k316
    · refine aw_iload S.xo 25 rfl dL_law_303 ?_
      refine aw_if_eqT (tgt := 315) (y := 0) S.xo dL_law_305 (by decide) (b2i_z c1) ?_
      refine aw_iconst (v := (0 : Int32)) S.xo dL_law_315 (by decide) ?_
      refine aw_eqi (y := if wh s k = true then nI (2 ^ k) else 0) (by rw [if_neg c1]) ?_
      exact k316)
  refine aw_ior S.xo dL_law_316 ?_
  refine aw_eqi (y := nI (orf (k + 1) (wh s) (fun k => k))) ((wK_s k).symm) ?_
  refine aw_istore (L2 := [(0, .ref (kgX (kgHs X) 3)), (1, .ref (kgO (kgHs X) 0)), (2, .int (v2)), (3, .int (nI (kgN s))), (4, .int (nI (cnt (k + 1) (fun k => decide (s.1 10 k ≠ 0))))), (5, .int (nI (cnt (k + 1) (bo s)))), (6, .int (nI (smN (k + 1) (s.1 12)))), (7, .int (v7)), (8, .int (nI (smN (k + 1) (s.1 8)))), (9, .int (nI (orf (k + 1) (wh s) (fun k => k)))), (10, .int (v10)), (11, .int (v11)), (12, .int (v12)), (13, .ref (o1)), (14, .ref (o2)), (15, .ref (o3)), (16, .int (nI k)), (17, .int (nI (s.1 6 k))), (18, .int (nI (s.1 7 k))), (19, .int (nI (s.1 8 k))), (20, .int (nI (5 * s.1 9 k))), (21, .int (stI s k)), (22, .int (nI (hU s k))), (23, .int (nI (s.1 11 k))), (24, .int (b2i (bo s k))), (25, .int (b2i (wh s k)))]) S.xo [1, 2, 3, 4, 5, 6, 7, 8, 9, 0, 10, 11, 12, 13, 14, 15, 16, 17, 18, 19, 20, 21, 22, 23, 24, 25] dL_law_317 (by decide) rfl ?_
  suffices k347 : AW (kgXs X [arc (kgHs X) o1 f1, arc (kgHs X) o2 (kF s (k + 1)), arc (kgHs X) o3 (wF s (k + 1))]) 31 ce sl none (some ()) 347 [(0, .ref (kgX (kgHs X) 3)), (1, .ref (kgO (kgHs X) 0)), (2, .int (v2)), (3, .int (nI (kgN s))), (4, .int (nI (cnt (k + 1) (fun k => decide (s.1 10 k ≠ 0))))), (5, .int (nI (cnt (k + 1) (bo s)))), (6, .int (nI (smN (k + 1) (s.1 12)))), (7, .int (v7)), (8, .int (nI (smN (k + 1) (s.1 8)))), (9, .int (nI (orf (k + 1) (wh s) (fun k => k)))), (10, .int (v10)), (11, .int (v11)), (12, .int (v12)), (13, .ref (o1)), (14, .ref (o2)), (15, .ref (o3)), (16, .int (nI k)), (17, .int (nI (s.1 6 k))), (18, .int (nI (s.1 7 k))), (19, .int (nI (s.1 8 k))), (20, .int (nI (5 * s.1 9 k))), (21, .int (stI s k)), (22, .int (nI (hU s k))), (23, .int (nI (s.1 11 k))), (24, .int (b2i (bo s k))), (25, .int (b2i (wh s k)))] [.int (bmI (hU s k) (s.1 9 k))] I from (by
    by_cases z : hU s k = 0
    · refine aw_iload S.xo 22 rfl dL_law_319 ?_
      refine aw_if_neF (tgt := 330) (y := 0) S.xo dL_law_321 (by decide) (by rw [z]; rfl) ?_
      refine aw_sipush (v := (-1015 : Int32)) S.xo dL_law_324 (by decide) ?_
      refine aw_goto (tgt := 347) S.xo dL_law_327 (by decide) ?_
      refine aw_eqi (y := bmI (hU s k) (s.1 9 k)) (by unfold bmI; rw [if_pos z]) ?_
      exact k347
    · refine aw_iload S.xo 22 rfl dL_law_319 ?_
      refine aw_if_neT (tgt := 330) (y := 0) S.xo dL_law_321 (by decide) (nI_ne0 (by omega) (by omega)) ?_
      refine aw_bipush (v := (100 : Int32)) S.xo dL_law_330 (by decide) ?_
      refine aw_iload S.xo 20 rfl dL_law_332 ?_
      refine aw_isub S.xo dL_law_334 ?_
      refine aw_iconst (v := (5 : Int32)) S.xo dL_law_335 (by decide) ?_
      refine aw_iload S.xo 22 rfl dL_law_336 ?_
      refine aw_imul S.xo dL_law_338 ?_
      refine aw_iadd S.xo dL_law_339 ?_
      refine aw_iconst (v := (1 : Int32)) S.xo dL_law_340 (by decide) ?_
      refine aw_isub S.xo dL_law_341 ?_
      refine aw_iconst (v := (5 : Int32)) S.xo dL_law_342 (by decide) ?_
      refine aw_iload S.xo 22 rfl dL_law_343 ?_
      refine aw_imul S.xo dL_law_345 ?_
      refine aw_idivK S.xo dL_law_346 ((hU_div w hk z).1) ?_
      refine aw_eqi (y := bmI (hU s k) (s.1 9 k)) ((hU_div w hk z).2) ?_
      exact k347)
  refine aw_istore (L2 := [(0, .ref (kgX (kgHs X) 3)), (1, .ref (kgO (kgHs X) 0)), (2, .int (v2)), (3, .int (nI (kgN s))), (4, .int (nI (cnt (k + 1) (fun k => decide (s.1 10 k ≠ 0))))), (5, .int (nI (cnt (k + 1) (bo s)))), (6, .int (nI (smN (k + 1) (s.1 12)))), (7, .int (v7)), (8, .int (nI (smN (k + 1) (s.1 8)))), (9, .int (nI (orf (k + 1) (wh s) (fun k => k)))), (10, .int (v10)), (11, .int (v11)), (12, .int (v12)), (13, .ref (o1)), (14, .ref (o2)), (15, .ref (o3)), (16, .int (nI k)), (17, .int (nI (s.1 6 k))), (18, .int (nI (s.1 7 k))), (19, .int (nI (s.1 8 k))), (20, .int (nI (5 * s.1 9 k))), (21, .int (stI s k)), (22, .int (nI (hU s k))), (23, .int (nI (s.1 11 k))), (24, .int (b2i (bo s k))), (25, .int (b2i (wh s k))), (26, .int (bmI (hU s k) (s.1 9 k)))]) S.xo [1, 2, 3, 4, 5, 6, 7, 8, 9, 10, 11, 12, 13, 14, 15, 16, 17, 18, 19, 20, 21, 22, 23, 24, 25, 26, 0] dL_law_347 (by decide) rfl ?_
  exact kk
