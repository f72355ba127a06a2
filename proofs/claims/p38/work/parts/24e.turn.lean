set_option maxHeartbeats 4000000 in
set_option maxRecDepth 100000 in
theorem tn_5 {X : kgCX Unit} (S : Cx X cL_law RL 31 12 446 929218 6314595) {s : kgS} {I : kgM} {ce sl : Nat} (hce : ce ≤ 929218) (hsl : sl ≤ 6314595) (hG : RepG I 1 s) (w : kgWF s) {T : va_W} {v2 v4 v5 v6 v7 v8 v9 v10 v16 : Int32} {o1 o2 o3 a : Nat}
    (kk : AW (kgXs X ([arc (kgHs X) o1 (oF s 12), arc (kgHs X) o2 (kF s (kgN s)), arc (kgHs X) o3 (wF s (kgN s))] ++ T)) 31 ce sl none (some ()) 1205 [(0, .ref (kgX (kgHs X) 3)), (1, .ref (kgO (kgHs X) 0)), (2, .int (v2)), (3, .int (nI (kgN s))), (4, .int (v4)), (5, .int (v5)), (6, .int (v6)), (7, .int (v7)), (8, .int (v8)), (9, .int (v9)), (10, .int (v10)), (11, .int (smI (4) s.2)), (12, .int (smI (4) (fun k => s.2 (4 + k)))), (13, .ref (o1)), (14, .ref (o2)), (15, .ref (o3)), (16, .int (v16)), (18, .ref (a)), (19, .int (nI (4)))] [] I) : AW (kgXs X ([arc (kgHs X) o1 (oF s 12), arc (kgHs X) o2 (kF s (kgN s)), arc (kgHs X) o3 (wF s (kgN s))] ++ T)) 31 ce sl none (some ()) 1110 [(0, .ref (kgX (kgHs X) 3)), (1, .ref (kgO (kgHs X) 0)), (2, .int (v2)), (3, .int (nI (kgN s))), (4, .int (v4)), (5, .int (v5)), (6, .int (v6)), (7, .int (v7)), (8, .int (v8)), (9, .int (v9)), (10, .int (v10)), (11, .int (0)), (12, .int (0)), (13, .ref (o1)), (14, .ref (o2)), (15, .ref (o3)), (16, .int (v16)), (18, .ref (a)), (19, .int (nI (6)))] [] I := by
  have hn := w.1
  have loop : ∀ d j : Nat, j + d = 4 → AW (kgXs X ([arc (kgHs X) o1 (oF s 12), arc (kgHs X) o2 (kF s (kgN s)), arc (kgHs X) o3 (wF s (kgN s))] ++ T)) 31 ce sl none (some ()) 1113 [(0, .ref (kgX (kgHs X) 3)), (1, .ref (kgO (kgHs X) 0)), (2, .int (v2)), (3, .int (nI (kgN s))), (4, .int (v4)), (5, .int (v5)), (6, .int (v6)), (7, .int (v7)), (8, .int (v8)), (9, .int (v9)), (10, .int (v10)), (11, .int (smI (j) s.2)), (12, .int (smI (j) (fun k => s.2 (4 + k)))), (13, .ref (o1)), (14, .ref (o2)), (15, .ref (o3)), (16, .int (v16)), (18, .ref (a)), (19, .int (nI (j)))] [] I := by
    intro d
    induction d with
    | zero =>
      intro j hj
      rw [show j = 4 by omega]
      refine aw_iload S.xo 18 rfl dL_law_1113 ?_
      refine aw_iconst (v := (4 : Int32)) S.xo dL_law_1115 (by decide) ?_
      refine aw_icmp_geT (tgt := 1205) S.xo dL_law_1116 (by decide) (Int32.le_refl _) ?_
      exact kk
    | succ d ih =>
      intro j hj0
      have hj : j < 4 := by omega
      refine aw_iload S.xo 18 rfl dL_law_1113 ?_
      refine aw_iconst (v := (4 : Int32)) S.xo dL_law_1115 (by decide) ?_
      refine aw_icmp_geF (tgt := 1205) S.xo dL_law_1116 (by decide) (nI_ge (b := 4) (by omega) (by omega)) ?_
      refine aw_iload S.xo 11 rfl dL_law_1119 ?_
      refine aw_aload_n S.xo 1 rfl dL_law_1121 rfl ?_
      refine aw_iload S.xo 18 rfl dL_law_1122 ?_
      refine aw_iconst (v := (0 : Int32)) S.xo dL_law_1124 (by decide) ?_
      refine lw_cV (ce2 := ce) (sl2 := sl) S.xo 0 [.int (nI j), .int (0)] (r_m0 hG hj) vw_X4_memberOf cl_X4 (by decide) (by decide) tw_354 (s_X4_memberOf _ _ _ (nI j) (0) I) ⟨by decide, by decide⟩ rfl rfl (Nat.le_of_ble_eq_true rfl) (Nat.le_refl _) (Nat.le_refl _) (by omega) (by omega) dL_law_1125 ?_
      refine aw_iadd S.xo dL_law_1128 ?_
      refine aw_eqi (y := smI (j + 1) s.2) (rfl) ?_
      refine aw_istore (L2 := [(0, .ref (kgX (kgHs X) 3)), (1, .ref (kgO (kgHs X) 0)), (2, .int (v2)), (3, .int (nI (kgN s))), (4, .int (v4)), (5, .int (v5)), (6, .int (v6)), (7, .int (v7)), (8, .int (v8)), (9, .int (v9)), (10, .int (v10)), (11, .int (smI (j + 1) s.2)), (12, .int (smI (j) (fun k => s.2 (4 + k)))), (13, .ref (o1)), (14, .ref (o2)), (15, .ref (o3)), (16, .int (v16)), (18, .ref (a)), (19, .int (nI (j)))]) S.xo [1, 2, 3, 4, 5, 6, 7, 8, 9, 10, 11, 0, 12, 13, 14, 15, 16, 17, 18] dL_law_1129 (by decide) rfl ?_
      refine aw_iload S.xo 12 rfl dL_law_1131 ?_
      refine aw_aload_n S.xo 1 rfl dL_law_1133 rfl ?_
      refine aw_iload S.xo 18 rfl dL_law_1134 ?_
      refine aw_iconst (v := (4 : Int32)) S.xo dL_law_1136 (by decide) ?_
      refine lw_cV (ce2 := ce) (sl2 := sl) S.xo 0 [.int (nI j), .int (4)] (r_m4 hG hj) vw_X4_memberOf cl_X4 (by decide) (by decide) tw_354 (s_X4_memberOf _ _ _ (nI j) (4) I) ⟨by decide, by decide⟩ rfl rfl (Nat.le_of_ble_eq_true rfl) (Nat.le_refl _) (Nat.le_refl _) (by omega) (by omega) dL_law_1137 ?_
      refine aw_iadd S.xo dL_law_1140 ?_
      refine aw_eqi (y := smI (j + 1) (fun k => s.2 (4 + k))) (rfl) ?_
      refine aw_istore (L2 := [(0, .ref (kgX (kgHs X) 3)), (1, .ref (kgO (kgHs X) 0)), (2, .int (v2)), (3, .int (nI (kgN s))), (4, .int (v4)), (5, .int (v5)), (6, .int (v6)), (7, .int (v7)), (8, .int (v8)), (9, .int (v9)), (10, .int (v10)), (11, .int (smI (j + 1) s.2)), (12, .int (smI (j + 1) (fun k => s.2 (4 + k)))), (13, .ref (o1)), (14, .ref (o2)), (15, .ref (o3)), (16, .int (v16)), (18, .ref (a)), (19, .int (nI (j)))]) S.xo [1, 2, 3, 4, 5, 6, 7, 8, 9, 10, 11, 12, 0, 13, 14, 15, 16, 17, 18] dL_law_1141 (by decide) rfl ?_
      refine aw_aload_n S.xo 1 rfl dL_law_1143 rfl ?_
      refine aw_iload S.xo 18 rfl dL_law_1144 ?_
      refine aw_iconst (v := (1 : Int32)) S.xo dL_law_1146 (by decide) ?_
      refine lw_cV (ce2 := ce) (sl2 := sl) S.xo 0 [.int (nI j), .int (1)] (r_m1 hG w hj) vw_X4_memberOf cl_X4 (by decide) (by decide) tw_354 (s_X4_memberOf _ _ _ (nI j) (1) I) ⟨by decide, by decide⟩ rfl rfl (Nat.le_of_ble_eq_true rfl) (Nat.le_refl _) (Nat.le_refl _) (by omega) (by omega) dL_law_1147 ?_
      refine aw_aload S.xo 13 rfl dL_law_1150 ?_
      refine aw_iload S.xo 18 rfl dL_law_1152 ?_
      refine lw_xld (f := oF s 12) (j := j) S 0 rfl (hj) dL_law_1154 ?_
      refine aw_eqi (y := nI (own s j)) (rfl) ?_
      refine aw_icmp_neF (tgt := 1197) S.xo dL_law_1155 (by decide) (rfl) ?_
      refine aw_aload S.xo 13 rfl dL_law_1158 ?_
      refine aw_iload S.xo 18 rfl dL_law_1160 ?_
      refine lw_xld (f := oF s 12) (j := j) S 0 rfl (hj) dL_law_1162 ?_
      refine aw_eqi (y := nI (own s j)) (rfl) ?_
      refine aw_iconst (v := (4 : Int32)) S.xo dL_law_1163 (by decide) ?_
      refine aw_icmp_gtF (tgt := 1197) S.xo dL_law_1164 (by decide) (nI_nlt (a := 4) (w.2.2.2.2.2.1 j hj) (by omega)) ?_
      refine aw_aload_n S.xo 1 rfl dL_law_1167 rfl ?_
      refine aw_iload S.xo 18 rfl dL_law_1168 ?_
      refine aw_iconst (v := (2 : Int32)) S.xo dL_law_1170 (by decide) ?_
      refine lw_cV (ce2 := ce) (sl2 := sl) S.xo 0 [.int (nI j), .int (2)] (r_m2 hG w hj) vw_X4_memberOf cl_X4 (by decide) (by decide) tw_354 (s_X4_memberOf _ _ _ (nI j) (2) I) ⟨by decide, by decide⟩ rfl rfl (Nat.le_of_ble_eq_true rfl) (Nat.le_refl _) (Nat.le_refl _) (by omega) (by omega) dL_law_1171 ?_
      refine aw_aload S.xo 14 rfl dL_law_1174 ?_
      refine aw_iload S.xo 18 rfl dL_law_1176 ?_
      refine lw_xld (f := kF s (kgN s)) (j := j) S 1 rfl (hj) dL_law_1178 ?_
      refine aw_eqi (y := nI (cnt (kgN s) (fun k => decide (s.1 6 k = j)))) (rfl) ?_
      refine aw_icmp_neF (tgt := 1197) S.xo dL_law_1179 (by decide) (rfl) ?_
      refine aw_aload_n S.xo 1 rfl dL_law_1182 rfl ?_
      refine aw_iload S.xo 18 rfl dL_law_1183 ?_
      refine aw_iconst (v := (3 : Int32)) S.xo dL_law_1185 (by decide) ?_
      refine lw_cV (ce2 := ce) (sl2 := sl) S.xo 0 [.int (nI j), .int (3)] (r_m3 hG w hj) vw_X4_memberOf cl_X4 (by decide) (by decide) tw_354 (s_X4_memberOf _ _ _ (nI j) (3) I) ⟨by decide, by decide⟩ rfl rfl (Nat.le_of_ble_eq_true rfl) (Nat.le_refl _) (Nat.le_refl _) (by omega) (by omega) dL_law_1186 ?_
      refine aw_aload S.xo 15 rfl dL_law_1189 ?_
      refine aw_iload S.xo 18 rfl dL_law_1191 ?_
      refine lw_xld (f := wF s (kgN s)) (j := j) S 2 rfl (hj) dL_law_1193 ?_
      refine aw_eqi (y := nI (cnt (kgN s) (fun k => decide (s.1 6 k = j) && wh s k))) (rfl) ?_
      refine aw_icmp_eqT (tgt := 1199) S.xo dL_law_1194 (by decide) (rfl) ?_
      refine aw_iinc (v := nI (j + 1)) (L2 := [(0, .ref (kgX (kgHs X) 3)), (1, .ref (kgO (kgHs X) 0)), (2, .int (v2)), (3, .int (nI (kgN s))), (4, .int (v4)), (5, .int (v5)), (6, .int (v6)), (7, .int (v7)), (8, .int (v8)), (9, .int (v9)), (10, .int (v10)), (11, .int (smI (j + 1) s.2)), (12, .int (smI (j + 1) (fun k => s.2 (4 + k)))), (13, .ref (o1)), (14, .ref (o2)), (15, .ref (o3)), (16, .int (v16)), (18, .ref (a)), (19, .int (nI (j + 1)))]) S.xo [1, 2, 3, 4, 5, 6, 7, 8, 9, 10, 11, 12, 13, 14, 15, 16, 17, 18, 0] 18 dL_law_1199 rfl (nI_1 j) (by decide) rfl ?_
      refine aw_goto (tgt := 1113) S.xo dL_law_1202 (by decide) ?_
      exact ih (j + 1) (by omega)
  refine aw_iconst (v := (0 : Int32)) S.xo dL_law_1110 (by decide) ?_
  refine aw_istore (L2 := [(0, .ref (kgX (kgHs X) 3)), (1, .ref (kgO (kgHs X) 0)), (2, .int (v2)), (3, .int (nI (kgN s))), (4, .int (v4)), (5, .int (v5)), (6, .int (v6)), (7, .int (v7)), (8, .int (v8)), (9, .int (v9)), (10, .int (v10)), (11, .int (0)), (12, .int (0)), (13, .ref (o1)), (14, .ref (o2)), (15, .ref (o3)), (16, .int (v16)), (18, .ref (a)), (19, .int (0))]) S.xo [1, 2, 3, 4, 5, 6, 7, 8, 9, 10, 11, 12, 13, 14, 15, 16, 17, 18, 0] dL_law_1111 (by decide) rfl ?_
  exact loop 4 0 (Nat.zero_add _)
