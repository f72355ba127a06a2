theorem c_tellStoves {I : kgM} {s : kgS} (hG : RepG I 1 s) (w : kgWF s) (hL : LnB I) : ∃ J, f_X4_tellStoves I = some (nI (stA s 6).length, J) ∧ LnC (stA s 6) J ∧ lfC I J := by
  obtain ⟨n4, n, n1, n2⟩ := hL
  obtain ⟨I1, a1, l1, f1⟩ := c_setL n4 n2 n1
  obtain ⟨J, j1, j2, j3⟩ := c_stoveL w (fun I7 => bndC (f_J5_length_8abf5 I7) (fun x9 I8 => some (x9, I8))) 6 0 I1 (by omega) 200 (by omega) (f1.G hG) l1
  refine ⟨J, ?_, j2, f1.trans j3⟩
  unfold f_X4_tellStoves
  rw [a1, bndC_s]
  refine j1.trans ?_
  unfold f_J5_length_8abf5
  rw [bndC_s, j2.2.1]
theorem fps2_0 : ∀ a, a < 14 → ∀ b, b < 10 → Op.cmpValue (FP.fcmp (FP.fdiv (FP.i2f (nI a)) (FP.i2f (nI (b + 1)))) (FP.fdiv (FP.i2f (nI a)) (FP.i2f (nI (b + 1))))) .l = 0 := by decide +kernel
theorem fps2_1 : Op.cmpValue (FP.fcmp FP.fconst0 FP.fconst0) .l = 0 := by decide +kernel
theorem sh_cmp (s : kgS) (w : kgWF s) : Op.cmpValue (FP.fcmp (shF s) (shF s)) .l = 0 := by
  have hn := w.1
  have hc := cnt_le (kgN s) (fun k => decide (s.1 10 k ≠ 0))
  unfold shF
  by_cases z : cnt (kgN s) (fun k => decide (s.1 10 k ≠ 0)) = 0
  · rw [if_pos z]; exact fps2_1
  · obtain ⟨n, en⟩ : ∃ n, cnt (kgN s) (fun k => decide (s.1 10 k ≠ 0)) = n + 1 := ⟨cnt (kgN s) (fun k => decide (s.1 10 k ≠ 0)) - 1, by omega⟩
    have hpop : pop (wK s) ≤ 13 := cnt_le 13 _
    rw [if_neg z, en]
    exact fps2_0 (pop (wK s)) (by omega) n (by omega)
section FLW
variable {X : kgCX Unit} {cc : ByteArray} {own : String} {nL fr lo mc ms ce sl : Nat} {pc : Nat} {L : List (Nat × Value)} {st : List Value} {I : kgM} {w : Option (Nat × Nat)}
theorem lw_ddiv (S : Cx X cc own nL fr lo mc ms) {x y : UInt64} (h : kn64 (FP.ddiv x y) = true) (hdg : decode cc pc = .ok (.ddiv, 1)) (k : AW X nL ce sl w (some ()) (pc + 1) L (.double (FP.ddiv x y) :: st) I) : AW X nL ce sl w (some ()) pc L (.double y :: .double x :: st) I := by
  have e : ck (kn64 (FP.ddiv x y)) (some ()) = some () := ck_t h
  have := aw_ddiv (fin := some ()) S hdg k
  rw [e] at this
  exact this
theorem lw_fdiv (S : Cx X cc own nL fr lo mc ms) {x y : UInt32} (h : kn32 (FP.fdiv x y) = true) (hdg : decode cc pc = .ok (.fdiv, 1)) (k : AW X nL ce sl w (some ()) (pc + 1) L (.float (FP.fdiv x y) :: st) I) : AW X nL ce sl w (some ()) pc L (.float y :: .float x :: st) I := by
  have e : ck (kn32 (FP.fdiv x y)) (some ()) = some () := ck_t h
  have := aw_fdiv (fin := some ()) S hdg k
  rw [e] at this
  exact this
theorem aw_eqf {x y : UInt32} (h : x = y) (k : AW X nL ce sl w (some ()) pc L (.float y :: st) I) : AW X nL ce sl w (some ()) pc L (.float x :: st) I := by rw [h]; exact k
end FLW
set_option maxHeartbeats 4000000 in
set_option maxRecDepth 100000 in
theorem tn_6 {X : kgCX Unit} (S : Cx X cL_law RL 31 12 446 929218 6314595) (hLn : kgO (kgHs X) 184 = kgO (kgHs X) 175) {s : kgS} {I : kgM} {ce sl : Nat} (hce : ce + 25 ≤ 929218) (hsl : sl + 850 ≤ 6314595) (hG : RepG I 1 s) (w : kgWF s) (hL : LnB I) (h0 : 0 < kgN s) {T : va_W} {v2 : Int32} {o1 o2 o3 a : Nat} (hT : txP (kgHs X) a (stA s 6) T)
    (kk : ∀ J, LnB J → lfC I J → AW (kgXs X [arc (kgHs X) o1 (oF s 12), arc (kgHs X) o2 (kF s (kgN s)), arc (kgHs X) o3 (wF s (kgN s))]) 31 (ce + 25) (sl + 850) none (some ()) 1418 [(0, .ref (kgX (kgHs X) 3)), (1, .ref (kgO (kgHs X) 0)), (2, .int (v2)), (3, .int (nI (kgN s))), (4, .int (nI (cnt (kgN s) (fun k => decide (s.1 10 k ≠ 0))))), (5, .int (nI (cnt (kgN s) (bo s)))), (6, .int (nI (smN (kgN s) (s.1 12)))), (7, .int (nI (smN (kgN s) (s.1 13)))), (8, .int (nI (smN (kgN s) (s.1 8)))), (9, .int (nI (wK s))), (10, .int (hvS s)), (11, .int (smI 4 s.2)), (12, .int (smI 4 (fun k => s.2 (4 + k)))), (13, .ref (o1)), (14, .ref (o2)), (15, .ref (o3)), (16, .int (nI (lbP (wP s) 12).1)), (18, .ref (a)), (19, .int (nI 4))] [] J) : AW (kgXs X ([arc (kgHs X) o1 (oF s 12), arc (kgHs X) o2 (kF s (kgN s)), arc (kgHs X) o3 (wF s (kgN s))] ++ T)) 31 ce sl none (some ()) 1205 [(0, .ref (kgX (kgHs X) 3)), (1, .ref (kgO (kgHs X) 0)), (2, .int (v2)), (3, .int (nI (kgN s))), (4, .int (nI (cnt (kgN s) (fun k => decide (s.1 10 k ≠ 0))))), (5, .int (nI (cnt (kgN s) (bo s)))), (6, .int (nI (smN (kgN s) (s.1 12)))), (7, .int (nI (smN (kgN s) (s.1 13)))), (8, .int (nI (smN (kgN s) (s.1 8)))), (9, .int (nI (wK s))), (10, .int (hvS s)), (11, .int (smI 4 s.2)), (12, .int (smI 4 (fun k => s.2 (4 + k)))), (13, .ref (o1)), (14, .ref (o2)), (15, .ref (o3)), (16, .int (nI (lbP (wP s) 12).1)), (18, .ref (a)), (19, .int (nI 4))] [] I := by
  have hn := w.1
  have hc := cnt_le (kgN s) (fun k => decide (s.1 10 k ≠ 0))
  have hl := wK_lt w
  have sg := stA_len w 6 (Nat.le_refl _)
  obtain ⟨J, j1, j2, j3⟩ := c_tellStoves hG w hL
  obtain ⟨v, f, hst, hf⟩ := hT.str (o := kgO (kgHs X)) (xa := [arc (kgHs X) o1 (oF s 12), arc (kgHs X) o2 (kF s (kgN s)), arc (kgHs X) o3 (wF s (kgN s))]) (xb := []) (by omega)
  rw [List.append_nil] at hst
  refine aw_aload_n S.xo 1 rfl dL_law_1205 rfl ?_
  refine aw_aload_n S.xo 1 rfl dL_law_1206 rfl ?_
  refine lw_cV (ce2 := (ce + 25)) (sl2 := (sl + 850)) S.xo 0 [] (j1) vw_X4_tellStoves cl_X4 (by decide) (by decide) tw_560 (s_X4_tellStoves (kgHs (kgXs X ([arc (kgHs X) o1 (oF s 12), arc (kgHs X) o2 (kF s (kgN s)), arc (kgHs X) o3 (wF s (kgN s))] ++ T))) _ hLn  I) ⟨by decide, by decide⟩ rfl rfl (Nat.le_of_ble_eq_true rfl) (by omega) (by omega) (by omega) (by omega) dL_law_1207 ?_
  refine aw_aload S.xo 17 rfl dL_law_1210 ?_
  have hG1 := j3.G hG
  refine lw_cS (ce2 := (ce + 25)) (sl2 := (sl + 850)) S.xo [.ref (kgO (kgHs X) 0), .int (nI (stA s 6).length), .ref (a)] (rfl) vw_L_isLine tw_796 (s_L_isLine (kgHs (kgXs X ([arc (kgHs X) o1 (oF s 12), arc (kgHs X) o2 (kF s (kgN s)), arc (kgHs X) o3 (wF s (kgN s))] ++ T))) _ hLn hst hf j2 sg.2 (by omega)) ⟨by decide, by decide⟩ rfl rfl (Nat.le_of_ble_eq_true rfl) (Nat.le_refl _) (Nat.le_refl _) (by omega) (by omega) dL_law_1212 ?_
  refine aw_drop (xt2 := [arc (kgHs X) o1 (oF s 12), arc (kgHs X) o2 (kF s (kgN s)), arc (kgHs X) o3 (wF s (kgN s))]) (List.sublist_append_left _ _) ?_
  refine aw_if_eqF (tgt := 1416) (y := 0) S.xo dL_law_1215 (by decide) (by decide) ?_
  refine aw_aload_n S.xo 1 rfl dL_law_1218 rfl ?_
  refine lw_cV (ce2 := (ce + 25)) (sl2 := (sl + 850)) S.xo 0 [] (r_whistling hG1 w) vw_X4_whistling cl_X4 (by decide) (by decide) tw_301 (s_X4_whistling _ _ _  J) ⟨by decide, by decide⟩ rfl rfl (Nat.le_of_ble_eq_true rfl) (Nat.le_refl _) (Nat.le_refl _) (by omega) (by omega) dL_law_1219 ?_
  refine aw_iload S.xo 9 rfl dL_law_1222 ?_
  refine aw_icmp_neF (tgt := 1416) S.xo dL_law_1224 (by decide) (rfl) ?_
  refine aw_aload_n S.xo 1 rfl dL_law_1227 rfl ?_
  refine lw_cV (ce2 := (ce + 25)) (sl2 := (sl + 850)) S.xo 0 [] (c_harmony hG1 w) vw_X4_harmony cl_X4 (by decide) (by decide) tw_306 (s_X4_harmony _ _ _  J) ⟨by decide, by decide⟩ rfl rfl (Nat.le_of_ble_eq_true rfl) (Nat.le_refl _) (Nat.le_refl _) (by omega) (by omega) dL_law_1228 ?_
  refine aw_iload S.xo 10 rfl dL_law_1231 ?_
  refine aw_icmp_neF (tgt := 1416) S.xo dL_law_1233 (by decide) (rfl) ?_
  refine aw_aload_n S.xo 1 rfl dL_law_1236 rfl ?_
  refine lw_cV (ce2 := (ce + 25)) (sl2 := (sl + 850)) S.xo 0 [] (c_harmonyAgain hG1 w) vw_X4_harmonyAgain cl_X4 (by decide) (by decide) tw_319 (s_X4_harmonyAgain _ _ _  J) ⟨by decide, by decide⟩ rfl rfl (Nat.le_of_ble_eq_true rfl) (Nat.le_refl _) (Nat.le_refl _) (by omega) (by omega) dL_law_1237 ?_
  refine aw_iload S.xo 10 rfl dL_law_1240 ?_
  refine aw_icmp_neF (tgt := 1416) S.xo dL_law_1242 (by decide) (rfl) ?_
  refine aw_aload_n S.xo 1 rfl dL_law_1245 rfl ?_
  refine lw_cV (ce2 := (ce + 25)) (sl2 := (sl + 850)) S.xo 0 [] (c_best hG1 w) vw_X4_bestPitch cl_X4 (by decide) (by decide) tw_347 (s_X4_bestPitch _ _ _  J) ⟨by decide, by decide⟩ rfl rfl (Nat.le_of_ble_eq_true rfl) (Nat.le_refl _) (Nat.le_refl _) (by omega) (by omega) dL_law_1246 ?_
  refine aw_iload S.xo 16 rfl dL_law_1249 ?_
  refine aw_icmp_neF (tgt := 1416) S.xo dL_law_1251 (by decide) (lb_best w) ?_
  refine aw_aload_n S.xo 1 rfl dL_law_1254 rfl ?_
  refine lw_cV (ce2 := (ce + 25)) (sl2 := (sl + 850)) S.xo 0 [] (c_balanced hG1 w) vw_X4_isBalanced cl_X4 (by decide) (by decide) tw_591 (s_X4_isBalanced _ _ _  J) ⟨by decide, by decide⟩ rfl rfl (Nat.le_of_ble_eq_true rfl) (Nat.le_refl _) (Nat.le_refl _) (by omega) (by omega) dL_law_1255 ?_
  refine aw_iconst (v := (1 : Int32)) S.xo dL_law_1258 (by decide) ?_
  refine aw_icmp_neF (tgt := 1416) S.xo dL_law_1259 (by decide) (rfl) ?_
  refine aw_aload_n S.xo 1 rfl dL_law_1262 rfl ?_
  refine aw_iconst (v := (4 : Int32)) S.xo dL_law_1263 (by decide) ?_
  refine lw_cV (ce2 := (ce + 25)) (sl2 := (sl + 850)) S.xo 0 [.int (4)] (r_ranked4 hG1 w) vw_X4_ranked cl_X4 (by decide) (by decide) tw_373 (s_X4_ranked _ _ _ (4) J) ⟨by decide, by decide⟩ rfl rfl (Nat.le_of_ble_eq_true rfl) (Nat.le_refl _) (Nat.le_refl _) (by omega) (by omega) dL_law_1264 ?_
  refine aw_sipush (v := (-1011 : Int32)) S.xo dL_law_1267 (by decide) ?_
  refine aw_icmp_neF (tgt := 1416) S.xo dL_law_1270 (by decide) (rfl) ?_
  refine aw_aload_n S.xo 1 rfl dL_law_1273 rfl ?_
  refine aw_iload_n S.xo 3 rfl dL_law_1274 rfl ?_
  refine lw_cV (ce2 := (ce + 25)) (sl2 := (sl + 850)) S.xo 0 [.int (nI (kgN s))] (r_hottestN hG1 w) vw_X4_hottest cl_X4 (by decide) (by decide) tw_388 (s_X4_hottest _ _ _ (nI (kgN s)) J) ⟨by decide, by decide⟩ rfl rfl (Nat.le_of_ble_eq_true rfl) (Nat.le_refl _) (Nat.le_refl _) (by omega) (by omega) dL_law_1275 ?_
  refine aw_sipush (v := (-1011 : Int32)) S.xo dL_law_1278 (by decide) ?_
  refine aw_icmp_neF (tgt := 1416) S.xo dL_law_1281 (by decide) (rfl) ?_
  refine aw_aload_n S.xo 1 rfl dL_law_1284 rfl ?_
  refine aw_iconst (v := (1 : Int32)) S.xo dL_law_1285 (by decide) ?_
  refine lw_cV (ce2 := (ce + 25)) (sl2 := (sl + 850)) S.xo 0 [.int (1)] (r_a1 hG1 w) vw_X4_account cl_X4 (by decide) (by decide) tw_564 (s_X4_account _ _ _ (1) J) ⟨by decide, by decide⟩ rfl rfl (Nat.le_of_ble_eq_true rfl) (Nat.le_refl _) (Nat.le_refl _) (by omega) (by omega) dL_law_1286 ?_
  refine aw_iload S.xo 4 rfl dL_law_1289 ?_
  refine aw_icmp_neF (tgt := 1416) S.xo dL_law_1291 (by decide) (rfl) ?_
  refine aw_aload_n S.xo 1 rfl dL_law_1294 rfl ?_
  refine aw_iconst (v := (2 : Int32)) S.xo dL_law_1295 (by decide) ?_
  refine lw_cV (ce2 := (ce + 25)) (sl2 := (sl + 850)) S.xo 0 [.int (2)] (r_a2 hG1 w) vw_X4_account cl_X4 (by decide) (by decide) tw_564 (s_X4_account _ _ _ (2) J) ⟨by decide, by decide⟩ rfl rfl (Nat.le_of_ble_eq_true rfl) (Nat.le_refl _) (Nat.le_refl _) (by omega) (by omega) dL_law_1296 ?_
  refine aw_iload S.xo 5 rfl dL_law_1299 ?_
  refine aw_icmp_neF (tgt := 1416) S.xo dL_law_1301 (by decide) (rfl) ?_
  refine aw_aload_n S.xo 1 rfl dL_law_1304 rfl ?_
  refine aw_iconst (v := (3 : Int32)) S.xo dL_law_1305 (by decide) ?_
  refine lw_cV (ce2 := (ce + 25)) (sl2 := (sl + 850)) S.xo 0 [.int (3)] (r_a3 hG1 w) vw_X4_account cl_X4 (by decide) (by decide) tw_564 (s_X4_account _ _ _ (3) J) ⟨by decide, by decide⟩ rfl rfl (Nat.le_of_ble_eq_true rfl) (Nat.le_refl _) (Nat.le_refl _) (by omega) (by omega) dL_law_1306 ?_
  refine aw_iload S.xo 6 rfl dL_law_1309 ?_
  refine aw_icmp_neF (tgt := 1416) S.xo dL_law_1311 (by decide) (rfl) ?_
  refine aw_aload_n S.xo 1 rfl dL_law_1314 rfl ?_
  refine aw_iconst (v := (4 : Int32)) S.xo dL_law_1315 (by decide) ?_
  refine lw_cV (ce2 := (ce + 25)) (sl2 := (sl + 850)) S.xo 0 [.int (4)] (r_a4 hG1 w) vw_X4_account cl_X4 (by decide) (by decide) tw_564 (s_X4_account _ _ _ (4) J) ⟨by decide, by decide⟩ rfl rfl (Nat.le_of_ble_eq_true rfl) (Nat.le_refl _) (Nat.le_refl _) (by omega) (by omega) dL_law_1316 ?_
  refine aw_iload S.xo 7 rfl dL_law_1319 ?_
  refine aw_icmp_neF (tgt := 1416) S.xo dL_law_1321 (by decide) (rfl) ?_
  refine aw_aload_n S.xo 1 rfl dL_law_1324 rfl ?_
  refine aw_bipush (v := (6 : Int32)) S.xo dL_law_1325 (by decide) ?_
  refine lw_cV (ce2 := (ce + 25)) (sl2 := (sl + 850)) S.xo 0 [.int (6)] (r_a6 hG1 w) vw_X4_account cl_X4 (by decide) (by decide) tw_564 (s_X4_account _ _ _ (6) J) ⟨by decide, by decide⟩ rfl rfl (Nat.le_of_ble_eq_true rfl) (Nat.le_refl _) (Nat.le_refl _) (by omega) (by omega) dL_law_1327 ?_
  refine aw_iload S.xo 8 rfl dL_law_1330 ?_
  refine aw_icmp_neF (tgt := 1416) S.xo dL_law_1332 (by decide) (rfl) ?_
  refine aw_aload_n S.xo 1 rfl dL_law_1335 rfl ?_
  refine aw_bipush (v := (7 : Int32)) S.xo dL_law_1336 (by decide) ?_
  refine lw_cV (ce2 := (ce + 25)) (sl2 := (sl + 850)) S.xo 0 [.int (7)] (r_a7 hG1) vw_X4_account cl_X4 (by decide) (by decide) tw_564 (s_X4_account _ _ _ (7) J) ⟨by decide, by decide⟩ rfl rfl (Nat.le_of_ble_eq_true rfl) (Nat.le_refl _) (Nat.le_refl _) (by omega) (by omega) dL_law_1338 ?_
  refine aw_iload S.xo 8 rfl dL_law_1341 ?_
  refine aw_aload_n S.xo 1 rfl dL_law_1343 rfl ?_
  refine aw_bipush (v := (8 : Int32)) S.xo dL_law_1344 (by decide) ?_
  refine lw_cV (ce2 := (ce + 25)) (sl2 := (sl + 850)) S.xo 0 [.int (8)] (r_a8 hG1) vw_X4_account cl_X4 (by decide) (by decide) tw_564 (s_X4_account _ _ _ (8) J) ⟨by decide, by decide⟩ rfl rfl (Nat.le_of_ble_eq_true rfl) (Nat.le_refl _) (Nat.le_refl _) (by omega) (by omega) dL_law_1346 ?_
  refine aw_iadd S.xo dL_law_1349 ?_
  refine aw_icmp_neF (tgt := 1416) S.xo dL_law_1350 (by decide) (w.2.2.2.2.2.2) ?_
  refine aw_aload_n S.xo 1 rfl dL_law_1353 rfl ?_
  refine aw_bipush (v := (9 : Int32)) S.xo dL_law_1354 (by decide) ?_
  refine lw_cV (ce2 := (ce + 25)) (sl2 := (sl + 850)) S.xo 0 [.int (9)] (r_a9 hG1) vw_X4_account cl_X4 (by decide) (by decide) tw_564 (s_X4_account _ _ _ (9) J) ⟨by decide, by decide⟩ rfl rfl (Nat.le_of_ble_eq_true rfl) (Nat.le_refl _) (Nat.le_refl _) (by omega) (by omega) dL_law_1356 ?_
  refine aw_iload S.xo 12 rfl dL_law_1359 ?_
  refine aw_icmp_neF (tgt := 1416) S.xo dL_law_1361 (by decide) (rfl) ?_
  refine aw_aload_n S.xo 1 rfl dL_law_1364 rfl ?_
  refine aw_bipush (v := (10 : Int32)) S.xo dL_law_1365 (by decide) ?_
  refine lw_cV (ce2 := (ce + 25)) (sl2 := (sl + 850)) S.xo 0 [.int (10)] (r_a10 hG1) vw_X4_account cl_X4 (by decide) (by decide) tw_564 (s_X4_account _ _ _ (10) J) ⟨by decide, by decide⟩ rfl rfl (Nat.le_of_ble_eq_true rfl) (Nat.le_refl _) (Nat.le_refl _) (by omega) (by omega) dL_law_1367 ?_
  refine aw_iload S.xo 11 rfl dL_law_1370 ?_
  refine aw_icmp_neF (tgt := 1416) S.xo dL_law_1372 (by decide) (rfl) ?_
  refine aw_aload_n S.xo 1 rfl dL_law_1375 rfl ?_
  refine lw_cVd (ce2 := (ce + 25)) (sl2 := (sl + 850)) S.xo 0 [] (r_mean hG1 w h0) vw_X4_meanWater cl_X4 (by decide) (by decide) tw_606 (s_X4_meanWater _ _ _ J) ⟨by decide, by decide⟩ rfl rfl (Nat.le_of_ble_eq_true rfl) (Nat.le_refl _) (Nat.le_refl _) (by omega) (by omega) dL_law_1376 ?_
  refine aw_iload S.xo 8 rfl dL_law_1379 ?_
  refine aw_i2d S.xo dL_law_1381 ?_
  refine aw_iload_n S.xo 3 rfl dL_law_1382 rfl ?_
  refine aw_i2d S.xo dL_law_1383 ?_
  refine lw_ddiv S.xo (fpm s w h0).1 dL_law_1384 ?_
  refine lw_dcmp S.xo dL_law_1385 ?_
  refine aw_eqi (y := 0) ((fpm s w h0).2) ?_
  refine aw_if_neF (tgt := 1416) (y := 0) S.xo dL_law_1386 (by decide) (rfl) ?_
  refine aw_aload_n S.xo 1 rfl dL_law_1389 rfl ?_
  refine lw_cVf (ce2 := (ce + 25)) (sl2 := (sl + 850)) S.xo 0 [] (r_share hG1 w) vw_X4_whistleShare cl_X4 (by decide) (by decide) tw_610 (s_X4_whistleShare _ _ _ J) ⟨by decide, by decide⟩ rfl rfl (Nat.le_of_ble_eq_true rfl) (Nat.le_refl _) (Nat.le_refl _) (by omega) (by omega) dL_law_1390 ?_
  suffices k1412 : AW (kgXs X [arc (kgHs X) o1 (oF s 12), arc (kgHs X) o2 (kF s (kgN s)), arc (kgHs X) o3 (wF s (kgN s))]) 31 (ce + 25) (sl + 850) none (some ()) 1412 [(0, .ref (kgX (kgHs X) 3)), (1, .ref (kgO (kgHs X) 0)), (2, .int (v2)), (3, .int (nI (kgN s))), (4, .int (nI (cnt (kgN s) (fun k => decide (s.1 10 k ≠ 0))))), (5, .int (nI (cnt (kgN s) (bo s)))), (6, .int (nI (smN (kgN s) (s.1 12)))), (7, .int (nI (smN (kgN s) (s.1 13)))), (8, .int (nI (smN (kgN s) (s.1 8)))), (9, .int (nI (wK s))), (10, .int (hvS s)), (11, .int (smI 4 s.2)), (12, .int (smI 4 (fun k => s.2 (4 + k)))), (13, .ref (o1)), (14, .ref (o2)), (15, .ref (o3)), (16, .int (nI (lbP (wP s) 12).1)), (18, .ref (a)), (19, .int (nI 4))] [.float (shF s), .float (shF s)] J from (by
    by_cases z : cnt (kgN s) (fun k => decide (s.1 10 k ≠ 0)) = 0
    · refine aw_iload S.xo 4 rfl dL_law_1393 ?_
      refine aw_if_neF (tgt := 1402) (y := 0) S.xo dL_law_1395 (by decide) (by rw [z]; rfl) ?_
      refine aw_fconst S.xo dL_law_1398 ?_
      refine aw_goto (tgt := 1412) S.xo dL_law_1399 (by decide) ?_
      refine aw_eqf (y := shF s) (if_pos z).symm ?_
      exact k1412
    · refine aw_iload S.xo 4 rfl dL_law_1393 ?_
      refine aw_if_neT (tgt := 1402) (y := 0) S.xo dL_law_1395 (by decide) (nI_ne0 (by omega) (by omega)) ?_
      refine aw_iload S.xo 9 rfl dL_law_1402 ?_
      refine lw_cS (ce2 := (ce + 25)) (sl2 := (sl + 850)) S.xo [.int (nI (wK s))] (c_bits (by omega)) vw_J6_bitCount_0f7a4 tw_824 (s_J6_bitCount_0f7a4 _ _ _ _ J) ⟨by decide, by decide⟩ rfl rfl (Nat.le_of_ble_eq_true rfl) (Nat.le_refl _) (Nat.le_refl _) (by omega) (by omega) dL_law_1404 ?_
      refine aw_i2f S.xo dL_law_1407 ?_
      refine aw_iload S.xo 4 rfl dL_law_1408 ?_
      refine aw_i2f S.xo dL_law_1410 ?_
      refine lw_fdiv S.xo (fps s w z) dL_law_1411 ?_
      refine aw_eqf (y := shF s) (if_neg z).symm ?_
      exact k1412)
  refine lw_fcmp S.xo dL_law_1412 ?_
  refine aw_eqi (y := 0) (sh_cmp s w) ?_
  refine aw_if_eqT (tgt := 1418) (y := 0) S.xo dL_law_1413 (by decide) (rfl) ?_
  exact kk J (j2.toB (by omega)) j3
