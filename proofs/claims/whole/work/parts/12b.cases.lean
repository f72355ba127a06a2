/-- what class and model have in common: every call answers alike, from every memory of the kind Inv -/
def kgOK (Inv Inv2 : kgM → Prop) : Prop :=
  (∀ a c : Int32, kgSame Inv Inv2 (fun I => f_X4_own a c I) (fun I => f_X5_own a c I)) ∧
  (∀ a : Int32, kgSame Inv Inv2 (fun I => f_X4_owner a I) (fun I => f_X5_owner a I)) ∧
  (∀ a c d : Int32, kgSame Inv Inv2 (fun I => f_X4_kettle a c d I) (fun I => f_X5_kettle a c d I)) ∧
  (∀ a c : Int32, kgSame Inv Inv2 (fun I => f_X4_fill a c I) (fun I => f_X5_fill a c I)) ∧
  (∀ a c : Int32, kgSame Inv Inv2 (fun I => f_X4_kettleOf a c I) (fun I => f_X5_kettleOf a c I)) ∧
  (∀ a c : Int32, kgSame Inv Inv2 (fun I => f_X4_set a c I) (fun I => f_X5_set a c I)) ∧
  (∀ a : Int32, kgSame Inv Inv2 (fun I => f_X4_off a I) (fun I => f_X5_off a I)) ∧
  (∀ a c : Int32, kgSame Inv Inv2 (fun I => f_X4_heat a c I) (fun I => f_X5_heat a c I)) ∧
  (∀ a c : Int32, kgSame Inv Inv2 (fun I => f_X4_lid a c I) (fun I => f_X5_lid a c I)) ∧
  (∀ a c : Int32, kgSame Inv Inv2 (fun I => f_X4_appeal a c I) (fun I => f_X5_appeal a c I)) ∧
  (∀ a c : Int32, c = 0 ∨ c = 1 → kgSame Inv Inv2 (fun I => f_X4_stoveOf a c I) (fun I => f_X5_stoveOf a c I)) ∧
  (∀ a : Int32, kgSame Inv Inv2 (fun I => f_X4_minute a I) (fun I => f_X5_minute a I)) ∧
  (kgSame Inv Inv2 (fun I => f_X4_whistling I) (fun I => f_X5_whistling I)) ∧
  (kgSame Inv Inv2 (fun I => f_X4_harmony I) (fun I => f_X5_harmony I)) ∧
  (kgSame Inv Inv2 (fun I => f_X4_harmonyAgain I) (fun I => f_X5_harmonyAgain I)) ∧
  (∀ a : Int32, kgSame Inv Inv2 (fun I => f_X4_boilsIn a I) (fun I => f_X5_boilsIn a I)) ∧
  (∀ a : Int32, kgSame Inv Inv2 (fun I => f_X4_boilsInAgain a I) (fun I => f_X5_boilsInAgain a I)) ∧
  (∀ a : Int32, kgSame Inv Inv2 (fun I => f_X4_dryIn a I) (fun I => f_X5_dryIn a I)) ∧
  (kgSame Inv Inv2 (fun I => f_X4_bestPitch I) (fun I => f_X5_bestPitch I)) ∧
  (∀ a c : Int32, kgSame Inv Inv2 (fun I => f_X4_memberOf a c I) (fun I => f_X5_memberOf a c I)) ∧
  (∀ a : Int32, kgSame Inv Inv2 (fun I => f_X4_ranked a I) (fun I => f_X5_ranked a I)) ∧
  (∀ a : Int32, kgSame Inv Inv2 (fun I => f_X4_hottest a I) (fun I => f_X5_hottest a I)) ∧
  (∀ a : Int32, kgSame Inv Inv2 (fun I => f_X4_append a I) (fun I => f_X5_append a I)) ∧
  (kgSame Inv Inv2 (fun I => f_X4_run I) (fun I => f_X5_run I)) ∧
  (∀ a : Int32, kgSame Inv Inv2 (fun I => f_X4_tell a I) (fun I => f_X5_tell a I)) ∧
  (kgSame Inv Inv2 (fun I => f_X4_tellStoves I) (fun I => f_X5_tellStoves I)) ∧
  (∀ a : Int32, kgSame Inv Inv2 (fun I => f_X4_character a I) (fun I => f_X5_character a I)) ∧
  (∀ a c : Int32, c = 0 ∨ c = 1 → kgSame Inv Inv2 (fun I => f_X4_reason a c I) (fun I => f_X5_reason a c I)) ∧
  (∀ a : Int32, kgSame Inv Inv2 (fun I => f_X4_account a I) (fun I => f_X5_account a I)) ∧
  (kgSame Inv Inv2 (fun I => f_X4_isBalanced I) (fun I => f_X5_isBalanced I)) ∧
  (kgSameD Inv Inv2 (fun I => f_X4_meanWater I) (fun I => f_X5_meanWater I)) ∧
  (kgSameF Inv Inv2 (fun I => f_X4_whistleShare I) (fun I => f_X5_whistleShare I)) ∧
  (kgSame Inv Inv2 (fun I => f_X4_undo I) (fun I => f_X5_undo I)) ∧
  (kgSame Inv Inv2 (fun I => f_X4_save I) (fun I => f_X5_save I)) ∧
  (kgSame Inv Inv2 (fun I => f_X4_restore I) (fun I => f_X5_restore I))
theorem lw_c_own {X : kgCX Unit} {Inv Inv2 : kgM → Prop} (hp : kgOK Inv Inv2) {b N : Nat} {xs : Nat → Int32} {ce sl : Nat} {i : Int32} {I : kgM} (S : Cx X cL_law RL 8 2048 84000 600000 7302250) (hsc : Sc X b N xs) (h1 : vp_in (i + 1) N) (h2 : vp_in (i + 2) N) (h3 : vp_in (i + 3) N) (hI : Inv I) (hce : ce + 30 ≤ 600000) (hsl : sl + 1000 ≤ 7302250)
    (kk : ∀ J, Inv2 J → AW X 8 (ce + 30) (sl + 1000) none (some ()) 1083 [(0, .ref b), (1, .ref (kgO (kgHs X) 0)), (2, .ref (kgO (kgHs X) 177)), (3, .int i)] [] J) : AW X 8 ce sl none (some ()) 188 [(0, .ref b), (1, .ref (kgO (kgHs X) 0)), (2, .ref (kgO (kgHs X) 177)), (3, .int i)] [] I := by
  obtain ⟨x, J, J2, e1, e2, hI2⟩ := hp.1 (xs (i + 1).toNatClampNeg) (xs (i + 2).toNatClampNeg) I hI
  refine aw_aload_n S 1 rfl dL_law_188 rfl ?_
  refine aw_aload_n S 0 rfl dL_law_189 rfl ?_
  refine aw_iload_n S 3 rfl dL_law_190 rfl ?_
  refine aw_iconst S dL_law_191 (v := 1) (by decide) ?_
  refine aw_iadd S dL_law_192 ?_
  refine lw_sld S hsc h1 dL_law_193 ?_
  refine aw_aload_n S 0 rfl dL_law_194 rfl ?_
  refine aw_iload_n S 3 rfl dL_law_195 rfl ?_
  refine aw_iconst S dL_law_196 (v := 2) (by decide) ?_
  refine aw_iadd S dL_law_197 ?_
  refine lw_sld S hsc h2 dL_law_198 ?_
  refine lw_cV (ce2 := ce + 25) (sl2 := sl + 900) S 0 [.int (xs (i + 1).toNatClampNeg), .int (xs (i + 2).toNatClampNeg)] e1 vw_X4_own cl_X4 rfl (by decide) tw_308 (s_X4_own _ _ _ (xs (i + 1).toNatClampNeg) (xs (i + 2).toNatClampNeg) I) (by decide) rfl rfl (Nat.le_of_ble_eq_true rfl) (by first | exact Nat.le_refl _ | omega) (by first | exact Nat.le_refl _ | omega) (by omega) (by omega) dL_law_199 ?_
  refine aw_aload_n S 2 rfl dL_law_202 rfl ?_
  refine aw_aload_n S 0 rfl dL_law_203 rfl ?_
  refine aw_iload_n S 3 rfl dL_law_204 rfl ?_
  refine aw_iconst S dL_law_205 (v := 1) (by decide) ?_
  refine aw_iadd S dL_law_206 ?_
  refine lw_sld S hsc h1 dL_law_207 ?_
  refine aw_aload_n S 0 rfl dL_law_208 rfl ?_
  refine aw_iload_n S 3 rfl dL_law_209 rfl ?_
  refine aw_iconst S dL_law_210 (v := 2) (by decide) ?_
  refine aw_iadd S dL_law_211 ?_
  refine lw_sld S hsc h2 dL_law_212 ?_
  refine lw_cV (ce2 := ce + 30) (sl2 := sl + 1000) S 177 [.int (xs (i + 1).toNatClampNeg), .int (xs (i + 2).toNatClampNeg)] e2 vw_X5_own cl_X5 rfl (by decide) tw_1013 (s_X5_own _ _ _ (xs (i + 1).toNatClampNeg) (xs (i + 2).toNatClampNeg) J) (by decide) rfl rfl (Nat.le_of_ble_eq_true rfl) (by first | exact Nat.le_refl _ | omega) (by first | exact Nat.le_refl _ | omega) (by omega) (by omega) dL_law_213 ?_
  exact aw_icmp_eqT (tgt := 1083) S dL_law_216 (by decide) rfl (kk J2 hI2)
theorem lw_c_owner {X : kgCX Unit} {Inv Inv2 : kgM → Prop} (hp : kgOK Inv Inv2) {b N : Nat} {xs : Nat → Int32} {ce sl : Nat} {i : Int32} {I : kgM} (S : Cx X cL_law RL 8 2048 84000 600000 7302250) (hsc : Sc X b N xs) (h1 : vp_in (i + 1) N) (h2 : vp_in (i + 2) N) (h3 : vp_in (i + 3) N) (hI : Inv I) (hce : ce + 30 ≤ 600000) (hsl : sl + 1000 ≤ 7302250)
    (kk : ∀ J, Inv2 J → AW X 8 (ce + 30) (sl + 1000) none (some ()) 1083 [(0, .ref b), (1, .ref (kgO (kgHs X) 0)), (2, .ref (kgO (kgHs X) 177)), (3, .int i)] [] J) : AW X 8 ce sl none (some ()) 221 [(0, .ref b), (1, .ref (kgO (kgHs X) 0)), (2, .ref (kgO (kgHs X) 177)), (3, .int i)] [] I := by
  obtain ⟨x, J, J2, e1, e2, hI2⟩ := hp.2.1 (xs (i + 1).toNatClampNeg) I hI
  refine aw_aload_n S 1 rfl dL_law_221 rfl ?_
  refine aw_aload_n S 0 rfl dL_law_222 rfl ?_
  refine aw_iload_n S 3 rfl dL_law_223 rfl ?_
  refine aw_iconst S dL_law_224 (v := 1) (by decide) ?_
  refine aw_iadd S dL_law_225 ?_
  refine lw_sld S hsc h1 dL_law_226 ?_
  refine lw_cV (ce2 := ce + 25) (sl2 := sl + 900) S 0 [.int (xs (i + 1).toNatClampNeg)] e1 vw_X4_owner cl_X4 rfl (by decide) tw_361 (s_X4_owner _ _ _ (xs (i + 1).toNatClampNeg) I) (by decide) rfl rfl (Nat.le_of_ble_eq_true rfl) (by first | exact Nat.le_refl _ | omega) (by first | exact Nat.le_refl _ | omega) (by omega) (by omega) dL_law_227 ?_
  refine aw_aload_n S 2 rfl dL_law_230 rfl ?_
  refine aw_aload_n S 0 rfl dL_law_231 rfl ?_
  refine aw_iload_n S 3 rfl dL_law_232 rfl ?_
  refine aw_iconst S dL_law_233 (v := 1) (by decide) ?_
  refine aw_iadd S dL_law_234 ?_
  refine lw_sld S hsc h1 dL_law_235 ?_
  refine lw_cV (ce2 := ce + 30) (sl2 := sl + 1000) S 177 [.int (xs (i + 1).toNatClampNeg)] e2 vw_X5_owner cl_X5 rfl (by decide) tw_1184 (s_X5_owner _ _ _ (xs (i + 1).toNatClampNeg) J) (by decide) rfl rfl (Nat.le_of_ble_eq_true rfl) (by first | exact Nat.le_refl _ | omega) (by first | exact Nat.le_refl _ | omega) (by omega) (by omega) dL_law_236 ?_
  exact aw_icmp_eqT (tgt := 1083) S dL_law_239 (by decide) rfl (kk J2 hI2)
theorem lw_c_kettle {X : kgCX Unit} {Inv Inv2 : kgM → Prop} (hp : kgOK Inv Inv2) {b N : Nat} {xs : Nat → Int32} {ce sl : Nat} {i : Int32} {I : kgM} (S : Cx X cL_law RL 8 2048 84000 600000 7302250) (hsc : Sc X b N xs) (h1 : vp_in (i + 1) N) (h2 : vp_in (i + 2) N) (h3 : vp_in (i + 3) N) (hI : Inv I) (hce : ce + 30 ≤ 600000) (hsl : sl + 1000 ≤ 7302250)
    (kk : ∀ J, Inv2 J → AW X 8 (ce + 30) (sl + 1000) none (some ()) 1083 [(0, .ref b), (1, .ref (kgO (kgHs X) 0)), (2, .ref (kgO (kgHs X) 177)), (3, .int i)] [] J) : AW X 8 ce sl none (some ()) 244 [(0, .ref b), (1, .ref (kgO (kgHs X) 0)), (2, .ref (kgO (kgHs X) 177)), (3, .int i)] [] I := by
  obtain ⟨x, J, J2, e1, e2, hI2⟩ := hp.2.2.1 (xs (i + 1).toNatClampNeg) (xs (i + 2).toNatClampNeg) (xs (i + 3).toNatClampNeg) I hI
  refine aw_aload_n S 1 rfl dL_law_244 rfl ?_
  refine aw_aload_n S 0 rfl dL_law_245 rfl ?_
  refine aw_iload_n S 3 rfl dL_law_246 rfl ?_
  refine aw_iconst S dL_law_247 (v := 1) (by decide) ?_
  refine aw_iadd S dL_law_248 ?_
  refine lw_sld S hsc h1 dL_law_249 ?_
  refine aw_aload_n S 0 rfl dL_law_250 rfl ?_
  refine aw_iload_n S 3 rfl dL_law_251 rfl ?_
  refine aw_iconst S dL_law_252 (v := 2) (by decide) ?_
  refine aw_iadd S dL_law_253 ?_
  refine lw_sld S hsc h2 dL_law_254 ?_
  refine aw_aload_n S 0 rfl dL_law_255 rfl ?_
  refine aw_iload_n S 3 rfl dL_law_256 rfl ?_
  refine aw_iconst S dL_law_257 (v := 3) (by decide) ?_
  refine aw_iadd S dL_law_258 ?_
  refine lw_sld S hsc h3 dL_law_259 ?_
  refine lw_cV (ce2 := ce + 25) (sl2 := sl + 900) S 0 [.int (xs (i + 1).toNatClampNeg), .int (xs (i + 2).toNatClampNeg), .int (xs (i + 3).toNatClampNeg)] e1 vw_X4_kettle cl_X4 rfl (by decide) tw_368 (s_X4_kettle _ _ _ (xs (i + 1).toNatClampNeg) (xs (i + 2).toNatClampNeg) (xs (i + 3).toNatClampNeg) I) (by decide) rfl rfl (Nat.le_of_ble_eq_true rfl) (by first | exact Nat.le_refl _ | omega) (by first | exact Nat.le_refl _ | omega) (by omega) (by omega) dL_law_260 ?_
  refine aw_aload_n S 2 rfl dL_law_263 rfl ?_
  refine aw_aload_n S 0 rfl dL_law_264 rfl ?_
  refine aw_iload_n S 3 rfl dL_law_265 rfl ?_
  refine aw_iconst S dL_law_266 (v := 1) (by decide) ?_
  refine aw_iadd S dL_law_267 ?_
  refine lw_sld S hsc h1 dL_law_268 ?_
  refine aw_aload_n S 0 rfl dL_law_269 rfl ?_
  refine aw_iload_n S 3 rfl dL_law_270 rfl ?_
  refine aw_iconst S dL_law_271 (v := 2) (by decide) ?_
  refine aw_iadd S dL_law_272 ?_
  refine lw_sld S hsc h2 dL_law_273 ?_
  refine aw_aload_n S 0 rfl dL_law_274 rfl ?_
  refine aw_iload_n S 3 rfl dL_law_275 rfl ?_
  refine aw_iconst S dL_law_276 (v := 3) (by decide) ?_
  refine aw_iadd S dL_law_277 ?_
  refine lw_sld S hsc h3 dL_law_278 ?_
  refine lw_cV (ce2 := ce + 30) (sl2 := sl + 1000) S 177 [.int (xs (i + 1).toNatClampNeg), .int (xs (i + 2).toNatClampNeg), .int (xs (i + 3).toNatClampNeg)] e2 vw_X5_kettle cl_X5 rfl (by decide) tw_1051 (s_X5_kettle _ _ _ (xs (i + 1).toNatClampNeg) (xs (i + 2).toNatClampNeg) (xs (i + 3).toNatClampNeg) J) (by decide) rfl rfl (Nat.le_of_ble_eq_true rfl) (by first | exact Nat.le_refl _ | omega) (by first | exact Nat.le_refl _ | omega) (by omega) (by omega) dL_law_279 ?_
  exact aw_icmp_eqT (tgt := 1083) S dL_law_282 (by decide) rfl (kk J2 hI2)
theorem lw_c_fill {X : kgCX Unit} {Inv Inv2 : kgM → Prop} (hp : kgOK Inv Inv2) {b N : Nat} {xs : Nat → Int32} {ce sl : Nat} {i : Int32} {I : kgM} (S : Cx X cL_law RL 8 2048 84000 600000 7302250) (hsc : Sc X b N xs) (h1 : vp_in (i + 1) N) (h2 : vp_in (i + 2) N) (h3 : vp_in (i + 3) N) (hI : Inv I) (hce : ce + 30 ≤ 600000) (hsl : sl + 1000 ≤ 7302250)
    (kk : ∀ J, Inv2 J → AW X 8 (ce + 30) (sl + 1000) none (some ()) 1083 [(0, .ref b), (1, .ref (kgO (kgHs X) 0)), (2, .ref (kgO (kgHs X) 177)), (3, .int i)] [] J) : AW X 8 ce sl none (some ()) 287 [(0, .ref b), (1, .ref (kgO (kgHs X) 0)), (2, .ref (kgO (kgHs X) 177)), (3, .int i)] [] I := by
  obtain ⟨x, J, J2, e1, e2, hI2⟩ := hp.2.2.2.1 (xs (i + 1).toNatClampNeg) (xs (i + 2).toNatClampNeg) I hI
  refine aw_aload_n S 1 rfl dL_law_287 rfl ?_
  refine aw_aload_n S 0 rfl dL_law_288 rfl ?_
  refine aw_iload_n S 3 rfl dL_law_289 rfl ?_
  refine aw_iconst S dL_law_290 (v := 1) (by decide) ?_
  refine aw_iadd S dL_law_291 ?_
  refine lw_sld S hsc h1 dL_law_292 ?_
  refine aw_aload_n S 0 rfl dL_law_293 rfl ?_
  refine aw_iload_n S 3 rfl dL_law_294 rfl ?_
  refine aw_iconst S dL_law_295 (v := 2) (by decide) ?_
  refine aw_iadd S dL_law_296 ?_
  refine lw_sld S hsc h2 dL_law_297 ?_
  refine lw_cV (ce2 := ce + 25) (sl2 := sl + 900) S 0 [.int (xs (i + 1).toNatClampNeg), .int (xs (i + 2).toNatClampNeg)] e1 vw_X4_fill cl_X4 rfl (by decide) tw_380 (s_X4_fill _ _ _ (xs (i + 1).toNatClampNeg) (xs (i + 2).toNatClampNeg) I) (by decide) rfl rfl (Nat.le_of_ble_eq_true rfl) (by first | exact Nat.le_refl _ | omega) (by first | exact Nat.le_refl _ | omega) (by omega) (by omega) dL_law_298 ?_
  refine aw_aload_n S 2 rfl dL_law_301 rfl ?_
  refine aw_aload_n S 0 rfl dL_law_302 rfl ?_
  refine aw_iload_n S 3 rfl dL_law_303 rfl ?_
  refine aw_iconst S dL_law_304 (v := 1) (by decide) ?_
  refine aw_iadd S dL_law_305 ?_
  refine lw_sld S hsc h1 dL_law_306 ?_
  refine aw_aload_n S 0 rfl dL_law_307 rfl ?_
  refine aw_iload_n S 3 rfl dL_law_308 rfl ?_
  refine aw_iconst S dL_law_309 (v := 2) (by decide) ?_
  refine aw_iadd S dL_law_310 ?_
  refine lw_sld S hsc h2 dL_law_311 ?_
  refine lw_cV (ce2 := ce + 30) (sl2 := sl + 1000) S 177 [.int (xs (i + 1).toNatClampNeg), .int (xs (i + 2).toNatClampNeg)] e2 vw_X5_fill cl_X5 rfl (by decide) tw_1063 (s_X5_fill _ _ _ (xs (i + 1).toNatClampNeg) (xs (i + 2).toNatClampNeg) J) (by decide) rfl rfl (Nat.le_of_ble_eq_true rfl) (by first | exact Nat.le_refl _ | omega) (by first | exact Nat.le_refl _ | omega) (by omega) (by omega) dL_law_312 ?_
  exact aw_icmp_eqT (tgt := 1083) S dL_law_315 (by decide) rfl (kk J2 hI2)
theorem lw_c_kettleOf {X : kgCX Unit} {Inv Inv2 : kgM → Prop} (hp : kgOK Inv Inv2) {b N : Nat} {xs : Nat → Int32} {ce sl : Nat} {i : Int32} {I : kgM} (S : Cx X cL_law RL 8 2048 84000 600000 7302250) (hsc : Sc X b N xs) (h1 : vp_in (i + 1) N) (h2 : vp_in (i + 2) N) (h3 : vp_in (i + 3) N) (hI : Inv I) (hce : ce + 30 ≤ 600000) (hsl : sl + 1000 ≤ 7302250)
    (kk : ∀ J, Inv2 J → AW X 8 (ce + 30) (sl + 1000) none (some ()) 1083 [(0, .ref b), (1, .ref (kgO (kgHs X) 0)), (2, .ref (kgO (kgHs X) 177)), (3, .int i)] [] J) : AW X 8 ce sl none (some ()) 320 [(0, .ref b), (1, .ref (kgO (kgHs X) 0)), (2, .ref (kgO (kgHs X) 177)), (3, .int i)] [] I := by
  obtain ⟨x, J, J2, e1, e2, hI2⟩ := hp.2.2.2.2.1 (xs (i + 1).toNatClampNeg) (xs (i + 2).toNatClampNeg) I hI
  refine aw_aload_n S 1 rfl dL_law_320 rfl ?_
  refine aw_aload_n S 0 rfl dL_law_321 rfl ?_
  refine aw_iload_n S 3 rfl dL_law_322 rfl ?_
  refine aw_iconst S dL_law_323 (v := 1) (by decide) ?_
  refine aw_iadd S dL_law_324 ?_
  refine lw_sld S hsc h1 dL_law_325 ?_
  refine aw_aload_n S 0 rfl dL_law_326 rfl ?_
  refine aw_iload_n S 3 rfl dL_law_327 rfl ?_
  refine aw_iconst S dL_law_328 (v := 2) (by decide) ?_
  refine aw_iadd S dL_law_329 ?_
  refine lw_sld S hsc h2 dL_law_330 ?_
  refine lw_cV (ce2 := ce + 25) (sl2 := sl + 900) S 0 [.int (xs (i + 1).toNatClampNeg), .int (xs (i + 2).toNatClampNeg)] e1 vw_X4_kettleOf cl_X4 rfl (by decide) tw_392 (s_X4_kettleOf _ _ _ (xs (i + 1).toNatClampNeg) (xs (i + 2).toNatClampNeg) I) (by decide) rfl rfl (Nat.le_of_ble_eq_true rfl) (by first | exact Nat.le_refl _ | omega) (by first | exact Nat.le_refl _ | omega) (by omega) (by omega) dL_law_331 ?_
  refine aw_aload_n S 2 rfl dL_law_334 rfl ?_
  refine aw_aload_n S 0 rfl dL_law_335 rfl ?_
  refine aw_iload_n S 3 rfl dL_law_336 rfl ?_
  refine aw_iconst S dL_law_337 (v := 1) (by decide) ?_
  refine aw_iadd S dL_law_338 ?_
  refine lw_sld S hsc h1 dL_law_339 ?_
  refine aw_aload_n S 0 rfl dL_law_340 rfl ?_
  refine aw_iload_n S 3 rfl dL_law_341 rfl ?_
  refine aw_iconst S dL_law_342 (v := 2) (by decide) ?_
  refine aw_iadd S dL_law_343 ?_
  refine lw_sld S hsc h2 dL_law_344 ?_
  refine lw_cV (ce2 := ce + 30) (sl2 := sl + 1000) S 177 [.int (xs (i + 1).toNatClampNeg), .int (xs (i + 2).toNatClampNeg)] e2 vw_X5_kettleOf cl_X5 rfl (by decide) tw_1188 (s_X5_kettleOf _ _ _ (xs (i + 1).toNatClampNeg) (xs (i + 2).toNatClampNeg) J) (by decide) rfl rfl (Nat.le_of_ble_eq_true rfl) (by first | exact Nat.le_refl _ | omega) (by first | exact Nat.le_refl _ | omega) (by omega) (by omega) dL_law_345 ?_
  exact aw_icmp_eqT (tgt := 1083) S dL_law_348 (by decide) rfl (kk J2 hI2)
theorem lw_c_set {X : kgCX Unit} {Inv Inv2 : kgM → Prop} (hp : kgOK Inv Inv2) {b N : Nat} {xs : Nat → Int32} {ce sl : Nat} {i : Int32} {I : kgM} (S : Cx X cL_law RL 8 2048 84000 600000 7302250) (hsc : Sc X b N xs) (h1 : vp_in (i + 1) N) (h2 : vp_in (i + 2) N) (h3 : vp_in (i + 3) N) (hI : Inv I) (hce : ce + 30 ≤ 600000) (hsl : sl + 1000 ≤ 7302250)
    (kk : ∀ J, Inv2 J → AW X 8 (ce + 30) (sl + 1000) none (some ()) 1083 [(0, .ref b), (1, .ref (kgO (kgHs X) 0)), (2, .ref (kgO (kgHs X) 177)), (3, .int i)] [] J) : AW X 8 ce sl none (some ()) 353 [(0, .ref b), (1, .ref (kgO (kgHs X) 0)), (2, .ref (kgO (kgHs X) 177)), (3, .int i)] [] I := by
  obtain ⟨x, J, J2, e1, e2, hI2⟩ := hp.2.2.2.2.2.1 (xs (i + 1).toNatClampNeg) (xs (i + 2).toNatClampNeg) I hI
  refine aw_aload_n S 1 rfl dL_law_353 rfl ?_
  refine aw_aload_n S 0 rfl dL_law_354 rfl ?_
  refine aw_iload_n S 3 rfl dL_law_355 rfl ?_
  refine aw_iconst S dL_law_356 (v := 1) (by decide) ?_
  refine aw_iadd S dL_law_357 ?_
  refine lw_sld S hsc h1 dL_law_358 ?_
  refine aw_aload_n S 0 rfl dL_law_359 rfl ?_
  refine aw_iload_n S 3 rfl dL_law_360 rfl ?_
  refine aw_iconst S dL_law_361 (v := 2) (by decide) ?_
  refine aw_iadd S dL_law_362 ?_
  refine lw_sld S hsc h2 dL_law_363 ?_
  refine lw_cV (ce2 := ce + 25) (sl2 := sl + 900) S 0 [.int (xs (i + 1).toNatClampNeg), .int (xs (i + 2).toNatClampNeg)] e1 vw_X4_set cl_X4 rfl (by decide) tw_422 (s_X4_set _ _ _ (xs (i + 1).toNatClampNeg) (xs (i + 2).toNatClampNeg) I) (by decide) rfl rfl (Nat.le_of_ble_eq_true rfl) (by first | exact Nat.le_refl _ | omega) (by first | exact Nat.le_refl _ | omega) (by omega) (by omega) dL_law_364 ?_
  refine aw_aload_n S 2 rfl dL_law_367 rfl ?_
  refine aw_aload_n S 0 rfl dL_law_368 rfl ?_
  refine aw_iload_n S 3 rfl dL_law_369 rfl ?_
  refine aw_iconst S dL_law_370 (v := 1) (by decide) ?_
  refine aw_iadd S dL_law_371 ?_
  refine lw_sld S hsc h1 dL_law_372 ?_
  refine aw_aload_n S 0 rfl dL_law_373 rfl ?_
  refine aw_iload_n S 3 rfl dL_law_374 rfl ?_
  refine aw_iconst S dL_law_375 (v := 2) (by decide) ?_
  refine aw_iadd S dL_law_376 ?_
  refine lw_sld S hsc h2 dL_law_377 ?_
  refine lw_cV (ce2 := ce + 30) (sl2 := sl + 1000) S 177 [.int (xs (i + 1).toNatClampNeg), .int (xs (i + 2).toNatClampNeg)] e2 vw_X5_set cl_X5 rfl (by decide) tw_1079 (s_X5_set _ _ _ (xs (i + 1).toNatClampNeg) (xs (i + 2).toNatClampNeg) J) (by decide) rfl rfl (Nat.le_of_ble_eq_true rfl) (by first | exact Nat.le_refl _ | omega) (by first | exact Nat.le_refl _ | omega) (by omega) (by omega) dL_law_378 ?_
  exact aw_icmp_eqT (tgt := 1083) S dL_law_381 (by decide) rfl (kk J2 hI2)
theorem lw_c_off {X : kgCX Unit} {Inv Inv2 : kgM → Prop} (hp : kgOK Inv Inv2) {b N : Nat} {xs : Nat → Int32} {ce sl : Nat} {i : Int32} {I : kgM} (S : Cx X cL_law RL 8 2048 84000 600000 7302250) (hsc : Sc X b N xs) (h1 : vp_in (i + 1) N) (h2 : vp_in (i + 2) N) (h3 : vp_in (i + 3) N) (hI : Inv I) (hce : ce + 30 ≤ 600000) (hsl : sl + 1000 ≤ 7302250)
    (kk : ∀ J, Inv2 J → AW X 8 (ce + 30) (sl + 1000) none (some ()) 1083 [(0, .ref b), (1, .ref (kgO (kgHs X) 0)), (2, .ref (kgO (kgHs X) 177)), (3, .int i)] [] J) : AW X 8 ce sl none (some ()) 386 [(0, .ref b), (1, .ref (kgO (kgHs X) 0)), (2, .ref (kgO (kgHs X) 177)), (3, .int i)] [] I := by
  obtain ⟨x, J, J2, e1, e2, hI2⟩ := hp.2.2.2.2.2.2.1 (xs (i + 1).toNatClampNeg) I hI
  refine aw_aload_n S 1 rfl dL_law_386 rfl ?_
  refine aw_aload_n S 0 rfl dL_law_387 rfl ?_
  refine aw_iload_n S 3 rfl dL_law_388 rfl ?_
  refine aw_iconst S dL_law_389 (v := 1) (by decide) ?_
  refine aw_iadd S dL_law_390 ?_
  refine lw_sld S hsc h1 dL_law_391 ?_
  refine lw_cV (ce2 := ce + 25) (sl2 := sl + 900) S 0 [.int (xs (i + 1).toNatClampNeg)] e1 vw_X4_off cl_X4 rfl (by decide) tw_449 (s_X4_off _ _ _ (xs (i + 1).toNatClampNeg) I) (by decide) rfl rfl (Nat.le_of_ble_eq_true rfl) (by first | exact Nat.le_refl _ | omega) (by first | exact Nat.le_refl _ | omega) (by omega) (by omega) dL_law_392 ?_
  refine aw_aload_n S 2 rfl dL_law_395 rfl ?_
  refine aw_aload_n S 0 rfl dL_law_396 rfl ?_
  refine aw_iload_n S 3 rfl dL_law_397 rfl ?_
  refine aw_iconst S dL_law_398 (v := 1) (by decide) ?_
  refine aw_iadd S dL_law_399 ?_
  refine lw_sld S hsc h1 dL_law_400 ?_
  refine lw_cV (ce2 := ce + 30) (sl2 := sl + 1000) S 177 [.int (xs (i + 1).toNatClampNeg)] e2 vw_X5_off cl_X5 rfl (by decide) tw_1110 (s_X5_off _ _ _ (xs (i + 1).toNatClampNeg) J) (by decide) rfl rfl (Nat.le_of_ble_eq_true rfl) (by first | exact Nat.le_refl _ | omega) (by first | exact Nat.le_refl _ | omega) (by omega) (by omega) dL_law_401 ?_
  exact aw_icmp_eqT (tgt := 1083) S dL_law_404 (by decide) rfl (kk J2 hI2)
theorem lw_c_heat {X : kgCX Unit} {Inv Inv2 : kgM → Prop} (hp : kgOK Inv Inv2) {b N : Nat} {xs : Nat → Int32} {ce sl : Nat} {i : Int32} {I : kgM} (S : Cx X cL_law RL 8 2048 84000 600000 7302250) (hsc : Sc X b N xs) (h1 : vp_in (i + 1) N) (h2 : vp_in (i + 2) N) (h3 : vp_in (i + 3) N) (hI : Inv I) (hce : ce + 30 ≤ 600000) (hsl : sl + 1000 ≤ 7302250)
    (kk : ∀ J, Inv2 J → AW X 8 (ce + 30) (sl + 1000) none (some ()) 1083 [(0, .ref b), (1, .ref (kgO (kgHs X) 0)), (2, .ref (kgO (kgHs X) 177)), (3, .int i)] [] J) : AW X 8 ce sl none (some ()) 409 [(0, .ref b), (1, .ref (kgO (kgHs X) 0)), (2, .ref (kgO (kgHs X) 177)), (3, .int i)] [] I := by
  obtain ⟨x, J, J2, e1, e2, hI2⟩ := hp.2.2.2.2.2.2.2.1 (xs (i + 1).toNatClampNeg) (xs (i + 2).toNatClampNeg) I hI
  refine aw_aload_n S 1 rfl dL_law_409 rfl ?_
  refine aw_aload_n S 0 rfl dL_law_410 rfl ?_
  refine aw_iload_n S 3 rfl dL_law_411 rfl ?_
  refine aw_iconst S dL_law_412 (v := 1) (by decide) ?_
  refine aw_iadd S dL_law_413 ?_
  refine lw_sld S hsc h1 dL_law_414 ?_
  refine aw_aload_n S 0 rfl dL_law_415 rfl ?_
  refine aw_iload_n S 3 rfl dL_law_416 rfl ?_
  refine aw_iconst S dL_law_417 (v := 2) (by decide) ?_
  refine aw_iadd S dL_law_418 ?_
  refine lw_sld S hsc h2 dL_law_419 ?_
  refine lw_cV (ce2 := ce + 25) (sl2 := sl + 900) S 0 [.int (xs (i + 1).toNatClampNeg), .int (xs (i + 2).toNatClampNeg)] e1 vw_X4_heat cl_X4 rfl (by decide) tw_457 (s_X4_heat _ _ _ (xs (i + 1).toNatClampNeg) (xs (i + 2).toNatClampNeg) I) (by decide) rfl rfl (Nat.le_of_ble_eq_true rfl) (by first | exact Nat.le_refl _ | omega) (by first | exact Nat.le_refl _ | omega) (by omega) (by omega) dL_law_420 ?_
  refine aw_aload_n S 2 rfl dL_law_423 rfl ?_
  refine aw_aload_n S 0 rfl dL_law_424 rfl ?_
  refine aw_iload_n S 3 rfl dL_law_425 rfl ?_
  refine aw_iconst S dL_law_426 (v := 1) (by decide) ?_
  refine aw_iadd S dL_law_427 ?_
  refine lw_sld S hsc h1 dL_law_428 ?_
  refine aw_aload_n S 0 rfl dL_law_429 rfl ?_
  refine aw_iload_n S 3 rfl dL_law_430 rfl ?_
  refine aw_iconst S dL_law_431 (v := 2) (by decide) ?_
  refine aw_iadd S dL_law_432 ?_
  refine lw_sld S hsc h2 dL_law_433 ?_
  refine lw_cV (ce2 := ce + 30) (sl2 := sl + 1000) S 177 [.int (xs (i + 1).toNatClampNeg), .int (xs (i + 2).toNatClampNeg)] e2 vw_X5_heat cl_X5 rfl (by decide) tw_1118 (s_X5_heat _ _ _ (xs (i + 1).toNatClampNeg) (xs (i + 2).toNatClampNeg) J) (by decide) rfl rfl (Nat.le_of_ble_eq_true rfl) (by first | exact Nat.le_refl _ | omega) (by first | exact Nat.le_refl _ | omega) (by omega) (by omega) dL_law_434 ?_
  exact aw_icmp_eqT (tgt := 1083) S dL_law_437 (by decide) rfl (kk J2 hI2)
theorem lw_c_lid {X : kgCX Unit} {Inv Inv2 : kgM → Prop} (hp : kgOK Inv Inv2) {b N : Nat} {xs : Nat → Int32} {ce sl : Nat} {i : Int32} {I : kgM} (S : Cx X cL_law RL 8 2048 84000 600000 7302250) (hsc : Sc X b N xs) (h1 : vp_in (i + 1) N) (h2 : vp_in (i + 2) N) (h3 : vp_in (i + 3) N) (hI : Inv I) (hce : ce + 30 ≤ 600000) (hsl : sl + 1000 ≤ 7302250)
    (kk : ∀ J, Inv2 J → AW X 8 (ce + 30) (sl + 1000) none (some ()) 1083 [(0, .ref b), (1, .ref (kgO (kgHs X) 0)), (2, .ref (kgO (kgHs X) 177)), (3, .int i)] [] J) : AW X 8 ce sl none (some ()) 442 [(0, .ref b), (1, .ref (kgO (kgHs X) 0)), (2, .ref (kgO (kgHs X) 177)), (3, .int i)] [] I := by
  obtain ⟨x, J, J2, e1, e2, hI2⟩ := hp.2.2.2.2.2.2.2.2.1 (xs (i + 1).toNatClampNeg) (xs (i + 2).toNatClampNeg) I hI
  refine aw_aload_n S 1 rfl dL_law_442 rfl ?_
  refine aw_aload_n S 0 rfl dL_law_443 rfl ?_
  refine aw_iload_n S 3 rfl dL_law_444 rfl ?_
  refine aw_iconst S dL_law_445 (v := 1) (by decide) ?_
  refine aw_iadd S dL_law_446 ?_
  refine lw_sld S hsc h1 dL_law_447 ?_
  refine aw_aload_n S 0 rfl dL_law_448 rfl ?_
  refine aw_iload_n S 3 rfl dL_law_449 rfl ?_
  refine aw_iconst S dL_law_450 (v := 2) (by decide) ?_
  refine aw_iadd S dL_law_451 ?_
  refine lw_sld S hsc h2 dL_law_452 ?_
  refine lw_cV (ce2 := ce + 25) (sl2 := sl + 900) S 0 [.int (xs (i + 1).toNatClampNeg), .int (xs (i + 2).toNatClampNeg)] e1 vw_X4_lid cl_X4 rfl (by decide) tw_465 (s_X4_lid _ _ _ (xs (i + 1).toNatClampNeg) (xs (i + 2).toNatClampNeg) I) (by decide) rfl rfl (Nat.le_of_ble_eq_true rfl) (by first | exact Nat.le_refl _ | omega) (by first | exact Nat.le_refl _ | omega) (by omega) (by omega) dL_law_453 ?_
  refine aw_aload_n S 2 rfl dL_law_456 rfl ?_
  refine aw_aload_n S 0 rfl dL_law_457 rfl ?_
  refine aw_iload_n S 3 rfl dL_law_458 rfl ?_
  refine aw_iconst S dL_law_459 (v := 1) (by decide) ?_
  refine aw_iadd S dL_law_460 ?_
  refine lw_sld S hsc h1 dL_law_461 ?_
  refine aw_aload_n S 0 rfl dL_law_462 rfl ?_
  refine aw_iload_n S 3 rfl dL_law_463 rfl ?_
  refine aw_iconst S dL_law_464 (v := 2) (by decide) ?_
  refine aw_iadd S dL_law_465 ?_
  refine lw_sld S hsc h2 dL_law_466 ?_
  refine lw_cV (ce2 := ce + 30) (sl2 := sl + 1000) S 177 [.int (xs (i + 1).toNatClampNeg), .int (xs (i + 2).toNatClampNeg)] e2 vw_X5_lid cl_X5 rfl (by decide) tw_1126 (s_X5_lid _ _ _ (xs (i + 1).toNatClampNeg) (xs (i + 2).toNatClampNeg) J) (by decide) rfl rfl (Nat.le_of_ble_eq_true rfl) (by first | exact Nat.le_refl _ | omega) (by first | exact Nat.le_refl _ | omega) (by omega) (by omega) dL_law_467 ?_
  exact aw_icmp_eqT (tgt := 1083) S dL_law_470 (by decide) rfl (kk J2 hI2)
theorem lw_c_appeal {X : kgCX Unit} {Inv Inv2 : kgM → Prop} (hp : kgOK Inv Inv2) {b N : Nat} {xs : Nat → Int32} {ce sl : Nat} {i : Int32} {I : kgM} (S : Cx X cL_law RL 8 2048 84000 600000 7302250) (hsc : Sc X b N xs) (h1 : vp_in (i + 1) N) (h2 : vp_in (i + 2) N) (h3 : vp_in (i + 3) N) (hI : Inv I) (hce : ce + 30 ≤ 600000) (hsl : sl + 1000 ≤ 7302250)
    (kk : ∀ J, Inv2 J → AW X 8 (ce + 30) (sl + 1000) none (some ()) 1083 [(0, .ref b), (1, .ref (kgO (kgHs X) 0)), (2, .ref (kgO (kgHs X) 177)), (3, .int i)] [] J) : AW X 8 ce sl none (some ()) 475 [(0, .ref b), (1, .ref (kgO (kgHs X) 0)), (2, .ref (kgO (kgHs X) 177)), (3, .int i)] [] I := by
  obtain ⟨x, J, J2, e1, e2, hI2⟩ := hp.2.2.2.2.2.2.2.2.2.1 (xs (i + 1).toNatClampNeg) (xs (i + 2).toNatClampNeg) I hI
  refine aw_aload_n S 1 rfl dL_law_475 rfl ?_
  refine aw_aload_n S 0 rfl dL_law_476 rfl ?_
  refine aw_iload_n S 3 rfl dL_law_477 rfl ?_
  refine aw_iconst S dL_law_478 (v := 1) (by decide) ?_
  refine aw_iadd S dL_law_479 ?_
  refine lw_sld S hsc h1 dL_law_480 ?_
  refine aw_aload_n S 0 rfl dL_law_481 rfl ?_
  refine aw_iload_n S 3 rfl dL_law_482 rfl ?_
  refine aw_iconst S dL_law_483 (v := 2) (by decide) ?_
  refine aw_iadd S dL_law_484 ?_
  refine lw_sld S hsc h2 dL_law_485 ?_
  refine lw_cV (ce2 := ce + 25) (sl2 := sl + 900) S 0 [.int (xs (i + 1).toNatClampNeg), .int (xs (i + 2).toNatClampNeg)] e1 vw_X4_appeal cl_X4 rfl (by decide) tw_477 (s_X4_appeal _ _ _ (xs (i + 1).toNatClampNeg) (xs (i + 2).toNatClampNeg) I) (by decide) rfl rfl (Nat.le_of_ble_eq_true rfl) (by first | exact Nat.le_refl _ | omega) (by first | exact Nat.le_refl _ | omega) (by omega) (by omega) dL_law_486 ?_
  refine aw_aload_n S 2 rfl dL_law_489 rfl ?_
  refine aw_aload_n S 0 rfl dL_law_490 rfl ?_
  refine aw_iload_n S 3 rfl dL_law_491 rfl ?_
  refine aw_iconst S dL_law_492 (v := 1) (by decide) ?_
  refine aw_iadd S dL_law_493 ?_
  refine lw_sld S hsc h1 dL_law_494 ?_
  refine aw_aload_n S 0 rfl dL_law_495 rfl ?_
  refine aw_iload_n S 3 rfl dL_law_496 rfl ?_
  refine aw_iconst S dL_law_497 (v := 2) (by decide) ?_
  refine aw_iadd S dL_law_498 ?_
  refine lw_sld S hsc h2 dL_law_499 ?_
  refine lw_cV (ce2 := ce + 30) (sl2 := sl + 1000) S 177 [.int (xs (i + 1).toNatClampNeg), .int (xs (i + 2).toNatClampNeg)] e2 vw_X5_appeal cl_X5 rfl (by decide) tw_1138 (s_X5_appeal _ _ _ (xs (i + 1).toNatClampNeg) (xs (i + 2).toNatClampNeg) J) (by decide) rfl rfl (Nat.le_of_ble_eq_true rfl) (by first | exact Nat.le_refl _ | omega) (by first | exact Nat.le_refl _ | omega) (by omega) (by omega) dL_law_500 ?_
  exact aw_icmp_eqT (tgt := 1083) S dL_law_503 (by decide) rfl (kk J2 hI2)
theorem lw_c_stoveOf {X : kgCX Unit} {Inv Inv2 : kgM → Prop} (hp : kgOK Inv Inv2) {b N : Nat} {xs : Nat → Int32} {ce sl : Nat} {i : Int32} {I : kgM} (S : Cx X cL_law RL 8 2048 84000 600000 7302250) (hsc : Sc X b N xs) (h1 : vp_in (i + 1) N) (h2 : vp_in (i + 2) N) (h3 : vp_in (i + 3) N) (hI : Inv I) (hce : ce + 30 ≤ 600000) (hsl : sl + 1000 ≤ 7302250)
    (kk : ∀ J, Inv2 J → AW X 8 (ce + 30) (sl + 1000) none (some ()) 1083 [(0, .ref b), (1, .ref (kgO (kgHs X) 0)), (2, .ref (kgO (kgHs X) 177)), (3, .int i)] [] J) : AW X 8 ce sl none (some ()) 508 [(0, .ref b), (1, .ref (kgO (kgHs X) 0)), (2, .ref (kgO (kgHs X) 177)), (3, .int i)] [] I := by
  by_cases hz : xs (i + 2).toNatClampNeg = 0
  · obtain ⟨x, J, J2, e1, e2, hI2⟩ := hp.2.2.2.2.2.2.2.2.2.2.1 (xs (i + 1).toNatClampNeg) 0 (by decide) I hI
    refine aw_aload_n S 1 rfl dL_law_508 rfl ?_
    refine aw_aload_n S 0 rfl dL_law_509 rfl ?_
    refine aw_iload_n S 3 rfl dL_law_510 rfl ?_
    refine aw_iconst S dL_law_511 (v := 1) (by decide) ?_
    refine aw_iadd S dL_law_512 ?_
    refine lw_sld S hsc h1 dL_law_513 ?_
    refine aw_aload_n S 0 rfl dL_law_514 rfl ?_
    refine aw_iload_n S 3 rfl dL_law_515 rfl ?_
    refine aw_iconst S dL_law_516 (v := 2) (by decide) ?_
    refine aw_iadd S dL_law_517 ?_
    refine lw_sld S hsc h2 dL_law_518 ?_
    refine aw_if_eqT (y := 0) (tgt := 526) S dL_law_519 (by decide) hz ?_
    refine aw_iconst S dL_law_526 (v := 0) (by decide) ?_
    refine lw_cV (ce2 := ce + 25) (sl2 := sl + 900) S 0 [.int (xs (i + 1).toNatClampNeg), .int 0] e1 vw_X4_stoveOf cl_X4 rfl (by decide) tw_490 (s_X4_stoveOf _ _ _ (xs (i + 1).toNatClampNeg) (0 : Int32) I) (by decide) rfl rfl (Nat.le_of_ble_eq_true rfl) (by first | exact Nat.le_refl _ | omega) (by first | exact Nat.le_refl _ | omega) (by omega) (by omega) dL_law_527 ?_
    refine aw_aload_n S 2 rfl dL_law_530 rfl ?_
    refine aw_aload_n S 0 rfl dL_law_531 rfl ?_
    refine aw_iload_n S 3 rfl dL_law_532 rfl ?_
    refine aw_iconst S dL_law_533 (v := 1) (by decide) ?_
    refine aw_iadd S dL_law_534 ?_
    refine lw_sld S hsc h1 dL_law_535 ?_
    refine aw_aload_n S 0 rfl dL_law_536 rfl ?_
    refine aw_iload_n S 3 rfl dL_law_537 rfl ?_
    refine aw_iconst S dL_law_538 (v := 2) (by decide) ?_
    refine aw_iadd S dL_law_539 ?_
    refine lw_sld S hsc h2 dL_law_540 ?_
    refine aw_if_eqT (y := 0) (tgt := 548) S dL_law_541 (by decide) hz ?_
    refine aw_iconst S dL_law_548 (v := 0) (by decide) ?_
    refine lw_cV (ce2 := ce + 30) (sl2 := sl + 1000) S 177 [.int (xs (i + 1).toNatClampNeg), .int 0] e2 vw_X5_stoveOf cl_X5 rfl (by decide) tw_1192 (s_X5_stoveOf _ _ _ (xs (i + 1).toNatClampNeg) (0 : Int32) J) (by decide) rfl rfl (Nat.le_of_ble_eq_true rfl) (by first | exact Nat.le_refl _ | omega) (by first | exact Nat.le_refl _ | omega) (by omega) (by omega) dL_law_549 ?_
    exact aw_icmp_eqT (tgt := 1083) S dL_law_552 (by decide) rfl (kk J2 hI2)
  · obtain ⟨x, J, J2, e1, e2, hI2⟩ := hp.2.2.2.2.2.2.2.2.2.2.1 (xs (i + 1).toNatClampNeg) 1 (by decide) I hI
    refine aw_aload_n S 1 rfl dL_law_508 rfl ?_
    refine aw_aload_n S 0 rfl dL_law_509 rfl ?_
    refine aw_iload_n S 3 rfl dL_law_510 rfl ?_
    refine aw_iconst S dL_law_511 (v := 1) (by decide) ?_
    refine aw_iadd S dL_law_512 ?_
    refine lw_sld S hsc h1 dL_law_513 ?_
    refine aw_aload_n S 0 rfl dL_law_514 rfl ?_
    refine aw_iload_n S 3 rfl dL_law_515 rfl ?_
    refine aw_iconst S dL_law_516 (v := 2) (by decide) ?_
    refine aw_iadd S dL_law_517 ?_
    refine lw_sld S hsc h2 dL_law_518 ?_
    refine aw_if_eqF (y := 0) (tgt := 526) S dL_law_519 (by decide) hz ?_
    refine aw_iconst S dL_law_522 (v := 1) (by decide) ?_
    refine aw_goto (tgt := 527) S dL_law_523 (by decide) ?_
    refine lw_cV (ce2 := ce + 25) (sl2 := sl + 900) S 0 [.int (xs (i + 1).toNatClampNeg), .int 1] e1 vw_X4_stoveOf cl_X4 rfl (by decide) tw_490 (s_X4_stoveOf _ _ _ (xs (i + 1).toNatClampNeg) (1 : Int32) I) (by decide) rfl rfl (Nat.le_of_ble_eq_true rfl) (by first | exact Nat.le_refl _ | omega) (by first | exact Nat.le_refl _ | omega) (by omega) (by omega) dL_law_527 ?_
    refine aw_aload_n S 2 rfl dL_law_530 rfl ?_
    refine aw_aload_n S 0 rfl dL_law_531 rfl ?_
    refine aw_iload_n S 3 rfl dL_law_532 rfl ?_
    refine aw_iconst S dL_law_533 (v := 1) (by decide) ?_
    refine aw_iadd S dL_law_534 ?_
    refine lw_sld S hsc h1 dL_law_535 ?_
    refine aw_aload_n S 0 rfl dL_law_536 rfl ?_
    refine aw_iload_n S 3 rfl dL_law_537 rfl ?_
    refine aw_iconst S dL_law_538 (v := 2) (by decide) ?_
    refine aw_iadd S dL_law_539 ?_
    refine lw_sld S hsc h2 dL_law_540 ?_
    refine aw_if_eqF (y := 0) (tgt := 548) S dL_law_541 (by decide) hz ?_
    refine aw_iconst S dL_law_544 (v := 1) (by decide) ?_
    refine aw_goto (tgt := 549) S dL_law_545 (by decide) ?_
    refine lw_cV (ce2 := ce + 30) (sl2 := sl + 1000) S 177 [.int (xs (i + 1).toNatClampNeg), .int 1] e2 vw_X5_stoveOf cl_X5 rfl (by decide) tw_1192 (s_X5_stoveOf _ _ _ (xs (i + 1).toNatClampNeg) (1 : Int32) J) (by decide) rfl rfl (Nat.le_of_ble_eq_true rfl) (by first | exact Nat.le_refl _ | omega) (by first | exact Nat.le_refl _ | omega) (by omega) (by omega) dL_law_549 ?_
    exact aw_icmp_eqT (tgt := 1083) S dL_law_552 (by decide) rfl (kk J2 hI2)
theorem lw_c_minute {X : kgCX Unit} {Inv Inv2 : kgM → Prop} (hp : kgOK Inv Inv2) {b N : Nat} {xs : Nat → Int32} {ce sl : Nat} {i : Int32} {I : kgM} (S : Cx X cL_law RL 8 2048 84000 600000 7302250) (hsc : Sc X b N xs) (h1 : vp_in (i + 1) N) (h2 : vp_in (i + 2) N) (h3 : vp_in (i + 3) N) (hI : Inv I) (hce : ce + 30 ≤ 600000) (hsl : sl + 1000 ≤ 7302250)
    (kk : ∀ J, Inv2 J → AW X 8 (ce + 30) (sl + 1000) none (some ()) 1083 [(0, .ref b), (1, .ref (kgO (kgHs X) 0)), (2, .ref (kgO (kgHs X) 177)), (3, .int i)] [] J) : AW X 8 ce sl none (some ()) 557 [(0, .ref b), (1, .ref (kgO (kgHs X) 0)), (2, .ref (kgO (kgHs X) 177)), (3, .int i)] [] I := by
  obtain ⟨x, J, J2, e1, e2, hI2⟩ := hp.2.2.2.2.2.2.2.2.2.2.2.1 (xs (i + 1).toNatClampNeg) I hI
  refine aw_aload_n S 1 rfl dL_law_557 rfl ?_
  refine aw_aload_n S 0 rfl dL_law_558 rfl ?_
  refine aw_iload_n S 3 rfl dL_law_559 rfl ?_
  refine aw_iconst S dL_law_560 (v := 1) (by decide) ?_
  refine aw_iadd S dL_law_561 ?_
  refine lw_sld S hsc h1 dL_law_562 ?_
  refine lw_cV (ce2 := ce + 25) (sl2 := sl + 900) S 0 [.int (xs (i + 1).toNatClampNeg)] e1 vw_X4_minute cl_X4 rfl (by decide) tw_494 (s_X4_minute _ _ _ (xs (i + 1).toNatClampNeg) I) (by decide) rfl rfl (Nat.le_of_ble_eq_true rfl) (by first | exact Nat.le_refl _ | omega) (by first | exact Nat.le_refl _ | omega) (by omega) (by omega) dL_law_563 ?_
  refine aw_aload_n S 2 rfl dL_law_566 rfl ?_
  refine aw_aload_n S 0 rfl dL_law_567 rfl ?_
  refine aw_iload_n S 3 rfl dL_law_568 rfl ?_
  refine aw_iconst S dL_law_569 (v := 1) (by decide) ?_
  refine aw_iadd S dL_law_570 ?_
  refine lw_sld S hsc h1 dL_law_571 ?_
  refine lw_cV (ce2 := ce + 30) (sl2 := sl + 1000) S 177 [.int (xs (i + 1).toNatClampNeg)] e2 vw_X5_minute cl_X5 rfl (by decide) tw_1149 (s_X5_minute _ _ _ (xs (i + 1).toNatClampNeg) J) (by decide) rfl rfl (Nat.le_of_ble_eq_true rfl) (by first | exact Nat.le_refl _ | omega) (by first | exact Nat.le_refl _ | omega) (by omega) (by omega) dL_law_572 ?_
  exact aw_icmp_eqT (tgt := 1083) S dL_law_575 (by decide) rfl (kk J2 hI2)
theorem lw_c_whistling {X : kgCX Unit} {Inv Inv2 : kgM → Prop} (hp : kgOK Inv Inv2) {b N : Nat} {xs : Nat → Int32} {ce sl : Nat} {i : Int32} {I : kgM} (S : Cx X cL_law RL 8 2048 84000 600000 7302250) (hsc : Sc X b N xs) (h1 : vp_in (i + 1) N) (h2 : vp_in (i + 2) N) (h3 : vp_in (i + 3) N) (hI : Inv I) (hce : ce + 30 ≤ 600000) (hsl : sl + 1000 ≤ 7302250)
    (kk : ∀ J, Inv2 J → AW X 8 (ce + 30) (sl + 1000) none (some ()) 1083 [(0, .ref b), (1, .ref (kgO (kgHs X) 0)), (2, .ref (kgO (kgHs X) 177)), (3, .int i)] [] J) : AW X 8 ce sl none (some ()) 580 [(0, .ref b), (1, .ref (kgO (kgHs X) 0)), (2, .ref (kgO (kgHs X) 177)), (3, .int i)] [] I := by
  obtain ⟨x, J, J2, e1, e2, hI2⟩ := hp.2.2.2.2.2.2.2.2.2.2.2.2.1  I hI
  refine aw_aload_n S 1 rfl dL_law_580 rfl ?_
  refine lw_cV (ce2 := ce + 25) (sl2 := sl + 900) S 0 [] e1 vw_X4_whistling cl_X4 rfl (by decide) tw_533 (s_X4_whistling _ _ _ I) (by decide) rfl rfl (Nat.le_of_ble_eq_true rfl) (by first | exact Nat.le_refl _ | omega) (by first | exact Nat.le_refl _ | omega) (by omega) (by omega) dL_law_581 ?_
  refine aw_aload_n S 2 rfl dL_law_584 rfl ?_
  refine lw_cV (ce2 := ce + 30) (sl2 := sl + 1000) S 177 [] e2 vw_X5_whistling cl_X5 rfl (by decide) tw_1196 (s_X5_whistling _ _ _ J) (by decide) rfl rfl (Nat.le_of_ble_eq_true rfl) (by first | exact Nat.le_refl _ | omega) (by first | exact Nat.le_refl _ | omega) (by omega) (by omega) dL_law_585 ?_
  exact aw_icmp_eqT (tgt := 1083) S dL_law_588 (by decide) rfl (kk J2 hI2)
theorem lw_c_harmony {X : kgCX Unit} {Inv Inv2 : kgM → Prop} (hp : kgOK Inv Inv2) {b N : Nat} {xs : Nat → Int32} {ce sl : Nat} {i : Int32} {I : kgM} (S : Cx X cL_law RL 8 2048 84000 600000 7302250) (hsc : Sc X b N xs) (h1 : vp_in (i + 1) N) (h2 : vp_in (i + 2) N) (h3 : vp_in (i + 3) N) (hI : Inv I) (hce : ce + 30 ≤ 600000) (hsl : sl + 1000 ≤ 7302250)
    (kk : ∀ J, Inv2 J → AW X 8 (ce + 30) (sl + 1000) none (some ()) 1083 [(0, .ref b), (1, .ref (kgO (kgHs X) 0)), (2, .ref (kgO (kgHs X) 177)), (3, .int i)] [] J) : AW X 8 ce sl none (some ()) 593 [(0, .ref b), (1, .ref (kgO (kgHs X) 0)), (2, .ref (kgO (kgHs X) 177)), (3, .int i)] [] I := by
  obtain ⟨x, J, J2, e1, e2, hI2⟩ := hp.2.2.2.2.2.2.2.2.2.2.2.2.2.1  I hI
  refine aw_aload_n S 1 rfl dL_law_593 rfl ?_
  refine lw_cV (ce2 := ce + 25) (sl2 := sl + 900) S 0 [] e1 vw_X4_harmony cl_X4 rfl (by decide) tw_538 (s_X4_harmony _ _ _ I) (by decide) rfl rfl (Nat.le_of_ble_eq_true rfl) (by first | exact Nat.le_refl _ | omega) (by first | exact Nat.le_refl _ | omega) (by omega) (by omega) dL_law_594 ?_
  refine aw_aload_n S 2 rfl dL_law_597 rfl ?_
  refine lw_cV (ce2 := ce + 30) (sl2 := sl + 1000) S 177 [] e2 vw_X5_harmony cl_X5 rfl (by decide) tw_1200 (s_X5_harmony _ _ _ J) (by decide) rfl rfl (Nat.le_of_ble_eq_true rfl) (by first | exact Nat.le_refl _ | omega) (by first | exact Nat.le_refl _ | omega) (by omega) (by omega) dL_law_598 ?_
  exact aw_icmp_eqT (tgt := 1083) S dL_law_601 (by decide) rfl (kk J2 hI2)
theorem lw_c_harmonyAgain {X : kgCX Unit} {Inv Inv2 : kgM → Prop} (hp : kgOK Inv Inv2) {b N : Nat} {xs : Nat → Int32} {ce sl : Nat} {i : Int32} {I : kgM} (S : Cx X cL_law RL 8 2048 84000 600000 7302250) (hsc : Sc X b N xs) (h1 : vp_in (i + 1) N) (h2 : vp_in (i + 2) N) (h3 : vp_in (i + 3) N) (hI : Inv I) (hce : ce + 30 ≤ 600000) (hsl : sl + 1000 ≤ 7302250)
    (kk : ∀ J, Inv2 J → AW X 8 (ce + 30) (sl + 1000) none (some ()) 1083 [(0, .ref b), (1, .ref (kgO (kgHs X) 0)), (2, .ref (kgO (kgHs X) 177)), (3, .int i)] [] J) : AW X 8 ce sl none (some ()) 606 [(0, .ref b), (1, .ref (kgO (kgHs X) 0)), (2, .ref (kgO (kgHs X) 177)), (3, .int i)] [] I := by
  obtain ⟨x, J, J2, e1, e2, hI2⟩ := hp.2.2.2.2.2.2.2.2.2.2.2.2.2.2.1  I hI
  refine aw_aload_n S 1 rfl dL_law_606 rfl ?_
  refine lw_cV (ce2 := ce + 25) (sl2 := sl + 900) S 0 [] e1 vw_X4_harmonyAgain cl_X4 rfl (by decide) tw_543 (s_X4_harmonyAgain _ _ _ I) (by decide) rfl rfl (Nat.le_of_ble_eq_true rfl) (by first | exact Nat.le_refl _ | omega) (by first | exact Nat.le_refl _ | omega) (by omega) (by omega) dL_law_607 ?_
  refine aw_aload_n S 2 rfl dL_law_610 rfl ?_
  refine lw_cV (ce2 := ce + 30) (sl2 := sl + 1000) S 177 [] e2 vw_X5_harmonyAgain cl_X5 rfl (by decide) tw_1204 (s_X5_harmonyAgain _ _ _ J) (by decide) rfl rfl (Nat.le_of_ble_eq_true rfl) (by first | exact Nat.le_refl _ | omega) (by first | exact Nat.le_refl _ | omega) (by omega) (by omega) dL_law_611 ?_
  exact aw_icmp_eqT (tgt := 1083) S dL_law_614 (by decide) rfl (kk J2 hI2)
theorem lw_c_boilsIn {X : kgCX Unit} {Inv Inv2 : kgM → Prop} (hp : kgOK Inv Inv2) {b N : Nat} {xs : Nat → Int32} {ce sl : Nat} {i : Int32} {I : kgM} (S : Cx X cL_law RL 8 2048 84000 600000 7302250) (hsc : Sc X b N xs) (h1 : vp_in (i + 1) N) (h2 : vp_in (i + 2) N) (h3 : vp_in (i + 3) N) (hI : Inv I) (hce : ce + 30 ≤ 600000) (hsl : sl + 1000 ≤ 7302250)
    (kk : ∀ J, Inv2 J → AW X 8 (ce + 30) (sl + 1000) none (some ()) 1083 [(0, .ref b), (1, .ref (kgO (kgHs X) 0)), (2, .ref (kgO (kgHs X) 177)), (3, .int i)] [] J) : AW X 8 ce sl none (some ()) 619 [(0, .ref b), (1, .ref (kgO (kgHs X) 0)), (2, .ref (kgO (kgHs X) 177)), (3, .int i)] [] I := by
  obtain ⟨x, J, J2, e1, e2, hI2⟩ := hp.2.2.2.2.2.2.2.2.2.2.2.2.2.2.2.1 (xs (i + 1).toNatClampNeg) I hI
  refine aw_aload_n S 1 rfl dL_law_619 rfl ?_
  refine aw_aload_n S 0 rfl dL_law_620 rfl ?_
  refine aw_iload_n S 3 rfl dL_law_621 rfl ?_
  refine aw_iconst S dL_law_622 (v := 1) (by decide) ?_
  refine aw_iadd S dL_law_623 ?_
  refine lw_sld S hsc h1 dL_law_624 ?_
  refine lw_cV (ce2 := ce + 25) (sl2 := sl + 900) S 0 [.int (xs (i + 1).toNatClampNeg)] e1 vw_X4_boilsIn cl_X4 rfl (by decide) tw_551 (s_X4_boilsIn _ _ _ (xs (i + 1).toNatClampNeg) I) (by decide) rfl rfl (Nat.le_of_ble_eq_true rfl) (by first | exact Nat.le_refl _ | omega) (by first | exact Nat.le_refl _ | omega) (by omega) (by omega) dL_law_625 ?_
  refine aw_aload_n S 2 rfl dL_law_628 rfl ?_
  refine aw_aload_n S 0 rfl dL_law_629 rfl ?_
  refine aw_iload_n S 3 rfl dL_law_630 rfl ?_
  refine aw_iconst S dL_law_631 (v := 1) (by decide) ?_
  refine aw_iadd S dL_law_632 ?_
  refine lw_sld S hsc h1 dL_law_633 ?_
  refine lw_cV (ce2 := ce + 30) (sl2 := sl + 1000) S 177 [.int (xs (i + 1).toNatClampNeg)] e2 vw_X5_boilsIn cl_X5 rfl (by decide) tw_1209 (s_X5_boilsIn _ _ _ (xs (i + 1).toNatClampNeg) J) (by decide) rfl rfl (Nat.le_of_ble_eq_true rfl) (by first | exact Nat.le_refl _ | omega) (by first | exact Nat.le_refl _ | omega) (by omega) (by omega) dL_law_634 ?_
  exact aw_icmp_eqT (tgt := 1083) S dL_law_637 (by decide) rfl (kk J2 hI2)
theorem lw_c_boilsInAgain {X : kgCX Unit} {Inv Inv2 : kgM → Prop} (hp : kgOK Inv Inv2) {b N : Nat} {xs : Nat → Int32} {ce sl : Nat} {i : Int32} {I : kgM} (S : Cx X cL_law RL 8 2048 84000 600000 7302250) (hsc : Sc X b N xs) (h1 : vp_in (i + 1) N) (h2 : vp_in (i + 2) N) (h3 : vp_in (i + 3) N) (hI : Inv I) (hce : ce + 30 ≤ 600000) (hsl : sl + 1000 ≤ 7302250)
    (kk : ∀ J, Inv2 J → AW X 8 (ce + 30) (sl + 1000) none (some ()) 1083 [(0, .ref b), (1, .ref (kgO (kgHs X) 0)), (2, .ref (kgO (kgHs X) 177)), (3, .int i)] [] J) : AW X 8 ce sl none (some ()) 642 [(0, .ref b), (1, .ref (kgO (kgHs X) 0)), (2, .ref (kgO (kgHs X) 177)), (3, .int i)] [] I := by
  obtain ⟨x, J, J2, e1, e2, hI2⟩ := hp.2.2.2.2.2.2.2.2.2.2.2.2.2.2.2.2.1 (xs (i + 1).toNatClampNeg) I hI
  refine aw_aload_n S 1 rfl dL_law_642 rfl ?_
  refine aw_aload_n S 0 rfl dL_law_643 rfl ?_
  refine aw_iload_n S 3 rfl dL_law_644 rfl ?_
  refine aw_iconst S dL_law_645 (v := 1) (by decide) ?_
  refine aw_iadd S dL_law_646 ?_
  refine lw_sld S hsc h1 dL_law_647 ?_
  refine lw_cV (ce2 := ce + 25) (sl2 := sl + 900) S 0 [.int (xs (i + 1).toNatClampNeg)] e1 vw_X4_boilsInAgain cl_X4 rfl (by decide) tw_557 (s_X4_boilsInAgain _ _ _ (xs (i + 1).toNatClampNeg) I) (by decide) rfl rfl (Nat.le_of_ble_eq_true rfl) (by first | exact Nat.le_refl _ | omega) (by first | exact Nat.le_refl _ | omega) (by omega) (by omega) dL_law_648 ?_
  refine aw_aload_n S 2 rfl dL_law_651 rfl ?_
  refine aw_aload_n S 0 rfl dL_law_652 rfl ?_
  refine aw_iload_n S 3 rfl dL_law_653 rfl ?_
  refine aw_iconst S dL_law_654 (v := 1) (by decide) ?_
  refine aw_iadd S dL_law_655 ?_
  refine lw_sld S hsc h1 dL_law_656 ?_
  refine lw_cV (ce2 := ce + 30) (sl2 := sl + 1000) S 177 [.int (xs (i + 1).toNatClampNeg)] e2 vw_X5_boilsInAgain cl_X5 rfl (by decide) tw_1217 (s_X5_boilsInAgain _ _ _ (xs (i + 1).toNatClampNeg) J) (by decide) rfl rfl (Nat.le_of_ble_eq_true rfl) (by first | exact Nat.le_refl _ | omega) (by first | exact Nat.le_refl _ | omega) (by omega) (by omega) dL_law_657 ?_
  exact aw_icmp_eqT (tgt := 1083) S dL_law_660 (by decide) rfl (kk J2 hI2)
theorem lw_c_dryIn {X : kgCX Unit} {Inv Inv2 : kgM → Prop} (hp : kgOK Inv Inv2) {b N : Nat} {xs : Nat → Int32} {ce sl : Nat} {i : Int32} {I : kgM} (S : Cx X cL_law RL 8 2048 84000 600000 7302250) (hsc : Sc X b N xs) (h1 : vp_in (i + 1) N) (h2 : vp_in (i + 2) N) (h3 : vp_in (i + 3) N) (hI : Inv I) (hce : ce + 30 ≤ 600000) (hsl : sl + 1000 ≤ 7302250)
    (kk : ∀ J, Inv2 J → AW X 8 (ce + 30) (sl + 1000) none (some ()) 1083 [(0, .ref b), (1, .ref (kgO (kgHs X) 0)), (2, .ref (kgO (kgHs X) 177)), (3, .int i)] [] J) : AW X 8 ce sl none (some ()) 665 [(0, .ref b), (1, .ref (kgO (kgHs X) 0)), (2, .ref (kgO (kgHs X) 177)), (3, .int i)] [] I := by
  obtain ⟨x, J, J2, e1, e2, hI2⟩ := hp.2.2.2.2.2.2.2.2.2.2.2.2.2.2.2.2.2.1 (xs (i + 1).toNatClampNeg) I hI
  refine aw_aload_n S 1 rfl dL_law_665 rfl ?_
  refine aw_aload_n S 0 rfl dL_law_666 rfl ?_
  refine aw_iload_n S 3 rfl dL_law_667 rfl ?_
  refine aw_iconst S dL_law_668 (v := 1) (by decide) ?_
  refine aw_iadd S dL_law_669 ?_
  refine lw_sld S hsc h1 dL_law_670 ?_
  refine lw_cV (ce2 := ce + 25) (sl2 := sl + 900) S 0 [.int (xs (i + 1).toNatClampNeg)] e1 vw_X4_dryIn cl_X4 rfl (by decide) tw_561 (s_X4_dryIn _ _ _ (xs (i + 1).toNatClampNeg) I) (by decide) rfl rfl (Nat.le_of_ble_eq_true rfl) (by first | exact Nat.le_refl _ | omega) (by first | exact Nat.le_refl _ | omega) (by omega) (by omega) dL_law_671 ?_
  refine aw_aload_n S 2 rfl dL_law_674 rfl ?_
  refine aw_aload_n S 0 rfl dL_law_675 rfl ?_
  refine aw_iload_n S 3 rfl dL_law_676 rfl ?_
  refine aw_iconst S dL_law_677 (v := 1) (by decide) ?_
  refine aw_iadd S dL_law_678 ?_
  refine lw_sld S hsc h1 dL_law_679 ?_
  refine lw_cV (ce2 := ce + 30) (sl2 := sl + 1000) S 177 [.int (xs (i + 1).toNatClampNeg)] e2 vw_X5_dryIn cl_X5 rfl (by decide) tw_1222 (s_X5_dryIn _ _ _ (xs (i + 1).toNatClampNeg) J) (by decide) rfl rfl (Nat.le_of_ble_eq_true rfl) (by first | exact Nat.le_refl _ | omega) (by first | exact Nat.le_refl _ | omega) (by omega) (by omega) dL_law_680 ?_
  exact aw_icmp_eqT (tgt := 1083) S dL_law_683 (by decide) rfl (kk J2 hI2)
theorem lw_c_bestPitch {X : kgCX Unit} {Inv Inv2 : kgM → Prop} (hp : kgOK Inv Inv2) {b N : Nat} {xs : Nat → Int32} {ce sl : Nat} {i : Int32} {I : kgM} (S : Cx X cL_law RL 8 2048 84000 600000 7302250) (hsc : Sc X b N xs) (h1 : vp_in (i + 1) N) (h2 : vp_in (i + 2) N) (h3 : vp_in (i + 3) N) (hI : Inv I) (hce : ce + 30 ≤ 600000) (hsl : sl + 1000 ≤ 7302250)
    (kk : ∀ J, Inv2 J → AW X 8 (ce + 30) (sl + 1000) none (some ()) 1083 [(0, .ref b), (1, .ref (kgO (kgHs X) 0)), (2, .ref (kgO (kgHs X) 177)), (3, .int i)] [] J) : AW X 8 ce sl none (some ()) 688 [(0, .ref b), (1, .ref (kgO (kgHs X) 0)), (2, .ref (kgO (kgHs X) 177)), (3, .int i)] [] I := by
  obtain ⟨x, J, J2, e1, e2, hI2⟩ := hp.2.2.2.2.2.2.2.2.2.2.2.2.2.2.2.2.2.2.1  I hI
  refine aw_aload_n S 1 rfl dL_law_688 rfl ?_
  refine lw_cV (ce2 := ce + 25) (sl2 := sl + 900) S 0 [] e1 vw_X4_bestPitch cl_X4 rfl (by decide) tw_567 (s_X4_bestPitch _ _ _ I) (by decide) rfl rfl (Nat.le_of_ble_eq_true rfl) (by first | exact Nat.le_refl _ | omega) (by first | exact Nat.le_refl _ | omega) (by omega) (by omega) dL_law_689 ?_
  refine aw_aload_n S 2 rfl dL_law_692 rfl ?_
  refine lw_cV (ce2 := ce + 30) (sl2 := sl + 1000) S 177 [] e2 vw_X5_bestPitch cl_X5 rfl (by decide) tw_1226 (s_X5_bestPitch _ _ _ J) (by decide) rfl rfl (Nat.le_of_ble_eq_true rfl) (by first | exact Nat.le_refl _ | omega) (by first | exact Nat.le_refl _ | omega) (by omega) (by omega) dL_law_693 ?_
  exact aw_icmp_eqT (tgt := 1083) S dL_law_696 (by decide) rfl (kk J2 hI2)
theorem lw_c_memberOf {X : kgCX Unit} {Inv Inv2 : kgM → Prop} (hp : kgOK Inv Inv2) {b N : Nat} {xs : Nat → Int32} {ce sl : Nat} {i : Int32} {I : kgM} (S : Cx X cL_law RL 8 2048 84000 600000 7302250) (hsc : Sc X b N xs) (h1 : vp_in (i + 1) N) (h2 : vp_in (i + 2) N) (h3 : vp_in (i + 3) N) (hI : Inv I) (hce : ce + 30 ≤ 600000) (hsl : sl + 1000 ≤ 7302250)
    (kk : ∀ J, Inv2 J → AW X 8 (ce + 30) (sl + 1000) none (some ()) 1083 [(0, .ref b), (1, .ref (kgO (kgHs X) 0)), (2, .ref (kgO (kgHs X) 177)), (3, .int i)] [] J) : AW X 8 ce sl none (some ()) 701 [(0, .ref b), (1, .ref (kgO (kgHs X) 0)), (2, .ref (kgO (kgHs X) 177)), (3, .int i)] [] I := by
  obtain ⟨x, J, J2, e1, e2, hI2⟩ := hp.2.2.2.2.2.2.2.2.2.2.2.2.2.2.2.2.2.2.2.1 (xs (i + 1).toNatClampNeg) (xs (i + 2).toNatClampNeg) I hI
  refine aw_aload_n S 1 rfl dL_law_701 rfl ?_
  refine aw_aload_n S 0 rfl dL_law_702 rfl ?_
  refine aw_iload_n S 3 rfl dL_law_703 rfl ?_
  refine aw_iconst S dL_law_704 (v := 1) (by decide) ?_
  refine aw_iadd S dL_law_705 ?_
  refine lw_sld S hsc h1 dL_law_706 ?_
  refine aw_aload_n S 0 rfl dL_law_707 rfl ?_
  refine aw_iload_n S 3 rfl dL_law_708 rfl ?_
  refine aw_iconst S dL_law_709 (v := 2) (by decide) ?_
  refine aw_iadd S dL_law_710 ?_
  refine lw_sld S hsc h2 dL_law_711 ?_
  refine lw_cV (ce2 := ce + 25) (sl2 := sl + 900) S 0 [.int (xs (i + 1).toNatClampNeg), .int (xs (i + 2).toNatClampNeg)] e1 vw_X4_memberOf cl_X4 rfl (by decide) tw_574 (s_X4_memberOf _ _ _ (xs (i + 1).toNatClampNeg) (xs (i + 2).toNatClampNeg) I) (by decide) rfl rfl (Nat.le_of_ble_eq_true rfl) (by first | exact Nat.le_refl _ | omega) (by first | exact Nat.le_refl _ | omega) (by omega) (by omega) dL_law_712 ?_
  refine aw_aload_n S 2 rfl dL_law_715 rfl ?_
  refine aw_aload_n S 0 rfl dL_law_716 rfl ?_
  refine aw_iload_n S 3 rfl dL_law_717 rfl ?_
  refine aw_iconst S dL_law_718 (v := 1) (by decide) ?_
  refine aw_iadd S dL_law_719 ?_
  refine lw_sld S hsc h1 dL_law_720 ?_
  refine aw_aload_n S 0 rfl dL_law_721 rfl ?_
  refine aw_iload_n S 3 rfl dL_law_722 rfl ?_
  refine aw_iconst S dL_law_723 (v := 2) (by decide) ?_
  refine aw_iadd S dL_law_724 ?_
  refine lw_sld S hsc h2 dL_law_725 ?_
  refine lw_cV (ce2 := ce + 30) (sl2 := sl + 1000) S 177 [.int (xs (i + 1).toNatClampNeg), .int (xs (i + 2).toNatClampNeg)] e2 vw_X5_memberOf cl_X5 rfl (by decide) tw_1234 (s_X5_memberOf _ _ _ (xs (i + 1).toNatClampNeg) (xs (i + 2).toNatClampNeg) J) (by decide) rfl rfl (Nat.le_of_ble_eq_true rfl) (by first | exact Nat.le_refl _ | omega) (by first | exact Nat.le_refl _ | omega) (by omega) (by omega) dL_law_726 ?_
  exact aw_icmp_eqT (tgt := 1083) S dL_law_729 (by decide) rfl (kk J2 hI2)
theorem lw_c_ranked {X : kgCX Unit} {Inv Inv2 : kgM → Prop} (hp : kgOK Inv Inv2) {b N : Nat} {xs : Nat → Int32} {ce sl : Nat} {i : Int32} {I : kgM} (S : Cx X cL_law RL 8 2048 84000 600000 7302250) (hsc : Sc X b N xs) (h1 : vp_in (i + 1) N) (h2 : vp_in (i + 2) N) (h3 : vp_in (i + 3) N) (hI : Inv I) (hce : ce + 30 ≤ 600000) (hsl : sl + 1000 ≤ 7302250)
    (kk : ∀ J, Inv2 J → AW X 8 (ce + 30) (sl + 1000) none (some ()) 1083 [(0, .ref b), (1, .ref (kgO (kgHs X) 0)), (2, .ref (kgO (kgHs X) 177)), (3, .int i)] [] J) : AW X 8 ce sl none (some ()) 734 [(0, .ref b), (1, .ref (kgO (kgHs X) 0)), (2, .ref (kgO (kgHs X) 177)), (3, .int i)] [] I := by
  obtain ⟨x, J, J2, e1, e2, hI2⟩ := hp.2.2.2.2.2.2.2.2.2.2.2.2.2.2.2.2.2.2.2.2.1 (xs (i + 1).toNatClampNeg) I hI
  refine aw_aload_n S 1 rfl dL_law_734 rfl ?_
  refine aw_aload_n S 0 rfl dL_law_735 rfl ?_
  refine aw_iload_n S 3 rfl dL_law_736 rfl ?_
  refine aw_iconst S dL_law_737 (v := 1) (by decide) ?_
  refine aw_iadd S dL_law_738 ?_
  refine lw_sld S hsc h1 dL_law_739 ?_
  refine lw_cV (ce2 := ce + 25) (sl2 := sl + 900) S 0 [.int (xs (i + 1).toNatClampNeg)] e1 vw_X4_ranked cl_X4 rfl (by decide) tw_586 (s_X4_ranked _ _ _ (xs (i + 1).toNatClampNeg) I) (by decide) rfl rfl (Nat.le_of_ble_eq_true rfl) (by first | exact Nat.le_refl _ | omega) (by first | exact Nat.le_refl _ | omega) (by omega) (by omega) dL_law_740 ?_
  refine aw_aload_n S 2 rfl dL_law_743 rfl ?_
  refine aw_aload_n S 0 rfl dL_law_744 rfl ?_
  refine aw_iload_n S 3 rfl dL_law_745 rfl ?_
  refine aw_iconst S dL_law_746 (v := 1) (by decide) ?_
  refine aw_iadd S dL_law_747 ?_
  refine lw_sld S hsc h1 dL_law_748 ?_
  refine lw_cV (ce2 := ce + 30) (sl2 := sl + 1000) S 177 [.int (xs (i + 1).toNatClampNeg)] e2 vw_X5_ranked cl_X5 rfl (by decide) tw_1246 (s_X5_ranked _ _ _ (xs (i + 1).toNatClampNeg) J) (by decide) rfl rfl (Nat.le_of_ble_eq_true rfl) (by first | exact Nat.le_refl _ | omega) (by first | exact Nat.le_refl _ | omega) (by omega) (by omega) dL_law_749 ?_
  exact aw_icmp_eqT (tgt := 1083) S dL_law_752 (by decide) rfl (kk J2 hI2)
theorem lw_c_hottest {X : kgCX Unit} {Inv Inv2 : kgM → Prop} (hp : kgOK Inv Inv2) {b N : Nat} {xs : Nat → Int32} {ce sl : Nat} {i : Int32} {I : kgM} (S : Cx X cL_law RL 8 2048 84000 600000 7302250) (hsc : Sc X b N xs) (h1 : vp_in (i + 1) N) (h2 : vp_in (i + 2) N) (h3 : vp_in (i + 3) N) (hI : Inv I) (hce : ce + 30 ≤ 600000) (hsl : sl + 1000 ≤ 7302250)
    (kk : ∀ J, Inv2 J → AW X 8 (ce + 30) (sl + 1000) none (some ()) 1083 [(0, .ref b), (1, .ref (kgO (kgHs X) 0)), (2, .ref (kgO (kgHs X) 177)), (3, .int i)] [] J) : AW X 8 ce sl none (some ()) 757 [(0, .ref b), (1, .ref (kgO (kgHs X) 0)), (2, .ref (kgO (kgHs X) 177)), (3, .int i)] [] I := by
  obtain ⟨x, J, J2, e1, e2, hI2⟩ := hp.2.2.2.2.2.2.2.2.2.2.2.2.2.2.2.2.2.2.2.2.2.1 (xs (i + 1).toNatClampNeg) I hI
  refine aw_aload_n S 1 rfl dL_law_757 rfl ?_
  refine aw_aload_n S 0 rfl dL_law_758 rfl ?_
  refine aw_iload_n S 3 rfl dL_law_759 rfl ?_
  refine aw_iconst S dL_law_760 (v := 1) (by decide) ?_
  refine aw_iadd S dL_law_761 ?_
  refine lw_sld S hsc h1 dL_law_762 ?_
  refine lw_cV (ce2 := ce + 25) (sl2 := sl + 900) S 0 [.int (xs (i + 1).toNatClampNeg)] e1 vw_X4_hottest cl_X4 rfl (by decide) tw_601 (s_X4_hottest _ _ _ (xs (i + 1).toNatClampNeg) I) (by decide) rfl rfl (Nat.le_of_ble_eq_true rfl) (by first | exact Nat.le_refl _ | omega) (by first | exact Nat.le_refl _ | omega) (by omega) (by omega) dL_law_763 ?_
  refine aw_aload_n S 2 rfl dL_law_766 rfl ?_
  refine aw_aload_n S 0 rfl dL_law_767 rfl ?_
  refine aw_iload_n S 3 rfl dL_law_768 rfl ?_
  refine aw_iconst S dL_law_769 (v := 1) (by decide) ?_
  refine aw_iadd S dL_law_770 ?_
  refine lw_sld S hsc h1 dL_law_771 ?_
  refine lw_cV (ce2 := ce + 30) (sl2 := sl + 1000) S 177 [.int (xs (i + 1).toNatClampNeg)] e2 vw_X5_hottest cl_X5 rfl (by decide) tw_1250 (s_X5_hottest _ _ _ (xs (i + 1).toNatClampNeg) J) (by decide) rfl rfl (Nat.le_of_ble_eq_true rfl) (by first | exact Nat.le_refl _ | omega) (by first | exact Nat.le_refl _ | omega) (by omega) (by omega) dL_law_772 ?_
  exact aw_icmp_eqT (tgt := 1083) S dL_law_775 (by decide) rfl (kk J2 hI2)
theorem lw_c_append {X : kgCX Unit} {Inv Inv2 : kgM → Prop} (hp : kgOK Inv Inv2) {b N : Nat} {xs : Nat → Int32} {ce sl : Nat} {i : Int32} {I : kgM} (S : Cx X cL_law RL 8 2048 84000 600000 7302250) (hsc : Sc X b N xs) (h1 : vp_in (i + 1) N) (h2 : vp_in (i + 2) N) (h3 : vp_in (i + 3) N) (hI : Inv I) (hce : ce + 30 ≤ 600000) (hsl : sl + 1000 ≤ 7302250)
    (kk : ∀ J, Inv2 J → AW X 8 (ce + 30) (sl + 1000) none (some ()) 1083 [(0, .ref b), (1, .ref (kgO (kgHs X) 0)), (2, .ref (kgO (kgHs X) 177)), (3, .int i)] [] J) : AW X 8 ce sl none (some ()) 780 [(0, .ref b), (1, .ref (kgO (kgHs X) 0)), (2, .ref (kgO (kgHs X) 177)), (3, .int i)] [] I := by
  obtain ⟨x, J, J2, e1, e2, hI2⟩ := hp.2.2.2.2.2.2.2.2.2.2.2.2.2.2.2.2.2.2.2.2.2.2.1 (xs (i + 1).toNatClampNeg) I hI
  refine aw_aload_n S 1 rfl dL_law_780 rfl ?_
  refine aw_aload_n S 0 rfl dL_law_781 rfl ?_
  refine aw_iload_n S 3 rfl dL_law_782 rfl ?_
  refine aw_iconst S dL_law_783 (v := 1) (by decide) ?_
  refine aw_iadd S dL_law_784 ?_
  refine lw_sld S hsc h1 dL_law_785 ?_
  refine lw_cV (ce2 := ce + 25) (sl2 := sl + 900) S 0 [.int (xs (i + 1).toNatClampNeg)] e1 vw_X4_append cl_X4 rfl (by decide) tw_613 (s_X4_append _ _ _ (xs (i + 1).toNatClampNeg) I) (by decide) rfl rfl (Nat.le_of_ble_eq_true rfl) (by first | exact Nat.le_refl _ | omega) (by first | exact Nat.le_refl _ | omega) (by omega) (by omega) dL_law_786 ?_
  refine aw_aload_n S 2 rfl dL_law_789 rfl ?_
  refine aw_aload_n S 0 rfl dL_law_790 rfl ?_
  refine aw_iload_n S 3 rfl dL_law_791 rfl ?_
  refine aw_iconst S dL_law_792 (v := 1) (by decide) ?_
  refine aw_iadd S dL_law_793 ?_
  refine lw_sld S hsc h1 dL_law_794 ?_
  refine lw_cV (ce2 := ce + 30) (sl2 := sl + 1000) S 177 [.int (xs (i + 1).toNatClampNeg)] e2 vw_X5_append cl_X5 rfl (by decide) tw_1254 (s_X5_append _ _ _ (xs (i + 1).toNatClampNeg) J) (by decide) rfl rfl (Nat.le_of_ble_eq_true rfl) (by first | exact Nat.le_refl _ | omega) (by first | exact Nat.le_refl _ | omega) (by omega) (by omega) dL_law_795 ?_
  exact aw_icmp_eqT (tgt := 1083) S dL_law_798 (by decide) rfl (kk J2 hI2)
theorem lw_c_run {X : kgCX Unit} {Inv Inv2 : kgM → Prop} (hp : kgOK Inv Inv2) {b N : Nat} {xs : Nat → Int32} {ce sl : Nat} {i : Int32} {I : kgM} (S : Cx X cL_law RL 8 2048 84000 600000 7302250) (hsc : Sc X b N xs) (h1 : vp_in (i + 1) N) (h2 : vp_in (i + 2) N) (h3 : vp_in (i + 3) N) (hI : Inv I) (hce : ce + 30 ≤ 600000) (hsl : sl + 1000 ≤ 7302250)
    (kk : ∀ J, Inv2 J → AW X 8 (ce + 30) (sl + 1000) none (some ()) 1083 [(0, .ref b), (1, .ref (kgO (kgHs X) 0)), (2, .ref (kgO (kgHs X) 177)), (3, .int i)] [] J) : AW X 8 ce sl none (some ()) 803 [(0, .ref b), (1, .ref (kgO (kgHs X) 0)), (2, .ref (kgO (kgHs X) 177)), (3, .int i)] [] I := by
  obtain ⟨x, J, J2, e1, e2, hI2⟩ := hp.2.2.2.2.2.2.2.2.2.2.2.2.2.2.2.2.2.2.2.2.2.2.2.1  I hI
  refine aw_aload_n S 1 rfl dL_law_803 rfl ?_
  refine lw_cV (ce2 := ce + 25) (sl2 := sl + 900) S 0 [] e1 vw_X4_run cl_X4 rfl (by decide) tw_621 (s_X4_run _ _ _ I) (by decide) rfl rfl (Nat.le_of_ble_eq_true rfl) (by first | exact Nat.le_refl _ | omega) (by first | exact Nat.le_refl _ | omega) (by omega) (by omega) dL_law_804 ?_
  refine aw_aload_n S 2 rfl dL_law_807 rfl ?_
  refine lw_cV (ce2 := ce + 30) (sl2 := sl + 1000) S 177 [] e2 vw_X5_run cl_X5 rfl (by decide) tw_1258 (s_X5_run _ _ _ J) (by decide) rfl rfl (Nat.le_of_ble_eq_true rfl) (by first | exact Nat.le_refl _ | omega) (by first | exact Nat.le_refl _ | omega) (by omega) (by omega) dL_law_808 ?_
  exact aw_icmp_eqT (tgt := 1083) S dL_law_811 (by decide) rfl (kk J2 hI2)
theorem lw_c_tell {X : kgCX Unit} {Inv Inv2 : kgM → Prop} (hp : kgOK Inv Inv2) {b N : Nat} {xs : Nat → Int32} {ce sl : Nat} {i : Int32} {I : kgM} (S : Cx X cL_law RL 8 2048 84000 600000 7302250) (hsc : Sc X b N xs) (h1 : vp_in (i + 1) N) (h2 : vp_in (i + 2) N) (h3 : vp_in (i + 3) N) (hI : Inv I) (hce : ce + 30 ≤ 600000) (hsl : sl + 1000 ≤ 7302250)
    (kk : ∀ J, Inv2 J → AW X 8 (ce + 30) (sl + 1000) none (some ()) 1083 [(0, .ref b), (1, .ref (kgO (kgHs X) 0)), (2, .ref (kgO (kgHs X) 177)), (3, .int i)] [] J) : AW X 8 ce sl none (some ()) 816 [(0, .ref b), (1, .ref (kgO (kgHs X) 0)), (2, .ref (kgO (kgHs X) 177)), (3, .int i)] [] I := by
  obtain ⟨x, J, J2, e1, e2, hI2⟩ := hp.2.2.2.2.2.2.2.2.2.2.2.2.2.2.2.2.2.2.2.2.2.2.2.2.1 (xs (i + 1).toNatClampNeg) I hI
  refine aw_aload_n S 1 rfl dL_law_816 rfl ?_
  refine aw_aload_n S 0 rfl dL_law_817 rfl ?_
  refine aw_iload_n S 3 rfl dL_law_818 rfl ?_
  refine aw_iconst S dL_law_819 (v := 1) (by decide) ?_
  refine aw_iadd S dL_law_820 ?_
  refine lw_sld S hsc h1 dL_law_821 ?_
  refine lw_cV (ce2 := ce + 25) (sl2 := sl + 900) S 0 [.int (xs (i + 1).toNatClampNeg)] e1 vw_X4_tell cl_X4 rfl (by decide) tw_737 (s_X4_tell _ _ (xs (i + 1).toNatClampNeg) I) (by decide) rfl rfl (Nat.le_of_ble_eq_true rfl) (by first | exact Nat.le_refl _ | omega) (by first | exact Nat.le_refl _ | omega) (by omega) (by omega) dL_law_822 ?_
  refine aw_aload_n S 2 rfl dL_law_825 rfl ?_
  refine aw_aload_n S 0 rfl dL_law_826 rfl ?_
  refine aw_iload_n S 3 rfl dL_law_827 rfl ?_
  refine aw_iconst S dL_law_828 (v := 1) (by decide) ?_
  refine aw_iadd S dL_law_829 ?_
  refine lw_sld S hsc h1 dL_law_830 ?_
  refine lw_cV (ce2 := ce + 30) (sl2 := sl + 1000) S 177 [.int (xs (i + 1).toNatClampNeg)] e2 vw_X5_tell cl_X5 rfl (by decide) tw_1298 (s_X5_tell _ _ _ (xs (i + 1).toNatClampNeg) J) (by decide) rfl rfl (Nat.le_of_ble_eq_true rfl) (by first | exact Nat.le_refl _ | omega) (by first | exact Nat.le_refl _ | omega) (by omega) (by omega) dL_law_831 ?_
  exact aw_icmp_eqT (tgt := 1083) S dL_law_834 (by decide) rfl (kk J2 hI2)
theorem lw_c_tellStoves {X : kgCX Unit} {Inv Inv2 : kgM → Prop} (hp : kgOK Inv Inv2) {b N : Nat} {xs : Nat → Int32} {ce sl : Nat} {i : Int32} {I : kgM} (S : Cx X cL_law RL 8 2048 84000 600000 7302250) (hsc : Sc X b N xs) (h1 : vp_in (i + 1) N) (h2 : vp_in (i + 2) N) (h3 : vp_in (i + 3) N) (hI : Inv I) (hce : ce + 30 ≤ 600000) (hsl : sl + 1000 ≤ 7302250)
    (kk : ∀ J, Inv2 J → AW X 8 (ce + 30) (sl + 1000) none (some ()) 1083 [(0, .ref b), (1, .ref (kgO (kgHs X) 0)), (2, .ref (kgO (kgHs X) 177)), (3, .int i)] [] J) : AW X 8 ce sl none (some ()) 839 [(0, .ref b), (1, .ref (kgO (kgHs X) 0)), (2, .ref (kgO (kgHs X) 177)), (3, .int i)] [] I := by
  obtain ⟨x, J, J2, e1, e2, hI2⟩ := hp.2.2.2.2.2.2.2.2.2.2.2.2.2.2.2.2.2.2.2.2.2.2.2.2.2.1  I hI
  refine aw_aload_n S 1 rfl dL_law_839 rfl ?_
  refine lw_cV (ce2 := ce + 25) (sl2 := sl + 900) S 0 [] e1 vw_X4_tellStoves cl_X4 rfl (by decide) tw_875 (s_X4_tellStoves _ _ I) (by decide) rfl rfl (Nat.le_of_ble_eq_true rfl) (by first | exact Nat.le_refl _ | omega) (by first | exact Nat.le_refl _ | omega) (by omega) (by omega) dL_law_840 ?_
  refine aw_aload_n S 2 rfl dL_law_843 rfl ?_
  refine lw_cV (ce2 := ce + 30) (sl2 := sl + 1000) S 177 [] e2 vw_X5_tellStoves cl_X5 rfl (by decide) tw_1310 (s_X5_tellStoves _ _ _ J) (by decide) rfl rfl (Nat.le_of_ble_eq_true rfl) (by first | exact Nat.le_refl _ | omega) (by first | exact Nat.le_refl _ | omega) (by omega) (by omega) dL_law_844 ?_
  exact aw_icmp_eqT (tgt := 1083) S dL_law_847 (by decide) rfl (kk J2 hI2)
theorem lw_c_character {X : kgCX Unit} {Inv Inv2 : kgM → Prop} (hp : kgOK Inv Inv2) {b N : Nat} {xs : Nat → Int32} {ce sl : Nat} {i : Int32} {I : kgM} (S : Cx X cL_law RL 8 2048 84000 600000 7302250) (hsc : Sc X b N xs) (h1 : vp_in (i + 1) N) (h2 : vp_in (i + 2) N) (h3 : vp_in (i + 3) N) (hI : Inv I) (hce : ce + 30 ≤ 600000) (hsl : sl + 1000 ≤ 7302250)
    (kk : ∀ J, Inv2 J → AW X 8 (ce + 30) (sl + 1000) none (some ()) 1083 [(0, .ref b), (1, .ref (kgO (kgHs X) 0)), (2, .ref (kgO (kgHs X) 177)), (3, .int i)] [] J) : AW X 8 ce sl none (some ()) 852 [(0, .ref b), (1, .ref (kgO (kgHs X) 0)), (2, .ref (kgO (kgHs X) 177)), (3, .int i)] [] I := by
  obtain ⟨x, J, J2, e1, e2, hI2⟩ := hp.2.2.2.2.2.2.2.2.2.2.2.2.2.2.2.2.2.2.2.2.2.2.2.2.2.2.1 (xs (i + 1).toNatClampNeg) I hI
  refine aw_aload_n S 1 rfl dL_law_852 rfl ?_
  refine aw_aload_n S 0 rfl dL_law_853 rfl ?_
  refine aw_iload_n S 3 rfl dL_law_854 rfl ?_
  refine aw_iconst S dL_law_855 (v := 1) (by decide) ?_
  refine aw_iadd S dL_law_856 ?_
  refine lw_sld S hsc h1 dL_law_857 ?_
  refine lw_cV (ce2 := ce + 25) (sl2 := sl + 900) S 0 [.int (xs (i + 1).toNatClampNeg)] e1 vw_X4_character cl_X4 rfl (by decide) tw_879 (s_X4_character _ _ (xs (i + 1).toNatClampNeg) I) (by decide) rfl rfl (Nat.le_of_ble_eq_true rfl) (by first | exact Nat.le_refl _ | omega) (by first | exact Nat.le_refl _ | omega) (by omega) (by omega) dL_law_858 ?_
  refine aw_aload_n S 2 rfl dL_law_861 rfl ?_
  refine aw_aload_n S 0 rfl dL_law_862 rfl ?_
  refine aw_iload_n S 3 rfl dL_law_863 rfl ?_
  refine aw_iconst S dL_law_864 (v := 1) (by decide) ?_
  refine aw_iadd S dL_law_865 ?_
  refine lw_sld S hsc h1 dL_law_866 ?_
  refine lw_cV (ce2 := ce + 30) (sl2 := sl + 1000) S 177 [.int (xs (i + 1).toNatClampNeg)] e2 vw_X5_character cl_X5 rfl (by decide) tw_1314 (s_X5_character _ _ _ (xs (i + 1).toNatClampNeg) J) (by decide) rfl rfl (Nat.le_of_ble_eq_true rfl) (by first | exact Nat.le_refl _ | omega) (by first | exact Nat.le_refl _ | omega) (by omega) (by omega) dL_law_867 ?_
  exact aw_icmp_eqT (tgt := 1083) S dL_law_870 (by decide) rfl (kk J2 hI2)
theorem lw_c_reason {X : kgCX Unit} {Inv Inv2 : kgM → Prop} (hp : kgOK Inv Inv2) {b N : Nat} {xs : Nat → Int32} {ce sl : Nat} {i : Int32} {I : kgM} (S : Cx X cL_law RL 8 2048 84000 600000 7302250) (hsc : Sc X b N xs) (h1 : vp_in (i + 1) N) (h2 : vp_in (i + 2) N) (h3 : vp_in (i + 3) N) (hI : Inv I) (hce : ce + 30 ≤ 600000) (hsl : sl + 1000 ≤ 7302250)
    (kk : ∀ J, Inv2 J → AW X 8 (ce + 30) (sl + 1000) none (some ()) 1083 [(0, .ref b), (1, .ref (kgO (kgHs X) 0)), (2, .ref (kgO (kgHs X) 177)), (3, .int i)] [] J) : AW X 8 ce sl none (some ()) 875 [(0, .ref b), (1, .ref (kgO (kgHs X) 0)), (2, .ref (kgO (kgHs X) 177)), (3, .int i)] [] I := by
  by_cases hz : xs (i + 2).toNatClampNeg = 0
  · obtain ⟨x, J, J2, e1, e2, hI2⟩ := hp.2.2.2.2.2.2.2.2.2.2.2.2.2.2.2.2.2.2.2.2.2.2.2.2.2.2.2.1 (xs (i + 1).toNatClampNeg) 0 (by decide) I hI
    refine aw_aload_n S 1 rfl dL_law_875 rfl ?_
    refine aw_aload_n S 0 rfl dL_law_876 rfl ?_
    refine aw_iload_n S 3 rfl dL_law_877 rfl ?_
    refine aw_iconst S dL_law_878 (v := 1) (by decide) ?_
    refine aw_iadd S dL_law_879 ?_
    refine lw_sld S hsc h1 dL_law_880 ?_
    refine aw_aload_n S 0 rfl dL_law_881 rfl ?_
    refine aw_iload_n S 3 rfl dL_law_882 rfl ?_
    refine aw_iconst S dL_law_883 (v := 2) (by decide) ?_
    refine aw_iadd S dL_law_884 ?_
    refine lw_sld S hsc h2 dL_law_885 ?_
    refine aw_if_eqT (y := 0) (tgt := 893) S dL_law_886 (by decide) hz ?_
    refine aw_iconst S dL_law_893 (v := 0) (by decide) ?_
    refine lw_cV (ce2 := ce + 25) (sl2 := sl + 900) S 0 [.int (xs (i + 1).toNatClampNeg), .int 0] e1 vw_X4_reason cl_X4 rfl (by decide) tw_893 (s_X4_reason _ _ _ (xs (i + 1).toNatClampNeg) (0 : Int32) I) (by decide) rfl rfl (Nat.le_of_ble_eq_true rfl) (by first | exact Nat.le_refl _ | omega) (by first | exact Nat.le_refl _ | omega) (by omega) (by omega) dL_law_894 ?_
    refine aw_aload_n S 2 rfl dL_law_897 rfl ?_
    refine aw_aload_n S 0 rfl dL_law_898 rfl ?_
    refine aw_iload_n S 3 rfl dL_law_899 rfl ?_
    refine aw_iconst S dL_law_900 (v := 1) (by decide) ?_
    refine aw_iadd S dL_law_901 ?_
    refine lw_sld S hsc h1 dL_law_902 ?_
    refine aw_aload_n S 0 rfl dL_law_903 rfl ?_
    refine aw_iload_n S 3 rfl dL_law_904 rfl ?_
    refine aw_iconst S dL_law_905 (v := 2) (by decide) ?_
    refine aw_iadd S dL_law_906 ?_
    refine lw_sld S hsc h2 dL_law_907 ?_
    refine aw_if_eqT (y := 0) (tgt := 915) S dL_law_908 (by decide) hz ?_
    refine aw_iconst S dL_law_915 (v := 0) (by decide) ?_
    refine lw_cV (ce2 := ce + 30) (sl2 := sl + 1000) S 177 [.int (xs (i + 1).toNatClampNeg), .int 0] e2 vw_X5_reason cl_X5 rfl (by decide) tw_1006 (s_X5_reason _ _ _ (xs (i + 1).toNatClampNeg) (0 : Int32) J) (by decide) rfl rfl (Nat.le_of_ble_eq_true rfl) (by first | exact Nat.le_refl _ | omega) (by first | exact Nat.le_refl _ | omega) (by omega) (by omega) dL_law_916 ?_
    exact aw_icmp_eqT (tgt := 1083) S dL_law_919 (by decide) rfl (kk J2 hI2)
  · obtain ⟨x, J, J2, e1, e2, hI2⟩ := hp.2.2.2.2.2.2.2.2.2.2.2.2.2.2.2.2.2.2.2.2.2.2.2.2.2.2.2.1 (xs (i + 1).toNatClampNeg) 1 (by decide) I hI
    refine aw_aload_n S 1 rfl dL_law_875 rfl ?_
    refine aw_aload_n S 0 rfl dL_law_876 rfl ?_
    refine aw_iload_n S 3 rfl dL_law_877 rfl ?_
    refine aw_iconst S dL_law_878 (v := 1) (by decide) ?_
    refine aw_iadd S dL_law_879 ?_
    refine lw_sld S hsc h1 dL_law_880 ?_
    refine aw_aload_n S 0 rfl dL_law_881 rfl ?_
    refine aw_iload_n S 3 rfl dL_law_882 rfl ?_
    refine aw_iconst S dL_law_883 (v := 2) (by decide) ?_
    refine aw_iadd S dL_law_884 ?_
    refine lw_sld S hsc h2 dL_law_885 ?_
    refine aw_if_eqF (y := 0) (tgt := 893) S dL_law_886 (by decide) hz ?_
    refine aw_iconst S dL_law_889 (v := 1) (by decide) ?_
    refine aw_goto (tgt := 894) S dL_law_890 (by decide) ?_
    refine lw_cV (ce2 := ce + 25) (sl2 := sl + 900) S 0 [.int (xs (i + 1).toNatClampNeg), .int 1] e1 vw_X4_reason cl_X4 rfl (by decide) tw_893 (s_X4_reason _ _ _ (xs (i + 1).toNatClampNeg) (1 : Int32) I) (by decide) rfl rfl (Nat.le_of_ble_eq_true rfl) (by first | exact Nat.le_refl _ | omega) (by first | exact Nat.le_refl _ | omega) (by omega) (by omega) dL_law_894 ?_
    refine aw_aload_n S 2 rfl dL_law_897 rfl ?_
    refine aw_aload_n S 0 rfl dL_law_898 rfl ?_
    refine aw_iload_n S 3 rfl dL_law_899 rfl ?_
    refine aw_iconst S dL_law_900 (v := 1) (by decide) ?_
    refine aw_iadd S dL_law_901 ?_
    refine lw_sld S hsc h1 dL_law_902 ?_
    refine aw_aload_n S 0 rfl dL_law_903 rfl ?_
    refine aw_iload_n S 3 rfl dL_law_904 rfl ?_
    refine aw_iconst S dL_law_905 (v := 2) (by decide) ?_
    refine aw_iadd S dL_law_906 ?_
    refine lw_sld S hsc h2 dL_law_907 ?_
    refine aw_if_eqF (y := 0) (tgt := 915) S dL_law_908 (by decide) hz ?_
    refine aw_iconst S dL_law_911 (v := 1) (by decide) ?_
    refine aw_goto (tgt := 916) S dL_law_912 (by decide) ?_
    refine lw_cV (ce2 := ce + 30) (sl2 := sl + 1000) S 177 [.int (xs (i + 1).toNatClampNeg), .int 1] e2 vw_X5_reason cl_X5 rfl (by decide) tw_1006 (s_X5_reason _ _ _ (xs (i + 1).toNatClampNeg) (1 : Int32) J) (by decide) rfl rfl (Nat.le_of_ble_eq_true rfl) (by first | exact Nat.le_refl _ | omega) (by first | exact Nat.le_refl _ | omega) (by omega) (by omega) dL_law_916 ?_
    exact aw_icmp_eqT (tgt := 1083) S dL_law_919 (by decide) rfl (kk J2 hI2)
theorem lw_c_account {X : kgCX Unit} {Inv Inv2 : kgM → Prop} (hp : kgOK Inv Inv2) {b N : Nat} {xs : Nat → Int32} {ce sl : Nat} {i : Int32} {I : kgM} (S : Cx X cL_law RL 8 2048 84000 600000 7302250) (hsc : Sc X b N xs) (h1 : vp_in (i + 1) N) (h2 : vp_in (i + 2) N) (h3 : vp_in (i + 3) N) (hI : Inv I) (hce : ce + 30 ≤ 600000) (hsl : sl + 1000 ≤ 7302250)
    (kk : ∀ J, Inv2 J → AW X 8 (ce + 30) (sl + 1000) none (some ()) 1083 [(0, .ref b), (1, .ref (kgO (kgHs X) 0)), (2, .ref (kgO (kgHs X) 177)), (3, .int i)] [] J) : AW X 8 ce sl none (some ()) 924 [(0, .ref b), (1, .ref (kgO (kgHs X) 0)), (2, .ref (kgO (kgHs X) 177)), (3, .int i)] [] I := by
  obtain ⟨x, J, J2, e1, e2, hI2⟩ := hp.2.2.2.2.2.2.2.2.2.2.2.2.2.2.2.2.2.2.2.2.2.2.2.2.2.2.2.2.1 (xs (i + 1).toNatClampNeg) I hI
  refine aw_aload_n S 1 rfl dL_law_924 rfl ?_
  refine aw_aload_n S 0 rfl dL_law_925 rfl ?_
  refine aw_iload_n S 3 rfl dL_law_926 rfl ?_
  refine aw_iconst S dL_law_927 (v := 1) (by decide) ?_
  refine aw_iadd S dL_law_928 ?_
  refine lw_sld S hsc h1 dL_law_929 ?_
  refine lw_cV (ce2 := ce + 25) (sl2 := sl + 900) S 0 [.int (xs (i + 1).toNatClampNeg)] e1 vw_X4_account cl_X4 rfl (by decide) tw_897 (s_X4_account _ _ _ (xs (i + 1).toNatClampNeg) I) (by decide) rfl rfl (Nat.le_of_ble_eq_true rfl) (by first | exact Nat.le_refl _ | omega) (by first | exact Nat.le_refl _ | omega) (by omega) (by omega) dL_law_930 ?_
  refine aw_aload_n S 2 rfl dL_law_933 rfl ?_
  refine aw_aload_n S 0 rfl dL_law_934 rfl ?_
  refine aw_iload_n S 3 rfl dL_law_935 rfl ?_
  refine aw_iconst S dL_law_936 (v := 1) (by decide) ?_
  refine aw_iadd S dL_law_937 ?_
  refine lw_sld S hsc h1 dL_law_938 ?_
  refine lw_cV (ce2 := ce + 30) (sl2 := sl + 1000) S 177 [.int (xs (i + 1).toNatClampNeg)] e2 vw_X5_account cl_X5 rfl (by decide) tw_1318 (s_X5_account _ _ _ (xs (i + 1).toNatClampNeg) J) (by decide) rfl rfl (Nat.le_of_ble_eq_true rfl) (by first | exact Nat.le_refl _ | omega) (by first | exact Nat.le_refl _ | omega) (by omega) (by omega) dL_law_939 ?_
  exact aw_icmp_eqT (tgt := 1083) S dL_law_942 (by decide) rfl (kk J2 hI2)
theorem lw_c_isBalanced {X : kgCX Unit} {Inv Inv2 : kgM → Prop} (hp : kgOK Inv Inv2) {b N : Nat} {xs : Nat → Int32} {ce sl : Nat} {i : Int32} {I : kgM} (S : Cx X cL_law RL 8 2048 84000 600000 7302250) (hsc : Sc X b N xs) (h1 : vp_in (i + 1) N) (h2 : vp_in (i + 2) N) (h3 : vp_in (i + 3) N) (hI : Inv I) (hce : ce + 30 ≤ 600000) (hsl : sl + 1000 ≤ 7302250)
    (kk : ∀ J, Inv2 J → AW X 8 (ce + 30) (sl + 1000) none (some ()) 1083 [(0, .ref b), (1, .ref (kgO (kgHs X) 0)), (2, .ref (kgO (kgHs X) 177)), (3, .int i)] [] J) : AW X 8 ce sl none (some ()) 947 [(0, .ref b), (1, .ref (kgO (kgHs X) 0)), (2, .ref (kgO (kgHs X) 177)), (3, .int i)] [] I := by
  obtain ⟨x, J, J2, e1, e2, hI2⟩ := hp.2.2.2.2.2.2.2.2.2.2.2.2.2.2.2.2.2.2.2.2.2.2.2.2.2.2.2.2.2.1  I hI
  refine aw_aload_n S 1 rfl dL_law_947 rfl ?_
  refine lw_cV (ce2 := ce + 25) (sl2 := sl + 900) S 0 [] e1 vw_X4_isBalanced cl_X4 rfl (by decide) tw_916 (s_X4_isBalanced _ _ _ I) (by decide) rfl rfl (Nat.le_of_ble_eq_true rfl) (by first | exact Nat.le_refl _ | omega) (by first | exact Nat.le_refl _ | omega) (by omega) (by omega) dL_law_948 ?_
  refine aw_aload_n S 2 rfl dL_law_951 rfl ?_
  refine lw_cV (ce2 := ce + 30) (sl2 := sl + 1000) S 177 [] e2 vw_X5_isBalanced cl_X5 rfl (by decide) tw_1330 (s_X5_isBalanced _ _ _ J) (by decide) rfl rfl (Nat.le_of_ble_eq_true rfl) (by first | exact Nat.le_refl _ | omega) (by first | exact Nat.le_refl _ | omega) (by omega) (by omega) dL_law_952 ?_
  exact aw_icmp_eqT (tgt := 1083) S dL_law_955 (by decide) rfl (kk J2 hI2)
theorem lw_c_meanWater {X : kgCX Unit} {Inv Inv2 : kgM → Prop} (hp : kgOK Inv Inv2) {b N : Nat} {xs : Nat → Int32} {ce sl : Nat} {i : Int32} {I : kgM} (S : Cx X cL_law RL 8 2048 84000 600000 7302250) (hsc : Sc X b N xs) (h1 : vp_in (i + 1) N) (h2 : vp_in (i + 2) N) (h3 : vp_in (i + 3) N) (hI : Inv I) (hce : ce + 30 ≤ 600000) (hsl : sl + 1000 ≤ 7302250)
    (kk : ∀ J, Inv2 J → AW X 8 (ce + 30) (sl + 1000) none (some ()) 1083 [(0, .ref b), (1, .ref (kgO (kgHs X) 0)), (2, .ref (kgO (kgHs X) 177)), (3, .int i)] [] J) : AW X 8 ce sl none (some ()) 960 [(0, .ref b), (1, .ref (kgO (kgHs X) 0)), (2, .ref (kgO (kgHs X) 177)), (3, .int i)] [] I := by
  obtain ⟨x, J, J2, e1, e2, hI2, hc⟩ := hp.2.2.2.2.2.2.2.2.2.2.2.2.2.2.2.2.2.2.2.2.2.2.2.2.2.2.2.2.2.2.1 I hI
  refine aw_aload_n S 1 rfl dL_law_960 rfl ?_
  refine lw_cVd (ce2 := ce + 25) (sl2 := sl + 900) S 0 [] e1 vw_X4_meanWater cl_X4 rfl (by decide) tw_931 (s_X4_meanWater _ _ _ I) (by decide) rfl rfl (Nat.le_of_ble_eq_true rfl) (by first | exact Nat.le_refl _ | omega) (by first | exact Nat.le_refl _ | omega) (by omega) (by omega) dL_law_961 ?_
  refine lw_dstore (L2 := [(0, .ref b), (1, .ref (kgO (kgHs X) 0)), (2, .ref (kgO (kgHs X) 177)), (3, .int i)] ++ [(4, .double x)]) S [1, 2, 3, 4, 0] dL_law_964 (by decide) rfl ?_
  refine aw_aload_n S 2 rfl dL_law_966 rfl ?_
  refine lw_cVd (ce2 := ce + 30) (sl2 := sl + 1000) S 177 [] e2 vw_X5_meanWater cl_X5 rfl (by decide) tw_1334 (s_X5_meanWater _ _ _ J) (by decide) rfl rfl (Nat.le_of_ble_eq_true rfl) (by first | exact Nat.le_refl _ | omega) (by first | exact Nat.le_refl _ | omega) (by omega) (by omega) dL_law_967 ?_
  refine lw_dstore (L2 := [(0, .ref b), (1, .ref (kgO (kgHs X) 0)), (2, .ref (kgO (kgHs X) 177)), (3, .int i)] ++ [(4, .double x), (6, .double x)]) S [1, 2, 3, 4, 5, 0] dL_law_970 (by decide) rfl ?_
  refine lw_dload S 4 rfl dL_law_972 ?_
  refine lw_dload S 5 rfl dL_law_974 ?_
  refine lw_dcmp S dL_law_976 ?_
  refine aw_if_eqT (y := 0) (tgt := 998) S dL_law_977 (by decide) hc ?_
  refine aw_goto (tgt := 1083) S dL_law_998 (by decide) ?_
  exact aw_sub [0, 1, 2, 3] rfl (kk J2 hI2)
theorem lw_c_whistleShare {X : kgCX Unit} {Inv Inv2 : kgM → Prop} (hp : kgOK Inv Inv2) {b N : Nat} {xs : Nat → Int32} {ce sl : Nat} {i : Int32} {I : kgM} (S : Cx X cL_law RL 8 2048 84000 600000 7302250) (hsc : Sc X b N xs) (h1 : vp_in (i + 1) N) (h2 : vp_in (i + 2) N) (h3 : vp_in (i + 3) N) (hI : Inv I) (hce : ce + 30 ≤ 600000) (hsl : sl + 1000 ≤ 7302250)
    (kk : ∀ J, Inv2 J → AW X 8 (ce + 30) (sl + 1000) none (some ()) 1083 [(0, .ref b), (1, .ref (kgO (kgHs X) 0)), (2, .ref (kgO (kgHs X) 177)), (3, .int i)] [] J) : AW X 8 ce sl none (some ()) 1001 [(0, .ref b), (1, .ref (kgO (kgHs X) 0)), (2, .ref (kgO (kgHs X) 177)), (3, .int i)] [] I := by
  obtain ⟨x, J, J2, e1, e2, hI2, hn, hc⟩ := hp.2.2.2.2.2.2.2.2.2.2.2.2.2.2.2.2.2.2.2.2.2.2.2.2.2.2.2.2.2.2.2.1 I hI
  refine aw_aload_n S 1 rfl dL_law_1001 rfl ?_
  refine lw_cVf (ce2 := ce + 25) (sl2 := sl + 900) S 0 [] e1 vw_X4_whistleShare cl_X4 rfl (by decide) tw_935 (s_X4_whistleShare _ _ _ I) (by decide) rfl rfl (Nat.le_of_ble_eq_true rfl) (by first | exact Nat.le_refl _ | omega) (by first | exact Nat.le_refl _ | omega) (by omega) (by omega) dL_law_1002 ?_
  refine lw_f2d S hn dL_law_1005 ?_
  refine lw_dstore (L2 := [(0, .ref b), (1, .ref (kgO (kgHs X) 0)), (2, .ref (kgO (kgHs X) 177)), (3, .int i)] ++ [(4, .double (FP.f2d x))]) S [1, 2, 3, 4, 0] dL_law_1006 (by decide) rfl ?_
  refine aw_aload_n S 2 rfl dL_law_1008 rfl ?_
  refine lw_cVf (ce2 := ce + 30) (sl2 := sl + 1000) S 177 [] e2 vw_X5_whistleShare cl_X5 rfl (by decide) tw_1338 (s_X5_whistleShare _ _ _ J) (by decide) rfl rfl (Nat.le_of_ble_eq_true rfl) (by first | exact Nat.le_refl _ | omega) (by first | exact Nat.le_refl _ | omega) (by omega) (by omega) dL_law_1009 ?_
  refine lw_f2d S hn dL_law_1012 ?_
  refine lw_dstore (L2 := [(0, .ref b), (1, .ref (kgO (kgHs X) 0)), (2, .ref (kgO (kgHs X) 177)), (3, .int i)] ++ [(4, .double (FP.f2d x)), (6, .double (FP.f2d x))]) S [1, 2, 3, 4, 5, 0] dL_law_1013 (by decide) rfl ?_
  refine lw_dload S 4 rfl dL_law_1015 ?_
  refine lw_dload S 5 rfl dL_law_1017 ?_
  refine lw_dcmp S dL_law_1019 ?_
  refine aw_if_eqT (y := 0) (tgt := 1041) S dL_law_1020 (by decide) hc ?_
  refine aw_goto (tgt := 1083) S dL_law_1041 (by decide) ?_
  exact aw_sub [0, 1, 2, 3] rfl (kk J2 hI2)
theorem lw_c_undo {X : kgCX Unit} {Inv Inv2 : kgM → Prop} (hp : kgOK Inv Inv2) {b N : Nat} {xs : Nat → Int32} {ce sl : Nat} {i : Int32} {I : kgM} (S : Cx X cL_law RL 8 2048 84000 600000 7302250) (hsc : Sc X b N xs) (h1 : vp_in (i + 1) N) (h2 : vp_in (i + 2) N) (h3 : vp_in (i + 3) N) (hI : Inv I) (hce : ce + 30 ≤ 600000) (hsl : sl + 1000 ≤ 7302250)
    (kk : ∀ J, Inv2 J → AW X 8 (ce + 30) (sl + 1000) none (some ()) 1083 [(0, .ref b), (1, .ref (kgO (kgHs X) 0)), (2, .ref (kgO (kgHs X) 177)), (3, .int i)] [] J) : AW X 8 ce sl none (some ()) 1044 [(0, .ref b), (1, .ref (kgO (kgHs X) 0)), (2, .ref (kgO (kgHs X) 177)), (3, .int i)] [] I := by
  obtain ⟨x, J, J2, e1, e2, hI2⟩ := hp.2.2.2.2.2.2.2.2.2.2.2.2.2.2.2.2.2.2.2.2.2.2.2.2.2.2.2.2.2.2.2.2.1  I hI
  refine aw_aload_n S 1 rfl dL_law_1044 rfl ?_
  refine lw_cV (ce2 := ce + 25) (sl2 := sl + 900) S 0 [] e1 vw_X4_undo cl_X4 rfl (by decide) tw_939 (s_X4_undo _ _ _ I) (by decide) rfl rfl (Nat.le_of_ble_eq_true rfl) (by first | exact Nat.le_refl _ | omega) (by first | exact Nat.le_refl _ | omega) (by omega) (by omega) dL_law_1045 ?_
  refine aw_aload_n S 2 rfl dL_law_1048 rfl ?_
  refine lw_cV (ce2 := ce + 30) (sl2 := sl + 1000) S 177 [] e2 vw_X5_undo cl_X5 rfl (by decide) tw_1343 (s_X5_undo _ _ _ J) (by decide) rfl rfl (Nat.le_of_ble_eq_true rfl) (by first | exact Nat.le_refl _ | omega) (by first | exact Nat.le_refl _ | omega) (by omega) (by omega) dL_law_1049 ?_
  exact aw_icmp_eqT (tgt := 1083) S dL_law_1052 (by decide) rfl (kk J2 hI2)
theorem lw_c_save {X : kgCX Unit} {Inv Inv2 : kgM → Prop} (hp : kgOK Inv Inv2) {b N : Nat} {xs : Nat → Int32} {ce sl : Nat} {i : Int32} {I : kgM} (S : Cx X cL_law RL 8 2048 84000 600000 7302250) (hsc : Sc X b N xs) (h1 : vp_in (i + 1) N) (h2 : vp_in (i + 2) N) (h3 : vp_in (i + 3) N) (hI : Inv I) (hce : ce + 30 ≤ 600000) (hsl : sl + 1000 ≤ 7302250)
    (kk : ∀ J, Inv2 J → AW X 8 (ce + 30) (sl + 1000) none (some ()) 1083 [(0, .ref b), (1, .ref (kgO (kgHs X) 0)), (2, .ref (kgO (kgHs X) 177)), (3, .int i)] [] J) : AW X 8 ce sl none (some ()) 1057 [(0, .ref b), (1, .ref (kgO (kgHs X) 0)), (2, .ref (kgO (kgHs X) 177)), (3, .int i)] [] I := by
  obtain ⟨x, J, J2, e1, e2, hI2⟩ := hp.2.2.2.2.2.2.2.2.2.2.2.2.2.2.2.2.2.2.2.2.2.2.2.2.2.2.2.2.2.2.2.2.2.1  I hI
  refine aw_aload_n S 1 rfl dL_law_1057 rfl ?_
  refine lw_cV (ce2 := ce + 25) (sl2 := sl + 900) S 0 [] e1 vw_X4_save cl_X4 rfl (by decide) tw_948 (s_X4_save _ _ _ I) (by decide) rfl rfl (Nat.le_of_ble_eq_true rfl) (by first | exact Nat.le_refl _ | omega) (by first | exact Nat.le_refl _ | omega) (by omega) (by omega) dL_law_1058 ?_
  refine aw_aload_n S 2 rfl dL_law_1061 rfl ?_
  refine lw_cV (ce2 := ce + 30) (sl2 := sl + 1000) S 177 [] e2 vw_X5_save cl_X5 rfl (by decide) tw_1347 (s_X5_save _ _ _ J) (by decide) rfl rfl (Nat.le_of_ble_eq_true rfl) (by first | exact Nat.le_refl _ | omega) (by first | exact Nat.le_refl _ | omega) (by omega) (by omega) dL_law_1062 ?_
  exact aw_icmp_eqT (tgt := 1083) S dL_law_1065 (by decide) rfl (kk J2 hI2)
theorem lw_c_restore {X : kgCX Unit} {Inv Inv2 : kgM → Prop} (hp : kgOK Inv Inv2) {b N : Nat} {xs : Nat → Int32} {ce sl : Nat} {i : Int32} {I : kgM} (S : Cx X cL_law RL 8 2048 84000 600000 7302250) (hsc : Sc X b N xs) (h1 : vp_in (i + 1) N) (h2 : vp_in (i + 2) N) (h3 : vp_in (i + 3) N) (hI : Inv I) (hce : ce + 30 ≤ 600000) (hsl : sl + 1000 ≤ 7302250)
    (kk : ∀ J, Inv2 J → AW X 8 (ce + 30) (sl + 1000) none (some ()) 1083 [(0, .ref b), (1, .ref (kgO (kgHs X) 0)), (2, .ref (kgO (kgHs X) 177)), (3, .int i)] [] J) : AW X 8 ce sl none (some ()) 1070 [(0, .ref b), (1, .ref (kgO (kgHs X) 0)), (2, .ref (kgO (kgHs X) 177)), (3, .int i)] [] I := by
  obtain ⟨x, J, J2, e1, e2, hI2⟩ := hp.2.2.2.2.2.2.2.2.2.2.2.2.2.2.2.2.2.2.2.2.2.2.2.2.2.2.2.2.2.2.2.2.2.2  I hI
  refine aw_aload_n S 1 rfl dL_law_1070 rfl ?_
  refine lw_cV (ce2 := ce + 25) (sl2 := sl + 900) S 0 [] e1 vw_X4_restore cl_X4 rfl (by decide) tw_953 (s_X4_restore _ _ _ I) (by decide) rfl rfl (Nat.le_of_ble_eq_true rfl) (by first | exact Nat.le_refl _ | omega) (by first | exact Nat.le_refl _ | omega) (by omega) (by omega) dL_law_1071 ?_
  refine aw_aload_n S 2 rfl dL_law_1074 rfl ?_
  refine lw_cV (ce2 := ce + 30) (sl2 := sl + 1000) S 177 [] e2 vw_X5_restore cl_X5 rfl (by decide) tw_1351 (s_X5_restore _ _ _ J) (by decide) rfl rfl (Nat.le_of_ble_eq_true rfl) (by first | exact Nat.le_refl _ | omega) (by first | exact Nat.le_refl _ | omega) (by omega) (by omega) dL_law_1075 ?_
  exact aw_icmp_eqT (tgt := 1083) S dL_law_1078 (by decide) rfl (kk J2 hI2)
