theorem c_chr {I : kgM} {l : List Nat} {i : Nat} (h : LnC l I) (hg : goodL l) (h34 : l.length ≤ 34) (hi : i < l.length) : f_X4_character (nI i) I = some (nI (l.getD i 0), I) := by
  have h3 := h.2.2 i hi
  have hc := hg (l.getD i 0) (by rw [List.getD_eq_getElem?_getD, List.getElem?_eq_getElem hi]; exact List.getElem_mem hi)
  generalize l.getD i 0 = ch at h3 hc
  have cv := chr_v ch hc.2
  unfold f_X4_character f_J5_length_8abf5 f_chr
  rw [if_neg (nI_pos (by omega)), bndC_s, h.2.1, if_neg (nI_ge hi (by omega)), ck_inb (by omega) (by omega), ck_t (decide_eq_true (nI_lt hi (by omega))), ck_t (decide_eq_true h.1), nI_clamp (by omega), h3, ck_t (decide_eq_true (Or.inr (nI_ne0 (by omega) (by omega)))), cv.1, ck_t cv.2, bndC_s, ck_t cv.2, bndC_s]
set_option maxHeartbeats 4000000 in
set_option maxRecDepth 100000 in
theorem s_L_has (hs : kgH) (l : Launch) (hLn : kgO hs 184 = kgO hs 175) {t : List Nat} {I : kgM} (h : LnC t I) (hg : goodL t) (h34 : t.length ≤ 34) : Sdi hs l none yL_has (kg_ws yL_has cL_has 4 (some .boolean)) { frames := 9, cells := 0, slots := 0, locals := 280 } [.ref (kgO hs 0), .int (nI t.length), .int 35] I (some (b2i (t.contains 35), I)) := by
  refine sd_iE (by decide +kernel) (Nat.le_of_ble_eq_true rfl) hs l (fun X hh S hQ => ?_)
  subst hh
  refine aw_sub (L2 := [(0, .ref (kgO (kgHs X) 0)), (1, .int (nI t.length)), (2, .int 35)]) [0, 1, 2] rfl ?_
  have loop : ∀ d i : Nat, i + d = t.length → t.contains 35 = (t.drop i).contains 35 → AW X 4 0 0 none (some (b2i (t.contains 35), I)) 2 [(0, .ref (kgO (kgHs X) 0)), (1, .int (nI t.length)), (2, .int 35), (3, .int (nI i))] [] I := by
    intro d
    induction d with
    | zero =>
      intro i hi he
      have : i = t.length := by omega
      subst this
      rw [List.drop_length] at he
      refine aw_iload_n S 3 rfl dL_has_2 rfl ?_
      refine aw_iload_n S 1 rfl dL_has_3 rfl ?_
      refine aw_icmp_geT (tgt := 24) S dL_has_4 (by decide) (Int32.le_refl _) ?_
      refine aw_iconst (v := (0 : Int32)) S dL_has_24 (by decide) ?_
      rw [he]
      exact aw_ret S hQ rfl (by decide) (by decide) dL_has_25
    | succ d ih =>
      intro i hi he
      have hi2 : i < t.length := by omega
      have hd : t.drop i = t.getD i 0 :: t.drop (i + 1) := by
        rw [List.drop_eq_getElem_cons hi2, List.getD_eq_getElem?_getD, List.getElem?_eq_getElem hi2]; rfl
      refine aw_iload_n S 3 rfl dL_has_2 rfl ?_
      refine aw_iload_n S 1 rfl dL_has_3 rfl ?_
      refine aw_icmp_geF (tgt := 24) S dL_has_4 (by decide) (nI_ge hi2 (by omega)) ?_
      refine aw_aload_n S 0 rfl dL_has_7 rfl ?_
      refine aw_iload_n S 3 rfl dL_has_8 rfl ?_
      refine aw_to (c_chr h hg h34 hi2) ?_
      refine aw_cVi S 0 [.int (nI i)] vw_X4_character cl_X4 (by decide) (by decide) tw_780 (s_X4_character _ _ hLn (nI i) I) ⟨by decide, by decide⟩ rfl rfl (Nat.le_of_ble_eq_true rfl) rfl rfl (by decide) (by decide) dL_has_9 (fun x J => aw_fr (fun hx hJ => ?_))
      subst hx
      subst hJ
      refine aw_iload_n S 2 rfl dL_has_12 rfl ?_
      have hc := hg (t.getD i 0) (by rw [List.getD_eq_getElem?_getD, List.getElem?_eq_getElem hi2]; exact List.getElem_mem hi2)
      by_cases e : t.getD i 0 = 35
      · refine aw_icmp_neF (tgt := 18) S dL_has_13 (by decide) (by rw [e]; rfl) ?_
        refine aw_iconst (v := (1 : Int32)) S dL_has_16 (by decide) ?_
        rw [he, hd, e, show ((35 : Nat) :: t.drop (i + 1)).contains 35 = true from by simp]
        exact aw_ret S hQ rfl (by decide) (by decide) dL_has_17
      · refine aw_icmp_neT (tgt := 18) S dL_has_13 (by decide) (fun z => e ((nI_eq (b := 35) (by omega) (by omega)).mp z)) ?_
        refine aw_iinc (v := nI (i + 1)) (L2 := [(0, .ref (kgO (kgHs X) 0)), (1, .int (nI t.length)), (2, .int 35), (3, .int (nI (i + 1)))]) S [1, 2, 3, 0] 3 dL_has_18 rfl (nI_1 i) (by decide) rfl ?_
        refine aw_goto (tgt := 2) S dL_has_21 (by decide) ?_
        refine ih (i + 1) (by omega) ?_
        rw [he, hd, List.contains_cons, show ((35 : Nat) == t.getD i 0) = false from beq_eq_false_iff_ne.mpr (Ne.symm e), Bool.false_or]
  refine aw_iconst (v := (0 : Int32)) S dL_has_0 (by decide) ?_
  refine aw_istore_n (L2 := [(0, .ref (kgO (kgHs X) 0)), (1, .int (nI t.length)), (2, .int 35), (3, .int 0)]) S [1, 2, 3, 0] dL_has_1 rfl (by decide) rfl ?_
  exact loop t.length 0 (Nat.zero_add _) rfl
set_option maxHeartbeats 4000000 in
set_option maxRecDepth 100000 in
theorem s_L_isLine (hs : kgH) (l : Launch) (hLn : kgO hs 184 = kgO hs 175) {t : List Nat} {I : kgM} {a v : Nat} {f : Nat → Int32} (hstr : kgStr hs a v t.length f) (hf : ∀ i, i < t.length → f i = nI (t.getD i 0)) (h : LnC t I) (hg : goodL t) (h34 : t.length ≤ 34) : Sdi hs l none yL_isLine (kg_ws yL_isLine cL_isLine 4 (some .boolean)) { frames := 9, cells := 0, slots := 0, locals := 280 } [.ref (kgO hs 0), .int (nI t.length), .ref a] I (some (1, I)) := by
  refine sd_iE (by decide +kernel) (Nat.le_of_ble_eq_true rfl) hs l (fun X hh S hQ => ?_)
  subst hh
  refine aw_sub (L2 := [(0, .ref (kgO (kgHs X) 0)), (1, .int (nI t.length)), (2, .ref a)]) [0, 1, 2] rfl ?_
  have loop : ∀ d i : Nat, i + d = t.length → AW X 4 0 0 none (some ((1 : Int32), I)) 12 [(0, .ref (kgO (kgHs X) 0)), (1, .int (nI t.length)), (2, .ref a), (3, .int (nI i))] [] I := by
    intro d
    induction d with
    | zero =>
      intro i hi
      have : i = t.length := by omega
      subst this
      refine aw_iload_n S 3 rfl dL_isLine_12 rfl ?_
      refine aw_iload_n S 1 rfl dL_isLine_13 rfl ?_
      refine aw_icmp_geT (tgt := 38) S dL_isLine_14 (by decide) (Int32.le_refl _) ?_
      refine aw_iconst (v := (1 : Int32)) S dL_isLine_38 (by decide) ?_
      exact aw_ret S hQ rfl (by decide) (by decide) dL_isLine_39
    | succ d ih =>
      intro i hi
      have hi2 : i < t.length := by omega
      have hc := hg (t.getD i 0) (by rw [List.getD_eq_getElem?_getD, List.getElem?_eq_getElem hi2]; exact List.getElem_mem hi2)
      have cv := chr_v _ hc.2
      refine aw_iload_n S 3 rfl dL_isLine_12 rfl ?_
      refine aw_iload_n S 1 rfl dL_isLine_13 rfl ?_
      refine aw_icmp_geF (tgt := 38) S dL_isLine_14 (by decide) (nI_ge hi2 (by omega)) ?_
      refine aw_aload_n S 0 rfl dL_isLine_17 rfl ?_
      refine aw_iload_n S 3 rfl dL_isLine_18 rfl ?_
      refine aw_to (c_chr h hg h34 hi2) ?_
      refine aw_cVi S 0 [.int (nI i)] vw_X4_character cl_X4 (by decide) (by decide) tw_780 (s_X4_character _ _ hLn (nI i) I) ⟨by decide, by decide⟩ rfl rfl (Nat.le_of_ble_eq_true rfl) rfl rfl (by decide) (by decide) dL_isLine_19 (fun x J => aw_fr (fun hx hJ => ?_))
      subst hx
      subst hJ
      refine aw_aload_n S 2 rfl dL_isLine_22 rfl ?_
      refine aw_iload_n S 3 rfl dL_isLine_23 rfl ?_
      refine aw_to (F := some (((f i &&& (255 : Int32)).toUInt32 % 65536).toInt32, J)) rfl ?_
      refine aw_cTi S hstr [.int (nI i)] vw_J0_charAt_5068e rfl tw_808 (s_J0_charAt _ _ _ hstr hi2 (by rw [hf i hi2, cv.1]; exact cv.2) J) ⟨by decide, by decide⟩ rfl rfl (Nat.le_of_ble_eq_true rfl) rfl rfl (by decide) (by decide) dL_isLine_24 (fun x J2 => aw_fr (fun hx hJ => ?_))
      subst hx
      subst hJ
      rw [hf i hi2, cv.1]
      refine aw_icmp_eqT (tgt := 32) S dL_isLine_27 (by decide) rfl ?_
      refine aw_iinc (v := nI (i + 1)) (L2 := [(0, .ref (kgO (kgHs X) 0)), (1, .int (nI t.length)), (2, .ref a), (3, .int (nI (i + 1)))]) S [1, 2, 3, 0] 3 dL_isLine_32 rfl (nI_1 i) (by decide) rfl ?_
      refine aw_goto (tgt := 12) S dL_isLine_35 (by decide) ?_
      exact ih (i + 1) (by omega)
  refine aw_iload_n S 1 rfl dL_isLine_0 rfl ?_
  refine aw_aload_n S 2 rfl dL_isLine_1 rfl ?_
  refine aw_to (F := some (nI t.length, I)) rfl ?_
  refine aw_cTi S hstr [] vw_J0_length_8abf5 rfl tw_799 (s_J0_length _ _ _ hstr I) ⟨by decide, by decide⟩ rfl rfl (Nat.le_of_ble_eq_true rfl) rfl rfl (by decide) (by decide) dL_isLine_2 (fun x J => aw_fr (fun hx hJ => ?_))
  subst hx
  subst hJ
  refine aw_icmp_eqT (tgt := 10) S dL_isLine_5 (by decide) rfl ?_
  refine aw_iconst (v := (0 : Int32)) S dL_isLine_10 (by decide) ?_
  refine aw_istore_n (L2 := [(0, .ref (kgO (kgHs X) 0)), (1, .int (nI t.length)), (2, .ref a), (3, .int 0)]) S [1, 2, 3, 0] dL_isLine_11 rfl (by decide) rfl ?_
  exact loop t.length 0 (Nat.zero_add _)
