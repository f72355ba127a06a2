theorem aw_ifnonnull {ρ : Type} {X : kgCX ρ} {cc : ByteArray} {own : String} {nL fr lo mc ms ce sl : Nat} {fin : Option ρ} {pc : Nat} {L : List (Nat × Value)} {st : List Value} {I : kgM} {w : Option (Nat × Nat)} (S : Cx X cc own nL fr lo mc ms) {x : Nat} {off : Int} {tgt : Nat} (hdg : decode cc pc = .ok (.ifnonnull off, 3)) (ht : (pc : Int) + off = (tgt : Int)) (k : AW X nL ce sl w fin tgt L st I) : AW X nL ce sl w fin pc L (.ref x :: st) I := by
  obtain ⟨p, l, e, R, s, m, args, below, meth, c, hs, Q⟩ := X
  obtain ⟨⟨hx, hb, hml, hown, hts⟩, hR, hK, hE, hlk⟩ := S
  intro r hr H locs ls a b hl
  exact lv_ifnonnull hx hb hdg ht (k r hr H locs ls a b hl)
/-! A TEXT PUT BEHIND -/
theorem kgw_set176 {hs : kgH} {av cap : Nat} {I : kgM} {g : Nat → Int32} : (kgw hs av cap I).set 176 (av, .inl (kgC hs 12, cap, .inl g)) = kgw hs av cap (kgU I 176 g) := by
  have h := kgw_setU (hs := hs) (av := av) (cap := cap) (I := I) (k := 176) (f := g) (by decide)
  have e1 : kgce hs av cap (kgU I 176 g) 176 = .inl (kgC hs 12, cap, .inl g) := by
    unfold kgce
    rw [if_neg (by decide), if_neg (by decide), if_pos rfl, kgU_s]
    rfl
  rw [e1, show kgad hs av 176 = av from if_pos rfl] at h
  exact h
theorem aw_copyT {ρ : Type} {X : kgCX ρ} {cc : ByteArray} {own : String} {nL fr lo mc ms ce sl : Nat} {fin : Option ρ} {pc : Nat} {L : List (Nat × Value)} {st : List Value} {I : kgM} {av cap a v n : Nat} {f : Nat → Int32} (S : Cx X cc own nL fr lo mc ms) (hstr : kgStr (kgHs X) a v n f) (hf : ∀ i, i < n → fits .byte (.int (f i)) = true) {k : Nat} (hk : k + n ≤ cap) {idx : Nat} (hfr : 1 ≤ fr) (hlo : (st.map fun v => v.category).sum + (nativeFrameWords "java/lang/System" "arraycopy" 5 + 11) ≤ lo) (hlk : Cond.methodLink own idx arraycopyName ∈ kg_U) (hdg : decode cc pc = .ok (.invokestatic idx, 3))
    (kk : AW X nL ce sl (some (av, cap)) fin (pc + 3) L st (kgU I 176 (va_cpy f (I 176) 0 k n))) : AW X nL ce sl (some (av, cap)) fin pc L (.int (Int32.ofNat n) :: .int (nI k) :: .ref av :: .int 0 :: .ref v :: st) I := by
  obtain ⟨p, l, e, R, s, m, args, below, meth, c, hs, Q⟩ := X
  obtain ⟨⟨hx, hb, hml, hown, hts⟩, hR, hK, hE, hlk0⟩ := S
  subst hR
  have hn := hstr.lt
  intro r hr H locs ls a0 b hl
  obtain ⟨av1, cap1, hP, hD, hw, h34, hz⟩ := a0
  cases hw _ rfl
  have hc34 : cap ≤ 34 := by omega
  have c0 : (0 : Int32).toNatClampNeg = 0 := rfl
  have ck1 : (nI k).toNatClampNeg = k := nI_clamp (by omega)
  have cn : (Int32.ofNat n).toNatClampNeg = n := nI_clamp (by omega)
  have fin1 : ∀ (H1 : Heap) (locs1 : List Loc), va_P (kgD hs) vwCl ((kgw hs av cap I).set 176 (av, .inl (kgC hs 12, cap, .inl (va_cpy f (I 176) (0 : Int32).toNatClampNeg (nI k).toNatClampNeg (Int32.ofNat n).toNatClampNeg)))) H1 → va_D (kgA hs) ((kgw hs av cap I).set 176 (av, .inl (kgC hs 12, cap, .inl (va_cpy f (I 176) (0 : Int32).toNatClampNeg (nI k).toNatClampNeg (Int32.ofNat n).toNatClampNeg)))) → va_S (kgA hs) s.heap H1 locs1 → W p l e { frames := fr, cells := mc, slots := ms, locals := lo } s m args below meth c H1 locs1 ce sl (Q r) (F0 m (pc + 3) ls st) := by
    intro H1 locs1 hP1 hD1 hS1
    rw [c0, ck1, cn, kgw_set176] at hP1 hD1
    refine kk r hr H1 locs1 ls ⟨av, cap, hP1, hD1, hw, h34, fun _ q _ => ?_⟩ hS1 hl
    rw [kgU_s]
    have hz1 := hz trivial q trivial
    show fits .byte (.int (if k ≤ q ∧ q < k + n then f (0 + (q - k)) else I 176 q)) = true ∧ (cap = 16 → 16 ≤ q → (if k ≤ q ∧ q < k + n then f (0 + (q - k)) else I 176 q) = 0)
    by_cases hq : k ≤ q ∧ q < k + n
    · rw [if_pos hq]
      exact ⟨hf _ (by omega), fun h16 h2 => by omega⟩
    · rw [if_neg hq]
      exact hz1
  rcases hstr with ⟨j, hj, rfl, rfl, rfl, rfl⟩ | ⟨i, h, z, -, h1, h2⟩
  · exact vk_copyt hx hb (hml.trans hl.1.symm) hown (hts _ hlk) (hts _ tw_441) (hts _ tw_440) (hts _ tw_34) hK hP hD b (hE.2.2.2.2.1.1 j hj).2.2.2 176 2 kgw_176 rfl (by decide) (nI_pos (by omega)) (nI_pos (by omega)) (by rw [c0, cn]; omega) (by rw [ck1, cn]; omega) (fun i hi => by rw [cn] at hi; rw [c0, Nat.zero_add]; exact hf i hi) hfr hlo hdg fin1
  · have hg : (kgw hs av cap I)[177 + (i + 1)]? = some (v, .inl (kgC hs 12, n, .inl f)) := (kgw_xt (i + 1)).trans h2
    exact va_copyi hx hb (hml.trans hl.1.symm) hown (hts _ hlk) (hts _ tw_441) (hts _ tw_440) (hts _ tw_34) hK hP hD b (177 + (i + 1)) 176 2 2 hg kgw_176 rfl rfl rfl (by decide) (nI_pos (by omega)) (nI_pos (by omega)) (by rw [c0, cn]; omega) (by rw [ck1, cn]; omega) (fun i hi => by rw [cn] at hi; rw [c0, Nat.zero_add]; exact hf i hi) hfr hlo hdg fin1
theorem uw_put : kgUW yJ5_putStringAt_47b60 cJ5_putStringAt_47b60 3 none 2 := ⟨tw_846, tw_29, tw_845, tw_931, by decide +kernel, by decide +kernel⟩
theorem uw_infl : kgUW yJ5_inflateIfNeededFor_a7421 cJ5_inflateIfNeededFor_a7421 2 none 1 := ⟨tw_850, tw_29, tw_849, tw_932, by decide +kernel, by decide +kernel⟩
theorem uw_appS : kgUW yJ5_append_cf1ce cJ5_append_cf1ce 3 (some (.object "java/lang/AbstractStringBuilder")) 1 := ⟨tw_834, tw_29, tw_833, tw_929, by decide +kernel, by decide +kernel⟩
theorem sel_put : kgSel yJ5_putStringAt_47b60 := selP (fun hs s h => h.2.2.2.2.2.2.2.2.2.2.1.2.1) tw_931 tw_845
theorem sel_infl : kgSel yJ5_inflateIfNeededFor_a7421 := selP (fun hs s h => h.2.2.2.2.2.2.2.2.2.2.1.2.2.1) tw_932 tw_849
set_option maxHeartbeats 4000000 in
set_option maxRecDepth 100000 in
theorem s_J5_infl (hs : kgH) (l : Launch) (w : Option (Nat × Nat)) {a v n : Nat} {f : Nat → Int32} (hstr : kgStr hs a v n f) (I : kgM) (h1 : I 175 1 = 0) : Sdv hs l w yJ5_inflateIfNeededFor_a7421 (kg_ws yJ5_inflateIfNeededFor_a7421 cJ5_inflateIfNeededFor_a7421 2 none) { frames := 1, cells := 0, slots := 0, locals := 20 } [.ref (kgO hs 175), .ref a] I (some ((0 : Int32), I)) := by
  refine sd_vE (by decide +kernel) (Nat.le_of_ble_eq_true rfl) hs l (fun X hh S hQ => ?_)
  subst hh
  refine aw_sub (L2 := [(0, .ref (kgO (kgHs X) 175)), (1, .ref a)]) [0, 1] rfl ?_
  refine aw_getCS S tw_201 dJ5_inflateIfNeededFor_a7421_0 ?_
  refine aw_if_eqF (y := 0) (tgt := 21) S dJ5_inflateIfNeededFor_a7421_3 (by decide) (by decide) ?_
  refine aw_aload_n S 0 rfl dJ5_inflateIfNeededFor_a7421_6 rfl ?_
  refine aw_getIs S 1 (by decide) (by decide) rfl tw_211 dJ5_inflateIfNeededFor_a7421_7 ?_
  rw [h1]
  refine aw_aload_n S 1 rfl dJ5_inflateIfNeededFor_a7421_10 rfl ?_
  refine aw_to (F := some ((0 : Int32), I)) rfl ?_
  refine aw_cTi S hstr [] vw_J0_coder_7d493 rfl tw_851 (s_J0_coder _ _ _ hstr I) ⟨by decide, by decide⟩ rfl rfl (Nat.le_of_ble_eq_true rfl) rfl rfl (by decide) (by decide) dJ5_inflateIfNeededFor_a7421_11 (fun x J => aw_fr (fun hx1 hJ1 => ?_))
  subst hx1
  subst hJ1
  refine aw_icmp_eqT (tgt := 21) S dJ5_inflateIfNeededFor_a7421_14 (by decide) rfl ?_
  exact aw_retv S hQ (by decide) (by decide) dJ5_inflateIfNeededFor_a7421_21
set_option maxHeartbeats 4000000 in
set_option maxRecDepth 100000 in
theorem s_J0_getBytes (hs : kgH) (l : Launch) {av cap a v n : Nat} {f : Nat → Int32} (hstr : kgStr hs a v n f) (hf : ∀ i, i < n → fits .byte (.int (f i)) = true) {k : Nat} (hk : k + n ≤ cap) (hk2 : k < 2 ^ 30) (I : kgM) : Sdv hs l (some (av, cap)) yJ0_getBytes_840e7 (kg_ws yJ0_getBytes_840e7 cJ0_getBytes_840e7 4 none) { frames := 1, cells := 0, slots := 0, locals := 60 } [.ref a, .ref av, .int (nI k), .int 0] I (some ((0 : Int32), kgU I 176 (va_cpy f (I 176) 0 k n))) := by
  refine sd_vE (by decide +kernel) (Nat.le_of_ble_eq_true rfl) hs l (fun X hh S hQ => ?_)
  subst hh
  refine aw_sub (L2 := [(0, .ref a), (1, .ref av), (2, .int (nI k)), (3, .int 0)]) [0, 1, 2, 3] rfl ?_
  refine aw_aload_n S 0 rfl dJ0_getBytes_840e7_0 rfl ?_
  refine aw_to (F := some ((0 : Int32), I)) rfl ?_
  refine aw_cTi S hstr [] vw_J0_coder_7d493 rfl tw_803 (s_J0_coder _ _ _ hstr I) ⟨by decide, by decide⟩ rfl rfl (Nat.le_of_ble_eq_true rfl) rfl rfl (by decide) (by decide) dJ0_getBytes_840e7_1 (fun x J => aw_fr (fun hx1 hJ1 => ?_))
  subst hx1
  subst hJ1
  refine aw_iload_n S 3 rfl dJ0_getBytes_840e7_4 rfl ?_
  refine aw_icmp_neF (tgt := 28) S dJ0_getBytes_840e7_5 (by decide) rfl ?_
  refine aw_aload_n S 0 rfl dJ0_getBytes_840e7_8 rfl ?_
  refine aw_tV S hstr tw_898 dJ0_getBytes_840e7_9 ?_
  refine aw_iconst (v := (0 : Int32)) S dJ0_getBytes_840e7_12 (by decide) ?_
  refine aw_aload_n S 1 rfl dJ0_getBytes_840e7_13 rfl ?_
  refine aw_iload_n S 2 rfl dJ0_getBytes_840e7_14 rfl ?_
  refine aw_iload_n S 3 rfl dJ0_getBytes_840e7_15 rfl ?_
  refine aw_ishl S dJ0_getBytes_840e7_16 ?_
  rw [sb_shl0]
  refine aw_aload_n S 0 rfl dJ0_getBytes_840e7_17 rfl ?_
  refine aw_tV S hstr tw_898 dJ0_getBytes_840e7_18 ?_
  refine aw_tL S hstr dJ0_getBytes_840e7_21 ?_
  refine aw_copyT S hstr hf hk (by decide) (by decide) tw_856 dJ0_getBytes_840e7_22 ?_
  refine aw_goto (tgt := 43) S dJ0_getBytes_840e7_25 (by decide) ?_
  exact aw_retv S hQ (by decide) (by decide) dJ0_getBytes_840e7_43
set_option maxHeartbeats 4000000 in
set_option maxRecDepth 100000 in
theorem s_J5_put (hs : kgH) (l : Launch) {av cap a v n : Nat} {f : Nat → Int32} (hstr : kgStr hs a v n f) (hf : ∀ i, i < n → fits .byte (.int (f i)) = true) {k : Nat} (hk : k + n ≤ cap) (hk2 : k < 2 ^ 30) (I : kgM) (h1 : I 175 1 = 0) : Sdv hs l (some (av, cap)) yJ5_putStringAt_47b60 (kg_ws yJ5_putStringAt_47b60 cJ5_putStringAt_47b60 3 none) { frames := 2, cells := 0, slots := 0, locals := 90 } [.ref (kgO hs 175), .int (nI k), .ref a] I (some ((0 : Int32), kgU I 176 (va_cpy f (I 176) 0 k n))) := by
  refine sd_vE (by decide +kernel) (Nat.le_of_ble_eq_true rfl) hs l (fun X hh S hQ => ?_)
  subst hh
  refine aw_sub (L2 := [(0, .ref (kgO (kgHs X) 175)), (1, .int (nI k)), (2, .ref a)]) [0, 1, 2] rfl ?_
  refine aw_aload_n S 0 rfl dJ5_putStringAt_47b60_0 rfl ?_
  refine aw_aload_n S 2 rfl dJ5_putStringAt_47b60_1 rfl ?_
  refine aw_to (F := some ((0 : Int32), I)) rfl ?_
  refine aw_cUv S [.ref a] uw_infl sel_infl tw_847 (s_J5_infl _ _ _ hstr I h1) ⟨by decide, by decide⟩ rfl rfl (Nat.le_of_ble_eq_true rfl) rfl rfl (by decide) (by decide) dJ5_putStringAt_47b60_2 (fun x J => aw_fr (fun hx1 hJ1 => ?_))
  subst hJ1
  refine aw_aload_n S 2 rfl dJ5_putStringAt_47b60_5 rfl ?_
  refine aw_aload_n S 0 rfl dJ5_putStringAt_47b60_6 rfl ?_
  refine aw_getB S tw_210 dJ5_putStringAt_47b60_7 ?_
  refine aw_iload_n S 1 rfl dJ5_putStringAt_47b60_10 rfl ?_
  refine aw_aload_n S 0 rfl dJ5_putStringAt_47b60_11 rfl ?_
  refine aw_getIs S 1 (by decide) (by decide) rfl tw_211 dJ5_putStringAt_47b60_12 ?_
  rw [h1]
  refine aw_to (F := some ((0 : Int32), kgU J 176 (va_cpy f (J 176) 0 k n))) rfl ?_
  refine aw_cTv S hstr [.ref av, .int (nI k), .int 0] vw_J0_getBytes_840e7 rfl tw_852 (s_J0_getBytes _ _ hstr hf hk hk2 J) ⟨by decide, by decide⟩ rfl rfl (Nat.le_of_ble_eq_true rfl) rfl rfl (by decide) (by decide) dJ5_putStringAt_47b60_15 (fun x2 J2 => aw_fr (fun hx2 hJ2 => ?_))
  subst hJ2
  exact aw_retv S hQ (by decide) (by decide) dJ5_putStringAt_47b60_18
set_option maxHeartbeats 4000000 in
set_option maxRecDepth 100000 in
theorem s_J5_addS (hs : kgH) (l : Launch) {a v n : Nat} {f : Nat → Int32} (hstr : kgStr hs a v n f) (hf : ∀ i, i < n → fits .byte (.int (f i)) = true) (I : kgM) {k : Nat} (h3 : I 175 3 = nI k) (hk : k + n < 35) (h1 : I 175 1 = 0) : Sdr hs l yJ5_append_cf1ce (kg_ws yJ5_append_cf1ce cJ5_append_cf1ce 3 (some (.object "java/lang/AbstractStringBuilder"))) { frames := 6, cells := 1, slots := 34, locals := 200 } [.ref (kgO hs 175), .ref a] I (some ((0 : Int32), kgW (kgU I 176 (va_cpy f (I 176) 0 k n)) 175 3 (nI (k + n)))) := by
  refine sd_rE (by decide +kernel) (Nat.le_of_ble_eq_true rfl) hs l (fun X hh S hQ => ?_)
  subst hh
  obtain ⟨g1, g2, g3, g4⟩ := ens_small (k + n) hk
  refine aw_sub (L2 := [(0, .ref (kgO (kgHs X) 175)), (1, .ref a)]) [0, 1] rfl ?_
  refine aw_aload_n S 1 rfl dJ5_append_cf1ce_0 rfl ?_
  refine aw_ifnonnull (tgt := 9) S dJ5_append_cf1ce_1 (by decide) ?_
  refine aw_aload_n S 1 rfl dJ5_append_cf1ce_9 rfl ?_
  refine aw_to (F := some (nI n, I)) rfl ?_
  refine aw_cTi S hstr [] vw_J0_length_8abf5 rfl tw_842 (s_J0_length _ _ _ hstr I) ⟨by decide, by decide⟩ rfl rfl (Nat.le_of_ble_eq_true rfl) rfl rfl (by decide) (by decide) dJ5_append_cf1ce_10 (fun x J => aw_fr (fun hx1 hJ1 => ?_))
  subst hx1
  subst hJ1
  refine aw_istore_n (L2 := [(0, .ref (kgO (kgHs X) 175)), (1, .ref a), (2, .int (nI n))]) S [1, 2, 0] dJ5_append_cf1ce_13 rfl (by decide) rfl ?_
  refine aw_aload_n S 0 rfl dJ5_append_cf1ce_14 rfl ?_
  refine aw_aload_n S 0 rfl dJ5_append_cf1ce_15 rfl ?_
  refine aw_getIs S 3 (by decide) (by decide) rfl tw_214 dJ5_append_cf1ce_16 ?_
  rw [h3]
  refine aw_iload_n S 2 rfl dJ5_append_cf1ce_19 rfl ?_
  refine aw_iadd S dJ5_append_cf1ce_20 ?_
  rw [nI_add]
  refine aw_cUe (ce2 := 1) (sl2 := 34) S [.int (nI (k + n))] uw_ens sel_ens tw_411 (s_J5_ens _ _ (nI (k + n)) J (decide_eq_true (by rw [g4]; omega)) h1) ⟨by decide, by decide⟩ rfl rfl (Nat.le_of_ble_eq_true rfl) rfl rfl (by decide) (by decide) dJ5_append_cf1ce_21 (fun av cap hcap h34 => ?_)
  have hb : k + n ≤ cap := by rw [g4] at hcap; omega
  refine aw_aload_n S 0 rfl dJ5_append_cf1ce_24 rfl ?_
  refine aw_aload_n S 0 rfl dJ5_append_cf1ce_25 rfl ?_
  refine aw_getIs S 3 (by decide) (by decide) rfl tw_214 dJ5_append_cf1ce_26 ?_
  rw [h3]
  refine aw_aload_n S 1 rfl dJ5_append_cf1ce_29 rfl ?_
  refine aw_to (F := some ((0 : Int32), kgU J 176 (va_cpy f (J 176) 0 k n))) rfl ?_
  refine aw_cUv (ce2 := 1) (sl2 := 34) S [.int (nI k), .ref a] uw_put sel_put tw_843 (s_J5_put _ _ hstr hf hb (by omega) J h1) ⟨by decide, by decide⟩ rfl rfl (Nat.le_of_ble_eq_true rfl) rfl rfl (by decide) (by decide) dJ5_append_cf1ce_30 (fun x2 J2 => aw_fr (fun hx2 hJ2 => ?_))
  subst hJ2
  refine aw_aload_n S 0 rfl dJ5_append_cf1ce_33 rfl ?_
  refine aw_dup S dJ5_append_cf1ce_34 rfl ?_
  refine aw_getIs S 3 (by decide) (by decide) rfl tw_214 dJ5_append_cf1ce_35 ?_
  rw [kgU_n _ _ (show 175 ≠ 176 by decide), h3]
  refine aw_iload_n S 2 rfl dJ5_append_cf1ce_38 rfl ?_
  refine aw_iadd S dJ5_append_cf1ce_39 ?_
  rw [nI_add]
  refine aw_putIs S 3 (by decide) (by decide) rfl rfl rfl tw_214 dJ5_append_cf1ce_40 ?_
  refine aw_aload_n S 0 rfl dJ5_append_cf1ce_43 rfl ?_
  refine aw_close ?_
  exact aw_retr S hQ (by decide) (by decide) dJ5_append_cf1ce_44
set_option maxHeartbeats 4000000 in
set_option maxRecDepth 100000 in
theorem s_J4_addS (hs : kgH) (l : Launch) {a v n : Nat} {f : Nat → Int32} (hstr : kgStr hs a v n f) (hf : ∀ i, i < n → fits .byte (.int (f i)) = true) (I : kgM) {k : Nat} (h3 : I 175 3 = nI k) (hk : k + n < 35) (h1 : I 175 1 = 0) : Sdr hs l yJ4_append_15ec4 (kg_ws yJ4_append_15ec4 cJ4_append_15ec4 2 (some (.object "java/lang/StringBuilder"))) { frames := 7, cells := 1, slots := 34, locals := 230 } [.ref (kgO hs 175), .ref a] I (some ((0 : Int32), kgW (kgU I 176 (va_cpy f (I 176) 0 k n)) 175 3 (nI (k + n)))) := by
  refine sd_rE (by decide +kernel) (Nat.le_of_ble_eq_true rfl) hs l (fun X hh S hQ => ?_)
  subst hh
  refine aw_sub (L2 := [(0, .ref (kgO (kgHs X) 175)), (1, .ref a)]) [0, 1] rfl ?_
  refine aw_aload_n S 0 rfl dJ4_append_15ec4_0 rfl ?_
  refine aw_aload_n S 1 rfl dJ4_append_15ec4_1 rfl ?_
  refine aw_to (F := some ((0 : Int32), kgW (kgU I 176 (va_cpy f (I 176) 0 k n)) 175 3 (nI (k + n)))) rfl ?_
  refine aw_cPr (ce2 := 1) (sl2 := 34) S [.ref a] uw_appS tw_223 (by decide) rfl tw_832 (s_J5_addS _ _ hstr hf I h3 hk h1) ⟨by decide, by decide⟩ rfl rfl (Nat.le_of_ble_eq_true rfl) rfl rfl (by decide) (by decide) dJ4_append_15ec4_2 (fun x J => aw_fr (fun hx1 hJ1 => ?_))
  subst hJ1
  refine aw_pop S dJ4_append_15ec4_5 rfl ?_
  refine aw_aload_n S 0 rfl dJ4_append_15ec4_6 rfl ?_
  exact aw_retr S hQ (by decide) (by decide) dJ4_append_15ec4_7
