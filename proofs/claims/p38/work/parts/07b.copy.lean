/-! copying a state's rows -/
def kgU (I : kgM) (k : Nat) (f : Nat → Int32) : kgM := fun a => if a = k then f else I a
theorem kgU_s (I : kgM) (k : Nat) (f : Nat → Int32) : kgU I k f k = f := if_pos rfl
theorem kgU_n (I : kgM) {k a : Nat} (f : Nat → Int32) (h : a ≠ k) : kgU I k f a = I a := if_neg h
theorem kgw_setU {hs : kgH} {av cap : Nat} {I : kgM} {k : Nat} {f : Nat → Int32} (h : k < 177) : (kgw hs av cap I).set k (kgad hs av k, kgce hs av cap (kgU I k f) k) = kgw hs av cap (kgU I k f) := by
  apply List.ext_getElem?
  intro i
  by_cases hi : i = k
  · subst hi
    rw [List.getElem?_set_self (by rw [kgw_len]; omega), kgw_get h]
  · rw [List.getElem?_set_ne (Ne.symm hi)]
    by_cases h2 : i < 177
    · rw [kgw_get h2, kgw_get h2, kgce_eq (kgU_n I f hi)]
    · obtain ⟨i2, rfl⟩ : ∃ i2, i = 177 + i2 := ⟨i - 177, by omega⟩
      rw [kgw_xt, kgw_xt]
/-- the first n of cell k1 over those of cell k2 -/
def kgCp (I : kgM) (k1 k2 n : Nat) : kgM := kgU I k2 (va_cpy (I k1) (I k2) 0 0 n)
theorem aw_copyi {ρ : Type} {X : kgCX ρ} {cc : ByteArray} {own : String} {nL fr lo mc ms ce sl : Nat} {fin : Option ρ} {pc : Nat} {L : List (Nat × Value)} {st : List Value} {I : kgM} {w : Option (Nat × Nat)} (S : Cx X cc own nL fr lo mc ms) (k1 k2 n : Nat) {idx : Nat} (h1 : kgKD k1 = (10, n)) (g1 : k1 < 177) (h2 : kgKD k2 = (10, n)) (g2 : k2 < 177) (hn : n < 2 ^ 31) (hfr : 1 ≤ fr) (hlo : (st.map fun v => v.category).sum + (nativeFrameWords "java/lang/System" "arraycopy" 5 + 11) ≤ lo) (hlk : Cond.methodLink own idx arraycopyName ∈ kg_U) (hdg : decode cc pc = .ok (.invokestatic idx, 3))
    (kk : AW X nL ce sl w fin (pc + 3) L st (kgCp I k1 k2 n)) : AW X nL ce sl w fin pc L (.int (Int32.ofNat n) :: .int 0 :: .ref (kgO (kgHs X) k2) :: .int 0 :: .ref (kgO (kgHs X) k1) :: st) I := by
  obtain ⟨p, l, e, R, s, m, args, below, meth, c, hs, Q⟩ := X
  obtain ⟨⟨hx, hb, hml, hown, hts⟩, hR, hK, hE, hlk0⟩ := S
  subst hR
  intro r hr H locs ls a b hl
  obtain ⟨av, cap, hP, hD, hw, h34, hz⟩ := a
  have hg1 := kgw_get (hs := hs) (av := av) (cap := cap) (I := I) g1
  have hg2 := kgw_get (hs := hs) (av := av) (cap := cap) (I := I) g2
  have n1 := kg_ne176 h1 (by decide)
  have n2 := kg_ne176 h2 (by decide)
  rw [kgce_arr h1 (by decide) (by decide) n1, kgad_ne n1] at hg1
  rw [kgce_arr h2 (by decide) (by decide) n2, kgad_ne n2] at hg2
  have hset := kgw_setU (hs := hs) (av := av) (cap := cap) (I := I) (f := va_cpy (I k1) (I k2) 0 0 n) g2
  rw [kgce_arr h2 (by decide) (by decide) n2, kgad_ne n2, kgU_s] at hset
  have hcl : (Int32.ofNat n).toNatClampNeg = n := nI_clamp hn
  refine va_copyi hx hb (hml.trans hl.1.symm) hown (hts _ hlk) (hts _ tw_441) (hts _ tw_440) (hts _ tw_34) hK hP hD b k1 k2 0 0 hg1 hg2 rfl rfl rfl (by decide) (by decide) (nI_pos hn) (by rw [hcl]; exact Nat.le_of_eq (Nat.zero_add n)) (by rw [hcl]; exact Nat.le_of_eq (Nat.zero_add n)) (fun i _ => rfl) hfr hlo hdg (fun H1 locs1 hP1 hD1 hS1 => ?_)
  rw [hcl] at hP1 hD1
  exact kk r hr H1 locs1 ls ⟨av, cap, by unfold kgCp; rw [← hset]; exact hP1, by unfold kgCp; rw [← hset]; exact hD1, hw, h34, fun h q hq => by show kgZ (kgU I k2 _ 176) cap q; rw [kgU_n _ _ (Ne.symm n2)]; exact hz h q hq⟩ hS1 hl
theorem aw_cSv {ρ : Type} {X : kgCX ρ} {cc : ByteArray} {own : String} {nL fr lo mc ms ce sl ce2 sl2 : Nat} {pc : Nat} {L : List (Nat × Value)} {st stk : List Value} {I : kgM} {w : Option (Nat × Nat)} (S : Cx X cc own nL fr lo mc ms) {y : MethodName} {bytes : ByteArray} {maxL n fr1 lo1 mc1 ms1 idx : Nat} {rt : Option FieldType} (As : List Value) {F : Option (Int32 × kgM)} {f : Int32 → kgM → Option ρ}
    (hV : kgSW y bytes maxL rt n) (hlk : Cond.methodLink own idx y ∈ kg_U) (hM : Sdv (kgHs X) (kgL X) w y (kg_ws y bytes maxL rt) { frames := fr1, cells := mc1, slots := ms1, locals := lo1 } As I F)
    (hRm : fr1 + 1 ≤ fr ∧ 8 + (maxL + 11) + lo1 ≤ lo) (hn : As.length = n) (hst : stk = As.reverse ++ st) (hcat : (st.map fun v => v.category).sum ≤ 8) (h1 : ce + mc1 = ce2) (h2 : sl + ms1 = sl2) (h3 : ce2 ≤ mc) (h4 : sl2 ≤ ms) (hdg : decode cc pc = .ok (.invokestatic idx, 3))
    (kk : ∀ x J, AW X nL ce2 sl2 w (f x J) (pc + 3) L st J) : AW X nL ce sl w (bndC F f) pc L stk I := by
  obtain ⟨p, l, e, R, s, m, args, below, meth, c, hs, Q⟩ := X
  obtain ⟨⟨hx, hb, hml, hown, hts⟩, hR, hK, hE, hlk0⟩ := S
  subst hR; subst hst; subst h1; subst h2
  intro r hr H locs ls a b hl
  obtain ⟨x0, J, hF, hr⟩ := bndC_some hr
  have hE1 := hE.kept b.2.1
  refine va_callv (va_runS (As := As) (rest := st) ⟨hx, hb, hml, hown, hts⟩ (hM (x0, J) hF)
    (va_cwS (mc := mc1) (ms := ms1) n hts (kgG (fun w hw => ?_)) rfl rfl rfl ⟨hV.2.2.2.1.1, hV.2.2.2.1.2, hV.2.2.2.2⟩ hRm) ⟨kgPc_blind, fun U hU hW => ⟨rfl, by rw [hU]; exact a, hK.moved hW.alike, by rw [hU]; exact hE1.warm hW⟩⟩
    rfl hn hl.1 rfl (lv_room hcat) hdg ⟨h3, h4⟩) b (fun q _ h => h) (fun _ h => h) (fun u t H1 locs1 ht hvm hw hB hz1 hk1 hS => ?_)
  · unfold va_wsS at hw
    rcases List.mem_append.mp hw with hw | hw
    · simp only [List.mem_cons, List.not_mem_nil, or_false] at hw
      rcases hw with rfl | rfl | rfl
      · exact hlk
      · exact hV.1
      · exact hV.2.1
    · rcases List.mem_cons.mp hw with rfl | hw
      · exact hV.2.2.1
      · exact hw
  · subst ht
    exact kk x0 J r hr t.heap locs1 ls hB.1 hS hl
def f_J9_min_7cf53 (p1 : Int32) (p2 : Int32) (I0 : kgM) : Option (Int32 × kgM) :=
    (if p2 < p1 then
    some (p2, I0)
    else
    some (p1, I0))

set_option maxHeartbeats 4000000 in
set_option maxRecDepth 100000 in
theorem s_J9_min_7cf53 (hs : kgH) (l : Launch) (w : Option (Nat × Nat)) (p1 : Int32) (p2 : Int32) (I0 : kgM) : Sdi hs l w yJ9_min_7cf53 (kg_ws yJ9_min_7cf53 cJ9_min_7cf53 2 (some .int)) { frames := 0, cells := 0, slots := 0, locals := 0 } [.int p1, .int p2] I0 (f_J9_min_7cf53 p1 p2 I0) := by
  refine sd_i (av := fun hs => [.int p1, .int p2]) (by decide +kernel) (fun hs => Nat.le_of_ble_eq_true rfl) (fun X S hQ => ?_) hs l
  refine aw_sub (L2 := [(0, .int p1), (1, .int p2)]) [0, 1] rfl ?_
  unfold f_J9_min_7cf53
  refine aw_iload_n S 0 rfl dJ9_min_7cf53_0 rfl ?_
  refine aw_iload_n S 1 rfl dJ9_min_7cf53_1 rfl ?_
  refine aw_icmp_gt (tgt := 9) S dJ9_min_7cf53_2 (by decide) ?_ ?_
  · refine aw_iload_n S 1 rfl dJ9_min_7cf53_9 rfl ?_
    exact aw_ret S hQ (vp_nar_int _) (by decide) (by decide) dJ9_min_7cf53_10
  refine aw_iload_n S 0 rfl dJ9_min_7cf53_5 rfl ?_
  refine aw_goto (tgt := 10) S dJ9_min_7cf53_6 (by decide) ?_
  exact aw_ret S hQ (vp_nar_int _) (by decide) (by decide) dJ9_min_7cf53_10
def f_X3_copyRow (k1 k2 n : Nat) (I0 : kgM) : Option (Int32 × kgM) := some ((0 : Int32), kgCp I0 k1 k2 n)
theorem f_J9_min_self (x : Int32) (I : kgM) : f_J9_min_7cf53 x x I = some (x, I) := by
  unfold f_J9_min_7cf53
  repeat (first | rfl | split)
theorem kgRF_st {k j : Nat} (h : kgSt k) (hj : j < 14) : kgRF k j = some (k + 1 + j) := by
  unfold kgRF
  rw [h.2.1, if_pos rfl, if_pos hj]
theorem kgRF_st2 {k j : Nat} (h : kgSt k) (hj : 14 ≤ j) : kgRF k j = none := by
  unfold kgRF
  rw [h.2.1, if_pos rfl, if_neg (Nat.not_lt.mpr hj)]
set_option maxHeartbeats 4000000 in
set_option maxRecDepth 100000 in
theorem s_X3_copyRow (hs : kgH) (l : Launch) (w : Option (Nat × Nat)) (k1 k2 n : Nat) (I0 : kgM) (h1 : kgKD k1 = (10, n)) (g1 : k1 < 177) (h2 : kgKD k2 = (10, n)) (g2 : k2 < 177) (hn : n < 2 ^ 31) : Sdv hs l w yX3_copyRow (kg_ws yX3_copyRow cX3_copyRow 2 none) { frames := 1, cells := 0, slots := 0, locals := 60 } [.ref (kgO hs k1), .ref (kgO hs k2)] I0 (f_X3_copyRow k1 k2 n I0) := by
  refine sd_v (av := fun hs => [.ref (kgO hs k1), .ref (kgO hs k2)]) (by decide +kernel) (fun hs => Nat.le_of_ble_eq_true rfl) (fun X S hQ => ?_) hs l
  refine aw_sub (L2 := [(0, .ref (kgO (kgHs X) k1)), (1, .ref (kgO (kgHs X) k2))]) [0, 1] rfl ?_
  have e : f_X3_copyRow k1 k2 n I0 = bndC (f_J9_min_7cf53 (Int32.ofNat n) (Int32.ofNat n) I0) (fun x J => if x = Int32.ofNat n then some ((0 : Int32), kgCp J k1 k2 n) else none) := by
    rw [f_J9_min_self]
    show _ = if Int32.ofNat n = Int32.ofNat n then _ else _
    rw [if_pos rfl]
    rfl
  rw [e]
  refine aw_aload_n S 0 rfl dX3_copyRow_0 rfl ?_
  refine aw_iconst (v := (0 : Int32)) S dX3_copyRow_1 (by decide) ?_
  refine aw_aload_n S 1 rfl dX3_copyRow_2 rfl ?_
  refine aw_iconst (v := (0 : Int32)) S dX3_copyRow_3 (by decide) ?_
  refine aw_aload_n S 0 rfl dX3_copyRow_4 rfl ?_
  refine aw_alen S k1 n 0 h1 g1 (by decide) (by decide) (by decide) rfl dX3_copyRow_5 ?_
  refine aw_aload_n S 1 rfl dX3_copyRow_6 rfl ?_
  refine aw_alen S k2 n 0 h2 g2 (by decide) (by decide) (by decide) rfl dX3_copyRow_7 ?_
  refine aw_cSi S [.int (Int32.ofNat n), .int (Int32.ofNat n)] vw_J9_min_7cf53 tw_638 (s_J9_min_7cf53 _ _ _ (Int32.ofNat n) (Int32.ofNat n) I0) ⟨by decide, by decide⟩ rfl rfl (Nat.le_of_ble_eq_true rfl) rfl rfl (by decide) (by decide) dX3_copyRow_8 (fun x J => ?_)
  by_cases hx : x = Int32.ofNat n
  · subst hx
    show AW X 2 0 0 w (if Int32.ofNat n = Int32.ofNat n then some ((0 : Int32), kgCp J k1 k2 n) else none) _ _ _ J
    rw [if_pos rfl]
    refine aw_copyi S k1 k2 n h1 g1 h2 g2 hn (by decide) (by decide) tw_639 dX3_copyRow_11 ?_
    exact aw_retv S hQ (by decide) (by decide) dX3_copyRow_14
  · show AW X 2 0 0 w (if x = Int32.ofNat n then some ((0 : Int32), kgCp J k1 k2 n) else none) _ _ _ J
    rw [if_neg hx]
    exact aw_none

def f_X3_copyFrom (k1 k2 : Nat) (I0 : kgM) : Option (Int32 × kgM) :=
  bndC (f_X3_copyRow (k2 + 1 + 0) (k1 + 1 + 0) 13 I0) (fun _ I1 =>
  bndC (f_X3_copyRow (k2 + 1 + 1) (k1 + 1 + 1) 4 I1) (fun _ I2 =>
  bndC (f_X3_copyRow (k2 + 1 + 2) (k1 + 1 + 2) 4 I2) (fun _ I3 =>
  bndC (f_X3_copyRow (k2 + 1 + 3) (k1 + 1 + 3) 4 I3) (fun _ I4 =>
  bndC (f_X3_copyRow (k2 + 1 + 4) (k1 + 1 + 4) 6 I4) (fun _ I5 =>
  bndC (f_X3_copyRow (k2 + 1 + 5) (k1 + 1 + 5) 10 I5) (fun _ I6 =>
  bndC (f_X3_copyRow (k2 + 1 + 6) (k1 + 1 + 6) 10 I6) (fun _ I7 =>
  bndC (f_X3_copyRow (k2 + 1 + 7) (k1 + 1 + 7) 10 I7) (fun _ I8 =>
  bndC (f_X3_copyRow (k2 + 1 + 8) (k1 + 1 + 8) 10 I8) (fun _ I9 =>
  bndC (f_X3_copyRow (k2 + 1 + 9) (k1 + 1 + 9) 10 I9) (fun _ I10 =>
  bndC (f_X3_copyRow (k2 + 1 + 10) (k1 + 1 + 10) 10 I10) (fun _ I11 =>
  bndC (f_X3_copyRow (k2 + 1 + 11) (k1 + 1 + 11) 10 I11) (fun _ I12 =>
  bndC (f_X3_copyRow (k2 + 1 + 12) (k1 + 1 + 12) 10 I12) (fun _ I13 =>
  bndC (f_X3_copyRow (k2 + 1 + 13) (k1 + 1 + 13) 10 I13) (fun _ I14 =>
  bnd (kgW I14 k1 14 (I14 k2 14)) (fun I15 =>
  bnd (kgW I15 k1 15 (I15 k2 15)) (fun I16 =>
  bnd (kgW I16 k1 16 (I16 k2 16)) (fun I17 =>
  bnd (kgW I17 k1 17 (I17 k2 17)) (fun I18 =>
  some ((0 : Int32), I18)))))))))))))))))))
set_option maxHeartbeats 4000000 in
set_option maxRecDepth 100000 in
theorem s_X3_copyFrom (hs : kgH) (l : Launch) (w : Option (Nat × Nat)) (k1 k2 : Nat) (I0 : kgM) (h1 : kgSt k1) (h2 : kgSt k2) : Sdv hs l w yX3_copyFrom (kg_ws yX3_copyFrom cX3_copyFrom 2 none) { frames := 2, cells := 0, slots := 0, locals := 100 } [.ref (kgO hs k1), .ref (kgO hs k2)] I0 (f_X3_copyFrom k1 k2 I0) := by
  refine sd_v (av := fun hs => [.ref (kgO hs k1), .ref (kgO hs k2)]) (by decide +kernel) (fun hs => Nat.le_of_ble_eq_true rfl) (fun X S hQ => ?_) hs l
  refine aw_sub (L2 := [(0, .ref (kgO (kgHs X) k1)), (1, .ref (kgO (kgHs X) k2))]) [0, 1] rfl ?_
  unfold f_X3_copyFrom
  refine aw_aload_n S 1 rfl dX3_copyFrom_0 rfl ?_
  refine aw_getR S k2 0 (k2 + 1 + 0) cl_X3 h2.2.1 h2.1 (by decide) (kgRF_st h2 (by decide)) (by have := h2.2.2.1; omega) rfl tw_57 dX3_copyFrom_1 ?_
  refine aw_aload_n S 0 rfl dX3_copyFrom_4 rfl ?_
  refine aw_getR S k1 0 (k1 + 1 + 0) cl_X3 h1.2.1 h1.1 (by decide) (kgRF_st h1 (by decide)) (by have := h1.2.2.1; omega) rfl tw_57 dX3_copyFrom_5 ?_
  refine aw_cSv S [.ref (kgO (kgHs X) (k2 + 1 + 0)), .ref (kgO (kgHs X) (k1 + 1 + 0))] vw_X3_copyRow tw_635 (s_X3_copyRow _ _ _ (k2 + 1 + 0) (k1 + 1 + 0) 13 I0 (h2.2.2.2 0 (by decide)) (by have := h2.2.2.1; omega) (h1.2.2.2 0 (by decide)) (by have := h1.2.2.1; omega) (by decide)) ⟨by decide, by decide⟩ rfl rfl (Nat.le_of_ble_eq_true rfl) rfl rfl (by decide) (by decide) dX3_copyFrom_8 (fun _ I1 => ?_)
  refine aw_aload_n S 1 rfl dX3_copyFrom_11 rfl ?_
  refine aw_getR S k2 1 (k2 + 1 + 1) cl_X3 h2.2.1 h2.1 (by decide) (kgRF_st h2 (by decide)) (by have := h2.2.2.1; omega) rfl tw_59 dX3_copyFrom_12 ?_
  refine aw_aload_n S 0 rfl dX3_copyFrom_15 rfl ?_
  refine aw_getR S k1 1 (k1 + 1 + 1) cl_X3 h1.2.1 h1.1 (by decide) (kgRF_st h1 (by decide)) (by have := h1.2.2.1; omega) rfl tw_59 dX3_copyFrom_16 ?_
  refine aw_cSv S [.ref (kgO (kgHs X) (k2 + 1 + 1)), .ref (kgO (kgHs X) (k1 + 1 + 1))] vw_X3_copyRow tw_635 (s_X3_copyRow _ _ _ (k2 + 1 + 1) (k1 + 1 + 1) 4 I1 (h2.2.2.2 1 (by decide)) (by have := h2.2.2.1; omega) (h1.2.2.2 1 (by decide)) (by have := h1.2.2.1; omega) (by decide)) ⟨by decide, by decide⟩ rfl rfl (Nat.le_of_ble_eq_true rfl) rfl rfl (by decide) (by decide) dX3_copyFrom_19 (fun _ I2 => ?_)
  refine aw_aload_n S 1 rfl dX3_copyFrom_22 rfl ?_
  refine aw_getR S k2 2 (k2 + 1 + 2) cl_X3 h2.2.1 h2.1 (by decide) (kgRF_st h2 (by decide)) (by have := h2.2.2.1; omega) rfl tw_61 dX3_copyFrom_23 ?_
  refine aw_aload_n S 0 rfl dX3_copyFrom_26 rfl ?_
  refine aw_getR S k1 2 (k1 + 1 + 2) cl_X3 h1.2.1 h1.1 (by decide) (kgRF_st h1 (by decide)) (by have := h1.2.2.1; omega) rfl tw_61 dX3_copyFrom_27 ?_
  refine aw_cSv S [.ref (kgO (kgHs X) (k2 + 1 + 2)), .ref (kgO (kgHs X) (k1 + 1 + 2))] vw_X3_copyRow tw_635 (s_X3_copyRow _ _ _ (k2 + 1 + 2) (k1 + 1 + 2) 4 I2 (h2.2.2.2 2 (by decide)) (by have := h2.2.2.1; omega) (h1.2.2.2 2 (by decide)) (by have := h1.2.2.1; omega) (by decide)) ⟨by decide, by decide⟩ rfl rfl (Nat.le_of_ble_eq_true rfl) rfl rfl (by decide) (by decide) dX3_copyFrom_30 (fun _ I3 => ?_)
  refine aw_aload_n S 1 rfl dX3_copyFrom_33 rfl ?_
  refine aw_getR S k2 3 (k2 + 1 + 3) cl_X3 h2.2.1 h2.1 (by decide) (kgRF_st h2 (by decide)) (by have := h2.2.2.1; omega) rfl tw_63 dX3_copyFrom_34 ?_
  refine aw_aload_n S 0 rfl dX3_copyFrom_37 rfl ?_
  refine aw_getR S k1 3 (k1 + 1 + 3) cl_X3 h1.2.1 h1.1 (by decide) (kgRF_st h1 (by decide)) (by have := h1.2.2.1; omega) rfl tw_63 dX3_copyFrom_38 ?_
  refine aw_cSv S [.ref (kgO (kgHs X) (k2 + 1 + 3)), .ref (kgO (kgHs X) (k1 + 1 + 3))] vw_X3_copyRow tw_635 (s_X3_copyRow _ _ _ (k2 + 1 + 3) (k1 + 1 + 3) 4 I3 (h2.2.2.2 3 (by decide)) (by have := h2.2.2.1; omega) (h1.2.2.2 3 (by decide)) (by have := h1.2.2.1; omega) (by decide)) ⟨by decide, by decide⟩ rfl rfl (Nat.le_of_ble_eq_true rfl) rfl rfl (by decide) (by decide) dX3_copyFrom_41 (fun _ I4 => ?_)
  refine aw_aload_n S 1 rfl dX3_copyFrom_44 rfl ?_
  refine aw_getR S k2 4 (k2 + 1 + 4) cl_X3 h2.2.1 h2.1 (by decide) (kgRF_st h2 (by decide)) (by have := h2.2.2.1; omega) rfl tw_65 dX3_copyFrom_45 ?_
  refine aw_aload_n S 0 rfl dX3_copyFrom_48 rfl ?_
  refine aw_getR S k1 4 (k1 + 1 + 4) cl_X3 h1.2.1 h1.1 (by decide) (kgRF_st h1 (by decide)) (by have := h1.2.2.1; omega) rfl tw_65 dX3_copyFrom_49 ?_
  refine aw_cSv S [.ref (kgO (kgHs X) (k2 + 1 + 4)), .ref (kgO (kgHs X) (k1 + 1 + 4))] vw_X3_copyRow tw_635 (s_X3_copyRow _ _ _ (k2 + 1 + 4) (k1 + 1 + 4) 6 I4 (h2.2.2.2 4 (by decide)) (by have := h2.2.2.1; omega) (h1.2.2.2 4 (by decide)) (by have := h1.2.2.1; omega) (by decide)) ⟨by decide, by decide⟩ rfl rfl (Nat.le_of_ble_eq_true rfl) rfl rfl (by decide) (by decide) dX3_copyFrom_52 (fun _ I5 => ?_)
  refine aw_aload_n S 1 rfl dX3_copyFrom_55 rfl ?_
  refine aw_getR S k2 5 (k2 + 1 + 5) cl_X3 h2.2.1 h2.1 (by decide) (kgRF_st h2 (by decide)) (by have := h2.2.2.1; omega) rfl tw_67 dX3_copyFrom_56 ?_
  refine aw_aload_n S 0 rfl dX3_copyFrom_59 rfl ?_
  refine aw_getR S k1 5 (k1 + 1 + 5) cl_X3 h1.2.1 h1.1 (by decide) (kgRF_st h1 (by decide)) (by have := h1.2.2.1; omega) rfl tw_67 dX3_copyFrom_60 ?_
  refine aw_cSv S [.ref (kgO (kgHs X) (k2 + 1 + 5)), .ref (kgO (kgHs X) (k1 + 1 + 5))] vw_X3_copyRow tw_635 (s_X3_copyRow _ _ _ (k2 + 1 + 5) (k1 + 1 + 5) 10 I5 (h2.2.2.2 5 (by decide)) (by have := h2.2.2.1; omega) (h1.2.2.2 5 (by decide)) (by have := h1.2.2.1; omega) (by decide)) ⟨by decide, by decide⟩ rfl rfl (Nat.le_of_ble_eq_true rfl) rfl rfl (by decide) (by decide) dX3_copyFrom_63 (fun _ I6 => ?_)
  refine aw_aload_n S 1 rfl dX3_copyFrom_66 rfl ?_
  refine aw_getR S k2 6 (k2 + 1 + 6) cl_X3 h2.2.1 h2.1 (by decide) (kgRF_st h2 (by decide)) (by have := h2.2.2.1; omega) rfl tw_69 dX3_copyFrom_67 ?_
  refine aw_aload_n S 0 rfl dX3_copyFrom_70 rfl ?_
  refine aw_getR S k1 6 (k1 + 1 + 6) cl_X3 h1.2.1 h1.1 (by decide) (kgRF_st h1 (by decide)) (by have := h1.2.2.1; omega) rfl tw_69 dX3_copyFrom_71 ?_
  refine aw_cSv S [.ref (kgO (kgHs X) (k2 + 1 + 6)), .ref (kgO (kgHs X) (k1 + 1 + 6))] vw_X3_copyRow tw_635 (s_X3_copyRow _ _ _ (k2 + 1 + 6) (k1 + 1 + 6) 10 I6 (h2.2.2.2 6 (by decide)) (by have := h2.2.2.1; omega) (h1.2.2.2 6 (by decide)) (by have := h1.2.2.1; omega) (by decide)) ⟨by decide, by decide⟩ rfl rfl (Nat.le_of_ble_eq_true rfl) rfl rfl (by decide) (by decide) dX3_copyFrom_74 (fun _ I7 => ?_)
  refine aw_aload_n S 1 rfl dX3_copyFrom_77 rfl ?_
  refine aw_getR S k2 7 (k2 + 1 + 7) cl_X3 h2.2.1 h2.1 (by decide) (kgRF_st h2 (by decide)) (by have := h2.2.2.1; omega) rfl tw_71 dX3_copyFrom_78 ?_
  refine aw_aload_n S 0 rfl dX3_copyFrom_81 rfl ?_
  refine aw_getR S k1 7 (k1 + 1 + 7) cl_X3 h1.2.1 h1.1 (by decide) (kgRF_st h1 (by decide)) (by have := h1.2.2.1; omega) rfl tw_71 dX3_copyFrom_82 ?_
  refine aw_cSv S [.ref (kgO (kgHs X) (k2 + 1 + 7)), .ref (kgO (kgHs X) (k1 + 1 + 7))] vw_X3_copyRow tw_635 (s_X3_copyRow _ _ _ (k2 + 1 + 7) (k1 + 1 + 7) 10 I7 (h2.2.2.2 7 (by decide)) (by have := h2.2.2.1; omega) (h1.2.2.2 7 (by decide)) (by have := h1.2.2.1; omega) (by decide)) ⟨by decide, by decide⟩ rfl rfl (Nat.le_of_ble_eq_true rfl) rfl rfl (by decide) (by decide) dX3_copyFrom_85 (fun _ I8 => ?_)
  refine aw_aload_n S 1 rfl dX3_copyFrom_88 rfl ?_
  refine aw_getR S k2 8 (k2 + 1 + 8) cl_X3 h2.2.1 h2.1 (by decide) (kgRF_st h2 (by decide)) (by have := h2.2.2.1; omega) rfl tw_73 dX3_copyFrom_89 ?_
  refine aw_aload_n S 0 rfl dX3_copyFrom_92 rfl ?_
  refine aw_getR S k1 8 (k1 + 1 + 8) cl_X3 h1.2.1 h1.1 (by decide) (kgRF_st h1 (by decide)) (by have := h1.2.2.1; omega) rfl tw_73 dX3_copyFrom_93 ?_
  refine aw_cSv S [.ref (kgO (kgHs X) (k2 + 1 + 8)), .ref (kgO (kgHs X) (k1 + 1 + 8))] vw_X3_copyRow tw_635 (s_X3_copyRow _ _ _ (k2 + 1 + 8) (k1 + 1 + 8) 10 I8 (h2.2.2.2 8 (by decide)) (by have := h2.2.2.1; omega) (h1.2.2.2 8 (by decide)) (by have := h1.2.2.1; omega) (by decide)) ⟨by decide, by decide⟩ rfl rfl (Nat.le_of_ble_eq_true rfl) rfl rfl (by decide) (by decide) dX3_copyFrom_96 (fun _ I9 => ?_)
  refine aw_aload_n S 1 rfl dX3_copyFrom_99 rfl ?_
  refine aw_getR S k2 9 (k2 + 1 + 9) cl_X3 h2.2.1 h2.1 (by decide) (kgRF_st h2 (by decide)) (by have := h2.2.2.1; omega) rfl tw_75 dX3_copyFrom_100 ?_
  refine aw_aload_n S 0 rfl dX3_copyFrom_103 rfl ?_
  refine aw_getR S k1 9 (k1 + 1 + 9) cl_X3 h1.2.1 h1.1 (by decide) (kgRF_st h1 (by decide)) (by have := h1.2.2.1; omega) rfl tw_75 dX3_copyFrom_104 ?_
  refine aw_cSv S [.ref (kgO (kgHs X) (k2 + 1 + 9)), .ref (kgO (kgHs X) (k1 + 1 + 9))] vw_X3_copyRow tw_635 (s_X3_copyRow _ _ _ (k2 + 1 + 9) (k1 + 1 + 9) 10 I9 (h2.2.2.2 9 (by decide)) (by have := h2.2.2.1; omega) (h1.2.2.2 9 (by decide)) (by have := h1.2.2.1; omega) (by decide)) ⟨by decide, by decide⟩ rfl rfl (Nat.le_of_ble_eq_true rfl) rfl rfl (by decide) (by decide) dX3_copyFrom_107 (fun _ I10 => ?_)
  refine aw_aload_n S 1 rfl dX3_copyFrom_110 rfl ?_
  refine aw_getR S k2 10 (k2 + 1 + 10) cl_X3 h2.2.1 h2.1 (by decide) (kgRF_st h2 (by decide)) (by have := h2.2.2.1; omega) rfl tw_77 dX3_copyFrom_111 ?_
  refine aw_aload_n S 0 rfl dX3_copyFrom_114 rfl ?_
  refine aw_getR S k1 10 (k1 + 1 + 10) cl_X3 h1.2.1 h1.1 (by decide) (kgRF_st h1 (by decide)) (by have := h1.2.2.1; omega) rfl tw_77 dX3_copyFrom_115 ?_
  refine aw_cSv S [.ref (kgO (kgHs X) (k2 + 1 + 10)), .ref (kgO (kgHs X) (k1 + 1 + 10))] vw_X3_copyRow tw_635 (s_X3_copyRow _ _ _ (k2 + 1 + 10) (k1 + 1 + 10) 10 I10 (h2.2.2.2 10 (by decide)) (by have := h2.2.2.1; omega) (h1.2.2.2 10 (by decide)) (by have := h1.2.2.1; omega) (by decide)) ⟨by decide, by decide⟩ rfl rfl (Nat.le_of_ble_eq_true rfl) rfl rfl (by decide) (by decide) dX3_copyFrom_118 (fun _ I11 => ?_)
  refine aw_aload_n S 1 rfl dX3_copyFrom_121 rfl ?_
  refine aw_getR S k2 11 (k2 + 1 + 11) cl_X3 h2.2.1 h2.1 (by decide) (kgRF_st h2 (by decide)) (by have := h2.2.2.1; omega) rfl tw_79 dX3_copyFrom_122 ?_
  refine aw_aload_n S 0 rfl dX3_copyFrom_125 rfl ?_
  refine aw_getR S k1 11 (k1 + 1 + 11) cl_X3 h1.2.1 h1.1 (by decide) (kgRF_st h1 (by decide)) (by have := h1.2.2.1; omega) rfl tw_79 dX3_copyFrom_126 ?_
  refine aw_cSv S [.ref (kgO (kgHs X) (k2 + 1 + 11)), .ref (kgO (kgHs X) (k1 + 1 + 11))] vw_X3_copyRow tw_635 (s_X3_copyRow _ _ _ (k2 + 1 + 11) (k1 + 1 + 11) 10 I11 (h2.2.2.2 11 (by decide)) (by have := h2.2.2.1; omega) (h1.2.2.2 11 (by decide)) (by have := h1.2.2.1; omega) (by decide)) ⟨by decide, by decide⟩ rfl rfl (Nat.le_of_ble_eq_true rfl) rfl rfl (by decide) (by decide) dX3_copyFrom_129 (fun _ I12 => ?_)
  refine aw_aload_n S 1 rfl dX3_copyFrom_132 rfl ?_
  refine aw_getR S k2 12 (k2 + 1 + 12) cl_X3 h2.2.1 h2.1 (by decide) (kgRF_st h2 (by decide)) (by have := h2.2.2.1; omega) rfl tw_81 dX3_copyFrom_133 ?_
  refine aw_aload_n S 0 rfl dX3_copyFrom_136 rfl ?_
  refine aw_getR S k1 12 (k1 + 1 + 12) cl_X3 h1.2.1 h1.1 (by decide) (kgRF_st h1 (by decide)) (by have := h1.2.2.1; omega) rfl tw_81 dX3_copyFrom_137 ?_
  refine aw_cSv S [.ref (kgO (kgHs X) (k2 + 1 + 12)), .ref (kgO (kgHs X) (k1 + 1 + 12))] vw_X3_copyRow tw_635 (s_X3_copyRow _ _ _ (k2 + 1 + 12) (k1 + 1 + 12) 10 I12 (h2.2.2.2 12 (by decide)) (by have := h2.2.2.1; omega) (h1.2.2.2 12 (by decide)) (by have := h1.2.2.1; omega) (by decide)) ⟨by decide, by decide⟩ rfl rfl (Nat.le_of_ble_eq_true rfl) rfl rfl (by decide) (by decide) dX3_copyFrom_140 (fun _ I13 => ?_)
  refine aw_aload_n S 1 rfl dX3_copyFrom_143 rfl ?_
  refine aw_getR S k2 13 (k2 + 1 + 13) cl_X3 h2.2.1 h2.1 (by decide) (kgRF_st h2 (by decide)) (by have := h2.2.2.1; omega) rfl tw_83 dX3_copyFrom_144 ?_
  refine aw_aload_n S 0 rfl dX3_copyFrom_147 rfl ?_
  refine aw_getR S k1 13 (k1 + 1 + 13) cl_X3 h1.2.1 h1.1 (by decide) (kgRF_st h1 (by decide)) (by have := h1.2.2.1; omega) rfl tw_83 dX3_copyFrom_148 ?_
  refine aw_cSv S [.ref (kgO (kgHs X) (k2 + 1 + 13)), .ref (kgO (kgHs X) (k1 + 1 + 13))] vw_X3_copyRow tw_635 (s_X3_copyRow _ _ _ (k2 + 1 + 13) (k1 + 1 + 13) 10 I13 (h2.2.2.2 13 (by decide)) (by have := h2.2.2.1; omega) (h1.2.2.2 13 (by decide)) (by have := h1.2.2.1; omega) (by decide)) ⟨by decide, by decide⟩ rfl rfl (Nat.le_of_ble_eq_true rfl) rfl rfl (by decide) (by decide) dX3_copyFrom_151 (fun _ I14 => ?_)
  refine aw_aload_n S 0 rfl dX3_copyFrom_154 rfl ?_
  refine aw_aload_n S 1 rfl dX3_copyFrom_155 rfl ?_
  refine aw_getI S k2 14 cl_X3 h2.2.1 h2.1 (by decide) (kgRF_st2 h2 (by decide)) rfl tw_85 dX3_copyFrom_156 ?_
  refine aw_putI S k1 14 cl_X3 tyX3_ok nmX3 h1.2.1 h1.1 (by decide) (kgRF_st2 h1 (by decide)) rfl (vp_nar_int _) rfl tw_85 dX3_copyFrom_159 ?_
  refine aw_wr (fun I15 => ?_)
  refine aw_aload_n S 0 rfl dX3_copyFrom_162 rfl ?_
  refine aw_aload_n S 1 rfl dX3_copyFrom_163 rfl ?_
  refine aw_getI S k2 15 cl_X3 h2.2.1 h2.1 (by decide) (kgRF_st2 h2 (by decide)) rfl tw_87 dX3_copyFrom_164 ?_
  refine aw_putI S k1 15 cl_X3 tyX3_ok nmX3 h1.2.1 h1.1 (by decide) (kgRF_st2 h1 (by decide)) rfl (vp_nar_int _) rfl tw_87 dX3_copyFrom_167 ?_
  refine aw_wr (fun I16 => ?_)
  refine aw_aload_n S 0 rfl dX3_copyFrom_170 rfl ?_
  refine aw_aload_n S 1 rfl dX3_copyFrom_171 rfl ?_
  refine aw_getI S k2 16 cl_X3 h2.2.1 h2.1 (by decide) (kgRF_st2 h2 (by decide)) rfl tw_89 dX3_copyFrom_172 ?_
  refine aw_putI S k1 16 cl_X3 tyX3_ok nmX3 h1.2.1 h1.1 (by decide) (kgRF_st2 h1 (by decide)) rfl (vp_nar_int _) rfl tw_89 dX3_copyFrom_175 ?_
  refine aw_wr (fun I17 => ?_)
  refine aw_aload_n S 0 rfl dX3_copyFrom_178 rfl ?_
  refine aw_aload_n S 1 rfl dX3_copyFrom_179 rfl ?_
  refine aw_getI S k2 17 cl_X3 h2.2.1 h2.1 (by decide) (kgRF_st2 h2 (by decide)) rfl tw_91 dX3_copyFrom_180 ?_
  refine aw_putI S k1 17 cl_X3 tyX3_ok nmX3 h1.2.1 h1.1 (by decide) (kgRF_st2 h1 (by decide)) rfl (vp_nar_int _) rfl tw_91 dX3_copyFrom_183 ?_
  refine aw_wr (fun I18 => ?_)
  exact aw_retv S hQ (by decide) (by decide) dX3_copyFrom_186

