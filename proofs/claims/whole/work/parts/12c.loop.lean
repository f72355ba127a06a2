section LWL
variable {ρ : Type} {X : kgCX ρ} {cc : ByteArray} {own : String} {nL fr lo mc ms ce sl : Nat} {fin : Option ρ} {pc : Nat} {L : List (Nat × Value)} {st : List Value} {I : kgM} {w : Option (Nat × Nat)}
theorem lw_tab (S : Cx X cc own nL fr lo mc ms) {x : Int32} {dflt l0 hi : Int} {offs : Array Int} {len : Nat} {off : Int} {tgt : Nat} (v : Int) (hx : x.toInt = v) (hdg : decode cc pc = .ok (.tableswitch dflt l0 hi offs, len)) (h1 : l0 ≤ v) (h2 : v ≤ hi) (ho : offs[(v - l0).toNat]? = some off) (ht : (pc : Int) + off = (tgt : Int)) (k : AW X nL ce sl w fin tgt L st I) : AW X nL ce sl w fin pc L (.int x :: st) I := by
  obtain ⟨p, l, e, R, s, m, args, below, meth, c, hs, Q⟩ := X
  obtain ⟨⟨hx2, hb, hml, hown, hts⟩, hR, hK, hE, hlk⟩ := S
  subst hx
  intro r hr H locs ls a b hl
  exact lv_tableIn hx2 hb hdg (by omega) (by omega) ho ht (k r hr H locs ls a b hl)
end LWL
set_option maxRecDepth 100000
theorem lw_step {X : kgCX Unit} {Inv : Nat → kgM → Prop} (hp : ∀ q, q < 512 → kgOK (Inv q) (Inv (q + 1))) (hmo : ∀ q I, Inv q I → Inv (q + 1) I) {b N : Nat} {xs : Nat → Int32} (S : Cx X cL_law RL 8 2048 84000 600000 7302250) (hsc : Sc X b N xs) (hN : N ≤ 2048) (hend : ∀ (I : kgM) (L : List (Nat × Value)), AW X 8 600000 7302250 none (some ()) 1089 L [] I) (q : Nat) (hq : 4 * q < N + 4) {I : kgM} (hI : Inv q I)
    (ih : 4 * q + 4 ≤ N → ∀ J, Inv (q + 1) J → AW X 8 (184 + 30 * (q + 1)) (4000 + 1000 * (q + 1)) none (some ()) 18 [(0, .ref b), (1, .ref (kgO (kgHs X) 0)), (2, .ref (kgO (kgHs X) 177)), (3, .int (nI (4 * (q + 1))))] [] J) :
    AW X 8 (184 + 30 * q) (4000 + 1000 * q) none (some ()) 18 [(0, .ref b), (1, .ref (kgO (kgHs X) 0)), (2, .ref (kgO (kgHs X) 177)), (3, .int (nI (4 * q)))] [] I := by
  have hsub : (Int32.ofNat N - 4).toInt = (N : Int) - 4 := pk_sub_toInt (a := N) (b := 4) (by omega) (by omega)
  have hqi : (nI (4 * q)).toInt = ((4 * q : Nat) : Int) := nI_toInt (by omega)
  refine aw_iload_n S 3 rfl dL_law_18 rfl ?_
  refine aw_aload_n S 0 rfl dL_law_19 rfl ?_
  refine lw_slen S hsc dL_law_20 ?_
  refine aw_iconst S dL_law_21 (v := 4) (by decide) ?_
  refine aw_isub S dL_law_22 ?_
  by_cases hlast : 4 * q + 4 ≤ N
  · refine aw_icmp_gtF (tgt := 1089) S dL_law_23 (by decide) (by rw [Int32.lt_iff_toInt_lt, hsub, hqi]; omega) ?_
    have g0 : vp_in (nI (4 * q)) N := vp_in_nI (by omega) (by omega)
    have h1 : vp_in (nI (4 * q) + 1) N := by rw [show nI (4 * q) + 1 = nI (4 * q + 1) from nI_add _ 1]; exact vp_in_nI (by omega) (by omega)
    have h2 : vp_in (nI (4 * q) + 2) N := by rw [show nI (4 * q) + 2 = nI (4 * q + 2) from nI_add _ 2]; exact vp_in_nI (by omega) (by omega)
    have h3 : vp_in (nI (4 * q) + 3) N := by rw [show nI (4 * q) + 3 = nI (4 * q + 3) from nI_add _ 3]; exact vp_in_nI (by omega) (by omega)
    have h4 : nI (4 * q) + Int32.ofInt 4 = nI (4 * (q + 1)) := nI_add _ 4
    have hce : 184 + 30 * q + 30 ≤ 600000 := by omega
    have hsl : 4000 + 1000 * q + 1000 ≤ 7302250 := by omega
    have hp := hp q (by omega)
    have kk : ∀ J, Inv (q + 1) J → AW X 8 (184 + 30 * q + 30) (4000 + 1000 * q + 1000) none (some ()) 1083 [(0, .ref b), (1, .ref (kgO (kgHs X) 0)), (2, .ref (kgO (kgHs X) 177)), (3, .int (nI (4 * q)))] [] J := fun J hJ => by
      refine aw_iinc (L2 := [(0, .ref b), (1, .ref (kgO (kgHs X) 0)), (2, .ref (kgO (kgHs X) 177)), (3, .int (nI (4 * (q + 1))))]) S [1, 2, 3, 0] 3 dL_law_1083 rfl h4 (by decide) rfl ?_
      exact aw_goto (tgt := 18) S dL_law_1086 (by decide) (ih hlast J hJ)
    refine aw_aload_n S 0 rfl dL_law_26 rfl ?_
    refine aw_iload_n S 3 rfl dL_law_27 rfl ?_
    refine lw_sld S hsc g0 dL_law_28 ?_
    refine aw_bipush S dL_law_29 (v := 63) (by decide) ?_
    refine aw_iand S dL_law_31 ?_
    by_cases c0 : (xs (nI (4 * q)).toNatClampNeg &&& 63).toInt = 0
    · exact lw_tab (tgt := 188) S 0 c0 dL_law_32 (by decide) (by decide) rfl (by decide) (lw_c_own hp S hsc h1 h2 h3 hI hce hsl kk)
    by_cases c1 : (xs (nI (4 * q)).toNatClampNeg &&& 63).toInt = 1
    · exact lw_tab (tgt := 221) S 1 c1 dL_law_32 (by decide) (by decide) rfl (by decide) (lw_c_owner hp S hsc h1 h2 h3 hI hce hsl kk)
    by_cases c2 : (xs (nI (4 * q)).toNatClampNeg &&& 63).toInt = 2
    · exact lw_tab (tgt := 244) S 2 c2 dL_law_32 (by decide) (by decide) rfl (by decide) (lw_c_kettle hp S hsc h1 h2 h3 hI hce hsl kk)
    by_cases c3 : (xs (nI (4 * q)).toNatClampNeg &&& 63).toInt = 3
    · exact lw_tab (tgt := 287) S 3 c3 dL_law_32 (by decide) (by decide) rfl (by decide) (lw_c_fill hp S hsc h1 h2 h3 hI hce hsl kk)
    by_cases c4 : (xs (nI (4 * q)).toNatClampNeg &&& 63).toInt = 4
    · exact lw_tab (tgt := 320) S 4 c4 dL_law_32 (by decide) (by decide) rfl (by decide) (lw_c_kettleOf hp S hsc h1 h2 h3 hI hce hsl kk)
    by_cases c5 : (xs (nI (4 * q)).toNatClampNeg &&& 63).toInt = 5
    · exact lw_tab (tgt := 353) S 5 c5 dL_law_32 (by decide) (by decide) rfl (by decide) (lw_c_set hp S hsc h1 h2 h3 hI hce hsl kk)
    by_cases c6 : (xs (nI (4 * q)).toNatClampNeg &&& 63).toInt = 6
    · exact lw_tab (tgt := 386) S 6 c6 dL_law_32 (by decide) (by decide) rfl (by decide) (lw_c_off hp S hsc h1 h2 h3 hI hce hsl kk)
    by_cases c7 : (xs (nI (4 * q)).toNatClampNeg &&& 63).toInt = 7
    · exact lw_tab (tgt := 409) S 7 c7 dL_law_32 (by decide) (by decide) rfl (by decide) (lw_c_heat hp S hsc h1 h2 h3 hI hce hsl kk)
    by_cases c8 : (xs (nI (4 * q)).toNatClampNeg &&& 63).toInt = 8
    · exact lw_tab (tgt := 442) S 8 c8 dL_law_32 (by decide) (by decide) rfl (by decide) (lw_c_lid hp S hsc h1 h2 h3 hI hce hsl kk)
    by_cases c9 : (xs (nI (4 * q)).toNatClampNeg &&& 63).toInt = 9
    · exact lw_tab (tgt := 475) S 9 c9 dL_law_32 (by decide) (by decide) rfl (by decide) (lw_c_appeal hp S hsc h1 h2 h3 hI hce hsl kk)
    by_cases c10 : (xs (nI (4 * q)).toNatClampNeg &&& 63).toInt = 10
    · exact lw_tab (tgt := 508) S 10 c10 dL_law_32 (by decide) (by decide) rfl (by decide) (lw_c_stoveOf hp S hsc h1 h2 h3 hI hce hsl kk)
    by_cases c11 : (xs (nI (4 * q)).toNatClampNeg &&& 63).toInt = 11
    · exact lw_tab (tgt := 557) S 11 c11 dL_law_32 (by decide) (by decide) rfl (by decide) (lw_c_minute hp S hsc h1 h2 h3 hI hce hsl kk)
    by_cases c12 : (xs (nI (4 * q)).toNatClampNeg &&& 63).toInt = 12
    · exact lw_tab (tgt := 580) S 12 c12 dL_law_32 (by decide) (by decide) rfl (by decide) (lw_c_whistling hp S hsc h1 h2 h3 hI hce hsl kk)
    by_cases c13 : (xs (nI (4 * q)).toNatClampNeg &&& 63).toInt = 13
    · exact lw_tab (tgt := 593) S 13 c13 dL_law_32 (by decide) (by decide) rfl (by decide) (lw_c_harmony hp S hsc h1 h2 h3 hI hce hsl kk)
    by_cases c14 : (xs (nI (4 * q)).toNatClampNeg &&& 63).toInt = 14
    · exact lw_tab (tgt := 606) S 14 c14 dL_law_32 (by decide) (by decide) rfl (by decide) (lw_c_harmonyAgain hp S hsc h1 h2 h3 hI hce hsl kk)
    by_cases c15 : (xs (nI (4 * q)).toNatClampNeg &&& 63).toInt = 15
    · exact lw_tab (tgt := 619) S 15 c15 dL_law_32 (by decide) (by decide) rfl (by decide) (lw_c_boilsIn hp S hsc h1 h2 h3 hI hce hsl kk)
    by_cases c16 : (xs (nI (4 * q)).toNatClampNeg &&& 63).toInt = 16
    · exact lw_tab (tgt := 642) S 16 c16 dL_law_32 (by decide) (by decide) rfl (by decide) (lw_c_boilsInAgain hp S hsc h1 h2 h3 hI hce hsl kk)
    by_cases c17 : (xs (nI (4 * q)).toNatClampNeg &&& 63).toInt = 17
    · exact lw_tab (tgt := 665) S 17 c17 dL_law_32 (by decide) (by decide) rfl (by decide) (lw_c_dryIn hp S hsc h1 h2 h3 hI hce hsl kk)
    by_cases c18 : (xs (nI (4 * q)).toNatClampNeg &&& 63).toInt = 18
    · exact lw_tab (tgt := 688) S 18 c18 dL_law_32 (by decide) (by decide) rfl (by decide) (lw_c_bestPitch hp S hsc h1 h2 h3 hI hce hsl kk)
    by_cases c19 : (xs (nI (4 * q)).toNatClampNeg &&& 63).toInt = 19
    · exact lw_tab (tgt := 701) S 19 c19 dL_law_32 (by decide) (by decide) rfl (by decide) (lw_c_memberOf hp S hsc h1 h2 h3 hI hce hsl kk)
    by_cases c20 : (xs (nI (4 * q)).toNatClampNeg &&& 63).toInt = 20
    · exact lw_tab (tgt := 734) S 20 c20 dL_law_32 (by decide) (by decide) rfl (by decide) (lw_c_ranked hp S hsc h1 h2 h3 hI hce hsl kk)
    by_cases c21 : (xs (nI (4 * q)).toNatClampNeg &&& 63).toInt = 21
    · exact lw_tab (tgt := 757) S 21 c21 dL_law_32 (by decide) (by decide) rfl (by decide) (lw_c_hottest hp S hsc h1 h2 h3 hI hce hsl kk)
    by_cases c22 : (xs (nI (4 * q)).toNatClampNeg &&& 63).toInt = 22
    · exact lw_tab (tgt := 780) S 22 c22 dL_law_32 (by decide) (by decide) rfl (by decide) (lw_c_append hp S hsc h1 h2 h3 hI hce hsl kk)
    by_cases c23 : (xs (nI (4 * q)).toNatClampNeg &&& 63).toInt = 23
    · exact lw_tab (tgt := 803) S 23 c23 dL_law_32 (by decide) (by decide) rfl (by decide) (lw_c_run hp S hsc h1 h2 h3 hI hce hsl kk)
    by_cases c24 : (xs (nI (4 * q)).toNatClampNeg &&& 63).toInt = 24
    · exact lw_tab (tgt := 816) S 24 c24 dL_law_32 (by decide) (by decide) rfl (by decide) (lw_c_tell hp S hsc h1 h2 h3 hI hce hsl kk)
    by_cases c25 : (xs (nI (4 * q)).toNatClampNeg &&& 63).toInt = 25
    · exact lw_tab (tgt := 839) S 25 c25 dL_law_32 (by decide) (by decide) rfl (by decide) (lw_c_tellStoves hp S hsc h1 h2 h3 hI hce hsl kk)
    by_cases c26 : (xs (nI (4 * q)).toNatClampNeg &&& 63).toInt = 26
    · exact lw_tab (tgt := 852) S 26 c26 dL_law_32 (by decide) (by decide) rfl (by decide) (lw_c_character hp S hsc h1 h2 h3 hI hce hsl kk)
    by_cases c27 : (xs (nI (4 * q)).toNatClampNeg &&& 63).toInt = 27
    · exact lw_tab (tgt := 875) S 27 c27 dL_law_32 (by decide) (by decide) rfl (by decide) (lw_c_reason hp S hsc h1 h2 h3 hI hce hsl kk)
    by_cases c28 : (xs (nI (4 * q)).toNatClampNeg &&& 63).toInt = 28
    · exact lw_tab (tgt := 924) S 28 c28 dL_law_32 (by decide) (by decide) rfl (by decide) (lw_c_account hp S hsc h1 h2 h3 hI hce hsl kk)
    by_cases c29 : (xs (nI (4 * q)).toNatClampNeg &&& 63).toInt = 29
    · exact lw_tab (tgt := 947) S 29 c29 dL_law_32 (by decide) (by decide) rfl (by decide) (lw_c_isBalanced hp S hsc h1 h2 h3 hI hce hsl kk)
    by_cases c30 : (xs (nI (4 * q)).toNatClampNeg &&& 63).toInt = 30
    · exact lw_tab (tgt := 960) S 30 c30 dL_law_32 (by decide) (by decide) rfl (by decide) (lw_c_meanWater hp S hsc h1 h2 h3 hI hce hsl kk)
    by_cases c31 : (xs (nI (4 * q)).toNatClampNeg &&& 63).toInt = 31
    · exact lw_tab (tgt := 1001) S 31 c31 dL_law_32 (by decide) (by decide) rfl (by decide) (lw_c_whistleShare hp S hsc h1 h2 h3 hI hce hsl kk)
    by_cases c32 : (xs (nI (4 * q)).toNatClampNeg &&& 63).toInt = 32
    · exact lw_tab (tgt := 1044) S 32 c32 dL_law_32 (by decide) (by decide) rfl (by decide) (lw_c_undo hp S hsc h1 h2 h3 hI hce hsl kk)
    by_cases c33 : (xs (nI (4 * q)).toNatClampNeg &&& 63).toInt = 33
    · exact lw_tab (tgt := 1057) S 33 c33 dL_law_32 (by decide) (by decide) rfl (by decide) (lw_c_save hp S hsc h1 h2 h3 hI hce hsl kk)
    by_cases c34 : (xs (nI (4 * q)).toNatClampNeg &&& 63).toInt = 34
    · exact lw_tab (tgt := 1070) S 34 c34 dL_law_32 (by decide) (by decide) rfl (by decide) (lw_c_restore hp S hsc h1 h2 h3 hI hce hsl kk)
    refine aw_widen (k := 184 + 30 * q + 30) (n := 4000 + 1000 * q + 1000) (by omega) (by omega) ?_
    exact aw_tableOut (tgt := 1083) S dL_law_32 (by omega) (by decide) (kk I (hmo q I hI))
  · refine aw_icmp_gtT (tgt := 1089) S dL_law_23 (by decide) (by rw [Int32.lt_iff_toInt_lt, hsub, hqi]; omega) ?_
    exact aw_widen (by omega) (by omega) (hend I _)
theorem lw_loop {X : kgCX Unit} {Inv : Nat → kgM → Prop} (hp : ∀ q, q < 512 → kgOK (Inv q) (Inv (q + 1))) (hmo : ∀ q I, Inv q I → Inv (q + 1) I) {b N : Nat} {xs : Nat → Int32} (S : Cx X cL_law RL 8 2048 84000 600000 7302250) (hsc : Sc X b N xs) (hN : N ≤ 2048) (hend : ∀ (I : kgM) (L : List (Nat × Value)), AW X 8 600000 7302250 none (some ()) 1089 L [] I) : ∀ (d q : Nat) (I : kgM), N ≤ 4 * q + d → 4 * q < N + 4 → Inv q I →
    AW X 8 (184 + 30 * q) (4000 + 1000 * q) none (some ()) 18 [(0, .ref b), (1, .ref (kgO (kgHs X) 0)), (2, .ref (kgO (kgHs X) 177)), (3, .int (nI (4 * q)))] [] I := by
  intro d
  induction d with
  | zero => exact fun q I h hq hI => lw_step hp hmo S hsc hN hend q hq hI (fun h2 => by omega)
  | succ d ih => exact fun q I h hq hI => lw_step hp hmo S hsc hN hend q hq hI (fun h2 J hJ => ih (q + 1) J (by omega) (by omega) hJ)
