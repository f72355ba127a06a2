/-! TEXTS: constants, and those that the law has made -/
theorem cl_J0 : kgCl 6 4 RJ0 TJ0 := ⟨rfl, fun w hw => tw_sub (by decide +kernel) w hw, by decide⟩
/-- the text at a: its bytes at v, n of them, f -/
def kgStr (hs : kgH) (a v n : Nat) (f : Nat → Int32) : Prop :=
  (∃ j, j < 12 ∧ a = kgK hs j ∧ v = kgV hs j ∧ n = kg_len.getD j 0 ∧ f = fun i => (kg_byt.getD j []).getD i 0) ∨
  (∃ (i : Nat) (h z : Int32), n < 2 ^ 30 ∧ (kgXt hs)[i]? = some (a, .inr (6, [.ref v, .int 0, .int h, .int z])) ∧ (kgXt hs)[i + 1]? = some (v, .inl (kgC hs 12, n, .inl f)))
theorem kg_len_lt : ∀ j, j < 12 → kg_len.getD j 0 < 2 ^ 30 := by decide
theorem kgStr.lt {hs : kgH} {a v n : Nat} {f : Nat → Int32} (h : kgStr hs a v n f) : n < 2 ^ 30 := by
  rcases h with ⟨j, hj, -, -, rfl, -⟩ | ⟨i, h, z, hn, -⟩
  · exact kg_len_lt j hj
  · exact hn
theorem sd_iE {y : MethodName} {bytes : ByteArray} {maxL fr lo mc ms : Nat} {rt : FieldType} {av : List Value} {I : kgM} {w : Option (Nat × Nat)} {F : Option (Int32 × kgM)} (hy : plainFor y = true) (hln : (lg_sl av).length ≤ maxL) (hs : kgH) (l : Launch) (h : ∀ X : kgCX (Int32 × kgM), kgHs X = hs → Cx X bytes y.cls maxL fr lo mc ms → Qxi X w rt → AW X maxL 0 0 w F 0 (lv_args 0 av) [] I) :
    Sdi hs l w y (kg_ws y bytes maxL (some rt)) { frames := fr, cells := mc, slots := ms, locals := lo } av I F := by
  intro r hr
  refine va_MetF (cc := bytes) (maxL := maxL) (ret := some rt) hy rfl ?_
  intro p e s m args below meth c s₁ B hml hv
  obtain ⟨rfl, hH, hK, hE⟩ := hv
  have hts := atoms_spec (ws := kg_ws y bytes maxL (some rt)) B.pre
  have hl := lv_entry av (n := maxL) hln
  rw [lg_entry_eq]
  exact h (p, l, e, { frames := fr, cells := mc, slots := ms, locals := lo }, s, m, av.toArray, below, meth, c, hs, fun r => MQ below (kgQi hs w r) av.toArray s mc ms (kgA hs)) rfl
    ⟨⟨B.exec, B.bytes, hml, findClass_of_methodNamed B.named, fun w hw => hts w (List.mem_cons_of_mem _ hw)⟩, rfl, hK, hE, B.notSynchronized⟩ ⟨B.returns, rfl⟩ r hr s.heap [] _ hH va_S.rf hl
theorem sd_vE {y : MethodName} {bytes : ByteArray} {maxL fr lo mc ms : Nat} {av : List Value} {I : kgM} {w : Option (Nat × Nat)} {F : Option (Int32 × kgM)} (hy : plainFor y = true) (hln : (lg_sl av).length ≤ maxL) (hs : kgH) (l : Launch) (h : ∀ X : kgCX (Int32 × kgM), kgHs X = hs → Cx X bytes y.cls maxL fr lo mc ms → Qxv X w → AW X maxL 0 0 w F 0 (lv_args 0 av) [] I) :
    Sdv hs l w y (kg_ws y bytes maxL none) { frames := fr, cells := mc, slots := ms, locals := lo } av I F := by
  intro r hr
  refine va_MetF (cc := bytes) (maxL := maxL) (ret := none) hy rfl ?_
  intro p e s m args below meth c s₁ B hml hv
  obtain ⟨rfl, hH, hK, hE⟩ := hv
  have hts := atoms_spec (ws := kg_ws y bytes maxL none) B.pre
  have hl := lv_entry av (n := maxL) hln
  rw [lg_entry_eq]
  exact h (p, l, e, { frames := fr, cells := mc, slots := ms, locals := lo }, s, m, av.toArray, below, meth, c, hs, fun r => MQ below (kgQv hs w r) av.toArray s mc ms (kgA hs)) rfl
    ⟨⟨B.exec, B.bytes, hml, findClass_of_methodNamed B.named, fun w hw => hts w (List.mem_cons_of_mem _ hw)⟩, rfl, hK, hE, B.notSynchronized⟩ ⟨B.returns, rfl⟩ r hr s.heap [] _ hH va_S.rf hl
theorem sd_rE {y : MethodName} {bytes : ByteArray} {maxL fr lo mc ms : Nat} {rt : FieldType} {av : List Value} {I : kgM} {F : Option (Int32 × kgM)} (hy : plainFor y = true) (hln : (lg_sl av).length ≤ maxL) (hs : kgH) (l : Launch) (h : ∀ X : kgCX (Int32 × kgM), kgHs X = hs → Cx X bytes y.cls maxL fr lo mc ms → Qxr X rt → AW X maxL 0 0 none F 0 (lv_args 0 av) [] I) :
    Sdr hs l y (kg_ws y bytes maxL (some rt)) { frames := fr, cells := mc, slots := ms, locals := lo } av I F := by
  intro r hr
  refine va_MetF (cc := bytes) (maxL := maxL) (ret := some rt) hy rfl ?_
  intro p e s m args below meth c s₁ B hml hv
  obtain ⟨rfl, hH, hK, hE⟩ := hv
  have hts := atoms_spec (ws := kg_ws y bytes maxL (some rt)) B.pre
  have hl := lv_entry av (n := maxL) hln
  rw [lg_entry_eq]
  exact h (p, l, e, { frames := fr, cells := mc, slots := ms, locals := lo }, s, m, av.toArray, below, meth, c, hs, fun r => MQ below (kgQr hs r) av.toArray s mc ms (kgA hs)) rfl
    ⟨⟨B.exec, B.bytes, hml, findClass_of_methodNamed B.named, fun w hw => hts w (List.mem_cons_of_mem _ hw)⟩, rfl, hK, hE, B.notSynchronized⟩ ⟨B.returns, rfl⟩ r hr s.heap [] _ hH va_S.rf hl

section STX
variable {ρ : Type} {X : kgCX ρ} {cc : ByteArray} {own : String} {nL fr lo mc ms ce sl ce2 sl2 : Nat} {fin A B : Option ρ} {pc : Nat} {L L2 : List (Nat × Value)} {st stk : List Value} {I : kgM} {w : Option (Nat × Nat)} {a v n : Nat} {f : Nat → Int32}
theorem kgStr_recv {hs : kgH} {s : State} {H : Heap} {locs : List Loc} {av cap : Nat} (hE : kgE hs s s.heap) (hK : kgKX hs s) (b : va_S (kgA hs) s.heap H locs) (hP : va_P (kgD hs) vwCl (kgw hs av cap I) H) (hstr : kgStr hs a v n f) : ∃ cell : Cell, H[a]? = some cell ∧ cell.vm.isStatics = false ∧ s.vm.findClass "java/lang/String" = some cell.cls := by
  rcases hstr with ⟨j, hj, rfl, rfl, rfl, rfl⟩ | ⟨i, h, z, hn, h1, h2⟩
  · exact vk_recv hE.2.2.2.2.1 hj b
  · exact va_recv hK hP cl_J0.1 ((kgw_xt i).trans h1)
theorem aw_tC (S : Cx X cc own nL fr lo mc ms) (hstr : kgStr (kgHs X) a v n f) {idx : Nat} (hlk : Cond.fieldLink own idx "java/lang/String" "coder" "B" ∈ kg_U) (hdg : decode cc pc = .ok (.getfield idx, 3))
    (kk : AW X nL ce sl w fin (pc + 3) L (.int (0 : Int32) :: st) I) : AW X nL ce sl w fin pc L (.ref a :: st) I := by
  obtain ⟨p, l, e, R, s, m, args, below, meth, c, hs, Q⟩ := X
  obtain ⟨⟨hx, hb, hml, hown, hts⟩, hR, hK, hE, hlk0⟩ := S
  intro r hr H locs ls a0 b hl
  have kk1 := kk r hr H locs ls a0 b hl
  rcases hstr with ⟨j, hj, rfl, rfl, rfl, rfl⟩ | ⟨i, h, z, hn, h1, h2⟩
  · exact vk_getf hx hb (hE.2.2.2.2.1.1 j hj).2.1 b hown (hts _ hlk) (fun _ h => h) hdg kk1
  · obtain ⟨av, cap, hP, hD, hw, h34, hz⟩ := a0
    have hg : (kgw hs av cap I)[177 + i]? = some (a, .inr (6, [.ref v, .int 0, .int h, .int z])) := (kgw_xt i).trans h1
    exact va_get (D := kgD hs) (ci := 6) (C := RJ0) (T := TJ0) (N := 4) (ref := RJ0) hx hb hts cl_J0.2.1 hown hK hP (177 + i) hg cl_J0.1 1 (by decide) (hts _ hlk) (fun x h => h) rfl hdg kk1
theorem aw_tV (S : Cx X cc own nL fr lo mc ms) (hstr : kgStr (kgHs X) a v n f) {idx : Nat} (hlk : Cond.fieldLink own idx "java/lang/String" "value" "[B" ∈ kg_U) (hdg : decode cc pc = .ok (.getfield idx, 3))
    (kk : AW X nL ce sl w fin (pc + 3) L (.ref v :: st) I) : AW X nL ce sl w fin pc L (.ref a :: st) I := by
  obtain ⟨p, l, e, R, s, m, args, below, meth, c, hs, Q⟩ := X
  obtain ⟨⟨hx, hb, hml, hown, hts⟩, hR, hK, hE, hlk0⟩ := S
  intro r hr H locs ls a0 b hl
  have kk1 := kk r hr H locs ls a0 b hl
  rcases hstr with ⟨j, hj, rfl, rfl, rfl, rfl⟩ | ⟨i, h, z, hn, h1, h2⟩
  · exact vk_getf hx hb (hE.2.2.2.2.1.1 j hj).2.2.1 b hown (hts _ hlk) (fun _ h => h) hdg kk1
  · obtain ⟨av, cap, hP, hD, hw, h34, hz⟩ := a0
    have hg : (kgw hs av cap I)[177 + i]? = some (a, .inr (6, [.ref v, .int 0, .int h, .int z])) := (kgw_xt i).trans h1
    exact va_get (D := kgD hs) (ci := 6) (C := RJ0) (T := TJ0) (N := 4) (ref := RJ0) hx hb hts cl_J0.2.1 hown hK hP (177 + i) hg cl_J0.1 0 (by decide) (hts _ hlk) (fun x h => h) rfl hdg kk1
theorem aw_tL (S : Cx X cc own nL fr lo mc ms) (hstr : kgStr (kgHs X) a v n f) (hdg : decode cc pc = .ok (.arraylength, 1))
    (kk : AW X nL ce sl w fin (pc + 1) L (.int (Int32.ofNat n) :: st) I) : AW X nL ce sl w fin pc L (.ref v :: st) I := by
  obtain ⟨p, l, e, R, s, m, args, below, meth, c, hs, Q⟩ := X
  obtain ⟨⟨hx, hb, hml, hown, hts⟩, hR, hK, hE, hlk0⟩ := S
  intro r hr H locs ls a0 b hl
  have kk1 := kk r hr H locs ls a0 b hl
  rcases hstr with ⟨j, hj, rfl, rfl, rfl, rfl⟩ | ⟨i, h, z, hn, h1, h2⟩
  · obtain ⟨cell, h1, h2, h3, h4, h5, h6, h7⟩ := (hE.2.2.2.2.1.1 j hj).2.2.2.kept b.2.1
    exact W.alen hx hb h1 h2 h5 rfl rfl hdg kk1
  · obtain ⟨av, cap, hP, hD, hw, h34, hz⟩ := a0
    have hg : (kgw hs av cap I)[177 + (i + 1)]? = some (v, .inl (kgC hs 12, n, .inl f)) := (kgw_xt (i + 1)).trans h2
    exact va_alen hx hb hK hP (177 + (i + 1)) 2 hg rfl rfl hdg kk1
theorem aw_tB (S : Cx X cc own nL fr lo mc ms) (hstr : kgStr (kgHs X) a v n f) {i : Int32} (hdg : decode cc pc = .ok (.baload, 1))
    (kk : AW X nL ce sl w fin (pc + 1) L (.int (f i.toNatClampNeg) :: st) I) : AW X nL ce sl w (ck (inb i n) fin) pc L (.int i :: .ref v :: st) I := by
  obtain ⟨p, l, e, R, s, m, args, below, meth, c, hs, Q⟩ := X
  obtain ⟨⟨hx, hb, hml, hown, hts⟩, hR, hK, hE, hlk0⟩ := S
  intro r hr H locs ls a0 b hl
  obtain ⟨h0, hr1⟩ := ck_some hr
  have kk1 := kk r hr1 H locs ls a0 b hl
  have hin := inb_in h0
  rcases hstr with ⟨j, hj, rfl, rfl, rfl, rfl⟩ | ⟨i2, h, z, hn, h1, h2⟩
  · obtain ⟨cell, h1, h2, h3, h4, h5, h6, h7⟩ := (hE.2.2.2.2.1.1 j hj).2.2.2.kept b.2.1
    have hlt := kg_len_lt j hj
    obtain ⟨q, hq, rfl⟩ := vp_in_of hin (by omega)
    have hcl : (nI q).toNatClampNeg = q := nI_clamp (by omega)
    refine W.bald hx hb h1 h2 h3 (j := nI q) (v := .int ((kg_byt.getD j []).getD (nI q).toNatClampNeg 0)) (fun hh => ?_) ?_ rfl rfl hdg kk1
    · rcases hh with hh | hh
      · exact hin (Or.inl hh)
      · rw [hcl] at hh; omega
    · rw [hcl]; exact h6 q hq
  · obtain ⟨av, cap, hP, hD, hw, h34, hz⟩ := a0
    have hg : (kgw hs av cap I)[177 + (i2 + 1)]? = some (v, .inl (kgC hs 12, n, .inl f)) := (kgw_xt (i2 + 1)).trans h2
    exact va_bald hx hb hK hP (177 + (i2 + 1)) 2 hg rfl hin hdg kk1
theorem aw_ldcT (S : Cx X cc own nL fr lo mc ms) (j : Nat) (hj : j < 12) {idx : Nat} (ho : own = RL) (hi : kg_ent.getD j 0 = idx) (hdg : decode cc pc = .ok (.ldc idx, 2))
    (kk : AW X nL ce sl w fin (pc + 2) L (.ref (kgK (kgHs X) j) :: st) I) : AW X nL ce sl w fin pc L st I := by
  subst ho; subst hi
  obtain ⟨p, l, e, R, s, m, args, below, meth, c, hs, Q⟩ := X
  obtain ⟨⟨hx, hb, hml, hown, hts⟩, hR, hK, hE, hlk0⟩ := S
  intro r hr H locs ls a b hl
  exact va_ldcS hx hb hown (hE.2.2.2.2.2.1 j hj) hdg (kk r hr H locs ls a b hl)
theorem aw_cTi (S : Cx X cc own nL fr lo mc ms) (hstr : kgStr (kgHs X) a v n f) {y : MethodName} {bytes : ByteArray} {maxL n1 fr1 lo1 mc1 ms1 idx : Nat} {rt : Option FieldType} (As : List Value) {F : Option (Int32 × kgM)} {f1 : Int32 → kgM → Option ρ}
    (hV : kgVW y bytes maxL rt n1) (hc : y.cls = "java/lang/String") (hlk : Cond.methodLink own idx y ∈ kg_U) (hM : Sdi (kgHs X) (kgL X) w y (kg_ws y bytes maxL rt) { frames := fr1, cells := mc1, slots := ms1, locals := lo1 } (.ref a :: As) I F)
    (hRm : fr1 + 1 ≤ fr ∧ 8 + (maxL + 11) + lo1 ≤ lo) (hn : As.length = n1) (hst : stk = As.reverse ++ .ref a :: st) (hcat : (st.map fun v => v.category).sum ≤ 8) (h1 : ce + mc1 = ce2) (h2 : sl + ms1 = sl2) (h3 : ce2 ≤ mc) (h4 : sl2 ≤ ms) (hdg : decode cc pc = .ok (.invokevirtual idx, 3))
    (kk : ∀ x J, AW X nL ce2 sl2 w (f1 x J) (pc + 3) L (.int x :: st) J) : AW X nL ce sl w (bndC F f1) pc L stk I := by
  obtain ⟨p, l, e, R, s, m, args, below, meth, c, hs, Q⟩ := X
  obtain ⟨⟨hx, hb, hml, hown, hts⟩, hR, hK, hE, hlk0⟩ := S
  subst hR; subst hst; subst h1; subst h2
  intro r hr H locs ls a0 b hl
  obtain ⟨x0, J, hF, hr⟩ := bndC_some hr
  obtain ⟨av, cap, hP, -⟩ := id a0
  have hE1 := hE.kept b.2.1
  refine va_calli (va_runV (C := y.cls) (As := As) (rest := st) ⟨hx, hb, hml, hown, hts⟩ (hM (x0, J) hF)
    (cwV (mc := mc1) (ms := ms1) n1 hts (kgG (fun w hw => ?_)) rfl rfl rfl ⟨rfl, hV.2.2.2.1.1, hV.2.2.2.1.2, hV.2.2.2.2⟩ hRm) ⟨kgPc_blind, (by rw [hc]; exact kgStr_recv hE hK b hP hstr), fun U hU hW => ⟨rfl, by rw [hU]; exact a0, hK.moved hW.alike, by rw [hU]; exact hE1.warm hW⟩⟩
    rfl hn hl.1 rfl (lv_room hcat) hdg ⟨h3, h4⟩) b (fun q _ h => h) (fun _ h => h) (fun x u t H1 locs1 ht hvm hw hB hz1 hk1 hS => ?_)
  · unfold wsV at hw
    rcases List.mem_append.mp hw with hw | hw
    · simp only [List.mem_cons, List.not_mem_nil, or_false] at hw
      rcases hw with rfl | rfl | rfl | rfl
      · exact hlk
      · exact hV.1.1
      · exact hV.1.2
      · exact hV.2.1
    · rcases List.mem_cons.mp hw with rfl | hw
      · exact hV.2.2.1
      · exact hw
  · cases hw
    subst ht
    exact kk x0 J r hr t.heap locs1 ls hB.1 hS hl
theorem aw_cTv (S : Cx X cc own nL fr lo mc ms) (hstr : kgStr (kgHs X) a v n f) {y : MethodName} {bytes : ByteArray} {maxL n1 fr1 lo1 mc1 ms1 idx : Nat} {rt : Option FieldType} (As : List Value) {F : Option (Int32 × kgM)} {f1 : Int32 → kgM → Option ρ}
    (hV : kgVW y bytes maxL rt n1) (hc : y.cls = "java/lang/String") (hlk : Cond.methodLink own idx y ∈ kg_U) (hM : Sdv (kgHs X) (kgL X) w y (kg_ws y bytes maxL rt) { frames := fr1, cells := mc1, slots := ms1, locals := lo1 } (.ref a :: As) I F)
    (hRm : fr1 + 1 ≤ fr ∧ 8 + (maxL + 11) + lo1 ≤ lo) (hn : As.length = n1) (hst : stk = As.reverse ++ .ref a :: st) (hcat : (st.map fun v => v.category).sum ≤ 8) (h1 : ce + mc1 = ce2) (h2 : sl + ms1 = sl2) (h3 : ce2 ≤ mc) (h4 : sl2 ≤ ms) (hdg : decode cc pc = .ok (.invokevirtual idx, 3))
    (kk : ∀ x J, AW X nL ce2 sl2 w (f1 x J) (pc + 3) L st J) : AW X nL ce sl w (bndC F f1) pc L stk I := by
  obtain ⟨p, l, e, R, s, m, args, below, meth, c, hs, Q⟩ := X
  obtain ⟨⟨hx, hb, hml, hown, hts⟩, hR, hK, hE, hlk0⟩ := S
  subst hR; subst hst; subst h1; subst h2
  intro r hr H locs ls a0 b hl
  obtain ⟨x0, J, hF, hr⟩ := bndC_some hr
  obtain ⟨av, cap, hP, -⟩ := id a0
  have hE1 := hE.kept b.2.1
  refine va_callv (va_runV (C := y.cls) (As := As) (rest := st) ⟨hx, hb, hml, hown, hts⟩ (hM (x0, J) hF)
    (cwV (mc := mc1) (ms := ms1) n1 hts (kgG (fun w hw => ?_)) rfl rfl rfl ⟨rfl, hV.2.2.2.1.1, hV.2.2.2.1.2, hV.2.2.2.2⟩ hRm) ⟨kgPc_blind, (by rw [hc]; exact kgStr_recv hE hK b hP hstr), fun U hU hW => ⟨rfl, by rw [hU]; exact a0, hK.moved hW.alike, by rw [hU]; exact hE1.warm hW⟩⟩
    rfl hn hl.1 rfl (lv_room hcat) hdg ⟨h3, h4⟩) b (fun q _ h => h) (fun _ h => h) (fun u t H1 locs1 ht hvm hw hB hz1 hk1 hS => ?_)
  · unfold wsV at hw
    rcases List.mem_append.mp hw with hw | hw
    · simp only [List.mem_cons, List.not_mem_nil, or_false] at hw
      rcases hw with rfl | rfl | rfl | rfl
      · exact hlk
      · exact hV.1.1
      · exact hV.1.2
      · exact hV.2.1
    · rcases List.mem_cons.mp hw with rfl | hw
      · exact hV.2.2.1
      · exact hw
  · subst ht
    exact kk x0 J r hr t.heap locs1 ls hB.1 hS hl
end STX
theorem vw_J0_getBytes_840e7 : kgVW yJ0_getBytes_840e7 cJ0_getBytes_840e7 4 none 3 := ⟨⟨tw_853, tw_854⟩, tw_31, tw_855, by decide +kernel, by decide +kernel⟩
set_option maxHeartbeats 4000000 in
set_option maxRecDepth 100000 in
theorem s_J0_coder (hs : kgH) (l : Launch) (w : Option (Nat × Nat)) {a v n : Nat} {f : Nat → Int32} (hstr : kgStr hs a v n f) (I0 : kgM) : Sdi hs l w yJ0_coder_7d493 (kg_ws yJ0_coder_7d493 cJ0_coder_7d493 1 (some .byte)) { frames := 0, cells := 0, slots := 0, locals := 0 } [.ref a] I0 (some ((0 : Int32), I0)) := by
  refine sd_iE (by decide +kernel) (Nat.le_of_ble_eq_true rfl) hs l (fun X hh S hQ => ?_)
  subst hh
  refine aw_sub (L2 := [(0, .ref a)]) [0] rfl ?_
  refine aw_getCS S tw_807 dJ0_coder_7d493_0 ?_
  refine aw_if_eqF (y := 0) (tgt := 13) S dJ0_coder_7d493_3 (by decide) (by decide) ?_
  refine aw_aload_n S 0 rfl dJ0_coder_7d493_6 rfl ?_
  refine aw_tC S hstr tw_899 dJ0_coder_7d493_7 ?_
  refine aw_goto (tgt := 14) S dJ0_coder_7d493_10 (by decide) ?_
  exact aw_ret S hQ rfl (by decide) (by decide) dJ0_coder_7d493_14
set_option maxHeartbeats 4000000 in
set_option maxRecDepth 100000 in
theorem s_J0_length (hs : kgH) (l : Launch) (w : Option (Nat × Nat)) {a v n : Nat} {f : Nat → Int32} (hstr : kgStr hs a v n f) (I0 : kgM) : Sdi hs l w yJ0_length_8abf5 (kg_ws yJ0_length_8abf5 cJ0_length_8abf5 1 (some .int)) { frames := 1, cells := 0, slots := 0, locals := 20 } [.ref a] I0 (some (nI n, I0)) := by
  refine sd_iE (by decide +kernel) (Nat.le_of_ble_eq_true rfl) hs l (fun X hh S hQ => ?_)
  subst hh
  have hn := hstr.lt
  refine aw_sub (L2 := [(0, .ref a)]) [0] rfl ?_
  refine aw_aload_n S 0 rfl dJ0_length_8abf5_0 rfl ?_
  refine aw_tV S hstr tw_898 dJ0_length_8abf5_1 ?_
  refine aw_tL S hstr dJ0_length_8abf5_4 ?_
  refine aw_aload_n S 0 rfl dJ0_length_8abf5_5 rfl ?_
  refine aw_to (F := some ((0 : Int32), I0)) rfl ?_
  refine aw_cTi S hstr [] vw_J0_coder_7d493 rfl tw_803 (s_J0_coder _ _ _ hstr I0) ⟨by decide, by decide⟩ rfl rfl (Nat.le_of_ble_eq_true rfl) rfl rfl (by decide) (by decide) dJ0_length_8abf5_6 (fun x1 I1 => aw_fr (fun hx1 hJ1 => ?_))
  subst hx1
  subst hJ1
  refine aw_ishr S dJ0_length_8abf5_9 ?_
  rw [show (Int32.ofNat n >>> ((0 : Int32) &&& 31)) = nI n from sb_shr0 (Int32.ofNat n)]
  exact aw_ret S hQ (vp_nar_int _) (by decide) (by decide) dJ0_length_8abf5_10
set_option maxHeartbeats 4000000 in
set_option maxRecDepth 100000 in
theorem s_J0_isLatin1 (hs : kgH) (l : Launch) (w : Option (Nat × Nat)) {a v n : Nat} {f : Nat → Int32} (hstr : kgStr hs a v n f) (I0 : kgM) : Sdi hs l w yJ0_isLatin1_aae02 (kg_ws yJ0_isLatin1_aae02 cJ0_isLatin1_aae02 1 (some .boolean)) { frames := 0, cells := 0, slots := 0, locals := 0 } [.ref a] I0 (some ((1 : Int32), I0)) := by
  refine sd_iE (by decide +kernel) (Nat.le_of_ble_eq_true rfl) hs l (fun X hh S hQ => ?_)
  subst hh
  refine aw_sub (L2 := [(0, .ref a)]) [0] rfl ?_
  refine aw_getCS S tw_807 dJ0_isLatin1_aae02_0 ?_
  refine aw_if_eqF (y := 0) (tgt := 17) S dJ0_isLatin1_aae02_3 (by decide) (by decide) ?_
  refine aw_aload_n S 0 rfl dJ0_isLatin1_aae02_6 rfl ?_
  refine aw_tC S hstr tw_899 dJ0_isLatin1_aae02_7 ?_
  refine aw_if_neF (y := 0) (tgt := 17) S dJ0_isLatin1_aae02_10 (by decide) (by decide) ?_
  refine aw_iconst (v := (1 : Int32)) S dJ0_isLatin1_aae02_13 (by decide) ?_
  refine aw_goto (tgt := 18) S dJ0_isLatin1_aae02_14 (by decide) ?_
  exact aw_ret S hQ rfl (by decide) (by decide) dJ0_isLatin1_aae02_18
set_option maxHeartbeats 4000000 in
set_option maxRecDepth 100000 in
theorem s_J1_charAt (hs : kgH) (l : Launch) (w : Option (Nat × Nat)) {a v n : Nat} {f : Nat → Int32} (hstr : kgStr hs a v n f) {i : Nat} (hi : i < n) (hch : isc (((f i &&& (255 : Int32)).toUInt32 % 65536).toInt32) = true) (I0 : kgM) : Sdi hs l w yJ1_charAt_3b067 (kg_ws yJ1_charAt_3b067 cJ1_charAt_3b067 2 (some .char)) { frames := 2, cells := 0, slots := 0, locals := 43 } [.ref v, .int (nI i)] I0 (some (((f i &&& (255 : Int32)).toUInt32 % 65536).toInt32, I0)) := by
  refine sd_iE (by decide +kernel) (Nat.le_of_ble_eq_true rfl) hs l (fun X hh S hQ => ?_)
  subst hh
  have hn := hstr.lt
  have hck : f_J0_checkIndex_df160 (nI i) (Int32.ofNat n) I0 = some (0, I0) := f_chk (nI_pos' (by omega)) (nI_lt hi (by omega))
  refine aw_sub (L2 := [(0, .ref v), (1, .int (nI i))]) [0, 1] rfl ?_
  refine aw_iload_n S 1 rfl dJ1_charAt_3b067_0 rfl ?_
  refine aw_aload_n S 0 rfl dJ1_charAt_3b067_1 rfl ?_
  refine aw_tL S hstr dJ1_charAt_3b067_2 ?_
  refine aw_to hck ?_
  refine aw_cSv S [.int (nI i), .int (Int32.ofNat n)] vw_J0_checkIndex_df160 tw_819 (s_J0_checkIndex_df160 _ _ _ (nI i) (Int32.ofNat n) I0) ⟨by decide, by decide⟩ rfl rfl (Nat.le_of_ble_eq_true rfl) rfl rfl (by decide) (by decide) dJ1_charAt_3b067_3 (fun x1 I1 => aw_fr (fun hx1 hJ1 => ?_))
  subst hx1
  subst hJ1
  refine aw_aload_n S 0 rfl dJ1_charAt_3b067_6 rfl ?_
  refine aw_iload_n S 1 rfl dJ1_charAt_3b067_7 rfl ?_
  have e1 : inb (nI i) n = true := decide_eq_true (by rw [nI_toInt (by omega)]; omega)
  have hckb : ∀ q : Option (Int32 × kgM), ck (inb (nI i) n) q = q := fun q => by rw [e1]; rfl
  rw [← hckb (some _)]
  refine aw_tB S hstr dJ1_charAt_3b067_8 ?_
  refine aw_sipush (v := (255 : Int32)) S dJ1_charAt_3b067_9 (by decide) ?_
  refine aw_iand S dJ1_charAt_3b067_12 ?_
  refine aw_i2c S dJ1_charAt_3b067_13 ?_
  rw [nI_clamp (by omega)]
  have hc2 : ∀ q : Option (Int32 × kgM), ck (isc (((f i &&& (255 : Int32)).toUInt32 % 65536).toInt32)) q = q := fun q => by rw [hch]; rfl
  rw [← hc2 (some _)]
  exact aw_retc S hQ (by decide) (by decide) dJ1_charAt_3b067_14
set_option maxHeartbeats 4000000 in
set_option maxRecDepth 100000 in
theorem s_J0_charAt (hs : kgH) (l : Launch) (w : Option (Nat × Nat)) {a v n : Nat} {f : Nat → Int32} (hstr : kgStr hs a v n f) {i : Nat} (hi : i < n) (hch : isc (((f i &&& (255 : Int32)).toUInt32 % 65536).toInt32) = true) (I0 : kgM) : Sdi hs l w yJ0_charAt_5068e (kg_ws yJ0_charAt_5068e cJ0_charAt_5068e 2 (some .char)) { frames := 3, cells := 0, slots := 0, locals := 64 } [.ref a, .int (nI i)] I0 (some (((f i &&& (255 : Int32)).toUInt32 % 65536).toInt32, I0)) := by
  refine sd_iE (by decide +kernel) (Nat.le_of_ble_eq_true rfl) hs l (fun X hh S hQ => ?_)
  subst hh
  refine aw_sub (L2 := [(0, .ref a), (1, .int (nI i))]) [0, 1] rfl ?_
  refine aw_aload_n S 0 rfl dJ0_charAt_5068e_0 rfl ?_
  refine aw_to (F := some ((1 : Int32), I0)) rfl ?_
  refine aw_cTi S hstr [] vw_J0_isLatin1_aae02 rfl tw_812 (s_J0_isLatin1 _ _ _ hstr I0) ⟨by decide, by decide⟩ rfl rfl (Nat.le_of_ble_eq_true rfl) rfl rfl (by decide) (by decide) dJ0_charAt_5068e_1 (fun x1 I1 => aw_fr (fun hx1 hJ1 => ?_))
  subst hx1
  subst hJ1
  refine aw_if_eqF (y := 0) (tgt := 16) S dJ0_charAt_5068e_4 (by decide) (by decide) ?_
  refine aw_aload_n S 0 rfl dJ0_charAt_5068e_7 rfl ?_
  refine aw_tV S hstr tw_898 dJ0_charAt_5068e_8 ?_
  refine aw_iload_n S 1 rfl dJ0_charAt_5068e_11 rfl ?_
  refine aw_to (F := some (((f i &&& (255 : Int32)).toUInt32 % 65536).toInt32, I1)) rfl ?_
  refine aw_cSi S [.ref v, .int (nI i)] vw_J1_charAt_3b067 tw_816 (s_J1_charAt _ _ _ hstr hi hch I1) ⟨by decide, by decide⟩ rfl rfl (Nat.le_of_ble_eq_true rfl) rfl rfl (by decide) (by decide) dJ0_charAt_5068e_12 (fun x2 I2 => aw_fr (fun hx2 hJ2 => ?_))
  subst hx2
  subst hJ2
  have hc2 : ∀ q : Option (Int32 × kgM), ck (isc (((f i &&& (255 : Int32)).toUInt32 % 65536).toInt32)) q = q := fun q => by rw [hch]; rfl
  rw [← hc2 (some _)]
  exact aw_retc S hQ (by decide) (by decide) dJ0_charAt_5068e_15
