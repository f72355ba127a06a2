theorem byte_ok : ∀ c, c < 127 → fits .byte (.int (nI c)) = true := by decide +kernel
theorem vw_J4_append_15ec4 : kgVW yJ4_append_15ec4 cJ4_append_15ec4 2 (some (.object "java/lang/StringBuilder")) 1 := ⟨⟨tw_829, tw_830⟩, tw_30, tw_831, by decide +kernel, by decide +kernel⟩
theorem vw_J4_toString_0e30d : kgVW yJ4_toString_0e30d cJ4_toString_0e30d 1 (some (.object "java/lang/String")) 0 := ⟨⟨tw_860, tw_861⟩, tw_30, tw_862, by decide +kernel, by decide +kernel⟩
section LSB
variable {X : kgCX Unit} {cc : ByteArray} {own : String} {nL fr lo mc ms ce sl ce2 sl2 : Nat} {pc : Nat} {L : List (Nat × Value)} {st stk : List Value} {I : kgM}
theorem lw_sb (S : Cx X cc own nL fr lo mc ms) {xa xb : va_W} {q b cap : Nat} {l : List Nat} {g : Nat → Int32} {m : Int32} (hk : sbK l cap g) {y : MethodName} {bytes : ByteArray} {maxL n fr1 lo1 mc1 ms1 idx : Nat} {rt : Option FieldType} (As : List Value) (hV : kgVW y bytes maxL rt n) (hc : kgCl 0 4 y.cls TJ4) (hlk : Cond.methodLink own idx y ∈ kg_U) {l2 : List Nat} {J : kgM} (hJ1 : LnC l2 J) (hJ2 : ∀ k, k ≠ 175 → k ≠ 176 → J k = I k)
    (hM : ∀ av cp, Sdr (kgHx (kgHs X) (o175 (kgHs X) q) (xa ++ (lnc (kgHs X) (kgO (kgHs X) 175) I av cp ++ xb))) (kgL X) y (kg_ws y bytes maxL rt) { frames := fr1, cells := mc1, slots := ms1, locals := lo1 } (.ref q :: As) (sbI I l g m) (some (0, J)))
    (hRm : fr1 + 1 ≤ fr ∧ 8 + (maxL + 11) + lo1 ≤ lo) (hn : As.length = n) (hst : stk = As.reverse ++ .ref q :: st) (hcat : (st.map fun v => v.category).sum ≤ 8) (h1 : ce + mc1 = ce2) (h2 : sl + ms1 = sl2) (h3 : ce2 ≤ mc) (h4 : sl2 ≤ ms) (hdg : decode cc pc = .ok (.invokevirtual idx, 3))
    (kk : ∀ b2 cap2 g2 m2, sbK l2 cap2 g2 → AW (kgXs X (xa ++ (sbc (kgHs X) q l2 b2 cap2 g2 m2 ++ xb))) nL ce2 sl2 none (some ()) (pc + 3) L (.ref q :: st) I) : AW (kgXs X (xa ++ (sbc (kgHs X) q l b cap g m ++ xb))) nL ce sl none (some ()) pc L stk I := by
  obtain ⟨p, l0, e, R, s, mm, args, below, meth, c, hs, Q⟩ := X
  refine aw_swap (o := o175 hs q) (xt := fun u : Nat × Nat => xa ++ (lnc hs (kgO hs 175) I u.1 u.2 ++ xb)) (w2 := fun _ => none) (J := sbI I l g m) (fun H h => sb_in hk H h) (fun u hu => ?_)
  refine aw_to (F := some ((0 : Int32), J)) rfl ?_
  refine aw_cVr (st := st) S.xo 175 As hV hc (by decide) (by decide) hlk (hM u.1 u.2) hRm hn hst hcat h1 h2 h3 h4 hdg (fun x J2 => aw_fr (fun hx1 hJ => ?_))
  subst hJ
  refine aw_swap (o := kgO hs) (xt := fun v : (Nat × Nat) × (Nat → Int32) × Int32 => xa ++ (sbc hs q l2 v.1.1 v.1.2 v.2.1 v.2.2 ++ xb)) (w2 := fun _ => none) (J := I) (fun H h => sb_out hu.1 hu.2 hJ1 hJ2 H h) (fun v hv => ?_)
  exact kk v.1.1 v.1.2 v.2.1 v.2.2 hv
theorem sbK_nil : sbK [] 16 (fun _ => 0) := ⟨Or.inl rfl, fun j => ⟨rfl, fun _ _ => rfl⟩, fun i hi => absurd hi (Nat.not_lt_zero _)⟩
theorem lw_newB (S : Cx X cc own nL fr lo mc ms) (hX : kgB (kgHs X) ≤ X.2.2.2.2.1.heap.size) {xt : va_W} {idx i2 : Nat} (hl1 : Cond.classLink own idx RJ4 ∈ kg_U) (hlk : Cond.methodLink own i2 yJ4_init_da8c8 ∈ kg_U) (hRm : 2 + 1 ≤ fr ∧ 8 + (1 + 11) + 70 ≤ lo) (hcat : (st.map fun v => v.category).sum ≤ 7)
    (h1 : ce + 2 = ce2) (h2 : sl + 20 = sl2) (h3 : ce2 ≤ mc) (h4 : sl2 ≤ ms) (d1 : decode cc pc = .ok (.new idx, 3)) (d2 : decode cc (pc + 3) = .ok (.dup, 1)) (d3 : decode cc (pc + 4) = .ok (.invokespecial i2, 3))
    (kk : ∀ q b, AW (kgXs X (xt ++ sbc (kgHs X) q [] b 16 (fun _ => 0) 0)) nL ce2 sl2 none (some ()) (pc + 7) L (.ref q :: st) I) : AW (kgXs X xt) nL ce sl none (some ()) pc L st I := by
  obtain ⟨p, l0, e, R, s, mm, args, below, meth, c, hs, Q⟩ := X
  intro r hr H locs ls a b hl
  obtain ⟨av, cap, a1, h34, hz⟩ := kgHR_cw.mp a
  suffices hh : BW (p, l0, e, R, s, mm, args, below, meth, c, hs, Q) nL ce sl pc L st (kgw (kgSx hs xt) av cap I) from hh H locs ls a1 b hl
  refine bw_new (ce2 := ce + 1) (sl2 := sl + 4) S hX cl_J4 tyJ4_ok hl1 tw_193 tw_30 (fs := kg_zJ4) (by decide +kernel) rfl rfl (by omega) (by omega) d1 (fun q => ?_)
  refine bw_dup S d2 ?_
  refine bw_ctor (ce2 := ce2) (sl2 := sl2) S hX [] vi_J4 hlk (s_J4_init _ _ q _) hRm rfl rfl (by simp only [List.map_cons, List.sum_cons]; show 1 + _ ≤ 8; omega) (by omega) (by omega) h3 h4 d3 (fun o => ?_)
  intro H1 locs1 ls1 a2 b2 hl2
  refine kk q (o 0) () rfl H1 locs1 ls1 (kgHR_cw.mpr ⟨av, cap, ?_, h34, hz⟩) b2 hl2
  refine (show kgCW hs _ H1 from a2).perm ?_
  show (([(o 0, .inl (kgC hs 12, 16, .inl (fun _ => (0 : Int32)))), (q, .inr (0, [Value.ref (o 0), .int 0, .int 0, .int 0]))] : va_W) ++ (kgw0 hs av cap I ++ xt)).Perm (kgw0 hs av cap I ++ (xt ++ ([(q, .inr (0, [Value.ref (o 0), .int 0, .int 0, .int 0])), (o 0, .inl (kgC hs 12, 16, .inl (fun _ => (0 : Int32))))] : va_W)))
  rw [← List.append_assoc (kgw0 hs av cap I)]
  exact List.perm_append_comm.trans (List.Perm.append (List.Perm.refl _) (List.Perm.swap _ _ _))
/-- a text of the law -/
def stc (hs : kgH) (a v : Nat) (l : List Nat) (g : Nat → Int32) : va_W := [(a, .inr (6, [.ref v, .int 0, .int 0, .int 0])), (v, .inl (kgC hs 12, l.length, .inl g))]
def stK (l : List Nat) (g : Nat → Int32) : Prop := (∀ i, fits .byte (.int (g i)) = true) ∧ ∀ i, i < l.length → g i = nI (l.getD i 0)
theorem sb_fit {l : List Nat} {cap : Nat} {g : Nat → Int32} (hk : sbK l cap g) (hg : goodL l) (h34 : l.length ≤ 34) : l.length ≤ cap := by
  rcases hk.1 with rfl | rfl
  · by_cases h : l.length ≤ 16
    · exact h
    · have h1 := hk.2.2 16 (by omega)
      have h2 := (hk.2.1 16).2 rfl (Nat.le_refl _)
      rw [h1, List.getD_eq_getElem?_getD, List.getElem?_eq_getElem (by omega)] at h2
      have h3 := hg _ (List.getElem_mem (show 16 < l.length by omega))
      exact absurd h2 (nI_ne0 (by simp only [Option.getD_some]; omega) (by simp only [Option.getD_some]; omega))
  · exact h34
theorem kgTf_fit {f : Nat → Int32} {n cap : Nat} (hf : ∀ i, fits .byte (.int (f i)) = true) (i : Nat) : fits .byte (.int (kgTf f n cap i)) = true := by
  unfold kgTf
  split
  · exact hf i
  · show fits .byte (.int (if 0 ≤ i ∧ i < 0 + n then f (0 + (i - 0)) else 0)) = true
    split
    · exact hf _
    · rfl
theorem kgTf_at {f : Nat → Int32} {n cap i : Nat} (hi : i < n) : kgTf f n cap i = f i := by
  unfold kgTf
  split
  · rfl
  · show (if 0 ≤ i ∧ i < 0 + n then f (0 + (i - 0)) else 0) = f i
    rw [if_pos ⟨by omega, by omega⟩]
    congr 1; omega
theorem lw_toS (S : Cx X cc own nL fr lo mc ms) (hX : kgB (kgHs X) ≤ X.2.2.2.2.1.heap.size) {xa : va_W} {q b cap : Nat} {l : List Nat} {g : Nat → Int32} {m : Int32} (hk : sbK l cap g) (hg : goodL l) (h34 : l.length ≤ 34) {idx : Nat} (hlk : Cond.methodLink own idx yJ4_toString_0e30d ∈ kg_U)
    (hRm : 5 + 1 ≤ fr ∧ 8 + (1 + 11) + 190 ≤ lo) (hcat : (st.map fun v => v.category).sum ≤ 8) (h1 : ce + 2 = ce2) (h2 : sl + 38 = sl2) (h3 : ce2 ≤ mc) (h4 : sl2 ≤ ms) (hdg : decode cc pc = .ok (.invokevirtual idx, 3))
    (kk : ∀ a v g2, stK l g2 → AW (kgXs X (xa ++ stc (kgHs X) a v l g2)) nL ce2 sl2 none (some ()) (pc + 3) L (.ref a :: st) I) : AW (kgXs X (xa ++ sbc (kgHs X) q l b cap g m)) nL ce sl none (some ()) pc L (.ref q :: st) I := by
  obtain ⟨p, l0, e, R, s, mm, args, below, meth, c, hs, Q⟩ := X
  obtain ⟨⟨hx, hb, hml, hown, hts⟩, hR, hK, hE, hlk0⟩ := S
  subst hR; subst h1; subst h2
  intro r hr H locs ls a b0 hl
  obtain ⟨av, cp, a1, h34c, hz⟩ := kgHR_cw.mp a
  have hE1 := hE.kept b0.2.1
  have e0 : (kgw0 hs av cp I ++ (xa ++ sbc hs q l b cap g m))[177 + xa.length]? = some (q, .inr (0, [.ref b, .int 0, .int m, .int (nI l.length)])) := by
    rw [List.getElem?_append_right (by rw [kgw0_len]; omega), kgw0_len, Nat.add_sub_cancel_left, List.getElem?_append_right (Nat.le_refl _), Nat.sub_self]; rfl
  have e1 : (kgw0 hs av cp I ++ (xa ++ sbc hs q l b cap g m))[177 + xa.length + 1]? = some (b, .inl (kgC hs 12, cap, .inl g)) := by
    rw [List.getElem?_append_right (by rw [kgw0_len]; omega), kgw0_len, show 177 + xa.length + 1 - 177 = xa.length + 1 by omega, List.getElem?_append_right (by omega), Nat.add_sub_cancel_left]; rfl
  have hn := sb_fit hk hg h34
  have hc34 : cap ≤ 34 := by rcases hk.1 with h | h <;> omega
  have a1 : kgCW hs (kgw0 hs av cp I ++ (xa ++ sbc hs q l b cap g m)) H := a1
  have hM := s_K_toS hs l0 (ws := kgw0 hs av cp I ++ (xa ++ sbc hs q l b cap g m)) e0 e1 (fun i => (hk.2.1 i).1) hn hc34
  refine va_callr (va_runV (C := RJ4) (As := []) (rest := st) ⟨hx, hb, hml, hown, hts⟩ hM
    (cwV (mc := 2) (ms := 38) 0 hts (kgG (fun w hw => ?_)) rfl rfl rfl ⟨rfl, vw_J4_toString_0e30d.2.2.2.1.1, vw_J4_toString_0e30d.2.2.2.1.2, vw_J4_toString_0e30d.2.2.2.2⟩ hRm) ⟨kgNc_blind, va_recv hK a1.1 cl_J4.1 e0, fun U hU hW => ⟨rfl, by rw [hU]; exact a1, by rw [hU]; exact Nat.le_trans hX b0.1, hK.moved hW.alike, by rw [hU]; exact hE1.warm hW⟩⟩
    rfl rfl hl.1 rfl (lv_room hcat) hdg ⟨h3, h4⟩) b0 (fun q _ h => h) (fun _ h => h) (fun u a2 t H1 locs1 ht hvm hw hB hz1 hk1 hS => ?_)
  · unfold wsV at hw
    rcases List.mem_append.mp hw with hw | hw
    · simp only [List.mem_cons, List.not_mem_nil, or_false] at hw
      rcases hw with rfl | rfl | rfl | rfl
      · exact hlk
      · exact vw_J4_toString_0e30d.1.1
      · exact vw_J4_toString_0e30d.1.2
      · exact vw_J4_toString_0e30d.2.1
    · rcases List.mem_cons.mp hw with rfl | hw
      · exact vw_J4_toString_0e30d.2.2.1
      · exact hw
  · subst ht
    refine kk a2 u (kgTf g l.length cap) ⟨kgTf_fit (fun i => (hk.2.1 i).1), fun i hi => (kgTf_at hi).trans (hk.2.2 i hi)⟩ r hr t.heap locs1 ls (kgHR_cw.mpr ⟨av, cp, ?_, h34c, hz⟩) hS hl
    have c1 := hB.1.sub (ws2 := kgTw hs g l.length cap a2 u ++ (kgw0 hs av cp I ++ xa)) (List.Sublist.append (List.Sublist.refl _) (List.Sublist.append (List.Sublist.refl _) (List.sublist_append_left _ _)))
    refine (show kgCW hs _ t.heap from c1).perm ?_
    show (kgTw hs g l.length cap a2 u ++ (kgw0 hs av cp I ++ xa)).Perm (kgw0 hs av cp I ++ (xa ++ stc hs a2 u l (kgTf g l.length cap)))
    rw [← List.append_assoc (kgw0 hs av cp I)]
    exact List.perm_append_comm.trans (List.Perm.append (List.Perm.refl _) (List.Perm.swap _ _ _))
theorem stc_str {hs : kgH} {o : Nat → Nat} {xa xb : va_W} {a v : Nat} {l : List Nat} {g : Nat → Int32} (hl : l.length < 2 ^ 30) : kgStr (kgHx hs o (xa ++ (stc hs a v l g ++ xb))) a v l.length g := by
  refine Or.inr ⟨xa.length, 0, 0, hl, ?_, ?_⟩
  · show (xa ++ (stc hs a v l g ++ xb))[xa.length]? = _
    rw [List.getElem?_append_right (Nat.le_refl _), Nat.sub_self]; rfl
  · show (xa ++ (stc hs a v l g ++ xb))[xa.length + 1]? = _
    rw [List.getElem?_append_right (by omega), Nat.add_sub_cancel_left]; rfl
/-- a number put behind -/
theorem lw_addI (S : Cx X cc own nL fr lo mc ms) {xa xb : va_W} {q b cap v : Nat} {l : List Nat} {g : Nat → Int32} {m : Int32} (hk : sbK l cap g) (hv : v ≤ 100) (hl : l.length + (dgs v).length ≤ 34) {idx : Nat} (hlk : Cond.methodLink own idx yJ4_append_bf812 ∈ kg_U) (hRm : 7 + 1 ≤ fr ∧ 8 + (2 + 11) + 230 ≤ lo) (hcat : (st.map fun v => v.category).sum ≤ 8) (h1 : ce + 1 = ce2) (h2 : sl + 34 = sl2) (h3 : ce2 ≤ mc) (h4 : sl2 ≤ ms) (hdg : decode cc pc = .ok (.invokevirtual idx, 3))
    (kk : ∀ b2 cap2 g2 m2, sbK (l ++ dgs v) cap2 g2 → AW (kgXs X (xa ++ (sbc (kgHs X) q (l ++ dgs v) b2 cap2 g2 m2 ++ xb))) nL ce2 sl2 none (some ()) (pc + 3) L (.ref q :: st) I) : AW (kgXs X (xa ++ (sbc (kgHs X) q l b cap g m ++ xb))) nL ce sl none (some ()) pc L (.int (nI v) :: .ref q :: st) I := by
  obtain ⟨J, j1, j2, j3⟩ := c_addI (I := sbI I l g m) (sbI_ln hk) hv hl
  refine lw_sb (st := st) S hk [.int (nI v)] vw_J4_append_bf812 cl_J4 hlk j2 (fun k h5 h6 => by rw [j3 k h5 h6]; unfold sbI; rw [if_neg h5, if_neg h6]) (fun av cp => ?_) hRm rfl rfl hcat h1 h2 h3 h4 hdg kk
  have h := s_J4_addI (kgHx (kgHs X) (o175 (kgHs X) q) (xa ++ (lnc (kgHs X) (kgO (kgHs X) 175) I av cp ++ xb))) (kgL X) (nI v) (sbI I l g m)
  rw [j1] at h
  exact h
/-- a text put behind -/
theorem lw_addS (S : Cx X cc own nL fr lo mc ms) {xa xb : va_W} {q b cap a v : Nat} {l t : List Nat} {g f : Nat → Int32} {m : Int32} (hk : sbK l cap g) (hstr : ∀ av cp, kgStr (kgHx (kgHs X) (o175 (kgHs X) q) (xa ++ (lnc (kgHs X) (kgO (kgHs X) 175) I av cp ++ xb))) a v t.length f) (hf : ∀ i, i < t.length → f i = nI (t.getD i 0)) (hg : goodL t) (hl : l.length + t.length ≤ 34) {idx : Nat} (hlk : Cond.methodLink own idx yJ4_append_15ec4 ∈ kg_U) (hRm : 7 + 1 ≤ fr ∧ 8 + (2 + 11) + 230 ≤ lo) (hcat : (st.map fun v => v.category).sum ≤ 8) (h1 : ce + 1 = ce2) (h2 : sl + 34 = sl2) (h3 : ce2 ≤ mc) (h4 : sl2 ≤ ms) (hdg : decode cc pc = .ok (.invokevirtual idx, 3))
    (kk : ∀ b2 cap2 g2 m2, sbK (l ++ t) cap2 g2 → AW (kgXs X (xa ++ (sbc (kgHs X) q (l ++ t) b2 cap2 g2 m2 ++ xb))) nL ce2 sl2 none (some ()) (pc + 3) L (.ref q :: st) I) : AW (kgXs X (xa ++ (sbc (kgHs X) q l b cap g m ++ xb))) nL ce sl none (some ()) pc L (.ref a :: .ref q :: st) I := by
  have ln := sbI_ln (I := I) (m := m) hk
  have j2 : LnC (l ++ t) (kgW (kgU (sbI I l g m) 176 (va_cpy f (sbI I l g m 176) 0 l.length t.length)) 175 3 (nI (l.length + t.length))) := by
    refine ln.app ?_ ?_ (fun i hi => ?_) (fun i hi => ?_)
    · rw [kgW_r, if_neg (by omega), kgU_n _ _ (by decide)]; exact ln.1
    · rw [kgW_r, if_pos ⟨rfl, rfl⟩]
    · rw [kgW_n _ _ _ (by decide), kgU_s]
      show (if l.length ≤ i ∧ i < l.length + t.length then f (0 + (i - l.length)) else sbI I l g m 176 i) = _
      rw [if_neg (by omega)]
    · rw [kgW_n _ _ _ (by decide), kgU_s]
      show (if l.length ≤ l.length + i ∧ l.length + i < l.length + t.length then f (0 + (l.length + i - l.length)) else sbI I l g m 176 (l.length + i)) = _
      rw [if_pos ⟨by omega, by omega⟩, show 0 + (l.length + i - l.length) = i by omega]
      exact hf i hi
  refine lw_sb (st := st) S hk [.ref a] vw_J4_append_15ec4 cl_J4 hlk j2 (fun k h5 h6 => by rw [kgW_n _ _ _ h5, kgU_n _ _ h6]; unfold sbI; rw [if_neg h5, if_neg h6]) (fun av cp => ?_) hRm rfl rfl hcat h1 h2 h3 h4 hdg kk
  refine s_J4_addS (kgHx (kgHs X) (o175 (kgHs X) q) (xa ++ (lnc (kgHs X) (kgO (kgHs X) 175) I av cp ++ xb))) (kgL X) (hstr av cp) (fun i hi => ?_) (sbI I l g m) ln.2.1 (by omega) ln.1
  rw [hf i hi]
  have h5 := hg (t.getD i 0) (by rw [List.getD_eq_getElem?_getD, List.getElem?_eq_getElem hi]; exact List.getElem_mem hi)
  exact byte_ok _ h5.2
end LSB
