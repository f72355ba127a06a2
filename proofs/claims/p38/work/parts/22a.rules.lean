/-! THE LAW'S ARRAYS AND TEXTS -/
theorem kgO_xs {ρ : Type} (X : kgCX ρ) (xt : va_W) : kgO (kgHs (kgXs X xt)) = kgO (kgHs X) := rfl
theorem kgXt_xs {ρ : Type} (X : kgCX ρ) (xt : va_W) : kgXt (kgHs (kgXs X xt)) = xt := rfl
theorem kgL_xs {ρ : Type} (X : kgCX ρ) (xt : va_W) : kgL (kgXs X xt) = kgL X := rfl
def arc (hs : kgH) (a : Nat) (f : Nat → Int32) : Nat × va_E := (a, .inl (kgC hs 10, 4, .inl f))
section LAR
variable {X : kgCX Unit} {cc : ByteArray} {own : String} {nL fr lo mc ms ce sl ce2 sl2 : Nat} {pc : Nat} {L : List (Nat × Value)} {st stk : List Value} {I : kgM}
theorem lw_new4 (S : Cx X cc own nL fr lo mc ms) (hX : kgB (kgHs X) ≤ X.2.2.2.2.1.heap.size) {xt : va_W} (h1 : ce + 1 = ce2) (h2 : sl + 4 = sl2) (h3 : ce2 ≤ mc) (h4 : sl2 ≤ ms) (hdg : decode cc pc = .ok (.newarray .int, 2))
    (kk : ∀ q, AW (kgXs X (xt ++ [arc (kgHs X) q (fun _ => 0)])) nL ce2 sl2 none (some ()) (pc + 2) L (.ref q :: st) I) : AW (kgXs X xt) nL ce sl none (some ()) pc L (.int 4 :: st) I := by
  obtain ⟨p, l0, e, R, s, mm, args, below, meth, c, hs, Q⟩ := X
  intro r hr H locs ls a b hl
  obtain ⟨av, cap, a1, h34, hz⟩ := kgHR_cw.mp a
  suffices hh : BW (p, l0, e, R, s, mm, args, below, meth, c, hs, Q) nL ce sl pc L (.int 4 :: st) (kgw (kgSx hs xt) av cap I) from hh H locs ls a1 b hl
  refine bw_newa (atype := .int) (N' := 4) (ce2 := ce2) (sl2 := sl2) S hX 0 10 tw_130 rfl rfl (fun _ _ => rfl) (fun _ => rfl) (by decide) (by decide) (by decide) h1 h2 h3 h4 hdg (fun q => ?_)
  intro H1 locs1 ls1 a2 b2 hl2
  refine kk q () rfl H1 locs1 ls1 (kgHR_cw.mpr ⟨av, cap, ?_, h34, hz⟩) b2 hl2
  refine (show kgCW hs _ H1 from a2).perm ?_
  show ([arc hs q (fun _ => 0)] ++ (kgw0 hs av cap I ++ xt)).Perm (kgw0 hs av cap I ++ (xt ++ [arc hs q (fun _ => 0)]))
  rw [← List.append_assoc (kgw0 hs av cap I)]
  exact List.perm_append_comm
theorem lw_xld (S : Cx X cc own nL fr lo mc ms) {xt : va_W} (i : Nat) {a j : Nat} {f : Nat → Int32} (h : xt[i]? = some (arc (kgHs X) a f)) (hj : j < 4) (hdg : decode cc pc = .ok (.iaload, 1))
    (kk : AW (kgXs X xt) nL ce sl none (some ()) (pc + 1) L (.int (f j) :: st) I) : AW (kgXs X xt) nL ce sl none (some ()) pc L (.int (nI j) :: .ref a :: st) I := by
  obtain ⟨p, l, e, R, s, m, args, below, meth, c, hs, Q⟩ := X
  obtain ⟨⟨hx, hb, hml, hown, hts⟩, hR, hK, hE, hlk0⟩ := S
  intro r hr H locs ls a0 b hl
  have kk1 := kk r hr H locs ls a0 b hl
  obtain ⟨av, cap, hP, hD, hw, h34, hz⟩ := a0
  have hg : (kgw (kgSx hs xt) av cap I)[177 + i]? = some (a, .inl (kgC hs 10, 4, .inl f)) := (kgw_xt i).trans h
  have hc : (nI j).toNatClampNeg = j := nI_clamp (by omega)
  rw [← hc] at kk1
  exact va_iald hx hb hK hP (177 + i) 0 hg rfl (inb_in (inb_nI hj (by omega))) hdg kk1
theorem lw_xst (S : Cx X cc own nL fr lo mc ms) {xt : va_W} (i : Nat) {a j : Nat} {f : Nat → Int32} {x : Int32} (h : xt[i]? = some (arc (kgHs X) a f)) (hj : j < 4) (hdg : decode cc pc = .ok (.iastore, 1))
    (kk : AW (kgXs X (xt.set i (arc (kgHs X) a (upd f j x)))) nL ce sl none (some ()) (pc + 1) L st I) : AW (kgXs X xt) nL ce sl none (some ()) pc L (.int x :: .int (nI j) :: .ref a :: st) I := by
  obtain ⟨p, l, e, R, s, m, args, below, meth, c, hs, Q⟩ := X
  obtain ⟨⟨hx, hb, hml, hown, hts⟩, hR, hK, hE, hlk0⟩ := S
  intro r hr H locs ls a0 b hl
  obtain ⟨av, cap, hP, hD, hw, h34, hz⟩ := a0
  have hg : (kgw (kgSx hs xt) av cap I)[177 + i]? = some (a, .inl (kgC hs 10, 4, .inl f)) := (kgw_xt i).trans h
  have hc : (nI j).toNatClampNeg = j := nI_clamp (by omega)
  have hset : (kgw (kgSx hs xt) av cap I).set (177 + i) (a, .inl (kgC hs 10, 4, .inl (upd f (nI j).toNatClampNeg x))) = kgw (kgSx hs (xt.set i (arc hs a (upd f j x)))) av cap I := by
    rw [hc]
    show (kgw0 hs av cap I ++ xt).set (177 + i) _ = kgw0 hs av cap I ++ xt.set i _
    rw [List.set_append_right _ _ (by rw [kgw0_len]; omega), kgw0_len, Nat.add_sub_cancel_left]
    rfl
  exact va_iast hx hb hK hP hD b (177 + i) 0 hg rfl (inb_in (inb_nI hj (by omega))) hdg (fun H1 locs1 hP1 hD1 hS1 => kk r hr H1 locs1 ls ⟨av, cap, by rw [← hset]; exact hP1, by rw [← hset]; exact hD1, hw, h34, hz⟩ hS1 hl)
/-! texts: builders at the end of the cells -/
theorem lx_newB (S : Cx X cc own nL fr lo mc ms) (hX : kgB (kgHs X) ≤ X.2.2.2.2.1.heap.size) {xt : va_W} {idx i2 : Nat} (hl1 : Cond.classLink own idx RJ4 ∈ kg_U) (hlk : Cond.methodLink own i2 yJ4_init_da8c8 ∈ kg_U) (hRm : 2 + 1 ≤ fr ∧ 8 + (1 + 11) + 70 ≤ lo) (hcat : (st.map fun v => v.category).sum ≤ 7)
    (h1 : ce + 2 = ce2) (h2 : sl + 20 = sl2) (h3 : ce2 ≤ mc) (h4 : sl2 ≤ ms) (d1 : decode cc pc = .ok (.new idx, 3)) (d2 : decode cc (pc + 3) = .ok (.dup, 1)) (d3 : decode cc (pc + 4) = .ok (.invokespecial i2, 3))
    (kk : ∀ q b cap g m, sbK [] cap g → AW (kgXs X (xt ++ (sbc (kgHs X) q [] b cap g m ++ []))) nL ce2 sl2 none (some ()) (pc + 7) L (.ref q :: st) I) : AW (kgXs X xt) nL ce sl none (some ()) pc L st I :=
  lw_newB S hX hl1 hlk hRm hcat h1 h2 h3 h4 d1 d2 d3 (fun q b => by
    have := kk q b 16 (fun _ => 0) 0 sbK_nil
    rw [List.append_nil] at this
    exact this)
theorem lx_toS (S : Cx X cc own nL fr lo mc ms) (hX : kgB (kgHs X) ≤ X.2.2.2.2.1.heap.size) {xa : va_W} {q b cap : Nat} {l : List Nat} {g : Nat → Int32} {m : Int32} (hk : sbK l cap g) (hg : goodL l) (h34 : l.length ≤ 34) {idx : Nat} (hlk : Cond.methodLink own idx yJ4_toString_0e30d ∈ kg_U)
    (hRm : 5 + 1 ≤ fr ∧ 8 + (1 + 11) + 190 ≤ lo) (hcat : (st.map fun v => v.category).sum ≤ 8) (h1 : ce + 2 = ce2) (h2 : sl + 38 = sl2) (h3 : ce2 ≤ mc) (h4 : sl2 ≤ ms) (hdg : decode cc pc = .ok (.invokevirtual idx, 3))
    (kk : ∀ a v g2, stK l g2 → AW (kgXs X (xa ++ (stc (kgHs X) a v l g2 ++ []))) nL ce2 sl2 none (some ()) (pc + 3) L (.ref a :: st) I) : AW (kgXs X (xa ++ (sbc (kgHs X) q l b cap g m ++ []))) nL ce sl none (some ()) pc L (.ref q :: st) I := by
  rw [List.append_nil]
  exact lw_toS S hX hk hg h34 hlk hRm hcat h1 h2 h3 h4 hdg (fun a v g2 h => by
    have := kk a v g2 h
    rw [List.append_nil] at this
    exact this)
/-- the law's constant texts -/
def kg_cs (j : Nat) : List Nat := [[58], [112], [119], [116], [95], [], [35], [64], [33], [120], [40], [41]].getD j []
theorem kg_cs_ok : ∀ j, j < 12 → (kg_cs j).length = kg_len.getD j 0 ∧ (kg_cs j).length ≤ 1 ∧ (∀ i, i < (kg_cs j).length → (kg_byt.getD j []).getD i 0 = nI ((kg_cs j).getD i 0)) ∧ (kg_cs j).all (fun c => decide (32 ≤ c ∧ c < 127)) = true := by decide +kernel
theorem cs_good {j : Nat} (hj : j < 12) : goodL (kg_cs j) := fun c hc => of_decide_eq_true (List.all_eq_true.mp (kg_cs_ok j hj).2.2.2 c hc)
theorem cs_str {hs : kgH} {j : Nat} (hj : j < 12) : kgStr hs (kgK hs j) (kgV hs j) (kg_cs j).length (fun i => (kg_byt.getD j []).getD i 0) := Or.inl ⟨j, hj, rfl, rfl, (kg_cs_ok j hj).1, rfl⟩
theorem lx_addC (S : Cx X cc own nL fr lo mc ms) {xa xb : va_W} {q b cap : Nat} (j : Nat) (hj : j < 12) {l : List Nat} {g : Nat → Int32} {m : Int32} (hk : sbK l cap g) (hl : l.length + (kg_cs j).length ≤ 34) {idx : Nat} (hlk : Cond.methodLink own idx yJ4_append_15ec4 ∈ kg_U) (hRm : 7 + 1 ≤ fr ∧ 8 + (2 + 11) + 230 ≤ lo) (hcat : (st.map fun v => v.category).sum ≤ 8) (h1 : ce + 1 = ce2) (h2 : sl + 34 = sl2) (h3 : ce2 ≤ mc) (h4 : sl2 ≤ ms) (hdg : decode cc pc = .ok (.invokevirtual idx, 3))
    (kk : ∀ b2 cap2 g2 m2, sbK (l ++ kg_cs j) cap2 g2 → AW (kgXs X (xa ++ (sbc (kgHs X) q (l ++ kg_cs j) b2 cap2 g2 m2 ++ xb))) nL ce2 sl2 none (some ()) (pc + 3) L (.ref q :: st) I) : AW (kgXs X (xa ++ (sbc (kgHs X) q l b cap g m ++ xb))) nL ce sl none (some ()) pc L (.ref (kgK (kgHs X) j) :: .ref q :: st) I :=
  lw_addS S (t := kg_cs j) hk (fun av cp => cs_str hj) (kg_cs_ok j hj).2.2.1 (cs_good hj) hl hlk hRm hcat h1 h2 h3 h4 hdg kk
/-- a text that was made, put behind a builder that stands before it -/
theorem lx_addT (S : Cx X cc own nL fr lo mc ms) {xa xb : va_W} {q b cap a v : Nat} {l t : List Nat} {g f : Nat → Int32} {m : Int32} (hk : sbK l cap g) (hf : stK t f) (hg : goodL t) (hl : l.length + t.length ≤ 34) {idx : Nat} (hlk : Cond.methodLink own idx yJ4_append_15ec4 ∈ kg_U) (hRm : 7 + 1 ≤ fr ∧ 8 + (2 + 11) + 230 ≤ lo) (hcat : (st.map fun v => v.category).sum ≤ 8) (h1 : ce + 1 = ce2) (h2 : sl + 34 = sl2) (h3 : ce2 ≤ mc) (h4 : sl2 ≤ ms) (hdg : decode cc pc = .ok (.invokevirtual idx, 3))
    (kk : ∀ b2 cap2 g2 m2, sbK (l ++ t) cap2 g2 → AW (kgXs X (xa ++ (sbc (kgHs X) q (l ++ t) b2 cap2 g2 m2 ++ xb))) nL ce2 sl2 none (some ()) (pc + 3) L (.ref q :: st) I) : AW (kgXs X ((xa ++ (sbc (kgHs X) q l b cap g m ++ xb)) ++ (stc (kgHs X) a v t f ++ []))) nL ce sl none (some ()) pc L (.ref a :: .ref q :: st) I := by
  refine aw_order (xt2 := xa ++ (sbc (kgHs X) q l b cap g m ++ (xb ++ (stc (kgHs X) a v t f ++ [])))) (List.Perm.of_eq (by simp only [List.append_assoc])) ?_
  refine lw_addS (v := v) S hk (fun av cp => ?_) hf.2 hg hl hlk hRm hcat h1 h2 h3 h4 hdg (fun b2 cap2 g2 m2 hk2 => ?_)
  · have := stc_str (hs := kgHs X) (o := o175 (kgHs X) q) (xa := xa ++ (lnc (kgHs X) (kgO (kgHs X) 175) I av cp ++ xb)) (xb := []) (a := a) (v := v) (l := t) (g := f) (by omega)
    rw [show (xa ++ (lnc (kgHs X) (kgO (kgHs X) 175) I av cp ++ xb)) ++ (stc (kgHs X) a v t f ++ []) = xa ++ (lnc (kgHs X) (kgO (kgHs X) 175) I av cp ++ (xb ++ (stc (kgHs X) a v t f ++ []))) from by simp only [List.append_assoc]] at this
    exact this
  · exact aw_drop (List.Sublist.append (List.Sublist.refl _) (List.Sublist.append (List.Sublist.refl _) (List.sublist_append_left _ _))) (kk b2 cap2 g2 m2 hk2)
/-- a text of the law, either a constant or one that was made -/
def txP (hs : kgH) (a : Nat) (l : List Nat) (T : va_W) : Prop := (a = kgK hs 5 ∧ l = [] ∧ T = []) ∨ (∃ v g, stK l g ∧ T = stc hs a v l g)
theorem lx_addP (S : Cx X cc own nL fr lo mc ms) {xa xb T : va_W} {q b cap a : Nat} {l t : List Nat} {g : Nat → Int32} {m : Int32} (hk : sbK l cap g) (hT : txP (kgHs X) a t T) (hg : goodL t) (hl : l.length + t.length ≤ 34) {idx : Nat} (hlk : Cond.methodLink own idx yJ4_append_15ec4 ∈ kg_U) (hRm : 7 + 1 ≤ fr ∧ 8 + (2 + 11) + 230 ≤ lo) (hcat : (st.map fun v => v.category).sum ≤ 8) (h1 : ce + 1 = ce2) (h2 : sl + 34 = sl2) (h3 : ce2 ≤ mc) (h4 : sl2 ≤ ms) (hdg : decode cc pc = .ok (.invokevirtual idx, 3))
    (kk : ∀ b2 cap2 g2 m2, sbK (l ++ t) cap2 g2 → AW (kgXs X ((xa ++ T) ++ (sbc (kgHs X) q (l ++ t) b2 cap2 g2 m2 ++ xb))) nL ce2 sl2 none (some ()) (pc + 3) L (.ref q :: st) I) : AW (kgXs X ((xa ++ T) ++ (sbc (kgHs X) q l b cap g m ++ xb))) nL ce sl none (some ()) pc L (.ref a :: .ref q :: st) I := by
  rcases hT with ⟨rfl, rfl, rfl⟩ | ⟨v, f, hf, rfl⟩
  · exact lx_addC S 5 (by decide) hk hl hlk hRm hcat h1 h2 h3 h4 hdg kk
  · refine lw_addS (v := v) S hk (fun av cp => ?_) hf.2 hg hl hlk hRm hcat h1 h2 h3 h4 hdg kk
    have := stc_str (hs := kgHs X) (o := o175 (kgHs X) q) (xa := xa) (xb := lnc (kgHs X) (kgO (kgHs X) 175) I av cp ++ xb) (a := a) (v := v) (l := t) (g := f) (by omega)
    rw [← List.append_assoc] at this
    exact this
theorem txP.str {hs : kgH} {o : Nat → Nat} {a : Nat} {l : List Nat} {T xa xb : va_W} (h : txP hs a l T) (hl : l.length ≤ 34) : ∃ v f, kgStr (kgHx hs o ((xa ++ T) ++ xb)) a v l.length f ∧ ∀ i, i < l.length → f i = nI (l.getD i 0) := by
  rcases h with ⟨rfl, rfl, rfl⟩ | ⟨v, f, hf, rfl⟩
  · exact ⟨_, _, cs_str (by decide), fun i hi => absurd hi (Nat.not_lt_zero _)⟩
  · refine ⟨v, f, ?_, hf.2⟩
    rw [List.append_assoc]
    exact stc_str (by omega)
end LAR
