/-! Rules that read and write the memory. -/
/-- a class of the list: its number, its fields -/
def kgCl (ci nf : Nat) (C : String) (T : u_T) : Prop := vwCl[ci]? = some (C, T, nf) ∧ (∀ w ∈ u_ws C T nf, w ∈ kg_U) ∧ ci < 7
theorem kgce_obj {hs : kgH} {av cap : Nat} {I : kgM} {k ci nf : Nat} (hk : kgKD k = (ci, nf)) (hc : ci < 7) : kgce hs av cap I k = .inr (ci, (List.range nf).map (fun j => kgfv hs av I k j)) := by
  unfold kgce
  rw [hk, if_pos hc]
theorem kgce_arr {hs : kgH} {av cap : Nat} {I : kgM} {k t n : Nat} (hk : kgKD k = (t, n)) (h1 : 7 ≤ t) (h2 : t ≠ 13) (h3 : k ≠ 176) : kgce hs av cap I k = .inl (kgC hs t, n, .inl (I k)) := by
  unfold kgce
  rw [hk, if_neg (Nat.not_lt.mpr h1), if_neg h2, if_neg h3]
theorem kgad_ne {hs : kgH} {av k : Nat} (h : k ≠ 176) : kgad hs av k = kgO hs k := if_neg h
theorem kg_ne176 {k t n : Nat} (hk : kgKD k = (t, n)) (h : t ≠ 12) : k ≠ 176 := by
  intro h2
  subst h2
  apply h
  have : (kgKD 176).1 = 12 := by decide
  rw [hk] at this
  exact this
theorem kgfv_int {hs : kgH} {av : Nat} {I : kgM} {k j : Nat} (h : kgRF k j = none) : kgfv hs av I k j = .int (I k j) := by unfold kgfv; rw [h]
theorem kgfv_ref {hs : kgH} {av : Nat} {I : kgM} {k j k2 : Nat} (h : kgRF k j = some k2) : kgfv hs av I k j = .ref (kgad hs av k2) := by unfold kgfv; rw [h]
section AWM
variable {ρ : Type} {X : kgCX ρ} {cc : ByteArray} {own : String} {nL fr lo mc ms ce sl : Nat} {fin A B : Option ρ} {pc : Nat} {L L2 : List (Nat × Value)} {st : List Value} {I : kgM} {w : Option (Nat × Nat)}
theorem aw_getI (S : Cx X cc own nL fr lo mc ms) (k j : Nat) {ci nf idx : Nat} {C n d : String} {T : u_T} (hc : kgCl ci nf C T) (hk : kgKD k = (ci, nf)) (hk2 : k < 177) (hj : j < nf) (hr0 : kgRF k j = none) (hT : T j = (C, n, d, (T j).2.2.2)) (hlk : Cond.fieldLink own idx C n d ∈ kg_U) (hdg : decode cc pc = .ok (.getfield idx, 3))
    (kk : AW X nL ce sl w fin (pc + 3) L (.int (I k j) :: st) I) : AW X nL ce sl w fin pc L (.ref (kgO (kgHs X) k) :: st) I := by
  obtain ⟨p, l, e, R, s, m, args, below, meth, c, hs, Q⟩ := X
  obtain ⟨⟨hx, hb, hml, hown, hts⟩, hR, hK, hE, hlk0⟩ := S
  intro r hr H locs ls a b hl
  have kk1 := kk r hr H locs ls a b hl
  obtain ⟨av, cap, hP, hD, hw, h34, hz⟩ := a
  have hci : ci ≠ 12 := by have := hc.2.2; omega
  have hg := kgw_get (hs := hs) (av := av) (cap := cap) (I := I) hk2
  rw [kgce_obj hk hc.2.2, kgad_ne (kg_ne176 hk hci)] at hg
  have hv : ((List.range nf).map (fun j => kgfv hs av I k j))[j]? = some (.int (I k j)) := by
    rw [List.getElem?_map, List.getElem?_range hj]
    show some (kgfv hs av I k j) = _
    rw [kgfv_int hr0]
  exact va_get (D := kgD hs) (ci := ci) (C := C) (T := T) (N := nf) (ref := C) hx hb hts hc.2.1 hown hK hP k hg hc.1 j hj (by rw [hT]; exact hts _ hlk) (fun x h => by rw [hT] at h ⊢; exact h) hv hdg kk1
theorem aw_getR (S : Cx X cc own nL fr lo mc ms) (k j k2 : Nat) {ci nf idx : Nat} {C n d : String} {T : u_T} (hc : kgCl ci nf C T) (hk : kgKD k = (ci, nf)) (hk2 : k < 177) (hj : j < nf) (hr0 : kgRF k j = some k2) (h76 : k2 ≠ 176) (hT : T j = (C, n, d, (T j).2.2.2)) (hlk : Cond.fieldLink own idx C n d ∈ kg_U) (hdg : decode cc pc = .ok (.getfield idx, 3))
    (kk : AW X nL ce sl w fin (pc + 3) L (.ref (kgO (kgHs X) k2) :: st) I) : AW X nL ce sl w fin pc L (.ref (kgO (kgHs X) k) :: st) I := by
  obtain ⟨p, l, e, R, s, m, args, below, meth, c, hs, Q⟩ := X
  obtain ⟨⟨hx, hb, hml, hown, hts⟩, hR, hK, hE, hlk0⟩ := S
  intro r hr H locs ls a b hl
  have kk1 := kk r hr H locs ls a b hl
  obtain ⟨av, cap, hP, hD, hw, h34, hz⟩ := a
  have hci : ci ≠ 12 := by have := hc.2.2; omega
  have hg := kgw_get (hs := hs) (av := av) (cap := cap) (I := I) hk2
  rw [kgce_obj hk hc.2.2, kgad_ne (kg_ne176 hk hci)] at hg
  have hv : ((List.range nf).map (fun j => kgfv hs av I k j))[j]? = some (.ref (kgO hs k2)) := by
    rw [List.getElem?_map, List.getElem?_range hj]
    show some (kgfv hs av I k j) = _
    rw [kgfv_ref hr0, kgad_ne h76]
  exact va_get (D := kgD hs) (ci := ci) (C := C) (T := T) (N := nf) (ref := C) hx hb hts hc.2.1 hown hK hP k hg hc.1 j hj (by rw [hT]; exact hts _ hlk) (fun x h => by rw [hT] at h ⊢; exact h) hv hdg kk1
theorem aw_putI (S : Cx X cc own nL fr lo mc ms) (k j : Nat) {ci nf idx : Nat} {C n d : String} {T : u_T} {ty0 : Nat → FieldType} {x : Int32} (hc : kgCl ci nf C T) (hty : ∀ k, k < nf → parseFieldDescriptor (T k).2.2.1 = some (ty0 k)) (hnm : ∀ a, a < nf → ∀ b, b < nf → a ≠ b → (T a).2.1 ≠ (T b).2.1) (hk : kgKD k = (ci, nf)) (hk2 : k < 177) (hj : j < nf) (hr0 : kgRF k j = none) (hT : T j = (C, n, d, false)) (hn : narrow (ty0 j) (.int x) = .int x) (hf : fits (ty0 j) (.int x) = true) (hlk : Cond.fieldLink own idx C n d ∈ kg_U) (hdg : decode cc pc = .ok (.putfield idx, 3))
    (kk : AW X nL ce sl w fin (pc + 3) L st (kgW I k j x)) : AW X nL ce sl w fin pc L (.int x :: .ref (kgO (kgHs X) k) :: st) I := by
  obtain ⟨p, l, e, R, s, m, args, below, meth, c, hs, Q⟩ := X
  obtain ⟨⟨hx, hb, hml, hown, hts⟩, hR, hK, hE, hlk0⟩ := S
  intro r hr H locs ls a b hl
  obtain ⟨av, cap, hP, hD, hw, h34, hz⟩ := a
  have hci : ci ≠ 12 := by have := hc.2.2; omega
  have hg := kgw_get (hs := hs) (av := av) (cap := cap) (I := I) hk2
  rw [kgce_obj hk hc.2.2, kgad_ne (kg_ne176 hk hci)] at hg
  have hset : (kgw hs av cap I).set k (kgO hs k, .inr (ci, ((List.range nf).map (fun j => kgfv hs av I k j)).set j (.int x))) = kgw hs av cap (kgW I k j x) := by
    rw [← kgw_set hk2, kgce_obj hk hc.2.2, kgad_ne (kg_ne176 hk hci)]
    congr 4
    apply List.ext_getElem?
    intro i
    by_cases hij : i = j
    · subst hij
      rw [List.getElem?_set_self (by simpa using hj), List.getElem?_map, List.getElem?_range hj]
      show _ = some (kgfv hs av (kgW I k i x) k i)
      rw [kgfv_int hr0, kgW_s, pk_us]
    · rw [List.getElem?_set_ne (Ne.symm hij), List.getElem?_map, List.getElem?_map]
      by_cases hi : i < nf
      · rw [List.getElem?_range hi]
        show some (kgfv hs av I k i) = some (kgfv hs av (kgW I k j x) k i)
        unfold kgfv
        rw [kgW_s, pk_un hij]
      · rw [List.getElem?_eq_none (by simpa using hi)]
        rfl
  exact va_put (D := kgD hs) (ci := ci) (C := C) (T := T) (N := nf) (ref := C) hx hb hts hc.2.1 ty0 hty hnm hown hK hP hD b k hg hc.1 j hj (by rw [hT]; exact hts _ hlk) (fun x h => by rw [hT] at h ⊢; exact h) (by rw [hT]) (hty j hj) hn hf (by simpa using hj) hdg (fun H1 locs1 hP1 hD1 hS1 => kk r hr H1 locs1 ls ⟨av, cap, by rw [← hset]; exact hP1, by rw [← hset]; exact hD1, hw, h34, fun h q hq => by rw [kgW_n _ _ _ (Ne.symm (kg_ne176 hk hci))]; exact hz h q hq⟩ hS1 hl)
theorem aw_iald (S : Cx X cc own nL fr lo mc ms) (k n : Nat) {i : Int32} (hk : kgKD k = (10, n)) (hk2 : k < 177) (hdg : decode cc pc = .ok (.iaload, 1))
    (kk : AW X nL ce sl w fin (pc + 1) L (.int (I k i.toNatClampNeg) :: st) I) : AW X nL ce sl w (ck (inb i n) fin) pc L (.int i :: .ref (kgO (kgHs X) k) :: st) I := by
  obtain ⟨p, l, e, R, s, m, args, below, meth, c, hs, Q⟩ := X
  obtain ⟨⟨hx, hb, hml, hown, hts⟩, hR, hK, hE, hlk0⟩ := S
  intro r hr H locs ls a b hl
  obtain ⟨h0, hr⟩ := ck_some hr
  have kk1 := kk r hr H locs ls a b hl
  obtain ⟨av, cap, hP, hD, hw, h34, hz⟩ := a
  have hg := kgw_get (hs := hs) (av := av) (cap := cap) (I := I) hk2
  have h76 := kg_ne176 hk (by decide)
  rw [kgce_arr hk (by decide) (by decide) h76, kgad_ne h76] at hg
  exact va_iald hx hb hK hP k 0 hg rfl (inb_in h0) hdg kk1
theorem aw_iast (S : Cx X cc own nL fr lo mc ms) (k n : Nat) {i x : Int32} (hk : kgKD k = (10, n)) (hk2 : k < 177) (hdg : decode cc pc = .ok (.iastore, 1))
    (kk : AW X nL ce sl w fin (pc + 1) L st (kgW I k i.toNatClampNeg x)) : AW X nL ce sl w (ck (inb i n) fin) pc L (.int x :: .int i :: .ref (kgO (kgHs X) k) :: st) I := by
  obtain ⟨p, l, e, R, s, m, args, below, meth, c, hs, Q⟩ := X
  obtain ⟨⟨hx, hb, hml, hown, hts⟩, hR, hK, hE, hlk0⟩ := S
  intro r hr H locs ls a b hl
  obtain ⟨h0, hr⟩ := ck_some hr
  obtain ⟨av, cap, hP, hD, hw, h34, hz⟩ := a
  have hg := kgw_get (hs := hs) (av := av) (cap := cap) (I := I) hk2
  have h76 := kg_ne176 hk (by decide)
  rw [kgce_arr hk (by decide) (by decide) h76, kgad_ne h76] at hg
  have hset := kgw_set (hs := hs) (av := av) (cap := cap) (I := I) (j := i.toNatClampNeg) (x := x) hk2
  rw [kgce_arr hk (by decide) (by decide) h76, kgad_ne h76, kgW_s] at hset
  exact va_iast hx hb hK hP hD b k 0 hg rfl (inb_in h0) hdg (fun H1 locs1 hP1 hD1 hS1 => kk r hr H1 locs1 ls ⟨av, cap, by rw [← hset]; exact hP1, by rw [← hset]; exact hD1, hw, h34, fun h q hq => by rw [kgW_n _ _ _ (Ne.symm h76)]; exact hz h q hq⟩ hS1 hl)
theorem aw_cald (S : Cx X cc own nL fr lo mc ms) (k n : Nat) {i : Int32} (hk : kgKD k = (11, n)) (hk2 : k < 177) (hdg : decode cc pc = .ok (.caload, 1))
    (kk : AW X nL ce sl w fin (pc + 1) L (.int (I k i.toNatClampNeg) :: st) I) : AW X nL ce sl w (ck (inb i n) fin) pc L (.int i :: .ref (kgO (kgHs X) k) :: st) I := by
  obtain ⟨p, l, e, R, s, m, args, below, meth, c, hs, Q⟩ := X
  obtain ⟨⟨hx, hb, hml, hown, hts⟩, hR, hK, hE, hlk0⟩ := S
  intro r hr H locs ls a b hl
  obtain ⟨h0, hr⟩ := ck_some hr
  have kk1 := kk r hr H locs ls a b hl
  obtain ⟨av, cap, hP, hD, hw, h34, hz⟩ := a
  have hg := kgw_get (hs := hs) (av := av) (cap := cap) (I := I) hk2
  have h76 := kg_ne176 hk (by decide)
  rw [kgce_arr hk (by decide) (by decide) h76, kgad_ne h76] at hg
  exact va_cald hx hb hK hP k 1 hg rfl (inb_in h0) hdg kk1
theorem aw_cast (S : Cx X cc own nL fr lo mc ms) (k n : Nat) {i x : Int32} (hk : kgKD k = (11, n)) (hk2 : k < 177) (hdg : decode cc pc = .ok (.castore, 1))
    (kk : AW X nL ce sl w fin (pc + 1) L st (kgW I k i.toNatClampNeg (vp_nar .char x))) : AW X nL ce sl w (ck (inb i n) fin) pc L (.int x :: .int i :: .ref (kgO (kgHs X) k) :: st) I := by
  obtain ⟨p, l, e, R, s, m, args, below, meth, c, hs, Q⟩ := X
  obtain ⟨⟨hx, hb, hml, hown, hts⟩, hR, hK, hE, hlk0⟩ := S
  intro r hr H locs ls a b hl
  obtain ⟨h0, hr⟩ := ck_some hr
  obtain ⟨av, cap, hP, hD, hw, h34, hz⟩ := a
  have hg := kgw_get (hs := hs) (av := av) (cap := cap) (I := I) hk2
  have h76 := kg_ne176 hk (by decide)
  rw [kgce_arr hk (by decide) (by decide) h76, kgad_ne h76] at hg
  have hset := kgw_set (hs := hs) (av := av) (cap := cap) (I := I) (j := i.toNatClampNeg) (x := vp_nar .char x) hk2
  rw [kgce_arr hk (by decide) (by decide) h76, kgad_ne h76, kgW_s] at hset
  exact va_cast hx hb hK hP hD b k 1 hg rfl (inb_in h0) hdg (fun H1 locs1 hP1 hD1 hS1 => kk r hr H1 locs1 ls ⟨av, cap, by rw [← hset]; exact hP1, by rw [← hset]; exact hD1, hw, h34, fun h q hq => by rw [kgW_n _ _ _ (Ne.symm h76)]; exact hz h q hq⟩ hS1 hl)
theorem aw_alen (S : Cx X cc own nL fr lo mc ms) (k n t0 : Nat) {t : Nat} {ty : FieldType} (hk : kgKD k = (t, n)) (hk2 : k < 177) (h1 : 7 ≤ t) (h2 : t ≠ 13) (h12 : t ≠ 12) (ht : (kgT (kgHs X))[t0]? = some (kgC (kgHs X) t, ty)) (hdg : decode cc pc = .ok (.arraylength, 1))
    (kk : AW X nL ce sl w fin (pc + 1) L (.int (Int32.ofNat n) :: st) I) : AW X nL ce sl w fin pc L (.ref (kgO (kgHs X) k) :: st) I := by
  obtain ⟨p, l, e, R, s, m, args, below, meth, c, hs, Q⟩ := X
  obtain ⟨⟨hx, hb, hml, hown, hts⟩, hR, hK, hE, hlk0⟩ := S
  intro r hr H locs ls a b hl
  have kk1 := kk r hr H locs ls a b hl
  obtain ⟨av, cap, hP, hD, hw, h34, hz⟩ := a
  have hg := kgw_get (hs := hs) (av := av) (cap := cap) (I := I) hk2
  have h76 := kg_ne176 hk h12
  rw [kgce_arr hk h1 h2 h76, kgad_ne h76] at hg
  exact va_alen hx hb hK hP k t0 hg ht rfl hdg kk1
/-- the nine states of the history -/
theorem aw_aald (S : Cx X cc own nL fr lo mc ms) {i : Int32} (hdg : decode cc pc = .ok (.aaload, 1))
    (kk : inb i 9 = true → AW X nL ce sl w fin (pc + 1) L (.ref (kgO (kgHs X) (33 + 15 * i.toNatClampNeg)) :: st) I) : AW X nL ce sl w (ck (inb i 9) fin) pc L (.int i :: .ref (kgO (kgHs X) 32) :: st) I := by
  obtain ⟨p, l, e, R, s, m, args, below, meth, c, hs, Q⟩ := X
  obtain ⟨⟨hx, hb, hml, hown, hts⟩, hR, hK, hE, hlk0⟩ := S
  intro r hr H locs ls a b hl
  obtain ⟨h0, hr⟩ := ck_some hr
  have kk1 := kk h0 r hr H locs ls a b hl
  obtain ⟨av, cap, hP, hD, hw, h34, hz⟩ := a
  have hg := kgw_get (hs := hs) (av := av) (cap := cap) (I := I) (k := 32) (by decide)
  have e1 : kgce hs av cap I 32 = .inl (kgC hs 13, 9, .inr (.inr (.inr (.inr (fun j => some (kgO hs (33 + 15 * j))))))) := rfl
  rw [e1, kgad_ne (by decide)] at hg
  exact va_aldq hx hb hK hP 32 3 hg rfl (inb_in h0) hdg kk1
/-- the table of sounds -/
theorem aw_getS (S : Cx X cc own nL fr lo mc ms) {idx : Nat} (hlk : Cond.fieldLink own idx "KettleGuild" "SOUNDS" "[I" ∈ kg_U) (hdg : decode cc pc = .ok (.getstatic idx, 3))
    (kk : AW X nL ce sl w fin (pc + 3) L (.ref (kgX (kgHs X) 0) :: st) I) : AW X nL ce sl w fin pc L st I := by
  obtain ⟨p, l, e, R, s, m, args, below, meth, c, hs, Q⟩ := X
  obtain ⟨⟨hx, hb, hml, hown, hts⟩, hR, hK, hE, hlk0⟩ := S
  intro r hr H locs ls a b hl
  exact va_gets hx hb hE.1.1 b hown (hts _ hlk) (fun _ h => h) hdg (kk r hr H locs ls a b hl)
theorem aw_ialdS (S : Cx X cc own nL fr lo mc ms) {i : Int32} (hdg : decode cc pc = .ok (.iaload, 1))
    (kk : AW X nL ce sl w fin (pc + 1) L (.int (kg_snd i.toNatClampNeg) :: st) I) : AW X nL ce sl w (ck (inb i 12) fin) pc L (.int i :: .ref (kgX (kgHs X) 0) :: st) I := by
  obtain ⟨p, l, e, R, s, m, args, below, meth, c, hs, Q⟩ := X
  obtain ⟨⟨hx, hb, hml, hown, hts⟩, hR, hK, hE, hlk0⟩ := S
  intro r hr H locs ls a b hl
  obtain ⟨h0, hr1⟩ := ck_some hr
  obtain ⟨cell, h1, h2, h3, h4, h5, h6, h7⟩ := hE.1.2.kept b.2.1
  have hin := inb_in h0
  obtain ⟨j, hj, rfl⟩ := vp_in_of hin (by decide)
  have hcl : (nI j).toNatClampNeg = j := nI_clamp (by omega)
  refine W.iald hx hb h1 h2 h3 (j := nI j) (v := .int (kg_snd (nI j).toNatClampNeg)) (fun hh => ?_) ?_ rfl rfl hdg (kk r hr1 H locs ls a b hl)
  · rcases hh with hh | hh
    · exact hin (Or.inl hh)
    · rw [hcl] at hh; omega
  · rw [hcl]; exact h6 j hj
theorem aw_alenS (S : Cx X cc own nL fr lo mc ms) (hdg : decode cc pc = .ok (.arraylength, 1))
    (kk : AW X nL ce sl w fin (pc + 1) L (.int (12 : Int32) :: st) I) : AW X nL ce sl w fin pc L (.ref (kgX (kgHs X) 0) :: st) I := by
  obtain ⟨p, l, e, R, s, m, args, below, meth, c, hs, Q⟩ := X
  obtain ⟨⟨hx, hb, hml, hown, hts⟩, hR, hK, hE, hlk0⟩ := S
  intro r hr H locs ls a b hl
  obtain ⟨cell, h1, h2, h3, h4, h5, h6, h7⟩ := hE.1.2.kept b.2.1
  exact W.alen hx hb h1 h2 (n := 12) (h5.trans rfl) rfl rfl hdg (kk r hr H locs ls a b hl)
end AWM
