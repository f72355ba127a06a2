/-! the line: a StringBuilder, its bytes known by address and room where it is said (w) -/
section SBR
variable {ρ : Type} {X : kgCX ρ} {cc : ByteArray} {own : String} {nL fr lo mc ms ce sl ce2 sl2 : Nat} {fin : Option ρ} {pc : Nat} {L : List (Nat × Value)} {st stk : List Value} {I : kgM} {w : Option (Nat × Nat)} {av cap bb : Nat}
theorem aw_open (k : ∀ av cap, (cap = 16 ∨ cap = 34) → (cap = 16 → ∀ j, 16 ≤ j → I 176 j = 0) → AW X nL ce sl (some (av, cap)) fin pc L st I) : AW X nL ce sl none fin pc L st I := by
  obtain ⟨p, l, e, R, s, m, args, below, meth, c, hs, Q⟩ := X
  intro r hr H locs ls a b hl
  obtain ⟨av, cap, hP, hD, hw, h34, hz⟩ := a
  exact k av cap h34 (fun h j hj => (hz trivial j trivial).2 h hj) r hr H locs ls ⟨av, cap, hP, hD, (fun z h => (Option.some.inj h).symm), h34, hz⟩ b hl
theorem aw_close (k : AW X nL ce sl none fin pc L st I) : AW X nL ce sl (some (av, cap)) fin pc L st I := by
  obtain ⟨p, l, e, R, s, m, args, below, meth, c, hs, Q⟩ := X
  intro r hr H locs ls a b hl
  obtain ⟨av, cap, hP, hD, hw, h34, hz⟩ := a
  exact k r hr H locs ls ⟨av, cap, hP, hD, (fun z h => by cases h), h34, hz⟩ b hl
theorem aw_ck {q : Bool} (k : q = true → AW X nL ce sl w fin pc L st I) : AW X nL ce sl w (ck q fin) pc L st I := by
  cases q with
  | true => exact k rfl
  | false => exact aw_none
theorem aw_dup_x1 (S : Cx X cc own nL fr lo mc ms) {va vb : Value} (hdg : decode cc pc = .ok (.dup_x1, 1)) (hva : va.category = 1) (hvb : vb.category = 1) (k : AW X nL ce sl w fin (pc + 1) L (va :: vb :: va :: st) I) : AW X nL ce sl w fin pc L (va :: vb :: st) I := by
  obtain ⟨p, l, e, R, s, m, args, below, meth, c, hs, Q⟩ := X
  obtain ⟨⟨hx, hb, hml, hown, hts⟩, hR, hK, hE, hlk0⟩ := S
  intro r hr H locs ls a b hl
  exact lv_dup_x1 hx hb hdg hva hvb (k r hr H locs ls a b hl)
theorem aw_i2b (S : Cx X cc own nL fr lo mc ms) {x : Int32} (hdg : decode cc pc = .ok (.i2b, 1)) (k : AW X nL ce sl w fin (pc + 1) L (.int x.toInt8.toInt32 :: st) I) : AW X nL ce sl w fin pc L (.int x :: st) I := by
  obtain ⟨p, l, e, R, s, m, args, below, meth, c, hs, Q⟩ := X
  obtain ⟨⟨hx, hb, hml, hown, hts⟩, hR, hK, hE, hlk0⟩ := S
  intro r hr H locs ls a b hl
  exact lv_i2b hx hb hdg rfl (k r hr H locs ls a b hl)
theorem aw_getIs (S : Cx X cc own nL fr lo mc ms) (j : Nat) {idx : Nat} {n d : String} (hj : j < 4) (h0 : j ≠ 0) (hT : TJ4 j = (RJ5, n, d, (TJ4 j).2.2.2)) (hlk : Cond.fieldLink own idx RJ5 n d ∈ kg_U) (hdg : decode cc pc = .ok (.getfield idx, 3))
    (kk : AW X nL ce sl w fin (pc + 3) L (.int (I 175 j) :: st) I) : AW X nL ce sl w fin pc L (.ref (kgO (kgHs X) 175) :: st) I := by
  obtain ⟨p, l, e, R, s, m, args, below, meth, c, hs, Q⟩ := X
  obtain ⟨⟨hx, hb, hml, hown, hts⟩, hR, hK, hE, hlk0⟩ := S
  intro r hr H locs ls a b hl
  have kk1 := kk r hr H locs ls a b hl
  obtain ⟨av, cap, hP, hD, hw, h34, hz⟩ := a
  have hg := kgw_get (hs := hs) (av := av) (cap := cap) (I := I) (k := 175) (by decide)
  rw [kgce_obj (k := 175) (ci := 0) (nf := 4) rfl (by decide), kgad_ne (by decide)] at hg
  have hv : ((List.range 4).map (fun j => kgfv hs av I 175 j))[j]? = some (.int (I 175 j)) := by
    rw [List.getElem?_map, List.getElem?_range hj]
    show some (kgfv hs av I 175 j) = _
    rw [kgfv_int (show kgRF 175 j = none from by rcases j with _ | _ | _ | _ | j <;> first | rfl | (exact absurd rfl h0) | omega)]
  exact va_get (D := kgD hs) (ci := 0) (C := RJ4) (T := TJ4) (N := 4) (ref := RJ5) hx hb hts cl_J4.2.1 hown hK hP 175 hg cl_J4.1 j hj (by rw [hT]; exact hts _ hlk) (fun x h => by rw [hT] at h ⊢; exact h) hv hdg kk1
theorem aw_getB (S : Cx X cc own nL fr lo mc ms) {idx : Nat} (hlk : Cond.fieldLink own idx RJ5 "value" "[B" ∈ kg_U) (hdg : decode cc pc = .ok (.getfield idx, 3))
    (kk : AW X nL ce sl (some (av, cap)) fin (pc + 3) L (.ref av :: st) I) : AW X nL ce sl (some (av, cap)) fin pc L (.ref (kgO (kgHs X) 175) :: st) I := by
  obtain ⟨p, l, e, R, s, m, args, below, meth, c, hs, Q⟩ := X
  obtain ⟨⟨hx, hb, hml, hown, hts⟩, hR, hK, hE, hlk0⟩ := S
  intro r hr H locs ls a b hl
  have kk1 := kk r hr H locs ls a b hl
  obtain ⟨av1, cap1, hP, hD, hw, h34, hz⟩ := a
  have hw1 := hw _ rfl
  cases hw1
  have hg := kgw_get (hs := hs) (av := av) (cap := cap) (I := I) (k := 175) (by decide)
  rw [kgce_obj (k := 175) (ci := 0) (nf := 4) rfl (by decide), kgad_ne (by decide)] at hg
  have hv : ((List.range 4).map (fun j => kgfv hs av I 175 j))[0]? = some (.ref av) := rfl
  exact va_get (D := kgD hs) (ci := 0) (C := RJ4) (T := TJ4) (N := 4) (ref := RJ5) hx hb hts cl_J4.2.1 hown hK hP 175 hg cl_J4.1 0 (by decide) (hts _ hlk) (fun x h => h) hv hdg kk1
theorem tyJ4_k : ∀ k, k < 4 → parseFieldDescriptor (TJ4 k).2.2.1 = some (if k = 0 then .array .byte else if k = 1 then .byte else if k = 2 then .boolean else .int) := by decide +kernel
theorem nmJ4_k : ∀ a, a < 4 → ∀ b, b < 4 → a ≠ b → (TJ4 a).2.1 ≠ (TJ4 b).2.1 := by decide
theorem aw_putIs (S : Cx X cc own nL fr lo mc ms) (j : Nat) {idx : Nat} {n d : String} {x : Int32} (hj : j < 4) (h0 : j ≠ 0) (hT : TJ4 j = (RJ5, n, d, false)) (hn : narrow (if j = 0 then .array .byte else if j = 1 then .byte else if j = 2 then .boolean else .int) (.int x) = .int x) (hf : fits (if j = 0 then .array .byte else if j = 1 then .byte else if j = 2 then .boolean else .int) (.int x) = true) (hlk : Cond.fieldLink own idx RJ5 n d ∈ kg_U) (hdg : decode cc pc = .ok (.putfield idx, 3))
    (kk : AW X nL ce sl w fin (pc + 3) L st (kgW I 175 j x)) : AW X nL ce sl w fin pc L (.int x :: .ref (kgO (kgHs X) 175) :: st) I := by
  obtain ⟨p, l, e, R, s, m, args, below, meth, c, hs, Q⟩ := X
  obtain ⟨⟨hx, hb, hml, hown, hts⟩, hR, hK, hE, hlk0⟩ := S
  intro r hr H locs ls a b hl
  obtain ⟨av, cap, hP, hD, hw, h34, hz⟩ := a
  have hg := kgw_get (hs := hs) (av := av) (cap := cap) (I := I) (k := 175) (by decide)
  rw [kgce_obj (k := 175) (ci := 0) (nf := 4) rfl (by decide), kgad_ne (by decide)] at hg
  have hr0 : kgRF 175 j = none := by rcases j with _ | _ | _ | _ | j <;> first | rfl | (exact absurd rfl h0) | omega
  have hset : (kgw hs av cap I).set 175 (kgO hs 175, .inr (0, ((List.range 4).map (fun j => kgfv hs av I 175 j)).set j (.int x))) = kgw hs av cap (kgW I 175 j x) := by
    rw [← kgw_set (by decide), kgce_obj (k := 175) (ci := 0) (nf := 4) rfl (by decide), kgad_ne (by decide)]
    congr 4
    apply List.ext_getElem?
    intro i
    by_cases hij : i = j
    · subst hij
      rw [List.getElem?_set_self (by simpa using hj), List.getElem?_map, List.getElem?_range hj]
      show _ = some (kgfv hs av (kgW I 175 i x) 175 i)
      rw [kgfv_int hr0, kgW_s, pk_us]
    · rw [List.getElem?_set_ne (Ne.symm hij), List.getElem?_map, List.getElem?_map]
      by_cases hi : i < 4
      · rw [List.getElem?_range hi]
        show some (kgfv hs av I 175 i) = some (kgfv hs av (kgW I 175 j x) 175 i)
        unfold kgfv
        rw [kgW_s, pk_un hij]
      · rw [List.getElem?_eq_none (by simpa using hi)]
        rfl
  exact va_put (D := kgD hs) (ci := 0) (C := RJ4) (T := TJ4) (N := 4) (ref := RJ5) hx hb hts cl_J4.2.1 _ tyJ4_k nmJ4_k hown hK hP hD b 175 hg cl_J4.1 j hj (by rw [hT]; exact hts _ hlk) (fun x h => by rw [hT] at h ⊢; exact h) (by rw [hT]) (tyJ4_k j hj) hn hf (by simpa using hj) hdg (fun H1 locs1 hP1 hD1 hS1 => kk r hr H1 locs1 ls ⟨av, cap, by rw [← hset]; exact hP1, by rw [← hset]; exact hD1, hw, h34, fun h q hq => by rw [kgW_n _ _ _ (by decide)]; exact hz h q hq⟩ hS1 hl)
theorem kgw_176 {hs : kgH} : (kgw hs av cap I)[176]? = some (av, .inl (kgC hs 12, cap, .inl (I 176))) := by
  rw [kgw_get (by decide)]
  unfold kgce kgad
  rw [if_pos rfl, if_neg (by decide), if_neg (by decide), if_pos rfl]
  rfl
theorem aw_alenB (S : Cx X cc own nL fr lo mc ms) (hdg : decode cc pc = .ok (.arraylength, 1))
    (kk : AW X nL ce sl (some (av, cap)) fin (pc + 1) L (.int (Int32.ofNat cap) :: st) I) : AW X nL ce sl (some (av, cap)) fin pc L (.ref av :: st) I := by
  obtain ⟨p, l, e, R, s, m, args, below, meth, c, hs, Q⟩ := X
  obtain ⟨⟨hx, hb, hml, hown, hts⟩, hR, hK, hE, hlk0⟩ := S
  intro r hr H locs ls a b hl
  have kk1 := kk r hr H locs ls a b hl
  obtain ⟨av1, cap1, hP, hD, hw, h34, hz⟩ := a
  cases hw _ rfl
  exact va_alen hx hb hK hP 176 2 kgw_176 rfl rfl hdg kk1
theorem inb_le {i : Int32} {b n : Nat} (h : b ≤ n) (h0 : inb i b = true) : inb i n = true := by
  have := of_decide_eq_true h0
  exact decide_eq_true ⟨this.1, by omega⟩
theorem aw_baldB (S : Cx X cc own nL fr lo mc ms) {i : Int32} (hbc : bb ≤ cap) (hdg : decode cc pc = .ok (.baload, 1))
    (kk : AW X nL ce sl (some (av, cap)) fin (pc + 1) L (.int (I 176 i.toNatClampNeg) :: st) I) : AW X nL ce sl (some (av, cap)) (ck (inb i bb) fin) pc L (.int i :: .ref av :: st) I := by
  obtain ⟨p, l, e, R, s, m, args, below, meth, c, hs, Q⟩ := X
  obtain ⟨⟨hx, hb, hml, hown, hts⟩, hR, hK, hE, hlk0⟩ := S
  intro r hr H locs ls a b hl
  obtain ⟨h0, hr⟩ := ck_some hr
  have kk1 := kk r hr H locs ls a b hl
  obtain ⟨av1, cap1, hP, hD, hw, h34, hz⟩ := a
  cases hw _ rfl
  exact va_bald hx hb hK hP 176 2 kgw_176 rfl (inb_in (inb_le hbc h0)) hdg kk1
theorem aw_bastB (S : Cx X cc own nL fr lo mc ms) {i x : Int32} (hbc : bb ≤ cap) (hdg : decode cc pc = .ok (.bastore, 1))
    (kk : AW X nL ce sl (some (av, cap)) fin (pc + 1) L st (kgW I 176 i.toNatClampNeg (vp_nar .byte x))) : AW X nL ce sl (some (av, cap)) (ck (inb i bb) fin) pc L (.int x :: .int i :: .ref av :: st) I := by
  obtain ⟨p, l, e, R, s, m, args, below, meth, c, hs, Q⟩ := X
  obtain ⟨⟨hx, hb, hml, hown, hts⟩, hR, hK, hE, hlk0⟩ := S
  intro r hr H locs ls a b hl
  obtain ⟨h0, hr1⟩ := ck_some hr
  obtain ⟨av1, cap1, hP, hD, hw, h34, hz⟩ := a
  cases hw _ rfl
  have h1 := inb_le hbc h0
  have hset := kgw_set (hs := hs) (av := av) (cap := cap) (I := I) (j := i.toNatClampNeg) (x := vp_nar .byte x) (k := 176) (by decide)
  have e1 : kgce hs av cap (kgW I 176 i.toNatClampNeg (vp_nar .byte x)) 176 = .inl (kgC hs 12, cap, .inl (upd (I 176) i.toNatClampNeg (vp_nar .byte x))) := by
    unfold kgce
    rw [if_neg (by decide), if_neg (by decide), if_pos rfl, kgW_s]
    rfl
  rw [e1, show kgad hs av 176 = av from if_pos rfl] at hset
  obtain ⟨j, hj, rfl⟩ := vp_in_of (inb_in h1) (by rcases h34 with h | h <;> rw [h] <;> decide)
  have hcl : (nI j).toNatClampNeg = j := nI_clamp (by rcases h34 with h | h <;> rw [h] at hj <;> omega)
  exact va_bast hx hb hK hP hD b 176 2 kgw_176 rfl (inb_in h1) hdg (fun H1 locs1 hP1 hD1 hS1 => kk r hr1 H1 locs1 ls ⟨av, cap, by rw [← hset]; exact hP1, by rw [← hset]; exact hD1, hw, h34, fun h q hq => by
    have hz1 := hz h q hq
    rw [kgW_s, hcl]
    by_cases hq1 : q = j
    · subst hq1
      exact ⟨by rw [pk_us]; exact kg_fits8 x, fun h16 hl16 => absurd hj (by omega)⟩
    · exact ⟨by rw [pk_un hq1]; exact hz1.1, fun h16 hl16 => by rw [pk_un hq1]; exact hz1.2 h16 hl16⟩⟩ hS1 hl)

theorem aw_getDO (S : Cx X cc own nL fr lo mc ms) {idx : Nat} (hlk : Cond.fieldLink own idx "java/lang/Integer" "DigitOnes" "[B" ∈ kg_U) (hdg : decode cc pc = .ok (.getstatic idx, 3))
    (kk : AW X nL ce sl w fin (pc + 3) L (.ref (kgX (kgHs X) 1) :: st) I) : AW X nL ce sl w fin pc L st I := by
  obtain ⟨p, l, e, R, s, m, args, below, meth, c, hs, Q⟩ := X
  obtain ⟨⟨hx, hb, hml, hown, hts⟩, hR, hK, hE, hlk0⟩ := S
  intro r hr H locs ls a b hl
  exact va_gets hx hb hE.2.2.1.1 b hown (hts _ hlk) (fun _ h => h) hdg (kk r hr H locs ls a b hl)
theorem aw_baldDO (S : Cx X cc own nL fr lo mc ms) {i : Int32} (hdg : decode cc pc = .ok (.baload, 1))
    (kk : AW X nL ce sl w fin (pc + 1) L (.int (kg_ones i.toNatClampNeg) :: st) I) : AW X nL ce sl w (ck (inb i 100) fin) pc L (.int i :: .ref (kgX (kgHs X) 1) :: st) I := by
  obtain ⟨p, l, e, R, s, m, args, below, meth, c, hs, Q⟩ := X
  obtain ⟨⟨hx, hb, hml, hown, hts⟩, hR, hK, hE, hlk0⟩ := S
  intro r hr H locs ls a b hl
  obtain ⟨h0, hr1⟩ := ck_some hr
  obtain ⟨cell, h1, h2, h3, h4, h5, h6, h7⟩ := hE.2.2.1.2.kept b.2.1
  have hin := inb_in h0
  obtain ⟨j, hj, rfl⟩ := vp_in_of hin (by decide)
  have hcl : (nI j).toNatClampNeg = j := nI_clamp (by omega)
  refine W.bald hx hb h1 h2 h3 (j := nI j) (v := .int (kg_ones (nI j).toNatClampNeg)) (fun hh => ?_) ?_ rfl rfl hdg (kk r hr1 H locs ls a b hl)
  · rcases hh with hh | hh
    · exact hin (Or.inl hh)
    · rw [hcl] at hh; omega
  · rw [hcl]; exact h6 j hj

theorem aw_getDT (S : Cx X cc own nL fr lo mc ms) {idx : Nat} (hlk : Cond.fieldLink own idx "java/lang/Integer" "DigitTens" "[B" ∈ kg_U) (hdg : decode cc pc = .ok (.getstatic idx, 3))
    (kk : AW X nL ce sl w fin (pc + 3) L (.ref (kgX (kgHs X) 2) :: st) I) : AW X nL ce sl w fin pc L st I := by
  obtain ⟨p, l, e, R, s, m, args, below, meth, c, hs, Q⟩ := X
  obtain ⟨⟨hx, hb, hml, hown, hts⟩, hR, hK, hE, hlk0⟩ := S
  intro r hr H locs ls a b hl
  exact va_gets hx hb hE.2.2.2.1.1 b hown (hts _ hlk) (fun _ h => h) hdg (kk r hr H locs ls a b hl)
theorem aw_baldDT (S : Cx X cc own nL fr lo mc ms) {i : Int32} (hdg : decode cc pc = .ok (.baload, 1))
    (kk : AW X nL ce sl w fin (pc + 1) L (.int (kg_tens i.toNatClampNeg) :: st) I) : AW X nL ce sl w (ck (inb i 100) fin) pc L (.int i :: .ref (kgX (kgHs X) 2) :: st) I := by
  obtain ⟨p, l, e, R, s, m, args, below, meth, c, hs, Q⟩ := X
  obtain ⟨⟨hx, hb, hml, hown, hts⟩, hR, hK, hE, hlk0⟩ := S
  intro r hr H locs ls a b hl
  obtain ⟨h0, hr1⟩ := ck_some hr
  obtain ⟨cell, h1, h2, h3, h4, h5, h6, h7⟩ := hE.2.2.2.1.2.kept b.2.1
  have hin := inb_in h0
  obtain ⟨j, hj, rfl⟩ := vp_in_of hin (by decide)
  have hcl : (nI j).toNatClampNeg = j := nI_clamp (by omega)
  refine W.bald hx hb h1 h2 h3 (j := nI j) (v := .int (kg_tens (nI j).toNatClampNeg)) (fun hh => ?_) ?_ rfl rfl hdg (kk r hr1 H locs ls a b hl)
  · rcases hh with hh | hh
    · exact hin (Or.inl hh)
    · rw [hcl] at hh; omega
  · rw [hcl]; exact h6 j hj

end SBR
/-- room for n bytes -/
def kgQe (hs : kgH) (n : Int32) (I : kgM) : Array Value → State → Outcome → State → Prop := va_Qv (fun (u : Nat × Nat) => n.toInt ≤ u.2 ∧ (u.2 = 16 ∨ u.2 = 34)) (fun u t => kgHR hs (some u) I t.heap ∧ kgKX hs t) (kgA hs)
def Sde (hs : kgH) (l : Launch) (y : MethodName) (ws : List Cond) (rm : Room) (av : List Value) (I : kgM) (n : Int32) : Prop :=
  Met l y ws rm (kgPc hs none av I) (kgQe hs n I) rm.cells rm.slots (kgA hs)
/-- answers the line itself -/
def kgQr (hs : kgH) (r : Int32 × kgM) : Array Value → State → Outcome → State → Prop := va_Qr (fun (_ : Unit) => True) (fun _ a t => a = kgO hs 175 ∧ kgHR hs none r.2 t.heap ∧ kgKX hs t) (kgA hs)
def Sdr (hs : kgH) (l : Launch) (y : MethodName) (ws : List Cond) (rm : Room) (av : List Value) (I : kgM) (fin : Option (Int32 × kgM)) : Prop :=
  ∀ r, fin = some r → Met l y ws rm (kgPc hs none av I) (kgQr hs r) rm.cells rm.slots (kgA hs)
def Qxr (X : kgCX (Int32 × kgM)) (rt : FieldType) : Prop := match X with
  | (p, l, e, R, s, m, args, below, meth, c, hs, Q) => meth.sig.returnType = some rt ∧ Q = fun r => MQ below (kgQr hs r) args s R.cells R.slots (kgA hs)
theorem aw_retr {X : kgCX (Int32 × kgM)} {cc : ByteArray} {own : String} {nL fr lo mc ms ce sl : Nat} {pc : Nat} {L : List (Nat × Value)} {I : kgM} (S : Cx X cc own nL fr lo mc ms) {n : String} {x : Int32} (hQ : Qxr X (.object n)) (h1 : ce ≤ mc) (h2 : sl ≤ ms) (hdg : decode cc pc = .ok (.areturn, 1)) : AW X nL ce sl none (some (x, I)) pc L [.ref (kgO (kgHs X) 175)] I := by
  obtain ⟨p, l, e, R, s, m, args, below, meth, c, hs, Q⟩ := X
  obtain ⟨⟨hx, hb, hml, hown, hts⟩, hR, hK, hE, hlk0⟩ := S
  obtain ⟨hrt, hQ⟩ := hQ
  subst hQ; subst hR
  intro r hr H locs ls a b hl
  cases hr
  refine W.widen (k := mc) (n := ms) h1 h2 ?_
  exact W.aret hx hb hrt (Or.inl ⟨n, rfl⟩) (Or.inr ⟨_, rfl⟩) (fun t ht hW => ⟨⟨(), _, rfl, trivial, rfl, by rw [ht]; exact a, hK.moved hW.alike⟩, b.F ht⟩) b.2.2 hdg hlk0
theorem sd_r {y : MethodName} {bytes : ByteArray} {maxL fr lo mc ms : Nat} {rt : FieldType} {av : kgH → List Value} {I : kgM} {F : Option (Int32 × kgM)} (hy : plainFor y = true) (hln : ∀ hs, (lg_sl (av hs)).length ≤ maxL) (h : ∀ X : kgCX (Int32 × kgM), Cx X bytes y.cls maxL fr lo mc ms → Qxr X rt → AW X maxL 0 0 none F 0 (lv_args 0 (av (kgHs X))) [] I) (hs : kgH) (l : Launch) :
    Sdr hs l y (kg_ws y bytes maxL (some rt)) { frames := fr, cells := mc, slots := ms, locals := lo } (av hs) I F := by
  intro r hr
  refine va_MetF (cc := bytes) (maxL := maxL) (ret := some rt) hy rfl ?_
  intro p e s m args below meth c s₁ B hml hv
  obtain ⟨rfl, hH, hK, hE⟩ := hv
  have hts := atoms_spec (ws := kg_ws y bytes maxL (some rt)) B.pre
  have hl := lv_entry (av hs) (n := maxL) (hln hs)
  rw [lg_entry_eq]
  exact h (p, l, e, { frames := fr, cells := mc, slots := ms, locals := lo }, s, m, (av hs).toArray, below, meth, c, hs, fun r => MQ below (kgQr hs r) (av hs).toArray s mc ms (kgA hs))
    ⟨⟨B.exec, B.bytes, hml, findClass_of_methodNamed B.named, fun w hw => hts w (List.mem_cons_of_mem _ hw)⟩, rfl, hK, hE, B.notSynchronized⟩ ⟨B.returns, rfl⟩ r hr s.heap [] _ hH va_S.rf hl
def kgUW (y : MethodName) (bytes : ByteArray) (maxL : Nat) (rt : Option FieldType) (n : Nat) : Prop :=
  Cond.code y bytes maxL rt ∈ kg_U ∧ Cond.initialized y.cls ∈ kg_U ∧ Cond.instanceMethod y ∈ kg_U ∧ Cond.sameMethod y.cls y.cls y.name y.desc ∈ kg_U ∧ (y.cls ≠ "java/lang/invoke/MethodHandle" ∧ y.cls ≠ "java/lang/invoke/VarHandle") ∧ (parseMethodDescriptor y.desc).map (fun d => d.parameters.length) = some n
theorem kg_CU {R : Room} {s : State} {args : Array Value} {own C : String} {index : Nat} {y : MethodName} {bytes : ByteArray} {maxL : Nat} {ret : Option FieldType} {rm : Room} {mc ms n : Nat} (hts : ∀ w ∈ kg_U, w.before args s = true) (hU : kgUW y bytes maxL ret n) (hlk : Cond.methodLink own index y ∈ kg_U) (hsel : (Cond.selects C y y).before args s = true) (hrc : rm.cells = mc) (hrs : rm.slots = ms)
    (hR : rm.frames + 1 ≤ R.frames ∧ 8 + (maxL + 11) + rm.locals ≤ R.locals) : va_CU R s args own C y.cls index y y bytes maxL ret (kg_ws y bytes maxL ret) rm mc ms n :=
  ⟨⟨hrc, hrs, hR.1, hR.2, pay_in hts (tw_H hU.1), List.mem_cons_self⟩, hts _ hU.1, hts _ hU.2.1, hU.2.2.2.2.1, (fun sig h => by have h2 := hU.2.2.2.2.2; rw [h] at h2; exact (Option.some.inj h2).symm), hts _ hlk, hts _ hU.2.2.2.1, va_Decl.of (x := y) (hts _ hU.2.2.1) (hts _ hU.1), hsel, hts _ hU.2.2.1⟩
theorem kg_CS {R : Room} {s : State} {args : Array Value} {own : String} {index : Nat} {y : MethodName} {bytes : ByteArray} {maxL : Nat} {ret : Option FieldType} {rm : Room} {mc ms n : Nat} (hts : ∀ w ∈ kg_U, w.before args s = true) (hU : kgUW y bytes maxL ret n) (hlk : Cond.methodLink own index y ∈ kg_U) (hsup : Cond.superclass own y.cls ∈ kg_U) (hno : y.name ≠ "<init>") (hrc : rm.cells = mc) (hrs : rm.slots = ms)
    (hR : rm.frames + 1 ≤ R.frames ∧ 8 + (maxL + 11) + rm.locals ≤ R.locals) : va_CS R s args own index y bytes maxL ret (kg_ws y bytes maxL ret) rm mc ms n :=
  ⟨⟨hrc, hrs, hR.1, hR.2, pay_in hts (tw_H hU.1), List.mem_cons_self⟩, hts _ hlk, hts _ hU.2.2.2.1, hts _ hsup, hts _ hU.2.2.1, hts _ hU.2.1, hts _ hU.1, hno, (fun sig h => by have h2 := hU.2.2.2.2.2; rw [h] at h2; exact (Option.some.inj h2).symm)⟩
/-- how the machine finds the method of the line -/
def kgSel (y : MethodName) : Prop := ∀ (hs : kgH) (args : Array Value) (s : State), (∀ w ∈ kg_U, w.before args s = true) → kgE hs s s.heap → (Cond.selects RJ4 y y).before args s = true
theorem kg_at {args : Array Value} {s : State} (hts : ∀ w ∈ kg_U, w.before args s = true) : ∃ cC, ClassAt s RJ4 cC := by
  obtain ⟨c, k, h1, h2, h3, -⟩ := Cond.instantiable_spec (hts _ tw_193)
  exact ⟨c, h1, k, h2, h3⟩

section SBC
variable {ρ : Type} {X : kgCX ρ} {cc : ByteArray} {own : String} {nL fr lo mc ms ce sl ce2 sl2 : Nat} {fin : Option ρ} {pc : Nat} {L : List (Nat × Value)} {st stk : List Value} {I : kgM} {w : Option (Nat × Nat)} {av cap bb : Nat}
theorem aw_cUi (S : Cx X cc own nL fr lo mc ms) {y : MethodName} {bytes : ByteArray} {maxL n fr1 lo1 mc1 ms1 idx : Nat} {rt : Option FieldType} (As : List Value) {F : Option (Int32 × kgM)} {f : Int32 → kgM → Option ρ}
    (hU : kgUW y bytes maxL rt n) (hsel : kgSel y) (hlk : Cond.methodLink own idx y ∈ kg_U) (hM : Sdi (kgHs X) (kgL X) w y (kg_ws y bytes maxL rt) { frames := fr1, cells := mc1, slots := ms1, locals := lo1 } (.ref (kgO (kgHs X) 175) :: As) I F)
    (hRm : fr1 + 1 ≤ fr ∧ 8 + (maxL + 11) + lo1 ≤ lo) (hn : As.length = n) (hst : stk = As.reverse ++ .ref (kgO (kgHs X) 175) :: st) (hcat : (st.map fun v => v.category).sum ≤ 8) (h1 : ce + mc1 = ce2) (h2 : sl + ms1 = sl2) (h3 : ce2 ≤ mc) (h4 : sl2 ≤ ms) (hdg : decode cc pc = .ok (.invokevirtual idx, 3))
    (kk : ∀ x J, AW X nL ce2 sl2 w (f x J) (pc + 3) L (.int x :: st) J) : AW X nL ce sl w (bndC F f) pc L stk I := by
  obtain ⟨p, l, e, R, s, m, args, below, meth, c, hs, Q⟩ := X
  obtain ⟨⟨hx, hb, hml, hown, hts⟩, hR, hK, hE, hlk0⟩ := S
  subst hR; subst hst; subst h1; subst h2
  intro r hr H locs ls a b hl
  obtain ⟨x0, J, hF, hr⟩ := bndC_some hr
  have a0 := a
  obtain ⟨av, cap, hP, hD, hw0, h34, hz⟩ := a
  have hg := kgw_get (hs := hs) (av := av) (cap := cap) (I := I) (k := 175) (by decide)
  rw [kgce_obj (k := 175) (ci := 0) (nf := 4) rfl (by decide), kgad_ne (by decide)] at hg
  have hE1 := hE.kept b.2.1
  refine va_calli (va_runU (C := RJ4) (As := As) (rest := st) ⟨hx, hb, hml, hown, hts⟩ (hM (x0, J) hF) (kg_CU (mc := mc1) (ms := ms1) (n := n) hts hU hlk (hsel hs args s hts hE) rfl rfl hRm) ⟨kgPc_blind, va_recv hK hP cl_J4.1 hg, fun U hU hW => ⟨rfl, by rw [hU]; exact a0, hK.moved hW.alike, by rw [hU]; exact hE1.warm hW⟩⟩
    rfl hn hl.1 rfl (lv_room hcat) hdg ⟨h3, h4⟩) b (fun q _ h => h) (fun _ h => h) (fun x u t H1 locs1 ht hvm hw hB hz1 hk1 hS => ?_)
  · cases hw
    subst ht
    exact kk x0 J r hr t.heap locs1 ls hB.1 hS hl

theorem aw_cUv (S : Cx X cc own nL fr lo mc ms) {y : MethodName} {bytes : ByteArray} {maxL n fr1 lo1 mc1 ms1 idx : Nat} {rt : Option FieldType} (As : List Value) {F : Option (Int32 × kgM)} {f : Int32 → kgM → Option ρ}
    (hU : kgUW y bytes maxL rt n) (hsel : kgSel y) (hlk : Cond.methodLink own idx y ∈ kg_U) (hM : Sdv (kgHs X) (kgL X) w y (kg_ws y bytes maxL rt) { frames := fr1, cells := mc1, slots := ms1, locals := lo1 } (.ref (kgO (kgHs X) 175) :: As) I F)
    (hRm : fr1 + 1 ≤ fr ∧ 8 + (maxL + 11) + lo1 ≤ lo) (hn : As.length = n) (hst : stk = As.reverse ++ .ref (kgO (kgHs X) 175) :: st) (hcat : (st.map fun v => v.category).sum ≤ 8) (h1 : ce + mc1 = ce2) (h2 : sl + ms1 = sl2) (h3 : ce2 ≤ mc) (h4 : sl2 ≤ ms) (hdg : decode cc pc = .ok (.invokevirtual idx, 3))
    (kk : ∀ x J, AW X nL ce2 sl2 w (f x J) (pc + 3) L st J) : AW X nL ce sl w (bndC F f) pc L stk I := by
  obtain ⟨p, l, e, R, s, m, args, below, meth, c, hs, Q⟩ := X
  obtain ⟨⟨hx, hb, hml, hown, hts⟩, hR, hK, hE, hlk0⟩ := S
  subst hR; subst hst; subst h1; subst h2
  intro r hr H locs ls a b hl
  obtain ⟨x0, J, hF, hr⟩ := bndC_some hr
  have a0 := a
  obtain ⟨av, cap, hP, hD, hw0, h34, hz⟩ := a
  have hg := kgw_get (hs := hs) (av := av) (cap := cap) (I := I) (k := 175) (by decide)
  rw [kgce_obj (k := 175) (ci := 0) (nf := 4) rfl (by decide), kgad_ne (by decide)] at hg
  have hE1 := hE.kept b.2.1
  refine va_callv (va_runU (C := RJ4) (As := As) (rest := st) ⟨hx, hb, hml, hown, hts⟩ (hM (x0, J) hF) (kg_CU (mc := mc1) (ms := ms1) (n := n) hts hU hlk (hsel hs args s hts hE) rfl rfl hRm) ⟨kgPc_blind, va_recv hK hP cl_J4.1 hg, fun U hU hW => ⟨rfl, by rw [hU]; exact a0, hK.moved hW.alike, by rw [hU]; exact hE1.warm hW⟩⟩
    rfl hn hl.1 rfl (lv_room hcat) hdg ⟨h3, h4⟩) b (fun q _ h => h) (fun _ h => h) (fun u t H1 locs1 ht hvm hw hB hz1 hk1 hS => ?_)
  · subst ht
    exact kk x0 J r hr t.heap locs1 ls hB.1 hS hl

theorem aw_cUe (S : Cx X cc own nL fr lo mc ms) {y : MethodName} {bytes : ByteArray} {maxL n fr1 lo1 mc1 ms1 idx : Nat} {rt : Option FieldType} (As : List Value) {q : Int32}
    (hU : kgUW y bytes maxL rt n) (hsel : kgSel y) (hlk : Cond.methodLink own idx y ∈ kg_U) (hM : Sde (kgHs X) (kgL X) y (kg_ws y bytes maxL rt) { frames := fr1, cells := mc1, slots := ms1, locals := lo1 } (.ref (kgO (kgHs X) 175) :: As) I q)
    (hRm : fr1 + 1 ≤ fr ∧ 8 + (maxL + 11) + lo1 ≤ lo) (hn : As.length = n) (hst : stk = As.reverse ++ .ref (kgO (kgHs X) 175) :: st) (hcat : (st.map fun v => v.category).sum ≤ 8) (h1 : ce + mc1 = ce2) (h2 : sl + ms1 = sl2) (h3 : ce2 ≤ mc) (h4 : sl2 ≤ ms) (hdg : decode cc pc = .ok (.invokevirtual idx, 3))
    (kk : ∀ av cap : Nat, q.toInt ≤ cap → (cap = 16 ∨ cap = 34) → AW X nL ce2 sl2 (some (av, cap)) fin (pc + 3) L st I) : AW X nL ce sl none fin pc L stk I := by
  obtain ⟨p, l, e, R, s, m, args, below, meth, c, hs, Q⟩ := X
  obtain ⟨⟨hx, hb, hml, hown, hts⟩, hR, hK, hE, hlk0⟩ := S
  subst hR; subst hst; subst h1; subst h2
  intro r hr H locs ls a b hl
  have a0 := a
  obtain ⟨av, cap, hP, hD, hw0, h34, hz⟩ := a
  have hg := kgw_get (hs := hs) (av := av) (cap := cap) (I := I) (k := 175) (by decide)
  rw [kgce_obj (k := 175) (ci := 0) (nf := 4) rfl (by decide), kgad_ne (by decide)] at hg
  have hE1 := hE.kept b.2.1
  refine va_callv (va_runU (C := RJ4) (As := As) (rest := st) ⟨hx, hb, hml, hown, hts⟩ hM (kg_CU (mc := mc1) (ms := ms1) (n := n) hts hU hlk (hsel hs args s hts hE) rfl rfl hRm) ⟨kgPc_blind, va_recv hK hP cl_J4.1 hg, fun U hU hW => ⟨rfl, by rw [hU]; exact a0, hK.moved hW.alike, by rw [hU]; exact hE1.warm hW⟩⟩
    rfl hn hl.1 rfl (lv_room hcat) hdg ⟨h3, h4⟩) b (fun q _ h => h) (fun _ h => h) (fun u t H1 locs1 ht hvm hw hB hz1 hk1 hS => ?_)
  · subst ht
    exact kk u.1 u.2 hw.1 hw.2 r hr t.heap locs1 ls hB.1 hS hl

theorem aw_cPi (S : Cx X cc own nL fr lo mc ms) {y : MethodName} {bytes : ByteArray} {maxL n fr1 lo1 mc1 ms1 idx : Nat} {rt : Option FieldType} (As : List Value) {F : Option (Int32 × kgM)} {f : Int32 → kgM → Option ρ}
    (hU : kgUW y bytes maxL rt n) (hsup : Cond.superclass own y.cls ∈ kg_U) (hno : y.name ≠ "<init>") (hown4 : own = RJ4) (hlk : Cond.methodLink own idx y ∈ kg_U) (hM : Sdi (kgHs X) (kgL X) w y (kg_ws y bytes maxL rt) { frames := fr1, cells := mc1, slots := ms1, locals := lo1 } (.ref (kgO (kgHs X) 175) :: As) I F)
    (hRm : fr1 + 1 ≤ fr ∧ 8 + (maxL + 11) + lo1 ≤ lo) (hn : As.length = n) (hst : stk = As.reverse ++ .ref (kgO (kgHs X) 175) :: st) (hcat : (st.map fun v => v.category).sum ≤ 8) (h1 : ce + mc1 = ce2) (h2 : sl + ms1 = sl2) (h3 : ce2 ≤ mc) (h4 : sl2 ≤ ms) (hdg : decode cc pc = .ok (.invokespecial idx, 3))
    (kk : ∀ x J, AW X nL ce2 sl2 w (f x J) (pc + 3) L (.int x :: st) J) : AW X nL ce sl w (bndC F f) pc L stk I := by
  obtain ⟨p, l, e, R, s, m, args, below, meth, c, hs, Q⟩ := X
  obtain ⟨⟨hx, hb, hml, hown, hts⟩, hR, hK, hE, hlk0⟩ := S
  subst hR; subst hst; subst h1; subst h2
  intro r hr H locs ls a b hl
  obtain ⟨x0, J, hF, hr⟩ := bndC_some hr
  have a0 := a
  obtain ⟨av, cap, hP, hD, hw0, h34, hz⟩ := a
  have hg := kgw_get (hs := hs) (av := av) (cap := cap) (I := I) (k := 175) (by decide)
  rw [kgce_obj (k := 175) (ci := 0) (nf := 4) rfl (by decide), kgad_ne (by decide)] at hg
  have hE1 := hE.kept b.2.1
  obtain ⟨cC, hat⟩ := kg_at hts
  refine va_calli (va_runSU (C := RJ4) (As := As) (rest := st) hat ⟨hx, hb, hml, hown, hts⟩ (hM (x0, J) hF) (kg_CS (mc := mc1) (ms := ms1) (n := n) hts hU hlk hsup hno rfl rfl hRm) ⟨kgPc_blind, va_recv hK hP cl_J4.1 hg, fun U hU hW => ⟨rfl, by rw [hU]; exact a0, hK.moved hW.alike, by rw [hU]; exact hE1.warm hW⟩⟩
    rfl hn hl.1 rfl (lv_room hcat) hdg ⟨h3, h4⟩) b (fun q _ h => h) (fun _ h => h) (fun x u t H1 locs1 ht hvm hw hB hz1 hk1 hS => ?_)
  · cases hw
    subst ht
    exact kk x0 J r hr t.heap locs1 ls hB.1 hS hl

theorem aw_cPv (S : Cx X cc own nL fr lo mc ms) {y : MethodName} {bytes : ByteArray} {maxL n fr1 lo1 mc1 ms1 idx : Nat} {rt : Option FieldType} (As : List Value) {F : Option (Int32 × kgM)} {f : Int32 → kgM → Option ρ}
    (hU : kgUW y bytes maxL rt n) (hsup : Cond.superclass own y.cls ∈ kg_U) (hno : y.name ≠ "<init>") (hown4 : own = RJ4) (hlk : Cond.methodLink own idx y ∈ kg_U) (hM : Sdv (kgHs X) (kgL X) w y (kg_ws y bytes maxL rt) { frames := fr1, cells := mc1, slots := ms1, locals := lo1 } (.ref (kgO (kgHs X) 175) :: As) I F)
    (hRm : fr1 + 1 ≤ fr ∧ 8 + (maxL + 11) + lo1 ≤ lo) (hn : As.length = n) (hst : stk = As.reverse ++ .ref (kgO (kgHs X) 175) :: st) (hcat : (st.map fun v => v.category).sum ≤ 8) (h1 : ce + mc1 = ce2) (h2 : sl + ms1 = sl2) (h3 : ce2 ≤ mc) (h4 : sl2 ≤ ms) (hdg : decode cc pc = .ok (.invokespecial idx, 3))
    (kk : ∀ x J, AW X nL ce2 sl2 w (f x J) (pc + 3) L st J) : AW X nL ce sl w (bndC F f) pc L stk I := by
  obtain ⟨p, l, e, R, s, m, args, below, meth, c, hs, Q⟩ := X
  obtain ⟨⟨hx, hb, hml, hown, hts⟩, hR, hK, hE, hlk0⟩ := S
  subst hR; subst hst; subst h1; subst h2
  intro r hr H locs ls a b hl
  obtain ⟨x0, J, hF, hr⟩ := bndC_some hr
  have a0 := a
  obtain ⟨av, cap, hP, hD, hw0, h34, hz⟩ := a
  have hg := kgw_get (hs := hs) (av := av) (cap := cap) (I := I) (k := 175) (by decide)
  rw [kgce_obj (k := 175) (ci := 0) (nf := 4) rfl (by decide), kgad_ne (by decide)] at hg
  have hE1 := hE.kept b.2.1
  obtain ⟨cC, hat⟩ := kg_at hts
  refine va_callv (va_runSU (C := RJ4) (As := As) (rest := st) hat ⟨hx, hb, hml, hown, hts⟩ (hM (x0, J) hF) (kg_CS (mc := mc1) (ms := ms1) (n := n) hts hU hlk hsup hno rfl rfl hRm) ⟨kgPc_blind, va_recv hK hP cl_J4.1 hg, fun U hU hW => ⟨rfl, by rw [hU]; exact a0, hK.moved hW.alike, by rw [hU]; exact hE1.warm hW⟩⟩
    rfl hn hl.1 rfl (lv_room hcat) hdg ⟨h3, h4⟩) b (fun q _ h => h) (fun _ h => h) (fun u t H1 locs1 ht hvm hw hB hz1 hk1 hS => ?_)
  · subst ht
    exact kk x0 J r hr t.heap locs1 ls hB.1 hS hl

theorem aw_cPr (S : Cx X cc own nL fr lo mc ms) {y : MethodName} {bytes : ByteArray} {maxL n fr1 lo1 mc1 ms1 idx : Nat} {rt : Option FieldType} (As : List Value) {F : Option (Int32 × kgM)} {f : Int32 → kgM → Option ρ}
    (hU : kgUW y bytes maxL rt n) (hsup : Cond.superclass own y.cls ∈ kg_U) (hno : y.name ≠ "<init>") (hown4 : own = RJ4) (hlk : Cond.methodLink own idx y ∈ kg_U) (hM : Sdr (kgHs X) (kgL X) y (kg_ws y bytes maxL rt) { frames := fr1, cells := mc1, slots := ms1, locals := lo1 } (.ref (kgO (kgHs X) 175) :: As) I F)
    (hRm : fr1 + 1 ≤ fr ∧ 8 + (maxL + 11) + lo1 ≤ lo) (hn : As.length = n) (hst : stk = As.reverse ++ .ref (kgO (kgHs X) 175) :: st) (hcat : (st.map fun v => v.category).sum ≤ 8) (h1 : ce + mc1 = ce2) (h2 : sl + ms1 = sl2) (h3 : ce2 ≤ mc) (h4 : sl2 ≤ ms) (hdg : decode cc pc = .ok (.invokespecial idx, 3))
    (kk : ∀ x J, AW X nL ce2 sl2 none (f x J) (pc + 3) L (.ref (kgO (kgHs X) 175) :: st) J) : AW X nL ce sl none (bndC F f) pc L stk I := by
  obtain ⟨p, l, e, R, s, m, args, below, meth, c, hs, Q⟩ := X
  obtain ⟨⟨hx, hb, hml, hown, hts⟩, hR, hK, hE, hlk0⟩ := S
  subst hR; subst hst; subst h1; subst h2
  intro r hr H locs ls a b hl
  obtain ⟨x0, J, hF, hr⟩ := bndC_some hr
  have a0 := a
  obtain ⟨av, cap, hP, hD, hw0, h34, hz⟩ := a
  have hg := kgw_get (hs := hs) (av := av) (cap := cap) (I := I) (k := 175) (by decide)
  rw [kgce_obj (k := 175) (ci := 0) (nf := 4) rfl (by decide), kgad_ne (by decide)] at hg
  have hE1 := hE.kept b.2.1
  obtain ⟨cC, hat⟩ := kg_at hts
  refine va_callr (va_runSU (C := RJ4) (As := As) (rest := st) hat ⟨hx, hb, hml, hown, hts⟩ (hM (x0, J) hF) (kg_CS (mc := mc1) (ms := ms1) (n := n) hts hU hlk hsup hno rfl rfl hRm) ⟨kgPc_blind, va_recv hK hP cl_J4.1 hg, fun U hU hW => ⟨rfl, by rw [hU]; exact a0, hK.moved hW.alike, by rw [hU]; exact hE1.warm hW⟩⟩
    rfl hn hl.1 rfl (lv_room hcat) hdg ⟨h3, h4⟩) b (fun q _ h => h) (fun _ h => h) (fun u a1 t H1 locs1 ht hvm hw hB hz1 hk1 hS => ?_)
  · subst ht
    obtain ⟨rfl, hB1, hB2⟩ := hB
    exact kk x0 J r hr t.heap locs1 ls hB1 hS hl

end SBC
theorem aw_cVr {ρ : Type} {X : kgCX ρ} {cc : ByteArray} {own : String} {nL fr lo mc ms ce sl ce2 sl2 : Nat} {pc : Nat} {L : List (Nat × Value)} {st stk : List Value} {I : kgM} (S : Cx X cc own nL fr lo mc ms) (k : Nat) {y : MethodName} {bytes : ByteArray} {maxL n fr1 lo1 mc1 ms1 idx ci nf : Nat} {rt : Option FieldType} {T : u_T} (As : List Value) {F : Option (Int32 × kgM)} {f : Int32 → kgM → Option ρ}
    (hV : kgVW y bytes maxL rt n) (hc : kgCl ci nf y.cls T) (hk : kgKD k = (ci, nf)) (hk2 : k < 177) (hlk : Cond.methodLink own idx y ∈ kg_U) (hM : Sdr (kgHs X) (kgL X) y (kg_ws y bytes maxL rt) { frames := fr1, cells := mc1, slots := ms1, locals := lo1 } (.ref (kgO (kgHs X) k) :: As) I F)
    (hRm : fr1 + 1 ≤ fr ∧ 8 + (maxL + 11) + lo1 ≤ lo) (hn : As.length = n) (hst : stk = As.reverse ++ .ref (kgO (kgHs X) k) :: st) (hcat : (st.map fun v => v.category).sum ≤ 8) (h1 : ce + mc1 = ce2) (h2 : sl + ms1 = sl2) (h3 : ce2 ≤ mc) (h4 : sl2 ≤ ms) (hdg : decode cc pc = .ok (.invokevirtual idx, 3))
    (kk : ∀ x J, AW X nL ce2 sl2 none (f x J) (pc + 3) L (.ref (kgO (kgHs X) 175) :: st) J) : AW X nL ce sl none (bndC F f) pc L stk I := by
  obtain ⟨p, l, e, R, s, m, args, below, meth, c, hs, Q⟩ := X
  obtain ⟨⟨hx, hb, hml, hown, hts⟩, hR, hK, hE, hlk0⟩ := S
  subst hR; subst hst; subst h1; subst h2
  intro r hr H locs ls a b hl
  obtain ⟨x0, J, hF, hr⟩ := bndC_some hr
  have a0 := a
  obtain ⟨av, cap, hP, hD, hw0, h34, hz⟩ := a
  have hci : ci ≠ 12 := by have := hc.2.2; omega
  have hg := kgw_get (hs := hs) (av := av) (cap := cap) (I := I) hk2
  rw [kgce_obj hk hc.2.2, kgad_ne (kg_ne176 hk hci)] at hg
  have hE1 := hE.kept b.2.1
  refine va_callr (va_runV (C := y.cls) (As := As) (rest := st) ⟨hx, hb, hml, hown, hts⟩ (hM (x0, J) hF)
    (cwV (mc := mc1) (ms := ms1) n hts (kgG (fun w hw => ?_)) rfl rfl rfl ⟨rfl, hV.2.2.2.1.1, hV.2.2.2.1.2, hV.2.2.2.2⟩ hRm) ⟨kgPc_blind, va_recv hK hP hc.1 hg, fun U hU hW => ⟨rfl, by rw [hU]; exact a0, hK.moved hW.alike, by rw [hU]; exact hE1.warm hW⟩⟩
    rfl hn hl.1 rfl (lv_room hcat) hdg ⟨h3, h4⟩) b (fun q _ h => h) (fun _ h => h) (fun u a1 t H1 locs1 ht hvm hw hB hz1 hk1 hS => ?_)
  · unfold wsV at hw
    rcases List.mem_append.mp hw with hw | hw
    · simp only [List.mem_cons, List.not_mem_nil, or_false] at hw
      rcases hw with rfl | rfl | rfl | rfl
      · exact hlk
      · exact hV.1.1
      · exact hV.1.2
      · exact hV.2.1
    · rcases List.mem_cons.mp hw with rfl | hw
      · exact hV.2.2.1
      · exact hw
  · subst ht
    obtain ⟨rfl, hB1, hB2⟩ := hB
    exact kk x0 J r hr t.heap locs1 ls hB1 hS hl

