/-! THE LAW'S OWN CELLS -/
theorem va_P_mem {D : va_G} {cl : List vw_C} {ws : va_W} {H : Heap} : va_P D cl ws H ↔ ∀ q ∈ ws, va_at D cl q H :=
  ⟨fun h q hq => by obtain ⟨k, hk⟩ := List.getElem?_of_mem hq; exact h k q hk, fun h k q hk => h q (List.mem_of_getElem? hk)⟩
theorem va_D_mem {A : Nat → Prop} {ws : va_W} : va_D A ws ↔ ws.Pairwise (fun p q => p.1 ≠ q.1) ∧ ∀ q ∈ ws, A q.1 := by
  constructor
  · intro h
    refine ⟨List.pairwise_iff_getElem.mpr (fun i j hi hj hij he => ?_), fun q hq => ?_⟩
    · have := h.1 i j _ _ (List.getElem?_eq_getElem hi) (List.getElem?_eq_getElem hj) he
      omega
    · obtain ⟨k, hk⟩ := List.getElem?_of_mem hq
      exact h.2 k q hk
  · intro h
    refine ⟨fun i j p q hi hj he => ?_, fun k q hk => h.2 q (List.mem_of_getElem? hk)⟩
    obtain ⟨hi1, hi2⟩ := List.getElem?_eq_some_iff.mp hi
    obtain ⟨hj1, hj2⟩ := List.getElem?_eq_some_iff.mp hj
    have hp := List.pairwise_iff_getElem.mp h.1
    rcases Nat.lt_trichotomy i j with h1 | h1 | h1
    · exact absurd (by rw [hi2, hj2]; exact he) (hp i j hi1 hj1 h1)
    · exact h1
    · exact absurd (by rw [hi2, hj2]; exact he.symm) (hp j i hj1 hi1 h1)
theorem kgCW.perm {hs : kgH} {ws ws2 : va_W} {H : Heap} (h : kgCW hs ws H) (hp : ws.Perm ws2) : kgCW hs ws2 H := by
  obtain ⟨h1, h2⟩ := h
  rw [va_P_mem] at h1
  rw [va_D_mem] at h2
  refine ⟨va_P_mem.mpr (fun q hq => h1 q (hp.symm.subset hq)), va_D_mem.mpr ⟨?_, fun q hq => h2.2 q (hp.symm.subset hq)⟩⟩
  exact hp.pairwise h2.1 (fun h => Ne.symm h)
theorem kgCW.sub {hs : kgH} {ws ws2 : va_W} {H : Heap} (h : kgCW hs ws H) (hp : ws2.Sublist ws) : kgCW hs ws2 H := by
  obtain ⟨h1, h2⟩ := h
  rw [va_P_mem] at h1
  rw [va_D_mem] at h2
  exact ⟨va_P_mem.mpr (fun q hq => h1 q (hp.subset hq)), va_D_mem.mpr ⟨h2.1.sublist hp, fun q hq => h2.2 q (hp.subset hq)⟩⟩
/-- where the cells stand, and the cells beside: put in -/
def kgHx (hs : kgH) (o : Nat → Nat) (xt : va_W) : kgH := (hs.1, hs.2.1, hs.2.2.1, hs.2.2.2.1, hs.2.2.2.2.1, hs.2.2.2.2.2.1, o, xt)
abbrev kgSx (hs : kgH) (xt : va_W) : kgH := kgHx hs (kgO hs) xt
def kgXo {ρ : Type} (X : kgCX ρ) (o : Nat → Nat) (xt : va_W) : kgCX ρ := match X with
  | (p, l, e, R, s, m, args, below, meth, c, hs, Q) => (p, l, e, R, s, m, args, below, meth, c, kgHx hs o xt, Q)
abbrev kgXs {ρ : Type} (X : kgCX ρ) (xt : va_W) : kgCX ρ := kgXo X (kgO (kgHs X)) xt
theorem Cx.xo {ρ : Type} {X : kgCX ρ} {cc : ByteArray} {own : String} {nL fr lo mc ms : Nat} {o : Nat → Nat} {xt : va_W} (S : Cx X cc own nL fr lo mc ms) : Cx (kgXo X o xt) cc own nL fr lo mc ms := by
  obtain ⟨p, l, e, R, s, m, args, below, meth, c, hs, Q⟩ := X
  exact S
theorem kgHs_xo {ρ : Type} {X : kgCX ρ} {o : Nat → Nat} {xt : va_W} : kgHs (kgXo X o xt) = kgHx (kgHs X) o xt := by
  obtain ⟨p, l, e, R, s, m, args, below, meth, c, hs, Q⟩ := X
  rfl
/-- the same walk with other words for the same heap -/
theorem aw_swap {ρ α : Type} {X : kgCX ρ} {nL ce sl : Nat} {fin : Option ρ} {pc : Nat} {L : List (Nat × Value)} {st : List Value} {I : kgM} {w : Option (Nat × Nat)} {o : Nat → Nat} {xt : α → va_W} {w2 : α → Option (Nat × Nat)} {J : kgM} {P : α → Prop} (h : ∀ H, kgHR (kgHs X) w I H → ∃ u : α, P u ∧ kgHR (kgHx (kgHs X) o (xt u)) (w2 u) J H) (k : ∀ u, P u → AW (kgXo X o (xt u)) nL ce sl (w2 u) fin pc L st J) : AW X nL ce sl w fin pc L st I := by
  obtain ⟨p, l, e, R, s, m, args, below, meth, c, hs, Q⟩ := X
  intro r hr H locs ls a b hl
  obtain ⟨u, hu, hh⟩ := h H a
  exact k u hu r hr H locs ls hh b hl
theorem kgHR_cw {hs : kgH} {I : kgM} {H : Heap} : kgHR hs none I H ↔ ∃ av cap : Nat, kgCW hs (kgw hs av cap I) H ∧ (cap = 16 ∨ cap = 34) ∧ ∀ q, kgZ (I 176) cap q :=
  ⟨fun ⟨av, cap, h1, h2, _, h3, h4⟩ => ⟨av, cap, ⟨h1, h2⟩, h3, fun q => h4 trivial q trivial⟩, fun ⟨av, cap, h1, h3, h4⟩ => ⟨av, cap, h1.1, h1.2, fun z h => (by cases h), h3, fun _ q _ => h4 q⟩⟩
theorem kgw_sx {hs : kgH} {xt : va_W} {av cap : Nat} {I : kgM} : kgw (kgSx hs xt) av cap I = kgw0 hs av cap I ++ xt := rfl
/-- cells that are not wanted any more -/
theorem aw_drop {ρ : Type} {X : kgCX ρ} {nL ce sl : Nat} {fin : Option ρ} {pc : Nat} {L : List (Nat × Value)} {st : List Value} {I : kgM} {xt xt2 : va_W} (h : xt2.Sublist xt) (k : AW (kgXs X xt2) nL ce sl none fin pc L st I) : AW (kgXs X xt) nL ce sl none fin pc L st I := by
  obtain ⟨p, l, e, R, s, m, args, below, meth, c, hs, Q⟩ := X
  intro r hr H locs ls a b hl
  refine k r hr H locs ls ?_ b hl
  obtain ⟨av, cap, h1, h3, h4⟩ := kgHR_cw.mp a
  exact kgHR_cw.mpr ⟨av, cap, h1.sub (List.Sublist.append (List.Sublist.refl _) h), h3, h4⟩
theorem aw_order {ρ : Type} {X : kgCX ρ} {nL ce sl : Nat} {fin : Option ρ} {pc : Nat} {L : List (Nat × Value)} {st : List Value} {I : kgM} {xt xt2 : va_W} (h : xt.Perm xt2) (k : AW (kgXs X xt2) nL ce sl none fin pc L st I) : AW (kgXs X xt) nL ce sl none fin pc L st I := by
  obtain ⟨p, l, e, R, s, m, args, below, meth, c, hs, Q⟩ := X
  intro r hr H locs ls a b hl
  refine k r hr H locs ls ?_ b hl
  obtain ⟨av, cap, h1, h3, h4⟩ := kgHR_cw.mp a
  exact kgHR_cw.mpr ⟨av, cap, h1.perm (List.Perm.append (List.Perm.refl _) h), h3, h4⟩
/-- the cells ahead of the line's two -/
def kgh5 (hs : kgH) (I : kgM) : va_W := (List.range 175).map (fun k => (kgO hs k, kgce hs 0 0 I k))
def lnc (hs : kgH) (q : Nat) (I : kgM) (av cap : Nat) : va_W := [(q, .inr (0, [.ref av, .int (I 175 1), .int (I 175 2), .int (I 175 3)])), (av, .inl (kgC hs 12, cap, .inl (I 176)))]
theorem kgw0_h5 {hs : kgH} {av cap : Nat} {I : kgM} : kgw0 hs av cap I = kgh5 hs I ++ lnc hs (kgO hs 175) I av cap := by
  unfold kgw0 kgh5
  rw [show (177 : Nat) = 175 + 1 + 1 from rfl, List.range_succ, List.range_succ, List.map_append, List.map_append, List.append_assoc]
  refine congrArg (fun z => z ++ _) ?_
  apply List.map_congr_left
  intro k hk
  have hk := List.mem_range.mp hk
  rw [kgad_ne (by omega), kgce_grow (a := av) (av := 0) (c := 0) (c2 := cap) (by omega) (by omega) (by omega)]
set_option maxRecDepth 100000 in
theorem kgRF_175 : ∀ k, k < 175 → ∀ j, j < 18 → kgRF k j ≠ some 175 := by decide +kernel
theorem kgh5_eq {hs hs2 : kgH} {I J : kgM} (hC : kgC hs2 = kgC hs) (hO : ∀ k, k ≠ 175 → kgO hs2 k = kgO hs k) (hI : ∀ k, k < 175 → J k = I k) : kgh5 hs2 J = kgh5 hs I := by
  apply List.map_congr_left
  intro k hk
  have hk := List.mem_range.mp hk
  rw [hO k (by omega)]
  congr 1
  unfold kgce
  rw [hC, hI k hk]
  by_cases h : (kgKD k).1 < 7
  · rw [if_pos h, if_pos h]
    congr 2
    apply List.map_congr_left
    intro j hj
    have hj2 := List.mem_range.mp hj
    have h18 := kgKD_18 k (by omega) h
    unfold kgfv
    cases e : kgRF k j with
    | none => simp only [hI k hk]
    | some k2 =>
      have h5 : k2 ≠ 175 := fun q => kgRF_175 k hk j (by omega) (by rw [e, q])
      simp only [kgad, hO k2 h5]
  · rw [if_neg h, if_neg h]
    by_cases h13 : (kgKD k).1 = 13
    · rw [if_pos h13, if_pos h13]
      have e9 : (fun j => some (kgO hs2 (33 + 15 * j))) = (fun j => some (kgO hs (33 + 15 * j))) := by
        funext j
        rw [hO _ (by omega)]
      rw [e9]
    · rw [if_neg h13, if_neg h13]
theorem perm_mid {α : Type} (h S C xa xb : List α) : ((h ++ S) ++ (xa ++ (C ++ xb))).Perm ((h ++ C) ++ (xa ++ (S ++ xb))) := by
  rw [List.append_assoc, List.append_assoc]
  refine List.Perm.append (List.Perm.refl _) ?_
  refine (List.perm_append_comm_assoc S xa (C ++ xb)).trans ?_
  refine (List.Perm.append (List.Perm.refl xa) (List.perm_append_comm_assoc S C xb)).trans ?_
  exact List.perm_append_comm_assoc xa C (S ++ xb)
/-- a builder of the law: what it holds -/
def sbc (hs : kgH) (q : Nat) (l : List Nat) (b cap : Nat) (g : Nat → Int32) (m : Int32) : va_W := [(q, .inr (0, [.ref b, .int 0, .int m, .int (nI l.length)])), (b, .inl (kgC hs 12, cap, .inl g))]
def sbK (l : List Nat) (cap : Nat) (g : Nat → Int32) : Prop := (cap = 16 ∨ cap = 34) ∧ (∀ j, kgZ g cap j) ∧ ∀ i, i < l.length → g i = nI (l.getD i 0)
/-- the memory with that builder in the line's place -/
def sbI (I : kgM) (l : List Nat) (g : Nat → Int32) (m : Int32) : kgM := fun k => if k = 175 then (fun j => if j = 2 then m else if j = 3 then nI l.length else 0) else if k = 176 then g else I k
theorem sbI_ln {I : kgM} {l : List Nat} {cap : Nat} {g : Nat → Int32} {m : Int32} (h : sbK l cap g) : LnC l (sbI I l g m) := ⟨rfl, rfl, fun i hi => h.2.2 i hi⟩
abbrev o175 (hs : kgH) (q : Nat) : Nat → Nat := fun k => if k = 175 then q else kgO hs k
theorem sb_in {hs : kgH} {xa xb : va_W} {q b cap2 : Nat} {l : List Nat} {g : Nat → Int32} {m : Int32} {I : kgM} (hk : sbK l cap2 g) (H : Heap) (h : kgHR (kgSx hs (xa ++ (sbc hs q l b cap2 g m ++ xb))) none I H) :
    ∃ u : Nat × Nat, ((u.2 = 16 ∨ u.2 = 34) ∧ ∀ j, kgZ (I 176) u.2 j) ∧ kgHR (kgHx hs (o175 hs q) (xa ++ (lnc hs (kgO hs 175) I u.1 u.2 ++ xb))) none (sbI I l g m) H := by
  obtain ⟨av, cap, h1, h3, h4⟩ := kgHR_cw.mp h
  refine ⟨(av, cap), ⟨h3, h4⟩, kgHR_cw.mpr ⟨b, cap2, ?_, hk.1, fun j => hk.2.1 j⟩⟩
  have e1 : kgw (kgHx hs (o175 hs q) (xa ++ (lnc hs (kgO hs 175) I av cap ++ xb))) b cap2 (sbI I l g m) = (kgh5 hs I ++ sbc hs q l b cap2 g m) ++ (xa ++ (lnc hs (kgO hs 175) I av cap ++ xb)) := by
    show kgw0 (kgHx hs (o175 hs q) _) b cap2 (sbI I l g m) ++ _ = _
    rw [kgw0_h5, kgh5_eq (hs := hs) (hs2 := kgHx hs (o175 hs q) (xa ++ (lnc hs (kgO hs 175) I av cap ++ xb))) (I := I) (J := sbI I l g m) rfl (fun k hk => if_neg hk) (fun k hk => by unfold sbI; rw [if_neg (by omega), if_neg (by omega)])]
    rfl
  rw [e1]
  rw [kgw_sx, kgw0_h5] at h1
  exact (show kgCW hs _ H from h1).perm (perm_mid _ _ _ _ _)
theorem sb_out {hs : kgH} {xa xb : va_W} {q av cap : Nat} {l : List Nat} {I J : kgM} (h3 : cap = 16 ∨ cap = 34) (h4 : ∀ j, kgZ (I 176) cap j) (hl : LnC l J) (hJ : ∀ k, k ≠ 175 → k ≠ 176 → J k = I k) (H : Heap) (h : kgHR (kgHx hs (o175 hs q) (xa ++ (lnc hs (kgO hs 175) I av cap ++ xb))) none J H) :
    ∃ u : (Nat × Nat) × (Nat → Int32) × Int32, sbK l u.1.2 u.2.1 ∧ kgHR (kgSx hs (xa ++ (sbc hs q l u.1.1 u.1.2 u.2.1 u.2.2 ++ xb))) none I H := by
  obtain ⟨b, cap2, h1, h5, h6⟩ := kgHR_cw.mp h
  refine ⟨((b, cap2), J 176, J 175 2), ⟨h5, h6, hl.2.2⟩, kgHR_cw.mpr ⟨av, cap, ?_, h3, h4⟩⟩
  have e1 : kgw (kgHx hs (o175 hs q) (xa ++ (lnc hs (kgO hs 175) I av cap ++ xb))) b cap2 J = (kgh5 hs I ++ sbc hs q l b cap2 (J 176) (J 175 2)) ++ (xa ++ (lnc hs (kgO hs 175) I av cap ++ xb)) := by
    show kgw0 (kgHx hs (o175 hs q) _) b cap2 J ++ _ = _
    rw [kgw0_h5, kgh5_eq (hs := hs) (hs2 := kgHx hs (o175 hs q) (xa ++ (lnc hs (kgO hs 175) I av cap ++ xb))) (I := I) (J := J) rfl (fun k hk => if_neg hk) (fun k hk => hJ k (by omega) (by omega))]
    congr 2
    show [(q, Sum.inr (0, [Value.ref b, .int (J 175 1), .int (J 175 2), .int (J 175 3)])), _] = _
    rw [hl.1, hl.2.1]
    rfl
  rw [e1] at h1
  rw [kgw_sx, kgw0_h5]
  exact (show kgCW hs _ H from h1).perm (perm_mid _ _ _ _ _)
