/-! numbers with a point: answers of type double and float -/
def kgQd (hs : kgH) (w : Option (Nat × Nat)) (r : UInt64 × kgM) : Array Value → State → Outcome → State → Prop := va_Qd (fun x (_ : Unit) => x = r.1) (fun _ t => kgHR hs w r.2 t.heap ∧ kgKX hs t) (kgA hs)
def Sdd (hs : kgH) (l : Launch) (w : Option (Nat × Nat)) (y : MethodName) (ws : List Cond) (rm : Room) (av : List Value) (I : kgM) (fin : Option (UInt64 × kgM)) : Prop :=
  ∀ r, fin = some r → Met l y ws rm (kgPc hs w av I) (kgQd hs w r) rm.cells rm.slots (kgA hs)
def Qxd (X : kgCX (UInt64 × kgM)) (w : Option (Nat × Nat)) : Prop := match X with
  | (p, l, e, R, s, m, args, below, meth, c, hs, Q) => meth.sig.returnType = some .double ∧ Q = fun r => MQ below (kgQd hs w r) args s R.cells R.slots (kgA hs)
theorem aw_retd {X : kgCX (UInt64 × kgM)} {cc : ByteArray} {own : String} {nL fr lo mc ms ce sl : Nat} {pc : Nat} {L : List (Nat × Value)} {I : kgM} {w : Option (Nat × Nat)} (S : Cx X cc own nL fr lo mc ms) {x : UInt64} (hQ : Qxd X w) (h1 : ce ≤ mc) (h2 : sl ≤ ms) (hdg : decode cc pc = .ok (.dreturn, 1)) : AW X nL ce sl w (some (x, I)) pc L [.double x] I := by
  obtain ⟨p, l, e, R, s, m, args, below, meth, c, hs, Q⟩ := X
  obtain ⟨⟨hx, hb, hml, hown, hts⟩, hR, hK, hE, hlk0⟩ := S
  obtain ⟨hrt, hQ⟩ := hQ
  subst hQ; subst hR
  intro r hr H locs ls a b hl
  cases hr
  refine W.widen (k := mc) (n := ms) h1 h2 ?_
  exact W.dret hx hb hrt (fun t ht hW => ⟨⟨x, (), rfl, rfl, by rw [ht]; exact a, hK.moved hW.alike⟩, b.F ht⟩) b.2.2 hdg hlk0
def kn64 (r : UInt64) : Bool := decide (r &&& 0x7fffffffffffffff ≤ 0x7ff0000000000000)
theorem aw_i2d {ρ : Type} {X : kgCX ρ} {cc : ByteArray} {own : String} {nL fr lo mc ms ce sl : Nat} {fin : Option ρ} {pc : Nat} {L : List (Nat × Value)} {st : List Value} {I : kgM} {w : Option (Nat × Nat)} (S : Cx X cc own nL fr lo mc ms) {x : Int32} (hdg : decode cc pc = .ok (.i2d, 1)) (k : AW X nL ce sl w fin (pc + 1) L (.double (FP.i2d x) :: st) I) : AW X nL ce sl w fin pc L (.int x :: st) I := by
  obtain ⟨p, l, e, R, s, m, args, below, meth, c, hs, Q⟩ := X
  obtain ⟨⟨hx, hb, hml, hown, hts⟩, hR, hK, hE, hlk⟩ := S
  intro r hr H locs ls a b hl
  exact lv_i2d hx hb hdg (k r hr H locs ls a b hl)
theorem aw_dconst {ρ : Type} {X : kgCX ρ} {cc : ByteArray} {own : String} {nL fr lo mc ms ce sl : Nat} {fin : Option ρ} {pc : Nat} {L : List (Nat × Value)} {st : List Value} {I : kgM} {w : Option (Nat × Nat)} (S : Cx X cc own nL fr lo mc ms) (hdg : decode cc pc = .ok (.dconst 0, 1)) (k : AW X nL ce sl w fin (pc + 1) L (.double FP.dconst0 :: st) I) : AW X nL ce sl w fin pc L st I := by
  obtain ⟨p, l, e, R, s, m, args, below, meth, c, hs, Q⟩ := X
  obtain ⟨⟨hx, hb, hml, hown, hts⟩, hR, hK, hE, hlk⟩ := S
  intro r hr H locs ls a b hl
  exact lv_dconst0 hx hb hdg (k r hr H locs ls a b hl)
theorem aw_ddiv {ρ : Type} {X : kgCX ρ} {cc : ByteArray} {own : String} {nL fr lo mc ms ce sl : Nat} {fin : Option ρ} {pc : Nat} {L : List (Nat × Value)} {st : List Value} {I : kgM} {w : Option (Nat × Nat)} (S : Cx X cc own nL fr lo mc ms) {x y : UInt64} (hdg : decode cc pc = .ok (.ddiv, 1)) (k : AW X nL ce sl w fin (pc + 1) L (.double (FP.ddiv x y) :: st) I) : AW X nL ce sl w (ck (kn64 (FP.ddiv x y)) fin) pc L (.double y :: .double x :: st) I := by
  obtain ⟨p, l, e, R, s, m, args, below, meth, c, hs, Q⟩ := X
  obtain ⟨⟨hx, hb, hml, hown, hts⟩, hR, hK, hE, hlk⟩ := S
  intro r hr H locs ls a b hl
  obtain ⟨hc, hr⟩ := ck_some hr
  exact lv_ddiv hx hb hdg (by unfold vf_n64; exact of_decide_eq_true hc) (k r hr H locs ls a b hl)
theorem sd_d {y : MethodName} {bytes : ByteArray} {maxL fr lo mc ms : Nat} {av : kgH → List Value} {I : kgM} {w : Option (Nat × Nat)} {F : Option (UInt64 × kgM)} (hy : plainFor y = true) (hln : ∀ hs, (lg_sl (av hs)).length ≤ maxL) (h : ∀ X : kgCX (UInt64 × kgM), Cx X bytes y.cls maxL fr lo mc ms → Qxd X w → AW X maxL 0 0 w F 0 (lv_args 0 (av (kgHs X))) [] I) (hs : kgH) (l : Launch) :
    Sdd hs l w y (kg_ws y bytes maxL (some .double)) { frames := fr, cells := mc, slots := ms, locals := lo } (av hs) I F := by
  intro r hr
  refine va_MetF (cc := bytes) (maxL := maxL) (ret := some .double) hy rfl ?_
  intro p e s m args below meth c s₁ B hml hv
  obtain ⟨rfl, hH, hK, hE⟩ := hv
  have hts := atoms_spec (ws := kg_ws y bytes maxL (some .double)) B.pre
  have hl := lv_entry (av hs) (n := maxL) (hln hs)
  rw [lg_entry_eq]
  exact h (p, l, e, { frames := fr, cells := mc, slots := ms, locals := lo }, s, m, (av hs).toArray, below, meth, c, hs, fun r => MQ below (kgQd hs w r) (av hs).toArray s mc ms (kgA hs))
    ⟨⟨B.exec, B.bytes, hml, findClass_of_methodNamed B.named, fun w hw => hts w (List.mem_cons_of_mem _ hw)⟩, rfl, hK, hE, B.notSynchronized⟩ ⟨B.returns, rfl⟩ r hr s.heap [] _ hH va_S.rf hl
theorem aw_cVd {ρ : Type} {X : kgCX ρ} {cc : ByteArray} {own : String} {nL fr lo mc ms ce sl ce2 sl2 : Nat} {pc : Nat} {L : List (Nat × Value)} {st stk : List Value} {I : kgM} {w : Option (Nat × Nat)} (S : Cx X cc own nL fr lo mc ms) (k : Nat) {y : MethodName} {bytes : ByteArray} {maxL n fr1 lo1 mc1 ms1 idx ci nf : Nat} {rt : Option FieldType} {T : u_T} (As : List Value) {F : Option (UInt64 × kgM)} {f : UInt64 → kgM → Option ρ}
    (hV : kgVW y bytes maxL rt n) (hc : kgCl ci nf y.cls T) (hk : kgKD k = (ci, nf)) (hk2 : k < 177) (hlk : Cond.methodLink own idx y ∈ kg_U) (hM : Sdd (kgHs X) (kgL X) w y (kg_ws y bytes maxL rt) { frames := fr1, cells := mc1, slots := ms1, locals := lo1 } (.ref (kgO (kgHs X) k) :: As) I F)
    (hRm : fr1 + 1 ≤ fr ∧ 8 + (maxL + 11) + lo1 ≤ lo) (hn : As.length = n) (hst : stk = As.reverse ++ .ref (kgO (kgHs X) k) :: st) (hcat : (st.map fun v => v.category).sum ≤ 8) (h1 : ce + mc1 = ce2) (h2 : sl + ms1 = sl2) (h3 : ce2 ≤ mc) (h4 : sl2 ≤ ms) (hdg : decode cc pc = .ok (.invokevirtual idx, 3))
    (kk : ∀ x J, AW X nL ce2 sl2 w (f x J) (pc + 3) L (.double x :: st) J) : AW X nL ce sl w (bndC F f) pc L stk I := by
  obtain ⟨p, l, e, R, s, m, args, below, meth, c, hs, Q⟩ := X
  obtain ⟨⟨hx, hb, hml, hown, hts⟩, hR, hK, hE, hlk0⟩ := S
  subst hR; subst hst; subst h1; subst h2
  intro r hr H locs ls a b hl
  obtain ⟨x0, J, hF, hr⟩ := bndC_some hr
  have a0 := a
  obtain ⟨av, cap, hP, hD, hw0, h34, hz⟩ := a
  have hci : ci ≠ 12 := by have := hc.2.2; omega
  have hg := kgw_get (hs := hs) (av := av) (cap := cap) (I := I) hk2
  rw [kgce_obj hk hc.2.2, kgad_ne (kg_ne176 hk hci)] at hg
  have hE1 := hE.kept b.2.1
  refine va_calld (va_runV (C := y.cls) (As := As) (rest := st) ⟨hx, hb, hml, hown, hts⟩ (hM (x0, J) hF)
    (cwV (mc := mc1) (ms := ms1) n hts (kgG (fun w hw => ?_)) rfl rfl rfl ⟨rfl, hV.2.2.2.1.1, hV.2.2.2.1.2, hV.2.2.2.2⟩ hRm) ⟨kgPc_blind, va_recv hK hP hc.1 hg, fun U hU hW => ⟨rfl, by rw [hU]; exact a0, hK.moved hW.alike, by rw [hU]; exact hE1.warm hW⟩⟩
    rfl hn hl.1 rfl (lv_room hcat) hdg ⟨h3, h4⟩) b (fun q _ h => h) (fun _ h => h) (fun x u t H1 locs1 ht hvm hw hB hz1 hk1 hS => ?_)
  · unfold wsV at hw
    rcases List.mem_append.mp hw with hw | hw
    · simp only [List.mem_cons, List.not_mem_nil, or_false] at hw
      rcases hw with rfl | rfl | rfl | rfl
      · exact hlk
      · exact hV.1.1
      · exact hV.1.2
      · exact hV.2.1
    · rcases List.mem_cons.mp hw with rfl | hw
      · exact hV.2.2.1
      · exact hw
  · cases hw
    subst ht
    exact kk x0 J r hr t.heap locs1 ls hB.1 hS hl

def kgQf (hs : kgH) (w : Option (Nat × Nat)) (r : UInt32 × kgM) : Array Value → State → Outcome → State → Prop := va_Qf (fun x (_ : Unit) => x = r.1) (fun _ t => kgHR hs w r.2 t.heap ∧ kgKX hs t) (kgA hs)
def Sdf (hs : kgH) (l : Launch) (w : Option (Nat × Nat)) (y : MethodName) (ws : List Cond) (rm : Room) (av : List Value) (I : kgM) (fin : Option (UInt32 × kgM)) : Prop :=
  ∀ r, fin = some r → Met l y ws rm (kgPc hs w av I) (kgQf hs w r) rm.cells rm.slots (kgA hs)
def Qxf (X : kgCX (UInt32 × kgM)) (w : Option (Nat × Nat)) : Prop := match X with
  | (p, l, e, R, s, m, args, below, meth, c, hs, Q) => meth.sig.returnType = some .float ∧ Q = fun r => MQ below (kgQf hs w r) args s R.cells R.slots (kgA hs)
theorem aw_retf {X : kgCX (UInt32 × kgM)} {cc : ByteArray} {own : String} {nL fr lo mc ms ce sl : Nat} {pc : Nat} {L : List (Nat × Value)} {I : kgM} {w : Option (Nat × Nat)} (S : Cx X cc own nL fr lo mc ms) {x : UInt32} (hQ : Qxf X w) (h1 : ce ≤ mc) (h2 : sl ≤ ms) (hdg : decode cc pc = .ok (.freturn, 1)) : AW X nL ce sl w (some (x, I)) pc L [.float x] I := by
  obtain ⟨p, l, e, R, s, m, args, below, meth, c, hs, Q⟩ := X
  obtain ⟨⟨hx, hb, hml, hown, hts⟩, hR, hK, hE, hlk0⟩ := S
  obtain ⟨hrt, hQ⟩ := hQ
  subst hQ; subst hR
  intro r hr H locs ls a b hl
  cases hr
  refine W.widen (k := mc) (n := ms) h1 h2 ?_
  exact W.fret hx hb hrt (fun t ht hW => ⟨⟨x, (), rfl, rfl, by rw [ht]; exact a, hK.moved hW.alike⟩, b.F ht⟩) b.2.2 hdg hlk0
def kn32 (r : UInt32) : Bool := decide (r &&& 0x7fffffff ≤ 0x7f800000)
theorem aw_i2f {ρ : Type} {X : kgCX ρ} {cc : ByteArray} {own : String} {nL fr lo mc ms ce sl : Nat} {fin : Option ρ} {pc : Nat} {L : List (Nat × Value)} {st : List Value} {I : kgM} {w : Option (Nat × Nat)} (S : Cx X cc own nL fr lo mc ms) {x : Int32} (hdg : decode cc pc = .ok (.i2f, 1)) (k : AW X nL ce sl w fin (pc + 1) L (.float (FP.i2f x) :: st) I) : AW X nL ce sl w fin pc L (.int x :: st) I := by
  obtain ⟨p, l, e, R, s, m, args, below, meth, c, hs, Q⟩ := X
  obtain ⟨⟨hx, hb, hml, hown, hts⟩, hR, hK, hE, hlk⟩ := S
  intro r hr H locs ls a b hl
  exact lv_i2f hx hb hdg (k r hr H locs ls a b hl)
theorem aw_fconst {ρ : Type} {X : kgCX ρ} {cc : ByteArray} {own : String} {nL fr lo mc ms ce sl : Nat} {fin : Option ρ} {pc : Nat} {L : List (Nat × Value)} {st : List Value} {I : kgM} {w : Option (Nat × Nat)} (S : Cx X cc own nL fr lo mc ms) (hdg : decode cc pc = .ok (.fconst 0, 1)) (k : AW X nL ce sl w fin (pc + 1) L (.float FP.fconst0 :: st) I) : AW X nL ce sl w fin pc L st I := by
  obtain ⟨p, l, e, R, s, m, args, below, meth, c, hs, Q⟩ := X
  obtain ⟨⟨hx, hb, hml, hown, hts⟩, hR, hK, hE, hlk⟩ := S
  intro r hr H locs ls a b hl
  exact lv_fconst0 hx hb hdg (k r hr H locs ls a b hl)
theorem aw_fdiv {ρ : Type} {X : kgCX ρ} {cc : ByteArray} {own : String} {nL fr lo mc ms ce sl : Nat} {fin : Option ρ} {pc : Nat} {L : List (Nat × Value)} {st : List Value} {I : kgM} {w : Option (Nat × Nat)} (S : Cx X cc own nL fr lo mc ms) {x y : UInt32} (hdg : decode cc pc = .ok (.fdiv, 1)) (k : AW X nL ce sl w fin (pc + 1) L (.float (FP.fdiv x y) :: st) I) : AW X nL ce sl w (ck (kn32 (FP.fdiv x y)) fin) pc L (.float y :: .float x :: st) I := by
  obtain ⟨p, l, e, R, s, m, args, below, meth, c, hs, Q⟩ := X
  obtain ⟨⟨hx, hb, hml, hown, hts⟩, hR, hK, hE, hlk⟩ := S
  intro r hr H locs ls a b hl
  obtain ⟨hc, hr⟩ := ck_some hr
  exact lv_fdiv hx hb hdg (by unfold vf_n32; exact of_decide_eq_true hc) (k r hr H locs ls a b hl)
theorem sd_f {y : MethodName} {bytes : ByteArray} {maxL fr lo mc ms : Nat} {av : kgH → List Value} {I : kgM} {w : Option (Nat × Nat)} {F : Option (UInt32 × kgM)} (hy : plainFor y = true) (hln : ∀ hs, (lg_sl (av hs)).length ≤ maxL) (h : ∀ X : kgCX (UInt32 × kgM), Cx X bytes y.cls maxL fr lo mc ms → Qxf X w → AW X maxL 0 0 w F 0 (lv_args 0 (av (kgHs X))) [] I) (hs : kgH) (l : Launch) :
    Sdf hs l w y (kg_ws y bytes maxL (some .float)) { frames := fr, cells := mc, slots := ms, locals := lo } (av hs) I F := by
  intro r hr
  refine va_MetF (cc := bytes) (maxL := maxL) (ret := some .float) hy rfl ?_
  intro p e s m args below meth c s₁ B hml hv
  obtain ⟨rfl, hH, hK, hE⟩ := hv
  have hts := atoms_spec (ws := kg_ws y bytes maxL (some .float)) B.pre
  have hl := lv_entry (av hs) (n := maxL) (hln hs)
  rw [lg_entry_eq]
  exact h (p, l, e, { frames := fr, cells := mc, slots := ms, locals := lo }, s, m, (av hs).toArray, below, meth, c, hs, fun r => MQ below (kgQf hs w r) (av hs).toArray s mc ms (kgA hs))
    ⟨⟨B.exec, B.bytes, hml, findClass_of_methodNamed B.named, fun w hw => hts w (List.mem_cons_of_mem _ hw)⟩, rfl, hK, hE, B.notSynchronized⟩ ⟨B.returns, rfl⟩ r hr s.heap [] _ hH va_S.rf hl
theorem aw_cVf {ρ : Type} {X : kgCX ρ} {cc : ByteArray} {own : String} {nL fr lo mc ms ce sl ce2 sl2 : Nat} {pc : Nat} {L : List (Nat × Value)} {st stk : List Value} {I : kgM} {w : Option (Nat × Nat)} (S : Cx X cc own nL fr lo mc ms) (k : Nat) {y : MethodName} {bytes : ByteArray} {maxL n fr1 lo1 mc1 ms1 idx ci nf : Nat} {rt : Option FieldType} {T : u_T} (As : List Value) {F : Option (UInt32 × kgM)} {f : UInt32 → kgM → Option ρ}
    (hV : kgVW y bytes maxL rt n) (hc : kgCl ci nf y.cls T) (hk : kgKD k = (ci, nf)) (hk2 : k < 177) (hlk : Cond.methodLink own idx y ∈ kg_U) (hM : Sdf (kgHs X) (kgL X) w y (kg_ws y bytes maxL rt) { frames := fr1, cells := mc1, slots := ms1, locals := lo1 } (.ref (kgO (kgHs X) k) :: As) I F)
    (hRm : fr1 + 1 ≤ fr ∧ 8 + (maxL + 11) + lo1 ≤ lo) (hn : As.length = n) (hst : stk = As.reverse ++ .ref (kgO (kgHs X) k) :: st) (hcat : (st.map fun v => v.category).sum ≤ 8) (h1 : ce + mc1 = ce2) (h2 : sl + ms1 = sl2) (h3 : ce2 ≤ mc) (h4 : sl2 ≤ ms) (hdg : decode cc pc = .ok (.invokevirtual idx, 3))
    (kk : ∀ x J, AW X nL ce2 sl2 w (f x J) (pc + 3) L (.float x :: st) J) : AW X nL ce sl w (bndC F f) pc L stk I := by
  obtain ⟨p, l, e, R, s, m, args, below, meth, c, hs, Q⟩ := X
  obtain ⟨⟨hx, hb, hml, hown, hts⟩, hR, hK, hE, hlk0⟩ := S
  subst hR; subst hst; subst h1; subst h2
  intro r hr H locs ls a b hl
  obtain ⟨x0, J, hF, hr⟩ := bndC_some hr
  have a0 := a
  obtain ⟨av, cap, hP, hD, hw0, h34, hz⟩ := a
  have hci : ci ≠ 12 := by have := hc.2.2; omega
  have hg := kgw_get (hs := hs) (av := av) (cap := cap) (I := I) hk2
  rw [kgce_obj hk hc.2.2, kgad_ne (kg_ne176 hk hci)] at hg
  have hE1 := hE.kept b.2.1
  refine va_callf (va_runV (C := y.cls) (As := As) (rest := st) ⟨hx, hb, hml, hown, hts⟩ (hM (x0, J) hF)
    (cwV (mc := mc1) (ms := ms1) n hts (kgG (fun w hw => ?_)) rfl rfl rfl ⟨rfl, hV.2.2.2.1.1, hV.2.2.2.1.2, hV.2.2.2.2⟩ hRm) ⟨kgPc_blind, va_recv hK hP hc.1 hg, fun U hU hW => ⟨rfl, by rw [hU]; exact a0, hK.moved hW.alike, by rw [hU]; exact hE1.warm hW⟩⟩
    rfl hn hl.1 rfl (lv_room hcat) hdg ⟨h3, h4⟩) b (fun q _ h => h) (fun _ h => h) (fun x u t H1 locs1 ht hvm hw hB hz1 hk1 hS => ?_)
  · unfold wsV at hw
    rcases List.mem_append.mp hw with hw | hw
    · simp only [List.mem_cons, List.not_mem_nil, or_false] at hw
      rcases hw with rfl | rfl | rfl | rfl
      · exact hlk
      · exact hV.1.1
      · exact hV.1.2
      · exact hV.2.1
    · rcases List.mem_cons.mp hw with rfl | hw
      · exact hV.2.2.1
      · exact hw
  · cases hw
    subst ht
    exact kk x0 J r hr t.heap locs1 ls hB.1 hS hl

