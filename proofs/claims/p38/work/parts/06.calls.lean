/-! Calls and ends. -/
def kgVW (y : MethodName) (bytes : ByteArray) (maxL : Nat) (rt : Option FieldType) (n : Nat) : Prop :=
  (Cond.instanceMethod y ∈ kg_U ∧ Cond.selects y.cls y y ∈ kg_U) ∧ Cond.initialized y.cls ∈ kg_U ∧ Cond.code y bytes maxL rt ∈ kg_U ∧ (y.cls ≠ "java/lang/invoke/MethodHandle" ∧ y.cls ≠ "java/lang/invoke/VarHandle") ∧ (parseMethodDescriptor y.desc).map (fun d => d.parameters.length) = some n
def kgSW (y : MethodName) (bytes : ByteArray) (maxL : Nat) (rt : Option FieldType) (n : Nat) : Prop :=
  Cond.static y ∈ kg_U ∧ Cond.initialized y.cls ∈ kg_U ∧ Cond.code y bytes maxL rt ∈ kg_U ∧ (y.cls ≠ "java/lang/invoke/MethodHandle" ∧ y.cls ≠ "java/lang/invoke/VarHandle") ∧ (parseMethodDescriptor y.desc).map (fun d => d.parameters.length) = some n
abbrev kg_ws (y : MethodName) (bytes : ByteArray) (maxL : Nat) (rt : Option FieldType) : List Cond := Cond.code y bytes maxL rt :: kg_U
theorem kgG {ws : List Cond} (h : ∀ w ∈ ws, w ∈ kg_U) : GoodIn kg_U ws := fun w hw => ⟨h w hw, good_of_word (tw_g (h w hw))⟩
def kgPc (hs : kgH) (w : Option (Nat × Nat)) (av : List Value) (I : kgM) : Array Value → State → Prop := va_Pc av (fun U => kgHR hs w I U.heap ∧ kgKX hs U ∧ kgE hs U U.heap)
theorem kgPc_blind {hs : kgH} {av : List Value} {I : kgM} {w : Option (Nat × Nat)} : FrameBlind (kgPc hs w av I) := fun a U g mk h => ⟨h.1, h.2.1, h.2.2.1.moved (u := U) (U := U.calling g mk a) (Vm.Alike.refl U.vm), kgE.same (u := U) (U := U.calling g mk a) rfl h.2.2.2⟩
def kgQi (hs : kgH) (w : Option (Nat × Nat)) (r : Int32 × kgM) : Array Value → State → Outcome → State → Prop := va_Qi (fun x (_ : Unit) => x = r.1) (fun _ t => kgHR hs w r.2 t.heap ∧ kgKX hs t) (kgA hs)
def kgQv (hs : kgH) (w : Option (Nat × Nat)) (r : Int32 × kgM) : Array Value → State → Outcome → State → Prop := va_Qv (fun (_ : Unit) => True) (fun _ t => kgHR hs w r.2 t.heap ∧ kgKX hs t) (kgA hs)
/-- **what a method does**: from the memory I, at the arguments av, whatever fin says it answers -/
def Sdi (hs : kgH) (l : Launch) (w : Option (Nat × Nat)) (y : MethodName) (ws : List Cond) (rm : Room) (av : List Value) (I : kgM) (fin : Option (Int32 × kgM)) : Prop :=
  ∀ r, fin = some r → Met l y ws rm (kgPc hs w av I) (kgQi hs w r) rm.cells rm.slots (kgA hs)
def Sdv (hs : kgH) (l : Launch) (w : Option (Nat × Nat)) (y : MethodName) (ws : List Cond) (rm : Room) (av : List Value) (I : kgM) (fin : Option (Int32 × kgM)) : Prop :=
  ∀ r, fin = some r → Met l y ws rm (kgPc hs w av I) (kgQv hs w r) rm.cells rm.slots (kgA hs)
section AWC
variable {ρ : Type} {X : kgCX ρ} {cc : ByteArray} {own : String} {nL fr lo mc ms ce sl ce2 sl2 : Nat} {fin A B : Option ρ} {pc : Nat} {L L2 : List (Nat × Value)} {st stk : List Value} {I : kgM} {w : Option (Nat × Nat)}
theorem aw_cVi (S : Cx X cc own nL fr lo mc ms) (k : Nat) {y : MethodName} {bytes : ByteArray} {maxL n fr1 lo1 mc1 ms1 idx ci nf : Nat} {rt : Option FieldType} {T : u_T} (As : List Value) {F : Option (Int32 × kgM)} {f : Int32 → kgM → Option ρ}
    (hV : kgVW y bytes maxL rt n) (hc : kgCl ci nf y.cls T) (hk : kgKD k = (ci, nf)) (hk2 : k < 177) (hlk : Cond.methodLink own idx y ∈ kg_U) (hM : Sdi (kgHs X) (kgL X) w y (kg_ws y bytes maxL rt) { frames := fr1, cells := mc1, slots := ms1, locals := lo1 } (.ref (kgO (kgHs X) k) :: As) I F)
    (hRm : fr1 + 1 ≤ fr ∧ 8 + (maxL + 11) + lo1 ≤ lo) (hn : As.length = n) (hst : stk = As.reverse ++ .ref (kgO (kgHs X) k) :: st) (hcat : (st.map fun v => v.category).sum ≤ 8) (h1 : ce + mc1 = ce2) (h2 : sl + ms1 = sl2) (h3 : ce2 ≤ mc) (h4 : sl2 ≤ ms) (hdg : decode cc pc = .ok (.invokevirtual idx, 3))
    (kk : ∀ x J, AW X nL ce2 sl2 w (f x J) (pc + 3) L (.int x :: st) J) : AW X nL ce sl w (bndC F f) pc L stk I := by
  obtain ⟨p, l, e, R, s, m, args, below, meth, c, hs, Q⟩ := X
  obtain ⟨⟨hx, hb, hml, hown, hts⟩, hR, hK, hE, hlk0⟩ := S
  subst hR; subst hst; subst h1; subst h2
  intro r hr H locs ls a b hl
  obtain ⟨x0, J, hF, hr⟩ := bndC_some hr
  have a0 := a
  obtain ⟨av, cap, hP, hD, hw0, h34, hz⟩ := a
  have hci : ci ≠ 12 := by have := hc.2.2; omega
  have hg := kgw_get (hs := hs) (av := av) (cap := cap) (I := I) hk2
  rw [kgce_obj hk hc.2.2, kgad_ne (kg_ne176 hk hci)] at hg
  have hE1 := hE.kept b.2.1
  refine va_calli (va_runV (C := y.cls) (As := As) (rest := st) ⟨hx, hb, hml, hown, hts⟩ (hM (x0, J) hF)
    (cwV (mc := mc1) (ms := ms1) n hts (kgG (fun w hw => ?_)) rfl rfl rfl ⟨rfl, hV.2.2.2.1.1, hV.2.2.2.1.2, hV.2.2.2.2⟩ hRm) ⟨kgPc_blind, va_recv hK hP hc.1 hg, fun U hU hW => ⟨rfl, by rw [hU]; exact a0, hK.moved hW.alike, by rw [hU]; exact hE1.warm hW⟩⟩
    rfl hn hl.1 rfl (lv_room hcat) hdg ⟨h3, h4⟩) b (fun q _ h => h) (fun _ h => h) (fun x u t H1 locs1 ht hvm hw hB hz1 hk1 hS => ?_)
  · unfold wsV at hw
    rcases List.mem_append.mp hw with hw | hw
    · simp only [List.mem_cons, List.not_mem_nil, or_false] at hw
      rcases hw with rfl | rfl | rfl | rfl
      · exact hlk
      · exact hV.1.1
      · exact hV.1.2
      · exact hV.2.1
    · rcases List.mem_cons.mp hw with rfl | hw
      · exact hV.2.2.1
      · exact hw
  · cases hw
    subst ht
    exact kk x0 J r hr t.heap locs1 ls hB.1 hS hl
theorem aw_cVv (S : Cx X cc own nL fr lo mc ms) (k : Nat) {y : MethodName} {bytes : ByteArray} {maxL n fr1 lo1 mc1 ms1 idx ci nf : Nat} {rt : Option FieldType} {T : u_T} (As : List Value) {F : Option (Int32 × kgM)} {f : Int32 → kgM → Option ρ}
    (hV : kgVW y bytes maxL rt n) (hc : kgCl ci nf y.cls T) (hk : kgKD k = (ci, nf)) (hk2 : k < 177) (hlk : Cond.methodLink own idx y ∈ kg_U) (hM : Sdv (kgHs X) (kgL X) w y (kg_ws y bytes maxL rt) { frames := fr1, cells := mc1, slots := ms1, locals := lo1 } (.ref (kgO (kgHs X) k) :: As) I F)
    (hRm : fr1 + 1 ≤ fr ∧ 8 + (maxL + 11) + lo1 ≤ lo) (hn : As.length = n) (hst : stk = As.reverse ++ .ref (kgO (kgHs X) k) :: st) (hcat : (st.map fun v => v.category).sum ≤ 8) (h1 : ce + mc1 = ce2) (h2 : sl + ms1 = sl2) (h3 : ce2 ≤ mc) (h4 : sl2 ≤ ms) (hdg : decode cc pc = .ok (.invokevirtual idx, 3))
    (kk : ∀ x J, AW X nL ce2 sl2 w (f x J) (pc + 3) L st J) : AW X nL ce sl w (bndC F f) pc L stk I := by
  obtain ⟨p, l, e, R, s, m, args, below, meth, c, hs, Q⟩ := X
  obtain ⟨⟨hx, hb, hml, hown, hts⟩, hR, hK, hE, hlk0⟩ := S
  subst hR; subst hst; subst h1; subst h2
  intro r hr H locs ls a b hl
  obtain ⟨x0, J, hF, hr⟩ := bndC_some hr
  have a0 := a
  obtain ⟨av, cap, hP, hD, hw0, h34, hz⟩ := a
  have hci : ci ≠ 12 := by have := hc.2.2; omega
  have hg := kgw_get (hs := hs) (av := av) (cap := cap) (I := I) hk2
  rw [kgce_obj hk hc.2.2, kgad_ne (kg_ne176 hk hci)] at hg
  have hE1 := hE.kept b.2.1
  refine va_callv (va_runV (C := y.cls) (As := As) (rest := st) ⟨hx, hb, hml, hown, hts⟩ (hM (x0, J) hF)
    (cwV (mc := mc1) (ms := ms1) n hts (kgG (fun w hw => ?_)) rfl rfl rfl ⟨rfl, hV.2.2.2.1.1, hV.2.2.2.1.2, hV.2.2.2.2⟩ hRm) ⟨kgPc_blind, va_recv hK hP hc.1 hg, fun U hU hW => ⟨rfl, by rw [hU]; exact a0, hK.moved hW.alike, by rw [hU]; exact hE1.warm hW⟩⟩
    rfl hn hl.1 rfl (lv_room hcat) hdg ⟨h3, h4⟩) b (fun q _ h => h) (fun _ h => h) (fun u t H1 locs1 ht hvm hw hB hz1 hk1 hS => ?_)
  · unfold wsV at hw
    rcases List.mem_append.mp hw with hw | hw
    · simp only [List.mem_cons, List.not_mem_nil, or_false] at hw
      rcases hw with rfl | rfl | rfl | rfl
      · exact hlk
      · exact hV.1.1
      · exact hV.1.2
      · exact hV.2.1
    · rcases List.mem_cons.mp hw with rfl | hw
      · exact hV.2.2.1
      · exact hw
  · subst ht
    exact kk x0 J r hr t.heap locs1 ls hB.1 hS hl
theorem aw_cSi (S : Cx X cc own nL fr lo mc ms) {y : MethodName} {bytes : ByteArray} {maxL n fr1 lo1 mc1 ms1 idx : Nat} {rt : Option FieldType} (As : List Value) {F : Option (Int32 × kgM)} {f : Int32 → kgM → Option ρ}
    (hV : kgSW y bytes maxL rt n) (hlk : Cond.methodLink own idx y ∈ kg_U) (hM : Sdi (kgHs X) (kgL X) w y (kg_ws y bytes maxL rt) { frames := fr1, cells := mc1, slots := ms1, locals := lo1 } As I F)
    (hRm : fr1 + 1 ≤ fr ∧ 8 + (maxL + 11) + lo1 ≤ lo) (hn : As.length = n) (hst : stk = As.reverse ++ st) (hcat : (st.map fun v => v.category).sum ≤ 8) (h1 : ce + mc1 = ce2) (h2 : sl + ms1 = sl2) (h3 : ce2 ≤ mc) (h4 : sl2 ≤ ms) (hdg : decode cc pc = .ok (.invokestatic idx, 3))
    (kk : ∀ x J, AW X nL ce2 sl2 w (f x J) (pc + 3) L (.int x :: st) J) : AW X nL ce sl w (bndC F f) pc L stk I := by
  obtain ⟨p, l, e, R, s, m, args, below, meth, c, hs, Q⟩ := X
  obtain ⟨⟨hx, hb, hml, hown, hts⟩, hR, hK, hE, hlk0⟩ := S
  subst hR; subst hst; subst h1; subst h2
  intro r hr H locs ls a b hl
  obtain ⟨x0, J, hF, hr⟩ := bndC_some hr
  have hE1 := hE.kept b.2.1
  refine va_calli (va_runS (As := As) (rest := st) ⟨hx, hb, hml, hown, hts⟩ (hM (x0, J) hF)
    (va_cwS (mc := mc1) (ms := ms1) n hts (kgG (fun w hw => ?_)) rfl rfl rfl ⟨hV.2.2.2.1.1, hV.2.2.2.1.2, hV.2.2.2.2⟩ hRm) ⟨kgPc_blind, fun U hU hW => ⟨rfl, by rw [hU]; exact a, hK.moved hW.alike, by rw [hU]; exact hE1.warm hW⟩⟩
    rfl hn hl.1 rfl (lv_room hcat) hdg ⟨h3, h4⟩) b (fun q _ h => h) (fun _ h => h) (fun x u t H1 locs1 ht hvm hw hB hz1 hk1 hS => ?_)
  · unfold va_wsS at hw
    rcases List.mem_append.mp hw with hw | hw
    · simp only [List.mem_cons, List.not_mem_nil, or_false] at hw
      rcases hw with rfl | rfl | rfl
      · exact hlk
      · exact hV.1
      · exact hV.2.1
    · rcases List.mem_cons.mp hw with rfl | hw
      · exact hV.2.2.1
      · exact hw
  · cases hw
    subst ht
    exact kk x0 J r hr t.heap locs1 ls hB.1 hS hl
/-- a private static method of a nest mate -/
theorem aw_cNi (S : Cx X cc own nL fr lo mc ms) {y : MethodName} {bytes : ByteArray} {maxL n fr1 lo1 mc1 ms1 idx : Nat} {rt : Option FieldType} {host : String} (As : List Value) {F : Option (Int32 × kgM)} {f : Int32 → kgM → Option ρ}
    (hV : kgSW y bytes maxL rt n) (hlk : kgE (kgHs X) X.2.2.2.2.1 X.2.2.2.2.1.heap → va_Nw (.methodLinkNest own idx y host) X.2.2.2.2.1) (hM : Sdi (kgHs X) (kgL X) w y (kg_ws y bytes maxL rt) { frames := fr1, cells := mc1, slots := ms1, locals := lo1 } As I F)
    (hRm : fr1 + 1 ≤ fr ∧ 8 + (maxL + 11) + lo1 ≤ lo) (hn : As.length = n) (hst : stk = As.reverse ++ st) (hcat : (st.map fun v => v.category).sum ≤ 8) (h1 : ce + mc1 = ce2) (h2 : sl + ms1 = sl2) (h3 : ce2 ≤ mc) (h4 : sl2 ≤ ms) (hdg : decode cc pc = .ok (.invokestatic idx, 3))
    (kk : ∀ x J, AW X nL ce2 sl2 w (f x J) (pc + 3) L (.int x :: st) J) : AW X nL ce sl w (bndC F f) pc L stk I := by
  obtain ⟨p, l, e, R, s, m, args, below, meth, c, hs, Q⟩ := X
  obtain ⟨⟨hx, hb, hml, hown, hts⟩, hR, hK, hE, hlk0⟩ := S
  subst hR; subst hst; subst h1; subst h2
  intro r hr H locs ls a b hl
  obtain ⟨x0, J, hF, hr⟩ := bndC_some hr
  have hE1 := hE.kept b.2.1
  refine va_calli (va_runSN (As := As) (rest := st) ⟨hx, hb, hml, hown, hts⟩ (hM (x0, J) hF)
    ⟨va_cnB (mc := mc1) (ms := ms1) n hts (kgG (fun w hw => ?_)) rfl rfl rfl (hlk hE) (hts _ hV.2.1) ⟨hV.2.2.2.1.1, hV.2.2.2.1.2, hV.2.2.2.2⟩ hRm, hts _ hV.1, trivial⟩ ⟨kgPc_blind, fun U hU hW => ⟨rfl, by rw [hU]; exact a, hK.moved hW.alike, by rw [hU]; exact hE1.warm hW⟩⟩
    rfl hn hl.1 rfl (lv_room hcat) hdg ⟨h3, h4⟩) b (fun q _ h => h) (fun _ h => h) (fun x u t H1 locs1 ht hvm hw hB hz1 hk1 hS => ?_)
  · rcases List.mem_cons.mp hw with rfl | hw
    · exact hV.2.2.1
    · exact hw
  · cases hw
    subst ht
    exact kk x0 J r hr t.heap locs1 ls hB.1 hS hl
end AWC
/-! ends -/
def Qxi (X : kgCX (Int32 × kgM)) (w : Option (Nat × Nat)) (rt : FieldType) : Prop := match X with
  | (p, l, e, R, s, m, args, below, meth, c, hs, Q) => meth.sig.returnType = some rt ∧ Q = fun r => MQ below (kgQi hs w r) args s R.cells R.slots (kgA hs)
def Qxv (X : kgCX (Int32 × kgM)) (w : Option (Nat × Nat)) : Prop := match X with
  | (p, l, e, R, s, m, args, below, meth, c, hs, Q) => meth.sig.returnType = none ∧ Q = fun r => MQ below (kgQv hs w r) args s R.cells R.slots (kgA hs)
section AWE
variable {X : kgCX (Int32 × kgM)} {cc : ByteArray} {own : String} {nL fr lo mc ms ce sl : Nat} {pc : Nat} {L : List (Nat × Value)} {I : kgM} {w : Option (Nat × Nat)}
theorem aw_ret (S : Cx X cc own nL fr lo mc ms) {rt : FieldType} {x : Int32} (hQ : Qxi X w rt) (hn : narrow rt (.int x) = .int x) (h1 : ce ≤ mc) (h2 : sl ≤ ms) (hdg : decode cc pc = .ok (.ireturn, 1)) : AW X nL ce sl w (some (x, I)) pc L [.int x] I := by
  obtain ⟨p, l, e, R, s, m, args, below, meth, c, hs, Q⟩ := X
  obtain ⟨⟨hx, hb, hml, hown, hts⟩, hR, hK, hE, hlk0⟩ := S
  obtain ⟨hrt, hQ⟩ := hQ
  subst hQ; subst hR
  intro r hr H locs ls a b hl
  cases hr
  refine W.widen (k := mc) (n := ms) h1 h2 ?_
  exact W.zret hx hb hrt hn (fun t ht hW => ⟨⟨x, (), rfl, rfl, by rw [ht]; exact a, hK.moved hW.alike⟩, b.F ht⟩) b.2.2 hdg hlk0
theorem aw_retv (S : Cx X cc own nL fr lo mc ms) {x : Int32} (hQ : Qxv X w) (h1 : ce ≤ mc) (h2 : sl ≤ ms) (hdg : decode cc pc = .ok (.return_, 1)) : AW X nL ce sl w (some (x, I)) pc L [] I := by
  obtain ⟨p, l, e, R, s, m, args, below, meth, c, hs, Q⟩ := X
  obtain ⟨⟨hx, hb, hml, hown, hts⟩, hR, hK, hE, hlk0⟩ := S
  obtain ⟨hrt, hQ⟩ := hQ
  subst hQ; subst hR
  intro r hr H locs ls a b hl
  cases hr
  refine W.widen (k := mc) (n := ms) h1 h2 ?_
  exact W.vret hx hb hrt (fun t ht hW => ⟨⟨(), rfl, trivial, by rw [ht]; exact a, hK.moved hW.alike⟩, b.F ht⟩) b.2.2 hdg hlk0
/-- a truth value of which it isn't plain that it is 0 or 1 -/
def isz (x : Int32) : Bool := decide (x = 0 ∨ x = 1)
theorem aw_retz (S : Cx X cc own nL fr lo mc ms) {x : Int32} (hQ : Qxi X w .boolean) (h1 : ce ≤ mc) (h2 : sl ≤ ms) (hdg : decode cc pc = .ok (.ireturn, 1)) : AW X nL ce sl w (ck (isz x) (some (x, I))) pc L [.int x] I := by
  by_cases h : isz x = true
  · rw [h]
    rcases of_decide_eq_true h with rfl | rfl
    · exact aw_ret S hQ rfl h1 h2 hdg
    · exact aw_ret S hQ rfl h1 h2 hdg
  · rw [show isz x = false from by simpa using h]
    exact aw_none
end AWE
theorem sd_i {y : MethodName} {bytes : ByteArray} {maxL fr lo mc ms : Nat} {rt : FieldType} {av : kgH → List Value} {I : kgM} {w : Option (Nat × Nat)} {F : Option (Int32 × kgM)} (hy : plainFor y = true) (hln : ∀ hs, (lg_sl (av hs)).length ≤ maxL) (h : ∀ X : kgCX (Int32 × kgM), Cx X bytes y.cls maxL fr lo mc ms → Qxi X w rt → AW X maxL 0 0 w F 0 (lv_args 0 (av (kgHs X))) [] I) (hs : kgH) (l : Launch) :
    Sdi hs l w y (kg_ws y bytes maxL (some rt)) { frames := fr, cells := mc, slots := ms, locals := lo } (av hs) I F := by
  intro r hr
  refine va_MetF (cc := bytes) (maxL := maxL) (ret := some rt) hy rfl ?_
  intro p e s m args below meth c s₁ B hml hv
  obtain ⟨rfl, hH, hK, hE⟩ := hv
  have hts := atoms_spec (ws := kg_ws y bytes maxL (some rt)) B.pre
  have hl := lv_entry (av hs) (n := maxL) (hln hs)
  rw [lg_entry_eq]
  exact h (p, l, e, { frames := fr, cells := mc, slots := ms, locals := lo }, s, m, (av hs).toArray, below, meth, c, hs, fun r => MQ below (kgQi hs w r) (av hs).toArray s mc ms (kgA hs))
    ⟨⟨B.exec, B.bytes, hml, findClass_of_methodNamed B.named, fun w hw => hts w (List.mem_cons_of_mem _ hw)⟩, rfl, hK, hE, B.notSynchronized⟩ ⟨B.returns, rfl⟩ r hr s.heap [] _ hH va_S.rf hl
theorem sd_v {y : MethodName} {bytes : ByteArray} {maxL fr lo mc ms : Nat} {av : kgH → List Value} {I : kgM} {w : Option (Nat × Nat)} {F : Option (Int32 × kgM)} (hy : plainFor y = true) (hln : ∀ hs, (lg_sl (av hs)).length ≤ maxL) (h : ∀ X : kgCX (Int32 × kgM), Cx X bytes y.cls maxL fr lo mc ms → Qxv X w → AW X maxL 0 0 w F 0 (lv_args 0 (av (kgHs X))) [] I) (hs : kgH) (l : Launch) :
    Sdv hs l w y (kg_ws y bytes maxL none) { frames := fr, cells := mc, slots := ms, locals := lo } (av hs) I F := by
  intro r hr
  refine va_MetF (cc := bytes) (maxL := maxL) (ret := none) hy rfl ?_
  intro p e s m args below meth c s₁ B hml hv
  obtain ⟨rfl, hH, hK, hE⟩ := hv
  have hts := atoms_spec (ws := kg_ws y bytes maxL none) B.pre
  have hl := lv_entry (av hs) (n := maxL) (hln hs)
  rw [lg_entry_eq]
  exact h (p, l, e, { frames := fr, cells := mc, slots := ms, locals := lo }, s, m, (av hs).toArray, below, meth, c, hs, fun r => MQ below (kgQv hs w r) (av hs).toArray s mc ms (kgA hs))
    ⟨⟨B.exec, B.bytes, hml, findClass_of_methodNamed B.named, fun w hw => hts w (List.mem_cons_of_mem _ hw)⟩, rfl, hK, hE, B.notSynchronized⟩ ⟨B.returns, rfl⟩ r hr s.heap [] _ hH va_S.rf hl

