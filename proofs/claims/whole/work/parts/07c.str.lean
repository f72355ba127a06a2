/-! Constant texts, and statics of the JDK's. -/
section AWT
variable {ρ : Type} {X : kgCX ρ} {cc : ByteArray} {own : String} {nL fr lo mc ms ce sl ce2 sl2 : Nat} {fin A B : Option ρ} {pc : Nat} {L L2 : List (Nat × Value)} {st stk : List Value} {I : kgM} {w : Option (Nat × Nat)}
theorem aw_getCS (S : Cx X cc own nL fr lo mc ms) {idx : Nat} (hlk : Cond.fieldLink own idx "java/lang/String" "COMPACT_STRINGS" "Z" ∈ kg_U) (hdg : decode cc pc = .ok (.getstatic idx, 3))
    (kk : AW X nL ce sl w fin (pc + 3) L (.int (1 : Int32) :: st) I) : AW X nL ce sl w fin pc L st I := by
  obtain ⟨p, l, e, R, s, m, args, below, meth, c, hs, Q⟩ := X
  obtain ⟨⟨hx, hb, hml, hown, hts⟩, hR, hK, hE, hlk0⟩ := S
  intro r hr H locs ls a b hl
  exact va_gets hx hb hE.2.1.1 b hown (hts _ hlk) (fun _ h => h) hdg (kk r hr H locs ls a b hl)
theorem aw_getSI (S : Cx X cc own nL fr lo mc ms) {idx : Nat} (hlk : Cond.fieldLink own idx "jdk/internal/util/Preconditions" "SIOOBE_FORMATTER" "Ljava/util/function/BiFunction;" ∈ kg_U) (hdg : decode cc pc = .ok (.getstatic idx, 3))
    (kk : ∀ v : Value, (v = .null ∨ ∃ t, v = .ref t) → AW X nL ce sl w fin (pc + 3) L (v :: st) I) : AW X nL ce sl w fin pc L st I := by
  obtain ⟨p, l, e, R, s, m, args, below, meth, c, hs, Q⟩ := X
  obtain ⟨⟨hx, hb, hml, hown, hts⟩, hR, hK, hE, hlk0⟩ := S
  intro r hr H locs ls a b hl
  rcases hE.2.1.2 with h | ⟨t, h⟩
  · exact va_gets hx hb h b hown (hts _ hlk) (fun _ h => h) hdg (kk .null (Or.inl rfl) r hr H locs ls a b hl)
  · exact va_gets hx hb h b hown (hts _ hlk) (fun _ h => h) hdg (kk (.ref t) (Or.inr ⟨t, rfl⟩) r hr H locs ls a b hl)
theorem aw_strC (S : Cx X cc own nL fr lo mc ms) (j : Nat) (hj : j < 9) {idx : Nat} (hlk : Cond.fieldLink own idx "java/lang/String" "coder" "B" ∈ kg_U) (hdg : decode cc pc = .ok (.getfield idx, 3))
    (kk : AW X nL ce sl w fin (pc + 3) L (.int (0 : Int32) :: st) I) : AW X nL ce sl w fin pc L (.ref (kgK (kgHs X) j) :: st) I := by
  obtain ⟨p, l, e, R, s, m, args, below, meth, c, hs, Q⟩ := X
  obtain ⟨⟨hx, hb, hml, hown, hts⟩, hR, hK, hE, hlk0⟩ := S
  intro r hr H locs ls a b hl
  exact vk_getf hx hb (hE.2.2.2.2.1.1 j hj).2.1 b hown (hts _ hlk) (fun _ h => h) hdg (kk r hr H locs ls a b hl)
theorem aw_strV (S : Cx X cc own nL fr lo mc ms) (j : Nat) (hj : j < 9) {idx : Nat} (hlk : Cond.fieldLink own idx "java/lang/String" "value" "[B" ∈ kg_U) (hdg : decode cc pc = .ok (.getfield idx, 3))
    (kk : AW X nL ce sl w fin (pc + 3) L (.ref (kgV (kgHs X) j) :: st) I) : AW X nL ce sl w fin pc L (.ref (kgK (kgHs X) j) :: st) I := by
  obtain ⟨p, l, e, R, s, m, args, below, meth, c, hs, Q⟩ := X
  obtain ⟨⟨hx, hb, hml, hown, hts⟩, hR, hK, hE, hlk0⟩ := S
  intro r hr H locs ls a b hl
  exact vk_getf hx hb (hE.2.2.2.2.1.1 j hj).2.2.1 b hown (hts _ hlk) (fun _ h => h) hdg (kk r hr H locs ls a b hl)
theorem kg_len_lt : ∀ j, j < 9 → kg_len.getD j 0 < 2 ^ 30 := by decide
theorem aw_strL (S : Cx X cc own nL fr lo mc ms) (j : Nat) (hj : j < 9) (hdg : decode cc pc = .ok (.arraylength, 1))
    (kk : AW X nL ce sl w fin (pc + 1) L (.int (Int32.ofNat (kg_len.getD j 0)) :: st) I) : AW X nL ce sl w fin pc L (.ref (kgV (kgHs X) j) :: st) I := by
  obtain ⟨p, l, e, R, s, m, args, below, meth, c, hs, Q⟩ := X
  obtain ⟨⟨hx, hb, hml, hown, hts⟩, hR, hK, hE, hlk0⟩ := S
  intro r hr H locs ls a b hl
  obtain ⟨cell, h1, h2, h3, h4, h5, h6, h7⟩ := (hE.2.2.2.2.1.1 j hj).2.2.2.kept b.2.1
  exact W.alen hx hb h1 h2 h5 rfl rfl hdg (kk r hr H locs ls a b hl)
theorem aw_strB (S : Cx X cc own nL fr lo mc ms) (j : Nat) (hj : j < 9) {i : Int32} (hdg : decode cc pc = .ok (.baload, 1))
    (kk : AW X nL ce sl w fin (pc + 1) L (.int ((kg_byt.getD j []).getD i.toNatClampNeg 0) :: st) I) : AW X nL ce sl w (ck (inb i (kg_len.getD j 0)) fin) pc L (.int i :: .ref (kgV (kgHs X) j) :: st) I := by
  obtain ⟨p, l, e, R, s, m, args, below, meth, c, hs, Q⟩ := X
  obtain ⟨⟨hx, hb, hml, hown, hts⟩, hR, hK, hE, hlk0⟩ := S
  intro r hr H locs ls a b hl
  obtain ⟨h0, hr1⟩ := ck_some hr
  obtain ⟨cell, h1, h2, h3, h4, h5, h6, h7⟩ := (hE.2.2.2.2.1.1 j hj).2.2.2.kept b.2.1
  have hin := inb_in h0
  have hlt := kg_len_lt j hj
  obtain ⟨q, hq, rfl⟩ := vp_in_of hin (by omega)
  have hcl : (nI q).toNatClampNeg = q := nI_clamp (by omega)
  refine W.bald hx hb h1 h2 h3 (j := nI q) (v := .int ((kg_byt.getD j []).getD (nI q).toNatClampNeg 0)) (fun hh => ?_) ?_ rfl rfl hdg (kk r hr1 H locs ls a b hl)
  · rcases hh with hh | hh
    · exact hin (Or.inl hh)
    · rw [hcl] at hh; omega
  · rw [hcl]; exact h6 q hq
theorem aw_ldcK (S : Cx X cc own nL fr lo mc ms) (j : Nat) (hj : j < 9) {idx : Nat} (ho : own = RX1) (hi : kg_ent.getD j 0 = idx) (hdg : decode cc pc = .ok (.ldc idx, 2))
    (kk : AW X nL ce sl w fin (pc + 2) L (.ref (kgK (kgHs X) j) :: st) I) : AW X nL ce sl w fin pc L st I := by
  subst ho; subst hi
  obtain ⟨p, l, e, R, s, m, args, below, meth, c, hs, Q⟩ := X
  obtain ⟨⟨hx, hb, hml, hown, hts⟩, hR, hK, hE, hlk0⟩ := S
  intro r hr H locs ls a b hl
  exact va_ldcS hx hb hown (hE.2.2.2.2.2.1 j hj) hdg (kk r hr H locs ls a b hl)
/-- a method of a constant text -/
theorem aw_cKi (S : Cx X cc own nL fr lo mc ms) (j : Nat) (hj : j < 9) {y : MethodName} {bytes : ByteArray} {maxL n fr1 lo1 mc1 ms1 idx : Nat} {rt : Option FieldType} (As : List Value) {F : Option (Int32 × kgM)} {f : Int32 → kgM → Option ρ}
    (hV : kgVW y bytes maxL rt n) (hc : y.cls = "java/lang/String") (hlk : Cond.methodLink own idx y ∈ kg_U) (hM : Sdi (kgHs X) (kgL X) w y (kg_ws y bytes maxL rt) { frames := fr1, cells := mc1, slots := ms1, locals := lo1 } (.ref (kgK (kgHs X) j) :: As) I F)
    (hRm : fr1 + 1 ≤ fr ∧ 8 + (maxL + 11) + lo1 ≤ lo) (hn : As.length = n) (hst : stk = As.reverse ++ .ref (kgK (kgHs X) j) :: st) (hcat : (st.map fun v => v.category).sum ≤ 8) (h1 : ce + mc1 = ce2) (h2 : sl + ms1 = sl2) (h3 : ce2 ≤ mc) (h4 : sl2 ≤ ms) (hdg : decode cc pc = .ok (.invokevirtual idx, 3))
    (kk : ∀ x J, AW X nL ce2 sl2 w (f x J) (pc + 3) L (.int x :: st) J) : AW X nL ce sl w (bndC F f) pc L stk I := by
  obtain ⟨p, l, e, R, s, m, args, below, meth, c, hs, Q⟩ := X
  obtain ⟨⟨hx, hb, hml, hown, hts⟩, hR, hK, hE, hlk0⟩ := S
  subst hR; subst hst; subst h1; subst h2
  intro r hr H locs ls a b hl
  obtain ⟨x0, J, hF, hr⟩ := bndC_some hr
  have hE1 := hE.kept b.2.1
  refine va_calli (va_runV (C := y.cls) (As := As) (rest := st) ⟨hx, hb, hml, hown, hts⟩ (hM (x0, J) hF)
    (cwV (mc := mc1) (ms := ms1) n hts (kgG (fun w hw => ?_)) rfl rfl rfl ⟨rfl, hV.2.2.2.1.1, hV.2.2.2.1.2, hV.2.2.2.2⟩ hRm) ⟨kgPc_blind, by rw [hc]; exact vk_recv hE.2.2.2.2.1 hj b, fun U hU hW => ⟨rfl, by rw [hU]; exact a, hK.moved hW.alike, by rw [hU]; exact hE1.warm hW⟩⟩
    rfl hn hl.1 rfl (lv_room hcat) hdg ⟨h3, h4⟩) b (fun q _ h => h) (fun _ h => h) (fun x u t H1 locs1 ht hvm hw hB hz1 hk1 hS => ?_)
  · unfold wsV at hw
    rcases List.mem_append.mp hw with hw | hw
    · simp only [List.mem_cons, List.not_mem_nil, or_false] at hw
      rcases hw with rfl | rfl | rfl | rfl
      · exact hlk
      · exact hV.1.1
      · exact hV.1.2
      · exact hV.2.1
    · rcases List.mem_cons.mp hw with rfl | hw
      · exact hV.2.2.1
      · exact hw
  · cases hw
    subst ht
    exact kk x0 J r hr t.heap locs1 ls hB.1 hS hl
end AWT
/-! a method that answers one of the constant texts, by its number -/
def kgQk (hs : kgH) (w : Option (Nat × Nat)) (r : Int32 × kgM) : Array Value → State → Outcome → State → Prop := va_Qr (fun (u : Unit) => True) (fun _ a t => a = kgK hs r.1.toNatClampNeg ∧ r.1.toNatClampNeg < 9 ∧ kgHR hs w r.2 t.heap ∧ kgKX hs t) (kgA hs)
def Sdk (hs : kgH) (l : Launch) (w : Option (Nat × Nat)) (y : MethodName) (ws : List Cond) (rm : Room) (av : List Value) (I : kgM) (fin : Option (Int32 × kgM)) : Prop :=
  ∀ r, fin = some r → Met l y ws rm (kgPc hs w av I) (kgQk hs w r) rm.cells rm.slots (kgA hs)
def Qxk (X : kgCX (Int32 × kgM)) (w : Option (Nat × Nat)) (rt : FieldType) : Prop := match X with
  | (p, l, e, R, s, m, args, below, meth, c, hs, Q) => meth.sig.returnType = some rt ∧ Q = fun r => MQ below (kgQk hs w r) args s R.cells R.slots (kgA hs)
theorem aw_retk {X : kgCX (Int32 × kgM)} {cc : ByteArray} {own : String} {nL fr lo mc ms ce sl : Nat} {pc : Nat} {L : List (Nat × Value)} {I : kgM} {w : Option (Nat × Nat)} (S : Cx X cc own nL fr lo mc ms) {n : String} {x : Int32} (j : Nat) (hQ : Qxk X w (.object n)) (hj : j < 9) (hx1 : x.toNatClampNeg = j) (h1 : ce ≤ mc) (h2 : sl ≤ ms) (hdg : decode cc pc = .ok (.areturn, 1)) : AW X nL ce sl w (some (x, I)) pc L [.ref (kgK (kgHs X) j)] I := by
  obtain ⟨p, l, e, R, s, m, args, below, meth, c, hs, Q⟩ := X
  obtain ⟨⟨hx, hb, hml, hown, hts⟩, hR, hK, hE, hlk0⟩ := S
  obtain ⟨hrt, hQ⟩ := hQ
  subst hQ; subst hR
  intro r hr H locs ls a b hl
  cases hr
  refine W.widen (k := mc) (n := ms) h1 h2 ?_
  exact W.aret hx hb hrt (Or.inl ⟨n, rfl⟩) (Or.inr ⟨_, rfl⟩) (fun t ht hW => ⟨⟨(), _, rfl, trivial, by rw [hx1], by rw [hx1]; exact hj, by rw [ht]; exact a, hK.moved hW.alike⟩, b.F ht⟩) b.2.2 hdg hlk0
theorem sd_k {y : MethodName} {bytes : ByteArray} {maxL fr lo mc ms : Nat} {rt : FieldType} {av : kgH → List Value} {I : kgM} {w : Option (Nat × Nat)} {F : Option (Int32 × kgM)} (hy : plainFor y = true) (hln : ∀ hs, (lg_sl (av hs)).length ≤ maxL) (h : ∀ X : kgCX (Int32 × kgM), Cx X bytes y.cls maxL fr lo mc ms → Qxk X w rt → AW X maxL 0 0 w F 0 (lv_args 0 (av (kgHs X))) [] I) (hs : kgH) (l : Launch) :
    Sdk hs l w y (kg_ws y bytes maxL (some rt)) { frames := fr, cells := mc, slots := ms, locals := lo } (av hs) I F := by
  intro r hr
  refine va_MetF (cc := bytes) (maxL := maxL) (ret := some rt) hy rfl ?_
  intro p e s m args below meth c s₁ B hml hv
  obtain ⟨rfl, hH, hK, hE⟩ := hv
  have hts := atoms_spec (ws := kg_ws y bytes maxL (some rt)) B.pre
  have hl := lv_entry (av hs) (n := maxL) (hln hs)
  rw [lg_entry_eq]
  exact h (p, l, e, { frames := fr, cells := mc, slots := ms, locals := lo }, s, m, (av hs).toArray, below, meth, c, hs, fun r => MQ below (kgQk hs w r) (av hs).toArray s mc ms (kgA hs))
    ⟨⟨B.exec, B.bytes, hml, findClass_of_methodNamed B.named, fun w hw => hts w (List.mem_cons_of_mem _ hw)⟩, rfl, hK, hE, B.notSynchronized⟩ ⟨B.returns, rfl⟩ r hr s.heap [] _ hH va_S.rf hl
theorem aw_cSk {ρ : Type} {X : kgCX ρ} {cc : ByteArray} {own : String} {nL fr lo mc ms ce sl ce2 sl2 : Nat} {pc : Nat} {L : List (Nat × Value)} {st stk : List Value} {I : kgM} {w : Option (Nat × Nat)} (S : Cx X cc own nL fr lo mc ms) {y : MethodName} {bytes : ByteArray} {maxL n fr1 lo1 mc1 ms1 idx : Nat} {rt : Option FieldType} (As : List Value) {F : Option (Int32 × kgM)} {f : Int32 → kgM → Option ρ}
    (hV : kgSW y bytes maxL rt n) (hlk : Cond.methodLink own idx y ∈ kg_U) (hM : Sdk (kgHs X) (kgL X) w y (kg_ws y bytes maxL rt) { frames := fr1, cells := mc1, slots := ms1, locals := lo1 } As I F)
    (hRm : fr1 + 1 ≤ fr ∧ 8 + (maxL + 11) + lo1 ≤ lo) (hn : As.length = n) (hst : stk = As.reverse ++ st) (hcat : (st.map fun v => v.category).sum ≤ 8) (h1 : ce + mc1 = ce2) (h2 : sl + ms1 = sl2) (h3 : ce2 ≤ mc) (h4 : sl2 ≤ ms) (hdg : decode cc pc = .ok (.invokestatic idx, 3))
    (kk : ∀ x J, x.toNatClampNeg < 9 → AW X nL ce2 sl2 w (f x J) (pc + 3) L (.ref (kgK (kgHs X) x.toNatClampNeg) :: st) J) : AW X nL ce sl w (bndC F f) pc L stk I := by
  obtain ⟨p, l, e, R, s, m, args, below, meth, c, hs, Q⟩ := X
  obtain ⟨⟨hx, hb, hml, hown, hts⟩, hR, hK, hE, hlk0⟩ := S
  subst hR; subst hst; subst h1; subst h2
  intro r hr H locs ls a b hl
  obtain ⟨x0, J, hF, hr⟩ := bndC_some hr
  have hE1 := hE.kept b.2.1
  refine va_callr (va_runS (As := As) (rest := st) ⟨hx, hb, hml, hown, hts⟩ (hM (x0, J) hF)
    (va_cwS (mc := mc1) (ms := ms1) n hts (kgG (fun w hw => ?_)) rfl rfl rfl ⟨hV.2.2.2.1.1, hV.2.2.2.1.2, hV.2.2.2.2⟩ hRm) ⟨kgPc_blind, fun U hU hW => ⟨rfl, by rw [hU]; exact a, hK.moved hW.alike, by rw [hU]; exact hE1.warm hW⟩⟩
    rfl hn hl.1 rfl (lv_room hcat) hdg ⟨h3, h4⟩) b (fun q _ h => h) (fun _ h => h) (fun u ra t H1 locs1 ht hvm hw hB hz1 hk1 hS => ?_)
  · unfold va_wsS at hw
    rcases List.mem_append.mp hw with hw | hw
    · simp only [List.mem_cons, List.not_mem_nil, or_false] at hw
      rcases hw with rfl | rfl | rfl
      · exact hlk
      · exact hV.1
      · exact hV.2.1
    · rcases List.mem_cons.mp hw with rfl | hw
      · exact hV.2.2.1
      · exact hw
  · subst ht
    obtain ⟨rfl, h9, hB1, hB2⟩ := hB
    exact kk x0 J h9 r hr t.heap locs1 ls hB1 hS hl
/-- a sign of which it isn't plain that it is one -/
def isc (x : Int32) : Bool := decide (x.toUInt32.toUInt16.toUInt32.toInt32 = x)
theorem aw_retc {X : kgCX (Int32 × kgM)} {cc : ByteArray} {own : String} {nL fr lo mc ms ce sl : Nat} {pc : Nat} {L : List (Nat × Value)} {I : kgM} {w : Option (Nat × Nat)} (S : Cx X cc own nL fr lo mc ms) {x : Int32} (hQ : Qxi X w .char) (h1 : ce ≤ mc) (h2 : sl ≤ ms) (hdg : decode cc pc = .ok (.ireturn, 1)) : AW X nL ce sl w (ck (isc x) (some (x, I))) pc L [.int x] I := by
  by_cases h : isc x = true
  · rw [h]
    exact aw_ret S hQ (show Value.int (x.toUInt32.toUInt16.toUInt32.toInt32) = Value.int x from congrArg Value.int (of_decide_eq_true h)) h1 h2 hdg
  · rw [show isc x = false from by simpa using h]
    exact aw_none
