/-! A TEXT MADE OF A BUILDER: walks over lists of cells -/
section BWR4
variable {X : kgCX Unit} {cc : ByteArray} {own : String} {nL fr lo mc ms ce sl ce2 sl2 : Nat} {pc : Nat} {L L2 : List (Nat × Value)} {st stk : List Value} {ws ws2 : va_W}
theorem bx_iload (S : Cx X cc own nL fr lo mc ms) {i : Nat} {x : Int32} (j : Nat) (hj : L[j]? = some (i, .int x)) (hdg : decode cc pc = .ok (.iload i, 2)) (k : BW X nL ce sl (pc + 2) L (.int x :: st) ws) : BW X nL ce sl pc L (st) ws := by
  obtain ⟨p, l, e, R, s, m, args, below, meth, c, hs, Q⟩ := X
  obtain ⟨⟨hx, hb, hml, hown, hts⟩, hR, hK, hE, hlk⟩ := S
  intro H locs ls a b hl
  exact lv_iload hx hb hdg (lv_at hl j hj) (k H locs ls a b hl)
theorem bx_aload (S : Cx X cc own nL fr lo mc ms) {i : Nat} {x : Nat} (j : Nat) (hj : L[j]? = some (i, .ref x)) (hdg : decode cc pc = .ok (.aload i, 2)) (k : BW X nL ce sl (pc + 2) L (.ref x :: st) ws) : BW X nL ce sl pc L (st) ws := by
  obtain ⟨p, l, e, R, s, m, args, below, meth, c, hs, Q⟩ := X
  obtain ⟨⟨hx, hb, hml, hown, hts⟩, hR, hK, hE, hlk⟩ := S
  intro H locs ls a b hl
  exact lv_aload hx hb hdg (lv_at hl j hj) (k H locs ls a b hl)
theorem bx_isub (S : Cx X cc own nL fr lo mc ms) {x y : Int32} (hdg : decode cc pc = .ok (.isub, 1)) (k : BW X nL ce sl (pc + 1) L (.int (x - y) :: st) ws) : BW X nL ce sl pc L (.int y :: .int x :: st) ws := by
  obtain ⟨p, l, e, R, s, m, args, below, meth, c, hs, Q⟩ := X
  obtain ⟨⟨hx, hb, hml, hown, hts⟩, hR, hK, hE, hlk⟩ := S
  intro H locs ls a b hl
  exact lv_isub hx hb hdg (k H locs ls a b hl)
theorem bx_istore (S : Cx X cc own nL fr lo mc ms) {i : Nat} {x : Int32} (ks : List Nat) (hdg : decode cc pc = .ok (.istore i, 2)) (hn : i < nL) (hl2 : lv_pick ((i, Value.int x) :: L.filter (fun q => !(q.1 == i) && !(q.1 + 1 == i && q.2.category == 2))) ks = L2) (k : BW X nL ce sl (pc + 2) L2 st ws) : BW X nL ce sl pc L (.int x :: st) ws := by
  obtain ⟨p, l, e, R, s, m, args, below, meth, c, hs, Q⟩ := X
  obtain ⟨⟨hx, hb, hml, hown, hts⟩, hR, hK, hE, hlk⟩ := S
  intro H locs ls a b hl
  exact lv_istore hx hb hdg hl hn rfl (fun ls2 hl3 => k H locs ls2 a b (lv_sub hl3 ks hl2))
theorem bx_astore_n (S : Cx X cc own nL fr lo mc ms) {q : Fin 4} {i : Nat} {x : Nat} (ks : List Nat) (hdg : decode cc pc = .ok (.astore_n q, 1)) (hi : (q : Nat) = i) (hn : i < nL) (hl2 : lv_pick ((i, Value.ref x) :: L.filter (fun q => !(q.1 == i) && !(q.1 + 1 == i && q.2.category == 2))) ks = L2) (k : BW X nL ce sl (pc + 1) L2 st ws) : BW X nL ce sl pc L (.ref x :: st) ws := by
  obtain ⟨p, l, e, R, s, m, args, below, meth, c, hs, Q⟩ := X
  obtain ⟨⟨hx, hb, hml, hown, hts⟩, hR, hK, hE, hlk⟩ := S
  intro H locs ls a b hl
  exact lv_astore_n hx hb hdg hi hl hn rfl (fun ls2 hl3 => k H locs ls2 a b (lv_sub hl3 ks hl2))
theorem bx_astore (S : Cx X cc own nL fr lo mc ms) {i : Nat} {x : Nat} (ks : List Nat) (hdg : decode cc pc = .ok (.astore i, 2)) (hn : i < nL) (hl2 : lv_pick ((i, Value.ref x) :: L.filter (fun q => !(q.1 == i) && !(q.1 + 1 == i && q.2.category == 2))) ks = L2) (k : BW X nL ce sl (pc + 2) L2 st ws) : BW X nL ce sl pc L (.ref x :: st) ws := by
  obtain ⟨p, l, e, R, s, m, args, below, meth, c, hs, Q⟩ := X
  obtain ⟨⟨hx, hb, hml, hown, hts⟩, hR, hK, hE, hlk⟩ := S
  intro H locs ls a b hl
  exact lv_astore hx hb hdg hl hn rfl (fun ls2 hl3 => k H locs ls2 a b (lv_sub hl3 ks hl2))
theorem bx_if_eqF (S : Cx X cc own nL fr lo mc ms) {x y : Int32} {off : Int} {tgt : Nat} (hdg : decode cc pc = .ok (.ifCond .eq off, 3)) (ht : (pc : Int) + off = (tgt : Int)) (hc : ¬ x = 0) (kf : BW X nL ce sl (pc + 3) L st ws) : BW X nL ce sl pc L (.int x :: st) ws := by
  obtain ⟨p, l, e, R, s, m, args, below, meth, c, hs, Q⟩ := X
  obtain ⟨⟨hx, hb, hml, hown, hts⟩, hR, hK, hE, hlk⟩ := S
  intro H locs ls a b hl
  exact lv_if_eq hx hb hdg ht (fun h => absurd h hc) (fun h => kf H locs ls a b hl)
theorem bx_if_neF (S : Cx X cc own nL fr lo mc ms) {x y : Int32} {off : Int} {tgt : Nat} (hdg : decode cc pc = .ok (.ifCond .ne off, 3)) (ht : (pc : Int) + off = (tgt : Int)) (hc : x = 0) (kf : BW X nL ce sl (pc + 3) L st ws) : BW X nL ce sl pc L (.int x :: st) ws := by
  obtain ⟨p, l, e, R, s, m, args, below, meth, c, hs, Q⟩ := X
  obtain ⟨⟨hx, hb, hml, hown, hts⟩, hR, hK, hE, hlk⟩ := S
  intro H locs ls a b hl
  exact lv_if_ne hx hb hdg ht (fun h => absurd hc h) (fun h => kf H locs ls a b hl)
theorem bx_if_neT (S : Cx X cc own nL fr lo mc ms) {x y : Int32} {off : Int} {tgt : Nat} (hdg : decode cc pc = .ok (.ifCond .ne off, 3)) (ht : (pc : Int) + off = (tgt : Int)) (hc : ¬ x = 0) (kt : BW X nL ce sl tgt L st ws) : BW X nL ce sl pc L (.int x :: st) ws := by
  obtain ⟨p, l, e, R, s, m, args, below, meth, c, hs, Q⟩ := X
  obtain ⟨⟨hx, hb, hml, hown, hts⟩, hR, hK, hE, hlk⟩ := S
  intro H locs ls a b hl
  exact lv_if_ne hx hb hdg ht (fun h => kt H locs ls a b hl) (fun h => absurd h hc)
theorem bx_icmp_eqT (S : Cx X cc own nL fr lo mc ms) {x y : Int32} {off : Int} {tgt : Nat} (hdg : decode cc pc = .ok (.if_icmp .eq off, 3)) (ht : (pc : Int) + off = (tgt : Int)) (hc : x = y) (kt : BW X nL ce sl tgt L st ws) : BW X nL ce sl pc L (.int y :: .int x :: st) ws := by
  obtain ⟨p, l, e, R, s, m, args, below, meth, c, hs, Q⟩ := X
  obtain ⟨⟨hx, hb, hml, hown, hts⟩, hR, hK, hE, hlk⟩ := S
  intro H locs ls a b hl
  exact lv_icmp_eq hx hb hdg ht (fun h => kt H locs ls a b hl) (fun h => absurd hc h)
theorem bx_icmp_eqF (S : Cx X cc own nL fr lo mc ms) {x y : Int32} {off : Int} {tgt : Nat} (hdg : decode cc pc = .ok (.if_icmp .eq off, 3)) (ht : (pc : Int) + off = (tgt : Int)) (hc : ¬ x = y) (kf : BW X nL ce sl (pc + 3) L st ws) : BW X nL ce sl pc L (.int y :: .int x :: st) ws := by
  obtain ⟨p, l, e, R, s, m, args, below, meth, c, hs, Q⟩ := X
  obtain ⟨⟨hx, hb, hml, hown, hts⟩, hR, hK, hE, hlk⟩ := S
  intro H locs ls a b hl
  exact lv_icmp_eq hx hb hdg ht (fun h => absurd h hc) (fun h => kf H locs ls a b hl)
theorem bx_icmp_geT (S : Cx X cc own nL fr lo mc ms) {x y : Int32} {off : Int} {tgt : Nat} (hdg : decode cc pc = .ok (.if_icmp .ge off, 3)) (ht : (pc : Int) + off = (tgt : Int)) (hc : y ≤ x) (kt : BW X nL ce sl tgt L st ws) : BW X nL ce sl pc L (.int y :: .int x :: st) ws := by
  obtain ⟨p, l, e, R, s, m, args, below, meth, c, hs, Q⟩ := X
  obtain ⟨⟨hx, hb, hml, hown, hts⟩, hR, hK, hE, hlk⟩ := S
  intro H locs ls a b hl
  exact lv_icmp_ge hx hb hdg ht (fun h => kt H locs ls a b hl) (fun h => absurd hc h)
theorem bx_null (S : Cx X cc own nL fr lo mc ms) (hdg : decode cc pc = .ok (.aconst_null, 1)) (k : BW X nL ce sl (pc + 1) L (.null :: st) ws) : BW X nL ce sl pc L st ws := by
  obtain ⟨p, l, e, R, s, m, args, below, meth, c, hs, Q⟩ := X
  obtain ⟨⟨hx, hb, hml, hown, hts⟩, hR, hK, hE, hlk⟩ := S
  intro H locs ls a b hl
  exact lv_null hx hb hdg (k H locs ls a b hl)
end BWR4
def Sdp (hs : kgH) (l : Launch) (y : MethodName) (bytes : ByteArray) (maxL : Nat) (rt : Option FieldType) (rm : Room) (av : List Value) (W0 : va_W) (Qc : Array Value → State → Outcome → State → Prop) : Prop :=
  Met l y (kg_ws y bytes maxL rt) rm (kgNc hs av W0) Qc rm.cells rm.slots (kgA hs)
def Qxp (X : kgCX Unit) (rt : Option FieldType) (Qc : Array Value → State → Outcome → State → Prop) : Prop := match X with
  | (p, l, e, R, s, m, args, below, meth, c, hs, Q) => meth.sig.returnType = rt ∧ Q = fun _ => MQ below Qc args s R.cells R.slots (kgA hs)
theorem sd_p {y : MethodName} {bytes : ByteArray} {maxL fr lo mc ms : Nat} {rt : Option FieldType} {av : List Value} {W0 : va_W} {Qc : Array Value → State → Outcome → State → Prop} (hy : plainFor y = true) (hln : (lg_sl av).length ≤ maxL) (hs : kgH) (l : Launch)
    (h : ∀ X : kgCX Unit, kgHs X = hs → Cx X bytes y.cls maxL fr lo mc ms → (y.name = "<init>" → Nx X) → kgB (kgHs X) ≤ X.2.2.2.2.1.heap.size → Qxp X rt Qc → BW X maxL 0 0 0 (lv_args 0 av) [] W0) :
    Sdp hs l y bytes maxL rt { frames := fr, cells := mc, slots := ms, locals := lo } av W0 Qc := by
  refine va_MetF (cc := bytes) (maxL := maxL) (ret := rt) hy rfl ?_
  intro p e s m args below meth c s₁ B hml hv
  obtain ⟨rfl, hH, hbs, hK, hE⟩ := hv
  have hts := atoms_spec (ws := kg_ws y bytes maxL rt) B.pre
  have hl := lv_entry av (n := maxL) hln
  rw [lg_entry_eq]
  exact h (p, l, e, { frames := fr, cells := mc, slots := ms, locals := lo }, s, m, av.toArray, below, meth, c, hs, fun _ => MQ below Qc av.toArray s mc ms (kgA hs)) rfl
    ⟨⟨B.exec, B.bytes, hml, findClass_of_methodNamed B.named, fun w hw => hts w (List.mem_cons_of_mem _ hw)⟩, rfl, hK, hE, B.notSynchronized⟩ (fun hyn => ⟨(name_of_methodNamed B.named B.method).1.trans hyn, hbs⟩) hbs ⟨B.returns, rfl⟩ s.heap [] _ hH va_S.rf hl
def kgPi (hs : kgH) (r : Int32) (W1 : va_W) : Array Value → State → Outcome → State → Prop := va_Qi (fun x (_ : Unit) => x = r) (fun _ t => kgCW hs W1 t.heap ∧ kgKX hs t) (kgA hs)
def kgPr (hs : kgH) (P : Nat → Prop) (W1 : Nat → va_W) : Array Value → State → Outcome → State → Prop := va_Qr (fun (_ : Unit) => True) (fun _ a t => P a ∧ kgCW hs (W1 a) t.heap ∧ kgKX hs t) (kgA hs)
section BWR5
variable {X : kgCX Unit} {cc : ByteArray} {own : String} {nL fr lo mc ms ce sl ce2 sl2 : Nat} {pc : Nat} {L L2 : List (Nat × Value)} {st stk : List Value} {ws ws2 : va_W}
theorem bx_ret {rt : FieldType} {x : Int32} (S : Cx X cc own nL fr lo mc ms) (hQ : Qxp X (some rt) (kgPi (kgHs X) x ws)) (hn : narrow rt (.int x) = .int x) (h1 : ce ≤ mc) (h2 : sl ≤ ms) (hdg : decode cc pc = .ok (.ireturn, 1)) : BW X nL ce sl pc L [.int x] ws := by
  obtain ⟨p, l, e, R, s, m, args, below, meth, c, hs, Q⟩ := X
  obtain ⟨⟨hx, hb, hml, hown, hts⟩, hR, hK, hE, hlk0⟩ := S
  obtain ⟨hrt, hQ⟩ := hQ
  replace hQ : Q = fun _ => MQ below (kgPi hs x ws) args s R.cells R.slots (kgA hs) := hQ
  subst hQ; subst hR
  intro H locs ls a b hl
  refine W.widen (k := mc) (n := ms) h1 h2 ?_
  exact W.zret hx hb hrt hn (fun t ht hW => ⟨⟨x, (), rfl, rfl, by rw [ht]; exact a, hK.moved hW.alike⟩, b.F ht⟩) b.2.2 hdg hlk0
theorem bx_reta {rt : FieldType} {x : Nat} {P : Nat → Prop} {W1 : Nat → va_W} (S : Cx X cc own nL fr lo mc ms) (hQ : Qxp X (some rt) (kgPr (kgHs X) P W1)) (hn : (∃ n, rt = .object n) ∨ ∃ t, rt = .array t) (hP : P x) (hw : W1 x = ws) (h1 : ce ≤ mc) (h2 : sl ≤ ms) (hdg : decode cc pc = .ok (.areturn, 1)) : BW X nL ce sl pc L [.ref x] ws := by
  obtain ⟨p, l, e, R, s, m, args, below, meth, c, hs, Q⟩ := X
  obtain ⟨⟨hx, hb, hml, hown, hts⟩, hR, hK, hE, hlk0⟩ := S
  obtain ⟨hrt, hQ⟩ := hQ
  replace hQ : Q = fun _ => MQ below (kgPr hs P W1) args s R.cells R.slots (kgA hs) := hQ
  subst hQ; subst hR
  intro H locs ls a b hl
  refine W.widen (k := mc) (n := ms) h1 h2 ?_
  exact W.aret hx hb hrt hn (Or.inr ⟨_, rfl⟩) (fun t ht hW => ⟨⟨(), x, rfl, trivial, hP, by rw [ht, hw]; exact a, hK.moved hW.alike⟩, b.F ht⟩) b.2.2 hdg hlk0
/-- how a method of a builder is found -/
def kgCUo (own owner : String) (idx : Nat) (x y : MethodName) (bytes : ByteArray) (maxL : Nat) (rt : Option FieldType) (n : Nat) : Prop := ∀ (R : Room) (s : State) (args : Array Value) (rm : Room), (∀ w ∈ kg_U, w.before args s = true) → rm.frames + 1 ≤ R.frames ∧ 8 + (maxL + 11) + rm.locals ≤ R.locals → va_CU R s args own RJ4 owner idx x y bytes maxL rt (kg_ws y bytes maxL rt) rm rm.cells rm.slots n
theorem bx_cUi (S : Cx X cc own nL fr lo mc ms) (hX : kgB (kgHs X) ≤ X.2.2.2.2.1.heap.size) (q0 : Nat) {a : Nat} {fs : List Value} (he : ws[q0]? = some (a, .inr (0, fs))) {owner : String} {x y : MethodName} {bytes : ByteArray} {maxL n fr1 lo1 mc1 ms1 idx : Nat} {rt : Option FieldType} {r : Int32} (As : List Value) (hU : kgCUo own owner idx x y bytes maxL rt n)
    (hM : Sdp (kgHs X) (kgL X) y bytes maxL rt { frames := fr1, cells := mc1, slots := ms1, locals := lo1 } (.ref a :: As) ws (kgPi (kgHs X) r ws2)) (hRm : fr1 + 1 ≤ fr ∧ 8 + (maxL + 11) + lo1 ≤ lo) (hn : As.length = n) (hst : stk = As.reverse ++ .ref a :: st) (hcat : (st.map fun v => v.category).sum ≤ 8)
    (h1 : ce + mc1 = ce2) (h2 : sl + ms1 = sl2) (h3 : ce2 ≤ mc) (h4 : sl2 ≤ ms) (hdg : decode cc pc = .ok (.invokevirtual idx, 3)) (kk : BW X nL ce2 sl2 (pc + 3) L (.int r :: st) ws2) : BW X nL ce sl pc L stk ws := by
  obtain ⟨p, l, e, R, s, m, args, below, meth, c, hs, Q⟩ := X
  obtain ⟨⟨hx, hb, hml, hown, hts⟩, hR, hK, hE, hlk0⟩ := S
  subst hR; subst hst; subst h1; subst h2
  intro H locs ls a0 b hl
  have hE1 := hE.kept b.2.1
  refine va_calli (va_runU (C := RJ4) (As := As) (rest := st) ⟨hx, hb, hml, hown, hts⟩ hM (hU _ _ _ { frames := fr1, cells := mc1, slots := ms1, locals := lo1 } hts hRm) ⟨kgNc_blind, va_recv hK a0.1 cl_J4.1 he, fun U hU hW => ⟨rfl, by rw [hU]; exact a0, by rw [hU]; exact Nat.le_trans hX b.1, hK.moved hW.alike, by rw [hU]; exact hE1.warm hW⟩⟩
    rfl hn hl.1 rfl (lv_room hcat) hdg ⟨h3, h4⟩) b (fun q _ h => h) (fun _ h => h) (fun x u t H1 locs1 ht hvm hw hB hz1 hk1 hS => ?_)
  cases hw
  subst ht
  exact kk t.heap locs1 ls hB.1 hS hl
theorem bx_cUr (S : Cx X cc own nL fr lo mc ms) (hX : kgB (kgHs X) ≤ X.2.2.2.2.1.heap.size) (q0 : Nat) {a : Nat} {fs : List Value} (he : ws[q0]? = some (a, .inr (0, fs))) {owner : String} {x y : MethodName} {bytes : ByteArray} {maxL n fr1 lo1 mc1 ms1 idx : Nat} {rt : Option FieldType} {P : Nat → Prop} {W1 : Nat → va_W} (As : List Value) (hU : kgCUo own owner idx x y bytes maxL rt n)
    (hM : Sdp (kgHs X) (kgL X) y bytes maxL rt { frames := fr1, cells := mc1, slots := ms1, locals := lo1 } (.ref a :: As) ws (kgPr (kgHs X) P W1)) (hRm : fr1 + 1 ≤ fr ∧ 8 + (maxL + 11) + lo1 ≤ lo) (hn : As.length = n) (hst : stk = As.reverse ++ .ref a :: st) (hcat : (st.map fun v => v.category).sum ≤ 8)
    (h1 : ce + mc1 = ce2) (h2 : sl + ms1 = sl2) (h3 : ce2 ≤ mc) (h4 : sl2 ≤ ms) (hdg : decode cc pc = .ok (.invokevirtual idx, 3)) (kk : ∀ q, P q → BW X nL ce2 sl2 (pc + 3) L (.ref q :: st) (W1 q)) : BW X nL ce sl pc L stk ws := by
  obtain ⟨p, l, e, R, s, m, args, below, meth, c, hs, Q⟩ := X
  obtain ⟨⟨hx, hb, hml, hown, hts⟩, hR, hK, hE, hlk0⟩ := S
  subst hR; subst hst; subst h1; subst h2
  intro H locs ls a0 b hl
  have hE1 := hE.kept b.2.1
  refine va_callr (va_runU (C := RJ4) (As := As) (rest := st) ⟨hx, hb, hml, hown, hts⟩ hM (hU _ _ _ { frames := fr1, cells := mc1, slots := ms1, locals := lo1 } hts hRm) ⟨kgNc_blind, va_recv hK a0.1 cl_J4.1 he, fun U hU hW => ⟨rfl, by rw [hU]; exact a0, by rw [hU]; exact Nat.le_trans hX b.1, hK.moved hW.alike, by rw [hU]; exact hE1.warm hW⟩⟩
    rfl hn hl.1 rfl (lv_room hcat) hdg ⟨h3, h4⟩) b (fun q _ h => h) (fun _ h => h) (fun u a1 t H1 locs1 ht hvm hw hB hz1 hk1 hS => ?_)
  subst ht
  exact kk a1 hB.1 t.heap locs1 ls hB.2.1 hS hl
theorem bx_cSr (S : Cx X cc own nL fr lo mc ms) (hX : kgB (kgHs X) ≤ X.2.2.2.2.1.heap.size) {y : MethodName} {bytes : ByteArray} {maxL n fr1 lo1 mc1 ms1 idx : Nat} {rt : Option FieldType} {P : Nat → Prop} {W1 : Nat → va_W} (As : List Value) (hV : kgSW y bytes maxL rt n) (hlk : Cond.methodLink own idx y ∈ kg_U)
    (hM : Sdp (kgHs X) (kgL X) y bytes maxL rt { frames := fr1, cells := mc1, slots := ms1, locals := lo1 } As ws (kgPr (kgHs X) P W1)) (hRm : fr1 + 1 ≤ fr ∧ 8 + (maxL + 11) + lo1 ≤ lo) (hn : As.length = n) (hst : stk = As.reverse ++ st) (hcat : (st.map fun v => v.category).sum ≤ 8)
    (h1 : ce + mc1 = ce2) (h2 : sl + ms1 = sl2) (h3 : ce2 ≤ mc) (h4 : sl2 ≤ ms) (hdg : decode cc pc = .ok (.invokestatic idx, 3)) (kk : ∀ q, P q → BW X nL ce2 sl2 (pc + 3) L (.ref q :: st) (W1 q)) : BW X nL ce sl pc L stk ws := by
  obtain ⟨p, l, e, R, s, m, args, below, meth, c, hs, Q⟩ := X
  obtain ⟨⟨hx, hb, hml, hown, hts⟩, hR, hK, hE, hlk0⟩ := S
  subst hR; subst hst; subst h1; subst h2
  intro H locs ls a0 b hl
  have hE1 := hE.kept b.2.1
  refine va_callr (va_runS (As := As) (rest := st) ⟨hx, hb, hml, hown, hts⟩ hM
    (va_cwS (mc := mc1) (ms := ms1) n hts (kgG (fun w hw => ?_)) rfl rfl rfl ⟨hV.2.2.2.1.1, hV.2.2.2.1.2, hV.2.2.2.2⟩ hRm) ⟨kgNc_blind, fun U hU hW => ⟨rfl, by rw [hU]; exact a0, by rw [hU]; exact Nat.le_trans hX b.1, hK.moved hW.alike, by rw [hU]; exact hE1.warm hW⟩⟩
    rfl hn hl.1 rfl (lv_room hcat) hdg ⟨h3, h4⟩) b (fun q _ h => h) (fun _ h => h) (fun u a1 t H1 locs1 ht hvm hw hB hz1 hk1 hS => ?_)
  · unfold va_wsS at hw
    rcases List.mem_append.mp hw with hw | hw
    · simp only [List.mem_cons, List.not_mem_nil, or_false] at hw
      rcases hw with rfl | rfl | rfl
      · exact hlk
      · exact hV.1
      · exact hV.2.1
    · rcases List.mem_cons.mp hw with rfl | hw
      · exact hV.2.2.1
      · exact hw
  · subst ht
    exact kk a1 hB.1 t.heap locs1 ls hB.2.1 hS hl
end BWR5
theorem kg_ln0 {x : MethodName} {n : Nat} (h2 : (parseMethodDescriptor x.desc).map (fun d => d.parameters.length) = some n) : ∀ sig, parseMethodDescriptor x.desc = some sig → n = sig.parameters.length := fun sig h => by
  rw [h] at h2; exact (Option.some.inj h2).symm
theorem cu_len : kgCUo RJ0 RJ5 549 yJ5_length_8abf5 yJ4_length_8abf5 cJ4_length_8abf5 1 (some .int) 0 := fun R s args rm hts hRm =>
  ⟨⟨rfl, rfl, hRm.1, hRm.2, pay_in hts (tw_H tw_556), List.mem_cons_self⟩, hts _ tw_556, hts _ tw_30, ⟨by decide +kernel, by decide +kernel⟩, kg_ln0 (by decide +kernel), hts _ tw_877, hts _ tw_927, va_Decl.of (x := yJ5_length_8abf5) (hts _ tw_558) (hts _ tw_559), hts _ tw_933, hts _ tw_554⟩
theorem cu_lat : kgCUo RJ0 RJ5 1047 yJ5_isLatin1_aae02 yJ5_isLatin1_aae02 cJ5_isLatin1_aae02 1 (some .boolean) 0 := fun R s args rm hts hRm =>
  ⟨⟨rfl, rfl, hRm.1, hRm.2, pay_in hts (tw_H tw_446), List.mem_cons_self⟩, hts _ tw_446, hts _ tw_29, ⟨by decide +kernel, by decide +kernel⟩, kg_ln0 (by decide +kernel), hts _ tw_878, hts _ tw_444, va_Decl.of (x := yJ5_isLatin1_aae02) (hts _ tw_443) (hts _ tw_446), hts _ tw_445, hts _ tw_443⟩
theorem cu_gv : kgCUo RJ0 RJ5 552 yJ5_getValue_6d5f1 yJ5_getValue_6d5f1 cJ5_getValue_6d5f1 1 (some (.array .byte)) 0 := fun R s args rm hts hRm =>
  ⟨⟨rfl, rfl, hRm.1, hRm.2, pay_in hts (tw_H tw_876), List.mem_cons_self⟩, hts _ tw_876, hts _ tw_29, ⟨by decide +kernel, by decide +kernel⟩, kg_ln0 (by decide +kernel), hts _ tw_872, hts _ tw_874, va_Decl.of (x := yJ5_getValue_6d5f1) (hts _ tw_873) (hts _ tw_876), hts _ tw_875, hts _ tw_873⟩
section BWR6
variable {X : kgCX Unit} {cc : ByteArray} {own : String} {nL fr lo mc ms ce sl ce2 sl2 : Nat} {pc : Nat} {L L2 : List (Nat × Value)} {st stk : List Value} {ws ws2 : va_W}
theorem bx_cPi (S : Cx X cc own nL fr lo mc ms) (hX : kgB (kgHs X) ≤ X.2.2.2.2.1.heap.size) (q0 : Nat) {a : Nat} {fs : List Value} (he : ws[q0]? = some (a, .inr (0, fs))) {y : MethodName} {bytes : ByteArray} {maxL n fr1 lo1 mc1 ms1 idx : Nat} {rt : Option FieldType} {r : Int32} (As : List Value) (hU : kgUW y bytes maxL rt n) (hsup : Cond.superclass own y.cls ∈ kg_U) (hno : y.name ≠ "<init>") (hlk : Cond.methodLink own idx y ∈ kg_U)
    (hM : Sdp (kgHs X) (kgL X) y bytes maxL rt { frames := fr1, cells := mc1, slots := ms1, locals := lo1 } (.ref a :: As) ws (kgPi (kgHs X) r ws2)) (hRm : fr1 + 1 ≤ fr ∧ 8 + (maxL + 11) + lo1 ≤ lo) (hn : As.length = n) (hst : stk = As.reverse ++ .ref a :: st) (hcat : (st.map fun v => v.category).sum ≤ 8)
    (h1 : ce + mc1 = ce2) (h2 : sl + ms1 = sl2) (h3 : ce2 ≤ mc) (h4 : sl2 ≤ ms) (hdg : decode cc pc = .ok (.invokespecial idx, 3)) (kk : BW X nL ce2 sl2 (pc + 3) L (.int r :: st) ws2) : BW X nL ce sl pc L stk ws := by
  obtain ⟨p, l, e, R, s, m, args, below, meth, c, hs, Q⟩ := X
  obtain ⟨⟨hx, hb, hml, hown, hts⟩, hR, hK, hE, hlk0⟩ := S
  subst hR; subst hst; subst h1; subst h2
  intro H locs ls a0 b hl
  have hE1 := hE.kept b.2.1
  obtain ⟨cC, hat⟩ := kg_at hts
  refine va_calli (va_runSU (C := RJ4) (As := As) (rest := st) hat ⟨hx, hb, hml, hown, hts⟩ hM (kg_CS (mc := mc1) (ms := ms1) (n := n) hts hU hlk hsup hno rfl rfl hRm) ⟨kgNc_blind, va_recv hK a0.1 cl_J4.1 he, fun U hU hW => ⟨rfl, by rw [hU]; exact a0, by rw [hU]; exact Nat.le_trans hX b.1, hK.moved hW.alike, by rw [hU]; exact hE1.warm hW⟩⟩
    rfl hn hl.1 rfl (lv_room hcat) hdg ⟨h3, h4⟩) b (fun q _ h => h) (fun _ h => h) (fun x u t H1 locs1 ht hvm hw hB hz1 hk1 hS => ?_)
  cases hw
  subst ht
  exact kk t.heap locs1 ls hB.1 hS hl
theorem bx_mmin (S : Cx X cc own nL fr lo mc ms) {idx : Nat} {x y : Int32} (hlk : Cond.methodLink own idx Lib.Math.min.name ∈ kg_U) (hfr : 1 ≤ fr) (hlo : (st.map fun v => v.category).sum + 13 ≤ lo) (hc : ce ≤ mc) (hs2 : sl ≤ ms) (hdg : decode cc pc = .ok (.invokestatic idx, 3))
    (kk : BW X nL ce sl (pc + 3) L (.int (if y < x then y else x) :: st) ws) : BW X nL ce sl pc L (.int y :: .int x :: st) ws := by
  obtain ⟨p, l, e, R, s, m, args, below, meth, c, hs, Q⟩ := X
  obtain ⟨⟨hx, hb, hml, hown, hts⟩, hR, hK, hE, hlk0⟩ := S
  subst hR
  intro H locs ls a b hl
  exact va_mmin hx hb (hml.trans hl.1.symm) hown (hts _ hlk) (hts _ tw_333) (hts _ tw_33) (hts _ tw_334) hfr hlo hc hs2 hdg (kk H locs ls a b hl)
theorem bx_copyb (S : Cx X cc own nL fr lo mc ms) (q0 q1 : Nat) {a0 a1 n0 n1 n : Nat} {f g : Nat → Int32} (e0 : ws[q0]? = some (a0, .inl (kgC (kgHs X) 12, n0, .inl f))) (e1 : ws[q1]? = some (a1, .inl (kgC (kgHs X) 12, n1, .inl g))) (hf : ∀ i, fits .byte (.int (f i)) = true) (h0 : n ≤ n0) (h1 : n ≤ n1) (hn : n < 2 ^ 30) {idx : Nat} (hfr : 1 ≤ fr) (hlo : (st.map fun v => v.category).sum + (nativeFrameWords "java/lang/System" "arraycopy" 5 + 11) ≤ lo) (hlk : Cond.methodLink own idx arraycopyName ∈ kg_U)
    (hws : ws.set q1 (a1, .inl (kgC (kgHs X) 12, n1, .inl (va_cpy f g 0 0 n))) = ws2) (hdg : decode cc pc = .ok (.invokestatic idx, 3)) (kk : BW X nL ce sl (pc + 3) L st ws2) : BW X nL ce sl pc L (.int (nI n) :: .int 0 :: .ref a1 :: .int 0 :: .ref a0 :: st) ws := by
  obtain ⟨p, l, e, R, s, m, args, below, meth, c, hs, Q⟩ := X
  obtain ⟨⟨hx, hb, hml, hown, hts⟩, hR, hK, hE, hlk0⟩ := S
  subst hR; subst hws
  intro H locs ls a b hl
  have cn : (nI n).toNatClampNeg = n := nI_clamp (by omega)
  have c0 : (0 : Int32).toNatClampNeg = 0 := rfl
  exact va_copyi hx hb (hml.trans hl.1.symm) hown (hts _ hlk) (hts _ tw_441) (hts _ tw_440) (hts _ tw_34) hK a.1 a.2 b q0 q1 2 2 e0 e1 rfl rfl rfl (by decide) (by decide) (nI_pos (by omega)) (by rw [c0, cn]; omega) (by rw [c0, cn]; omega) (fun i _ => hf _) hfr hlo hdg (fun H1 locs1 hP1 hD1 hS1 => by
    rw [c0, cn] at hP1 hD1
    exact kk H1 locs1 ls ⟨hP1, hD1⟩ hS1 hl)
theorem bx_clone (S : Cx X cc own nL fr lo mc ms) (hX : kgB (kgHs X) ≤ X.2.2.2.2.1.heap.size) (q0 : Nat) {a n : Nat} {f : Nat → Int32} (he : ws[q0]? = some (a, .inl (kgC (kgHs X) 12, n, .inl f))) (hf : ∀ i, fits .byte (.int (f i)) = true) {idx i2 : Nat} (hfr : 1 ≤ fr) (hlo : (st.map fun v => v.category).sum + 14 ≤ lo) (hlk : Cond.methodLink own idx ⟨"[B", "clone", "()Ljava/lang/Object;"⟩ ∈ kg_U) (hl2 : Cond.classLink own i2 "[B" ∈ kg_U)
    (h1 : ce + 1 = ce2) (h2 : sl + n = sl2) (h3 : ce2 ≤ mc) (h4 : sl2 ≤ ms) (hdg : decode cc pc = .ok (.invokevirtual idx, 3)) (hdg2 : decode cc (pc + 3) = .ok (.checkcast i2, 3)) (kk : ∀ q : Nat, BW X nL ce2 sl2 (pc + 3 + 3) L (.ref q :: st) ((q, .inl (kgC (kgHs X) 12, n, .inl f)) :: ws)) : BW X nL ce sl pc L (.ref a :: st) ws := by
  obtain ⟨p, l, e, R, s, m, args, below, meth, c, hs, Q⟩ := X
  obtain ⟨⟨hx, hb, hml, hown, hts⟩, hR, hK, hE, hlk0⟩ := S
  subst hR; subst h1; subst h2
  intro H locs ls a0 b hl
  have hnm : s.vm.findClass "[B" = some (kgC hs 12) := (hK.2 2 _ rfl).2
  refine va_clone (ad := "[B") hx hb (hml.trans hl.1.symm) hown (hts _ hlk) (hts _ tw_432) (hts _ tw_433) (hts _ tw_434) (hts _ tw_435) hE.2.2.2.2.2.2.2.2.2.2.1.2.2.2 hK a0.1 a0.2 b (fun q h => Nat.le_trans hX h) q0 2 he rfl hnm (va_fit (fun i _ => hf i)) hfr hlo h3 h4 hdg (fun q H1 hK1 hP1 hD1 hS1 => ?_)
  refine va_castA hx hb hown (hts _ hl2) hP1 ws.length (ha := by rw [List.getElem?_append_right (Nat.le_refl _), Nat.sub_self]; rfl) hnm hdg2 ?_
  exact kk q H1 locs ls (kgCW.rot hP1 hD1) hS1 hl
end BWR6
theorem s_K_gv (hs : kgH) (l : Launch) {ws : va_W} {i0 sb av : Nat} {m k c : Int32} (h0 : ws[i0]? = some (sb, .inr (0, [.ref av, .int c, .int m, .int k]))) : Sdp hs l yJ5_getValue_6d5f1 cJ5_getValue_6d5f1 1 (some (.array .byte)) { frames := 0, cells := 0, slots := 0, locals := 0 } [.ref sb] ws (kgPr hs (fun a => a = av) (fun _ => ws)) := by
  refine sd_p (by decide +kernel) (Nat.le_of_ble_eq_true rfl) hs l (fun X hh S hX hB hQ => ?_)
  subst hh
  refine bw_sub (L2 := [(0, .ref sb)]) [0] rfl ?_
  refine bw_aload_n S 0 rfl dJ5_getValue_6d5f1_0 rfl ?_
  refine bw_get S i0 0 h0 cl_J4 (by decide) rfl tw_210 rfl dJ5_getValue_6d5f1_1 ?_
  exact bx_reta S hQ (Or.inr ⟨_, rfl⟩) rfl rfl (Nat.le_refl _) (Nat.le_refl _) dJ5_getValue_6d5f1_4
theorem s_K_len5 (hs : kgH) (l : Launch) {ws : va_W} {i0 sb av : Nat} {m k c : Int32} (h0 : ws[i0]? = some (sb, .inr (0, [.ref av, .int c, .int m, .int k]))) : Sdp hs l yJ5_length_8abf5 cJ5_length_8abf5 1 (some .int) { frames := 0, cells := 0, slots := 0, locals := 0 } [.ref sb] ws (kgPi hs k ws) := by
  refine sd_p (by decide +kernel) (Nat.le_of_ble_eq_true rfl) hs l (fun X hh S hX hB hQ => ?_)
  subst hh
  refine bw_sub (L2 := [(0, .ref sb)]) [0] rfl ?_
  refine bw_aload_n S 0 rfl dJ5_length_8abf5_0 rfl ?_
  refine bw_get S i0 3 h0 cl_J4 (by decide) rfl tw_214 rfl dJ5_length_8abf5_1 ?_
  exact bx_ret S hQ (vp_nar_int _) (Nat.le_refl _) (Nat.le_refl _) dJ5_length_8abf5_4
theorem s_K_len (hs : kgH) (l : Launch) {ws : va_W} {i0 sb av : Nat} {m k c : Int32} (h0 : ws[i0]? = some (sb, .inr (0, [.ref av, .int c, .int m, .int k]))) : Sdp hs l yJ4_length_8abf5 cJ4_length_8abf5 1 (some .int) { frames := 1, cells := 0, slots := 0, locals := 20 } [.ref sb] ws (kgPi hs k ws) := by
  refine sd_p (by decide +kernel) (Nat.le_of_ble_eq_true rfl) hs l (fun X hh S hX hB hQ => ?_)
  subst hh
  refine bw_sub (L2 := [(0, .ref sb)]) [0] rfl ?_
  refine bw_aload_n S 0 rfl dJ4_length_8abf5_0 rfl ?_
  refine bx_cPi S hB i0 h0 [] uw_len tw_223 (by decide) tw_557 (s_K_len5 _ _ h0) ⟨by decide, by decide⟩ rfl rfl (Nat.le_of_ble_eq_true rfl) rfl rfl (Nat.le_refl _) (Nat.le_refl _) dJ4_length_8abf5_1 ?_
  exact bx_ret S hQ (vp_nar_int _) (Nat.le_refl _) (Nat.le_refl _) dJ4_length_8abf5_4
theorem s_K_lat (hs : kgH) (l : Launch) {ws : va_W} {i0 sb av : Nat} {m k : Int32} (h0 : ws[i0]? = some (sb, .inr (0, [.ref av, .int 0, .int m, .int k]))) : Sdp hs l yJ5_isLatin1_aae02 cJ5_isLatin1_aae02 1 (some .boolean) { frames := 0, cells := 0, slots := 0, locals := 0 } [.ref sb] ws (kgPi hs 1 ws) := by
  refine sd_p (by decide +kernel) (Nat.le_of_ble_eq_true rfl) hs l (fun X hh S hX hB hQ => ?_)
  subst hh
  refine bw_sub (L2 := [(0, .ref sb)]) [0] rfl ?_
  refine bw_getCS S tw_201 dJ5_isLatin1_aae02_0 ?_
  refine bx_if_eqF (y := 0) (tgt := 17) S dJ5_isLatin1_aae02_3 (by decide) (by decide) ?_
  refine bw_aload_n S 0 rfl dJ5_isLatin1_aae02_6 rfl ?_
  refine bw_get S i0 1 h0 cl_J4 (by decide) rfl tw_211 rfl dJ5_isLatin1_aae02_7 ?_
  refine bx_if_neF (y := 0) (tgt := 17) S dJ5_isLatin1_aae02_10 (by decide) (by decide) ?_
  refine bw_iconst S dJ5_isLatin1_aae02_13 (v := 1) (by decide) ?_
  refine bw_goto (tgt := 18) S dJ5_isLatin1_aae02_14 (by decide) ?_
  exact bx_ret S hQ rfl (Nat.le_refl _) (Nat.le_refl _) dJ5_isLatin1_aae02_18
theorem s_K_chk (hs : kgH) (l : Launch) (ws : va_W) {n : Nat} (hn : n < 2 ^ 30) : Sdn hs l yJ7_checkLength_df160 cJ7_checkLength_df160 2 { frames := 0, cells := 0, slots := 0, locals := 0 } [.int 0, .int (nI n)] ws (fun _ => ws) := by
  refine sd_n (by decide +kernel) (Nat.le_of_ble_eq_true rfl) hs l (fun X hh hl S hX hQ => ?_)
  subst hh
  refine bw_sub (L2 := [(0, .int 0), (1, .int (nI n))]) [0, 1] rfl ?_
  refine bw_iload_n S 1 rfl dJ7_checkLength_df160_0 rfl ?_
  refine bw_iload_n S 0 rfl dJ7_checkLength_df160_1 rfl ?_
  refine bw_icmp_geT (tgt := 37) S dJ7_checkLength_df160_2 (by decide) (nI_pos' (by omega)) ?_
  exact bw_ret S hQ id rfl (Nat.le_refl _) (Nat.le_refl _) dJ7_checkLength_df160_37
theorem vw_J7_checkLength_df160 : kgSW yJ7_checkLength_df160 cJ7_checkLength_df160 2 none 2 := ⟨tw_886, tw_25, tw_887, by decide +kernel, by decide +kernel⟩
theorem vw_J7_copyOfRangeByte_39247 : kgSW yJ7_copyOfRangeByte_39247 cJ7_copyOfRangeByte_39247 5 (some (.array .byte)) 3 := ⟨tw_883, tw_25, tw_884, by decide +kernel, by decide +kernel⟩
theorem vw_J7_copyOfRange_39247 : kgSW yJ7_copyOfRange_39247 cJ7_copyOfRange_39247 3 (some (.array .byte)) 3 := ⟨tw_880, tw_25, tw_881, by decide +kernel, by decide +kernel⟩
set_option maxHeartbeats 4000000 in
set_option maxRecDepth 100000 in
theorem s_K_copyB (hs : kgH) (l : Launch) {ws : va_W} {j0 av cap n : Nat} {f : Nat → Int32} (h1 : ws[j0]? = some (av, .inl (kgC hs 12, cap, .inl f))) (hf : ∀ i, fits .byte (.int (f i)) = true) (hn : n < cap) (hc : cap ≤ 34) : Sdp hs l yJ7_copyOfRangeByte_39247 cJ7_copyOfRangeByte_39247 5 (some (.array .byte)) { frames := 1, cells := 1, slots := 34, locals := 60 } [.ref av, .int 0, .int (nI n)] ws (kgPr hs (fun _ => True) (fun q => (q, .inl (kgC hs 12, n, .inl (va_cpy f (fun _ => 0) 0 0 n))) :: ws)) := by
  refine sd_p (by decide +kernel) (Nat.le_of_ble_eq_true rfl) hs l (fun X hh S hX hB hQ => ?_)
  subst hh
  have hlt := (List.getElem?_eq_some_iff.mp h1).1
  refine bw_sub (L2 := [(0, .ref av), (1, .int 0), (2, .int (nI n))]) [0, 1, 2] rfl ?_
  refine bw_iload_n S 1 rfl dJ7_copyOfRangeByte_39247_0 rfl ?_
  refine bw_iload_n S 2 rfl dJ7_copyOfRangeByte_39247_1 rfl ?_
  refine bw_cS S hB [.int 0, .int (nI n)] vw_J7_checkLength_df160 tw_885 (s_K_chk _ _ ws (by omega)) ⟨by decide, by decide⟩ rfl rfl (Nat.le_of_ble_eq_true rfl) rfl rfl (Nat.le_of_ble_eq_true rfl) (Nat.le_of_ble_eq_true rfl) dJ7_copyOfRangeByte_39247_2 (fun _ => ?_)
  refine bw_iload_n S 2 rfl dJ7_copyOfRangeByte_39247_5 rfl ?_
  refine bw_iload_n S 1 rfl dJ7_copyOfRangeByte_39247_6 rfl ?_
  refine bx_isub S dJ7_copyOfRangeByte_39247_7 ?_
  rw [Int32.sub_zero]
  refine bw_istore_n (L2 := [(0, .ref av), (1, .int 0), (2, .int (nI n)), (3, .int (nI n))]) S [1, 2, 3, 0] dJ7_copyOfRangeByte_39247_8 rfl (by decide) rfl ?_
  refine bw_iload_n S 3 rfl dJ7_copyOfRangeByte_39247_9 rfl ?_
  refine bw_newa (atype := .byte) (N' := n) (ce2 := 1) (sl2 := n) S hB 2 12 tw_224 rfl rfl (fun _ _ => rfl) (fun _ => rfl) (nI_pos (by omega)) (nI_clamp (by omega)) (by show n * 1 ≤ _; omega) rfl (Nat.zero_add _) (Nat.le_refl _) (show n ≤ 34 by omega) dJ7_copyOfRangeByte_39247_10 (fun q => ?_)
  refine bx_astore (L2 := [(0, .ref av), (1, .int 0), (2, .int (nI n)), (3, .int (nI n)), (4, .ref q)]) S [1, 2, 3, 4, 0] dJ7_copyOfRangeByte_39247_12 (by decide) rfl ?_
  refine bw_aload_n S 0 rfl dJ7_copyOfRangeByte_39247_14 rfl ?_
  refine bw_iload_n S 1 rfl dJ7_copyOfRangeByte_39247_15 rfl ?_
  refine bx_aload S 4 rfl dJ7_copyOfRangeByte_39247_16 ?_
  refine bw_iconst S dJ7_copyOfRangeByte_39247_18 (v := 0) (by decide) ?_
  refine bw_aload_n S 0 rfl dJ7_copyOfRangeByte_39247_19 rfl ?_
  refine bw_alen (n := cap) (kt := 12) S (j0 + 1) 2 (by simpa using h1) rfl (v := nI cap) rfl dJ7_copyOfRangeByte_39247_20 ?_
  refine bw_iload_n S 1 rfl dJ7_copyOfRangeByte_39247_21 rfl ?_
  refine bx_isub S dJ7_copyOfRangeByte_39247_22 ?_
  rw [Int32.sub_zero]
  refine bw_iload_n S 3 rfl dJ7_copyOfRangeByte_39247_23 rfl ?_
  refine bx_mmin S tw_438 (by decide) (Nat.le_of_ble_eq_true rfl) (Nat.le_refl _) (show n ≤ 34 by omega) dJ7_copyOfRangeByte_39247_24 ?_
  rw [if_pos (nI_lt hn (by omega))]
  refine bx_copyb (ws2 := (q, .inl (kgC (kgHs X) 12, n, .inl (va_cpy f (fun _ => 0) 0 0 n))) :: ws) S (j0 + 1) 0 (by simpa using h1) rfl hf (by omega) (Nat.le_refl _) (by omega) (by decide) (Nat.le_of_ble_eq_true rfl) tw_439 rfl dJ7_copyOfRangeByte_39247_27 ?_
  refine bx_aload S 4 rfl dJ7_copyOfRangeByte_39247_30 ?_
  exact bx_reta S hQ (Or.inr ⟨_, rfl⟩) trivial rfl (Nat.le_refl _) (show n ≤ 34 by omega) dJ7_copyOfRangeByte_39247_32
set_option maxHeartbeats 4000000 in
set_option maxRecDepth 100000 in
theorem s_K_copy (hs : kgH) (l : Launch) {ws : va_W} {j0 av cap n : Nat} {f : Nat → Int32} (h1 : ws[j0]? = some (av, .inl (kgC hs 12, cap, .inl f))) (hf : ∀ i, fits .byte (.int (f i)) = true) (hn : n ≤ cap) (hc : cap ≤ 34) : Sdp hs l yJ7_copyOfRange_39247 cJ7_copyOfRange_39247 3 (some (.array .byte)) { frames := 2, cells := 1, slots := 34, locals := 90 } [.ref av, .int 0, .int (nI n)] ws (kgPr hs (fun _ => True) (fun q => (q, .inl (kgC hs 12, n, .inl (if n = cap then f else va_cpy f (fun _ => 0) 0 0 n))) :: ws)) := by
  refine sd_p (by decide +kernel) (Nat.le_of_ble_eq_true rfl) hs l (fun X hh S hX hB hQ => ?_)
  subst hh
  refine bw_sub (L2 := [(0, .ref av), (1, .int 0), (2, .int (nI n))]) [0, 1, 2] rfl ?_
  refine bw_iload_n S 1 rfl dJ7_copyOfRange_39247_0 rfl ?_
  refine bx_if_neF (y := 0) (tgt := 10) S dJ7_copyOfRange_39247_1 (by decide) (by decide) ?_
  refine bw_iload_n S 2 rfl dJ7_copyOfRange_39247_4 rfl ?_
  refine bw_aload_n S 0 rfl dJ7_copyOfRange_39247_5 rfl ?_
  refine bw_alen (n := cap) (kt := 12) S j0 2 h1 rfl (v := nI cap) rfl dJ7_copyOfRange_39247_6 ?_
  by_cases e : n = cap
  · subst e
    refine bx_icmp_eqT (tgt := 17) S dJ7_copyOfRange_39247_7 (by decide) rfl ?_
    refine bw_aload_n S 0 rfl dJ7_copyOfRange_39247_17 rfl ?_
    refine bx_clone (ce2 := 1) (sl2 := n) S hB j0 h1 hf (by decide) (by decide) tw_431 tw_437 rfl (Nat.zero_add _) (Nat.le_refl _) hc dJ7_copyOfRange_39247_18 dJ7_copyOfRange_39247_21 (fun q => ?_)
    exact bx_reta S hQ (Or.inr ⟨_, rfl⟩) trivial (by rw [if_pos rfl]) (Nat.le_refl _) hc dJ7_copyOfRange_39247_24
  · refine bx_icmp_eqF (tgt := 17) S dJ7_copyOfRange_39247_7 (by decide) (fun h => e ((nI_eq (by omega) (by omega)).mp h)) ?_
    refine bw_aload_n S 0 rfl dJ7_copyOfRange_39247_10 rfl ?_
    refine bw_iload_n S 1 rfl dJ7_copyOfRange_39247_11 rfl ?_
    refine bw_iload_n S 2 rfl dJ7_copyOfRange_39247_12 rfl ?_
    refine bx_cSr (ce2 := 1) (sl2 := 34) S hB [.ref av, .int 0, .int (nI n)] vw_J7_copyOfRangeByte_39247 tw_882 (s_K_copyB _ _ h1 hf (by omega) hc) ⟨by decide, by decide⟩ rfl rfl (Nat.le_of_ble_eq_true rfl) rfl rfl (Nat.le_refl _) (Nat.le_refl _) dJ7_copyOfRange_39247_13 (fun q _ => ?_)
    exact bx_reta S hQ (Or.inr ⟨_, rfl⟩) trivial (by rw [if_neg e]) (Nat.le_refl _) (Nat.le_refl _) dJ7_copyOfRange_39247_16
theorem vi_J0a : kgIW yJ0_init_db425 cJ0_init_db425 5 2 := ⟨⟨tw_869, rfl⟩, tw_31, tw_870, by decide +kernel, by decide +kernel⟩
theorem vi_J0b : kgIW yJ0_init_81219 cJ0_init_81219 2 1 := ⟨⟨tw_866, rfl⟩, tw_31, tw_867, by decide +kernel, by decide +kernel⟩
abbrev kg_zJ0 : List Value := [.null, .int 0, .int 0, .int 0]
/-- the bytes of the text made -/
def kgTf (f : Nat → Int32) (n cap : Nat) : Nat → Int32 := if n = cap then f else va_cpy f (fun _ => 0) 0 0 n
def kgTw (hs : kgH) (f : Nat → Int32) (n cap q q2 : Nat) : va_W := [(q2, .inl (kgC hs 12, n, .inl (kgTf f n cap))), (q, .inr (6, [.ref q2, .int 0, .int 0, .int 0]))]
set_option maxHeartbeats 4000000 in
set_option maxRecDepth 100000 in
theorem s_K_initA (hs : kgH) (l : Launch) {ws : va_W} {i0 j0 sb av cap n : Nat} {m : Int32} {f : Nat → Int32} (h0 : ws[i0]? = some (sb, .inr (0, [.ref av, .int 0, .int m, .int (nI n)]))) (h1 : ws[j0]? = some (av, .inl (kgC hs 12, cap, .inl f))) (hf : ∀ i, fits .byte (.int (f i)) = true) (hn : n ≤ cap) (hc : cap ≤ 34) (q : Nat) : Sdn hs l yJ0_init_db425 cJ0_init_db425 5 { frames := 3, cells := 1, slots := 34, locals := 130 } [.ref q, .ref sb, .null] ((q, .inr (6, kg_zJ0)) :: ws) (fun o => kgTw hs f n cap q (o 0) ++ ws) := by
  refine sd_n (by decide +kernel) (Nat.le_of_ble_eq_true rfl) hs l (fun X hh hl S hX hQ => ?_)
  subst hh
  have h0' : ((q, .inr (6, kg_zJ0)) :: ws)[i0 + 1]? = some (sb, .inr (0, [.ref av, .int 0, .int m, .int (nI n)])) := by simpa using h0
  have h1' : ((q, .inr (6, [Value.null, .int 0, .int 0, .int 0])) :: ws)[j0 + 1]? = some (av, .inl (kgC (kgHs X) 12, cap, .inl f)) := by simpa using h1
  refine bw_sub (L2 := [(0, .ref q), (1, .ref sb)]) [0, 1] rfl ?_
  refine bw_aload_n S 0 rfl dJ0_init_db425_0 rfl ?_
  refine bw_objInit S tw_871 dJ0_init_db425_1 (by decide) (by decide) (by decide) ?_
  refine bw_aload_n S 1 rfl dJ0_init_db425_4 rfl ?_
  refine bx_cUr (ce2 := 0) (sl2 := 0) S (hX rfl).2 (i0 + 1) h0' [] cu_gv (s_K_gv _ _ h0') ⟨by decide, by decide⟩ rfl rfl (Nat.le_of_ble_eq_true rfl) rfl rfl (Nat.zero_le _) (Nat.zero_le _) dJ0_init_db425_5 (fun a ha => ?_)
  subst ha
  refine bx_astore_n (L2 := [(0, .ref q), (1, .ref sb), (3, .ref a)]) S [1, 2, 0] dJ0_init_db425_8 rfl (by decide) rfl ?_
  refine bw_aload_n S 1 rfl dJ0_init_db425_9 rfl ?_
  refine bx_cUi (ce2 := 0) (sl2 := 0) S (hX rfl).2 (i0 + 1) h0' [] cu_len (s_K_len _ _ h0') ⟨by decide, by decide⟩ rfl rfl (Nat.le_of_ble_eq_true rfl) rfl rfl (Nat.zero_le _) (Nat.zero_le _) dJ0_init_db425_10 ?_
  refine bx_istore (L2 := [(0, .ref q), (1, .ref sb), (3, .ref a), (4, .int (nI n))]) S [1, 2, 3, 0] dJ0_init_db425_13 (by decide) rfl ?_
  refine bw_aload_n S 1 rfl dJ0_init_db425_15 rfl ?_
  refine bx_cUi (ce2 := 0) (sl2 := 0) S (hX rfl).2 (i0 + 1) h0' [] cu_lat (s_K_lat _ _ h0') ⟨by decide, by decide⟩ rfl rfl (Nat.le_of_ble_eq_true rfl) rfl rfl (Nat.zero_le _) (Nat.zero_le _) dJ0_init_db425_16 ?_
  refine bx_if_eqF (y := 0) (tgt := 41) S dJ0_init_db425_19 (by decide) (by decide) ?_
  refine bw_aload_n S 0 rfl dJ0_init_db425_22 rfl ?_
  refine bw_iconst S dJ0_init_db425_23 (v := 0) (by decide) ?_
  refine bw_putF (ws2 := (q, .inr (6, [.null, .int 0, .int 0, .int 0])) :: ws) S (hX rfl) 0 1 rfl cl_J0 tyJ0_ok nmJ0 (by decide) rfl tw_899 rfl rfl (by decide) rfl dJ0_init_db425_24 ?_
  refine bw_aload_n S 0 rfl dJ0_init_db425_27 rfl ?_
  refine bw_aload_n S 2 rfl dJ0_init_db425_28 rfl ?_
  refine bw_iconst S dJ0_init_db425_29 (v := 0) (by decide) ?_
  refine bx_iload S 3 rfl dJ0_init_db425_30 ?_
  refine bx_cSr (ce2 := 1) (sl2 := 34) S (hX rfl).2 [.ref a, .int 0, .int (nI n)] vw_J7_copyOfRange_39247 tw_879 (s_K_copy _ _ h1' hf hn hc) ⟨by decide, by decide⟩ rfl rfl (Nat.le_of_ble_eq_true rfl) rfl rfl (Nat.le_refl _) (Nat.le_refl _) dJ0_init_db425_32 (fun q2 _ => ?_)
  refine bw_putF (ws2 := (q2, .inl (kgC (kgHs X) 12, n, .inl (kgTf f n cap))) :: (q, .inr (6, [.ref q2, .int 0, .int 0, .int 0])) :: ws) S (hX rfl) 1 0 rfl cl_J0 tyJ0_ok nmJ0 (by decide) rfl tw_898 rfl rfl (by decide) rfl dJ0_init_db425_35 ?_
  refine bw_goto (tgt := 97) S dJ0_init_db425_38 (by decide) ?_
  exact bw_ret S hQ (fun _ => q2) rfl (Nat.le_refl _) (Nat.le_refl _) dJ0_init_db425_97
theorem s_K_initB (hs : kgH) (l : Launch) {ws : va_W} {i0 j0 sb av cap n : Nat} {m : Int32} {f : Nat → Int32} (h0 : ws[i0]? = some (sb, .inr (0, [.ref av, .int 0, .int m, .int (nI n)]))) (h1 : ws[j0]? = some (av, .inl (kgC hs 12, cap, .inl f))) (hf : ∀ i, fits .byte (.int (f i)) = true) (hn : n ≤ cap) (hc : cap ≤ 34) (q : Nat) : Sdn hs l yJ0_init_81219 cJ0_init_81219 2 { frames := 4, cells := 1, slots := 34, locals := 160 } [.ref q, .ref sb] ((q, .inr (6, kg_zJ0)) :: ws) (fun o => kgTw hs f n cap q (o 0) ++ ws) := by
  refine sd_n (by decide +kernel) (Nat.le_of_ble_eq_true rfl) hs l (fun X hh hl S hX hQ => ?_)
  subst hh
  refine bw_sub (L2 := [(0, .ref q), (1, .ref sb)]) [0, 1] rfl ?_
  refine bw_aload_n S 0 rfl dJ0_init_81219_0 rfl ?_
  refine bw_aload_n S 1 rfl dJ0_init_81219_1 rfl ?_
  refine bx_null S dJ0_init_81219_2 ?_
  refine bw_ctor (ce2 := 1) (sl2 := 34) S (hX rfl).2 [.ref sb, .null] vi_J0a tw_868 (s_K_initA _ _ h0 h1 hf hn hc q) (by decide) rfl rfl (Nat.le_of_ble_eq_true rfl) rfl rfl (Nat.le_refl _) (Nat.le_refl _) dJ0_init_81219_3 (fun o => ?_)
  exact bw_ret S hQ o rfl (Nat.le_refl _) (Nat.le_refl _) dJ0_init_81219_6
/-- what toString answers: q, its bytes at u -/
def kgTos (hs : kgH) (f : Nat → Int32) (n cap : Nat) (ws : va_W) : Array Value → State → Outcome → State → Prop := va_Qr (fun (_ : Nat) => True) (fun u a t => kgCW hs (kgTw hs f n cap a u ++ ws) t.heap ∧ kgKX hs t) (kgA hs)
theorem bx_retT {X : kgCX Unit} {cc : ByteArray} {own : String} {nL fr lo mc ms ce sl : Nat} {pc : Nat} {L : List (Nat × Value)} {ws : va_W} {n : String} {f : Nat → Int32} {k cap q q2 : Nat} (S : Cx X cc own nL fr lo mc ms) (hQ : Qxp X (some (.object n)) (kgTos (kgHs X) f k cap ws)) (h1 : ce ≤ mc) (h2 : sl ≤ ms) (hdg : decode cc pc = .ok (.areturn, 1)) : BW X nL ce sl pc L [.ref q] (kgTw (kgHs X) f k cap q q2 ++ ws) := by
  obtain ⟨p, l, e, R, s, m, args, below, meth, c, hs, Q⟩ := X
  obtain ⟨⟨hx, hb, hml, hown, hts⟩, hR, hK, hE, hlk0⟩ := S
  obtain ⟨hrt, hQ⟩ := hQ
  replace hQ : Q = fun _ => MQ below (kgTos hs f k cap ws) args s R.cells R.slots (kgA hs) := hQ
  subst hQ; subst hR
  intro H locs ls a b hl
  refine W.widen (k := mc) (n := ms) h1 h2 ?_
  exact W.aret hx hb hrt (Or.inl ⟨_, rfl⟩) (Or.inr ⟨_, rfl⟩) (fun t ht hW => ⟨⟨q2, q, rfl, trivial, by rw [ht]; exact a, hK.moved hW.alike⟩, b.F ht⟩) b.2.2 hdg hlk0
theorem s_K_toS (hs : kgH) (l : Launch) {ws : va_W} {i0 j0 sb av cap n : Nat} {m : Int32} {f : Nat → Int32} (h0 : ws[i0]? = some (sb, .inr (0, [.ref av, .int 0, .int m, .int (nI n)]))) (h1 : ws[j0]? = some (av, .inl (kgC hs 12, cap, .inl f))) (hf : ∀ i, fits .byte (.int (f i)) = true) (hn : n ≤ cap) (hc : cap ≤ 34) : Sdp hs l yJ4_toString_0e30d cJ4_toString_0e30d 1 (some (.object "java/lang/String")) { frames := 5, cells := 2, slots := 38, locals := 190 } [.ref sb] ws (kgTos hs f n cap ws) := by
  refine sd_p (by decide +kernel) (Nat.le_of_ble_eq_true rfl) hs l (fun X hh S hX hB hQ => ?_)
  subst hh
  refine bw_sub (L2 := [(0, .ref sb)]) [0] rfl ?_
  refine bw_new (ce2 := 1) (sl2 := 4) S hB cl_J0 tyJ0_ok tw_863 tw_864 tw_31 (fs := kg_zJ0) (by decide +kernel) rfl rfl (Nat.le_of_ble_eq_true rfl) (Nat.le_of_ble_eq_true rfl) dJ4_toString_0e30d_0 (fun q => ?_)
  refine bw_dup S dJ4_toString_0e30d_3 ?_
  refine bw_aload_n S 0 rfl dJ4_toString_0e30d_4 rfl ?_
  refine bw_ctor (ce2 := 2) (sl2 := 38) S hB [.ref sb] vi_J0b tw_865 (s_K_initB _ _ h0 h1 hf hn hc q) (by decide) rfl rfl (Nat.le_of_ble_eq_true rfl) rfl rfl (Nat.le_refl _) (Nat.le_refl _) dJ4_toString_0e30d_5 (fun o => ?_)
  exact bx_retT S hQ (Nat.le_refl _) (Nat.le_refl _) dJ4_toString_0e30d_8
