/-! MAKERS: a walk over a list of cells, the newest first. -/
def kgCW (hs : kgH) (ws : va_W) (H : Heap) : Prop := va_P (kgD hs) vwCl ws H ∧ va_D (kgA hs) ws
theorem kgCW.rot {hs : kgH} {ws : va_W} {x : Nat × va_E} {H : Heap} (hP : va_P (kgD hs) vwCl (ws ++ [x]) H) (hD : va_D (kgA hs) (ws ++ [x])) : kgCW hs (x :: ws) H :=
  ⟨va_P.swap (a := []) (b := ws) (c := [x]) hP, va_D.swap (a := []) (b := ws) (c := [x]) hD⟩
def BW (X : kgCX Unit) (nL ce sl pc : Nat) (L : List (Nat × Value)) (st : List Value) (ws : va_W) : Prop := match X with
  | (p, l, e, R, s, m, args, below, meth, c, hs, Q) => ∀ (H : Heap) (locs : List Loc) (ls : Array Slot), kgCW hs ws H → va_S (kgA hs) s.heap H locs → lv_has ls nL L → W p l e R s m args below meth c H locs ce sl (Q ()) (F0 m pc ls st)
def Nx (X : kgCX Unit) : Prop := X.2.2.2.2.2.2.2.2.1.name = "<init>" ∧ kgB (kgHs X) ≤ X.2.2.2.2.1.heap.size
section BWR
variable {X : kgCX Unit} {cc : ByteArray} {own : String} {nL fr lo mc ms ce sl ce2 sl2 : Nat} {pc : Nat} {L L2 : List (Nat × Value)} {st stk : List Value} {ws : va_W}
theorem bw_sub (ks : List Nat) (h : lv_pick L ks = L2) (k : BW X nL ce sl pc L2 st ws) : BW X nL ce sl pc L st ws := by
  obtain ⟨p, l, e, R, s, m, args, below, meth, c, hs, Q⟩ := X
  intro H locs ls a b hl
  exact k H locs ls a b (lv_sub hl ks h)
theorem bw_widen {k n : Nat} (h1 : ce ≤ k) (h2 : sl ≤ n) (kk : BW X nL k n pc L st ws) : BW X nL ce sl pc L st ws := by
  obtain ⟨p, l, e, R, s, m, args, below, meth, c, hs, Q⟩ := X
  intro H locs ls a b hl
  exact W.widen h1 h2 (kk H locs ls a b hl)
theorem bw_iconst (S : Cx X cc own nL fr lo mc ms) {n : Int} {v : Int32} (hdg : decode cc pc = .ok (.iconst n, 1)) (hv : Int32.ofInt n = v) (k : BW X nL ce sl (pc + 1) L (.int v :: st) ws) : BW X nL ce sl pc L st ws := by
  obtain ⟨p, l, e, R, s, m, args, below, meth, c, hs, Q⟩ := X
  obtain ⟨⟨hx, hb, hml, hown, hts⟩, hR, hK, hE, hlk⟩ := S
  intro H locs ls a b hl
  exact lv_iconst hx hb hdg hv (k H locs ls a b hl)
theorem bw_bipush (S : Cx X cc own nL fr lo mc ms) {n : Int} {v : Int32} (hdg : decode cc pc = .ok (.bipush n, 2)) (hv : (Int8.ofInt n).toInt32 = v) (k : BW X nL ce sl (pc + 2) L (.int v :: st) ws) : BW X nL ce sl pc L st ws := by
  obtain ⟨p, l, e, R, s, m, args, below, meth, c, hs, Q⟩ := X
  obtain ⟨⟨hx, hb, hml, hown, hts⟩, hR, hK, hE, hlk⟩ := S
  intro H locs ls a b hl
  exact lv_bipush hx hb hdg hv (k H locs ls a b hl)
theorem bw_sipush (S : Cx X cc own nL fr lo mc ms) {n : Int} {v : Int32} (hdg : decode cc pc = .ok (.sipush n, 3)) (hv : (Int16.ofInt n).toInt32 = v) (k : BW X nL ce sl (pc + 3) L (.int v :: st) ws) : BW X nL ce sl pc L st ws := by
  obtain ⟨p, l, e, R, s, m, args, below, meth, c, hs, Q⟩ := X
  obtain ⟨⟨hx, hb, hml, hown, hts⟩, hR, hK, hE, hlk⟩ := S
  intro H locs ls a b hl
  exact lv_sipush hx hb hdg hv (k H locs ls a b hl)
theorem bw_iload_n (S : Cx X cc own nL fr lo mc ms) {q : Fin 4} {i : Nat} {x : Int32} (j : Nat) (hj : L[j]? = some (i, .int x)) (hdg : decode cc pc = .ok (.iload_n q, 1)) (hi : (q : Nat) = i) (k : BW X nL ce sl (pc + 1) L (.int x :: st) ws) : BW X nL ce sl pc L st ws := by
  obtain ⟨p, l, e, R, s, m, args, below, meth, c, hs, Q⟩ := X
  obtain ⟨⟨hx, hb, hml, hown, hts⟩, hR, hK, hE, hlk⟩ := S
  intro H locs ls a b hl
  exact lv_iload_n hx hb hdg hi (lv_at hl j hj) (k H locs ls a b hl)
theorem bw_aload_n (S : Cx X cc own nL fr lo mc ms) {q : Fin 4} {i : Nat} {x : Nat} (j : Nat) (hj : L[j]? = some (i, .ref x)) (hdg : decode cc pc = .ok (.aload_n q, 1)) (hi : (q : Nat) = i) (k : BW X nL ce sl (pc + 1) L (.ref x :: st) ws) : BW X nL ce sl pc L st ws := by
  obtain ⟨p, l, e, R, s, m, args, below, meth, c, hs, Q⟩ := X
  obtain ⟨⟨hx, hb, hml, hown, hts⟩, hR, hK, hE, hlk⟩ := S
  intro H locs ls a b hl
  exact lv_aload_n hx hb hdg hi (lv_at hl j hj) (k H locs ls a b hl)
theorem bw_dup (S : Cx X cc own nL fr lo mc ms) {v : Nat} (hdg : decode cc pc = .ok (.dup, 1)) (k : BW X nL ce sl (pc + 1) L (.ref v :: .ref v :: st) ws) : BW X nL ce sl pc L (.ref v :: st) ws := by
  obtain ⟨p, l, e, R, s, m, args, below, meth, c, hs, Q⟩ := X
  obtain ⟨⟨hx, hb, hml, hown, hts⟩, hR, hK, hE, hlk⟩ := S
  intro H locs ls a b hl
  exact lv_dup hx hb hdg rfl (k H locs ls a b hl)
theorem bw_objInit (S : Cx X cc own nL fr lo mc ms) {idx a : Nat} (hlk : Cond.methodLink own idx Lib.objectInit ∈ kg_U) (hdg : decode cc pc = .ok (.invokespecial idx, 3)) (hfr : 1 ≤ fr) (hlo : 30 ≤ lo) (hcat : (st.map fun v => v.category).sum ≤ 8)
    (k : BW X nL ce sl (pc + 3) L st ws) : BW X nL ce sl pc L (.ref a :: st) ws := by
  obtain ⟨p, l, e, R, s, m, args, below, meth, c, hs, Q⟩ := X
  obtain ⟨⟨hx, hb, hml, hown, hts⟩, hR, hK, hE, hlk0⟩ := S
  subst hR
  intro H locs ls a0 b hl
  exact W.objInit hx hb hown (hts _ hlk) (hts _ tw_46) (hts _ tw_47) rfl (hl.1.trans hml.symm) rfl hdg hfr (by show 2 * 0 + _ + 12 ≤ lo; omega) (k H locs ls a0 b hl)
end BWR
def kgNc (hs : kgH) (av : List Value) (W0 : va_W) : Array Value → State → Prop := va_Pc av (fun U => kgCW hs W0 U.heap ∧ kgB hs ≤ U.heap.size ∧ kgKX hs U ∧ kgE hs U U.heap)
theorem kgNc_blind {hs : kgH} {av : List Value} {W0 : va_W} : FrameBlind (kgNc hs av W0) := fun a U g mk h => ⟨h.1, h.2.1, h.2.2.1, h.2.2.2.1.moved (u := U) (U := U.calling g mk a) (Vm.Alike.refl U.vm), kgE.same (u := U) (U := U.calling g mk a) rfl h.2.2.2.2⟩
def kgNq (hs : kgH) (W1 : (Nat → Nat) → va_W) : Array Value → State → Outcome → State → Prop := va_Qv (fun (_ : Nat → Nat) => True) (fun o t => kgCW hs (W1 o) t.heap ∧ kgKX hs t) (kgA hs)
/-- **what a maker does** with the cells W0 -/
def Sdn (hs : kgH) (l : Launch) (y : MethodName) (bytes : ByteArray) (maxL : Nat) (rm : Room) (av : List Value) (W0 : va_W) (W1 : (Nat → Nat) → va_W) : Prop :=
  Met l y (kg_ws y bytes maxL none) rm (kgNc hs av W0) (kgNq hs W1) rm.cells rm.slots (kgA hs)
def kgIW (y : MethodName) (bytes : ByteArray) (maxL n : Nat) : Prop :=
  (Cond.instanceMethod y ∈ kg_U ∧ y.name = "<init>") ∧ Cond.initialized y.cls ∈ kg_U ∧ Cond.code y bytes maxL none ∈ kg_U ∧ (y.cls ≠ "java/lang/invoke/MethodHandle" ∧ y.cls ≠ "java/lang/invoke/VarHandle") ∧ (parseMethodDescriptor y.desc).map (fun d => d.parameters.length) = some n
def Qxn (X : kgCX Unit) (W1 : (Nat → Nat) → va_W) : Prop := match X with
  | (p, l, e, R, s, m, args, below, meth, c, hs, Q) => meth.sig.returnType = none ∧ Q = fun _ => MQ below (kgNq hs W1) args s R.cells R.slots (kgA hs)
section BWR2
variable {X : kgCX Unit} {cc : ByteArray} {own : String} {nL fr lo mc ms ce sl ce2 sl2 : Nat} {pc : Nat} {L L2 : List (Nat × Value)} {st stk : List Value} {ws ws2 : va_W}
theorem bw_newa (S : Cx X cc own nL fr lo mc ms) (hX : kgB (kgHs X) ≤ X.2.2.2.2.1.heap.size) (t0 kt : Nat) {atype : ArrayType} {ty : FieldType} {n : Int32} {N' : Nat} (hw : Cond.arrayClass (newarray.typeOf atype) ∈ kg_U) (hty : newarray.typeOf atype = ty) (ht : (kgT (kgHs X))[t0]? = some (kgC (kgHs X) kt, ty))
    (hra : ∀ (U : State) (cA : ClassId), va_RA U cA ty = (U.vm.findClass ("[" ++ ty.toString) = some cA)) (ha : ∀ cA : ClassId, vp_cell cA (N', .inl (fun _ => 0)) = arrV cA N' (fun _ => defaultValue ty)) (hn : ¬ n < 0) (hN : n.toNatClampNeg = N') (hby : N' * componentBytes ty ≤ 536870912)
    (h1 : ce + 1 = ce2) (h2 : sl + N' = sl2) (h3 : ce2 ≤ mc) (h4 : sl2 ≤ ms) (hdg : decode cc pc = .ok (.newarray atype, 2)) (kk : ∀ q : Nat, BW X nL ce2 sl2 (pc + 2) L (.ref q :: st) ((q, .inl (kgC (kgHs X) kt, N', .inl (fun _ => 0))) :: ws)) : BW X nL ce sl pc L (.int n :: st) ws := by
  obtain ⟨p, l, e, R, s, m, args, below, meth, c, hs, Q⟩ := X
  obtain ⟨⟨hx, hb, hml, hown, hts⟩, hR, hK, hE, hlk0⟩ := S
  subst hR; subst h1; subst h2
  intro H locs ls a b hl
  refine va_newa (a0 := (N', .inl (fun _ => 0))) hx hb (hts _ hw) hty hK a.1 a.2 b (fun q h => ?_) ha hn hN hby h3 h4 hdg (fun q cA H1 hK1 hP1 hD1 hS1 => ?_)
  · show kgB hs ≤ q
    exact Nat.le_trans hX h
  · have e1 := (hK.2 t0 _ ht).2
    have e2 := (hK1.2 4 _ rfl).2
    rw [hra] at e1 e2
    have ec : cA = kgC hs kt := Option.some.inj (e2.symm.trans e1)
    subst ec
    exact kk q H1 locs ls (kgCW.rot hP1 hD1) hS1 hl
theorem bw_new (S : Cx X cc own nL fr lo mc ms) (hX : kgB (kgHs X) ≤ X.2.2.2.2.1.heap.size) {C : String} {T : u_T} {ci nf idx : Nat} {ty0 : Nat → FieldType} {fs : List Value} (hc : kgCl ci nf C T) (hty : ∀ k, k < nf → parseFieldDescriptor (T k).2.2.1 = some (ty0 k)) (hl1 : Cond.classLink own idx C ∈ kg_U) (hl2 : Cond.instantiable C nf ∈ kg_U) (hl3 : Cond.initialized C ∈ kg_U)
    (hfs : ∀ j, j < nf → defaultValue (ty0 j) = vp_V fs j) (h1 : ce + 1 = ce2) (h2 : sl + nf = sl2) (h3 : ce2 ≤ mc) (h4 : sl2 ≤ ms) (hdg : decode cc pc = .ok (.new idx, 3)) (kk : ∀ q : Nat, BW X nL ce2 sl2 (pc + 3) L (.ref q :: st) ((q, .inr (ci, fs)) :: ws)) : BW X nL ce sl pc L st ws := by
  obtain ⟨p, l, e, R, s, m, args, below, meth, c, hs, Q⟩ := X
  obtain ⟨⟨hx, hb, hml, hown, hts⟩, hR, hK, hE, hlk0⟩ := S
  subst hR; subst h1; subst h2
  intro H locs ls a b hl
  exact va_new hx hb hts hc.2.1 ty0 hty hown (hts _ hl1) (hts _ hl2) (hts _ hl3) hK a.1 a.2 b (fun q h => Nat.le_trans hX h) hc.1 hfs h3 h4 hdg (fun q H1 hP1 hD1 hS1 => kk q H1 locs ls (kgCW.rot hP1 hD1) hS1 hl)
theorem bw_put (S : Cx X cc own nL fr lo mc ms) (q0 k : Nat) {a : Nat} {fs : List Value} {C ref n d : String} {T : u_T} {ci nf idx : Nat} {ty0 : Nat → FieldType} {v : Value} (he : ws[q0]? = some (a, .inr (ci, fs))) (hc : kgCl ci nf C T) (hty : ∀ k, k < nf → parseFieldDescriptor (T k).2.2.1 = some (ty0 k)) (hnm : ∀ a, a < nf → ∀ b, b < nf → a ≠ b → (T a).2.1 ≠ (T b).2.1)
    (hk : k < nf) (hT : T k = (ref, n, d, false)) (hlk : Cond.fieldLink own idx ref n d ∈ kg_U) (hn : narrow (ty0 k) v = v) (hf : fits (ty0 k) v = true) (hlen : k < fs.length) (hws : ws.set q0 (a, .inr (ci, fs.set k v)) = ws2) (hdg : decode cc pc = .ok (.putfield idx, 3))
    (kk : BW X nL ce sl (pc + 3) L st ws2) : BW X nL ce sl pc L (v :: .ref a :: st) ws := by
  obtain ⟨p, l, e, R, s, m, args, below, meth, c, hs, Q⟩ := X
  obtain ⟨⟨hx, hb, hml, hown, hts⟩, hR, hK, hE, hlk0⟩ := S
  subst hws
  intro H locs ls a0 b hl
  have e1 : (T k).1 = ref := by rw [hT]
  refine va_put (ref := ref) hx hb hts hc.2.1 ty0 hty hnm hown hK a0.1 a0.2 b q0 he hc.1 k hk (by rw [hT]; exact hts _ hlk) (fun x h => by rw [e1] at h; exact h) (by rw [hT]) (hty k hk) hn hf hlen hdg (fun H1 locs1 hP1 hD1 hS1 => kk H1 locs1 ls ⟨hP1, hD1⟩ hS1 hl)
theorem bw_putF (S : Cx X cc own nL fr lo mc ms) (hX : Nx X) (q0 k : Nat) {a : Nat} {fs : List Value} {C n d : String} {T : u_T} {ci nf idx : Nat} {ty0 : Nat → FieldType} {v : Value} (he : ws[q0]? = some (a, .inr (ci, fs))) (hc : kgCl ci nf C T) (hty : ∀ k, k < nf → parseFieldDescriptor (T k).2.2.1 = some (ty0 k)) (hnm : ∀ a, a < nf → ∀ b, b < nf → a ≠ b → (T a).2.1 ≠ (T b).2.1)
    (hk : k < nf) (hT : T k = (own, n, d, true)) (hlk : Cond.fieldLink own idx own n d ∈ kg_U) (hn : narrow (ty0 k) v = v) (hf : fits (ty0 k) v = true) (hlen : k < fs.length) (hws : ws.set q0 (a, .inr (ci, fs.set k v)) = ws2) (hdg : decode cc pc = .ok (.putfield idx, 3))
    (kk : BW X nL ce sl (pc + 3) L st ws2) : BW X nL ce sl pc L (v :: .ref a :: st) ws := by
  obtain ⟨p, l, e, R, s, m, args, below, meth, c, hs, Q⟩ := X
  obtain ⟨⟨hx, hb, hml, hown, hts⟩, hR, hK, hE, hlk0⟩ := S
  subst hws
  intro H locs ls a0 b hl
  have e1 : (T k).1 = own := by rw [hT]
  refine va_putF (ref := own) hx hb hts hc.2.1 ty0 hty hnm hown hK a0.1 a0.2 b q0 he hc.1 k hk (by rw [hT]; exact hts _ hlk) (fun x h => by rw [e1] at h; exact h) (by rw [hT]) hX.1 e1 (hty k hk) hn hf hlen hdg (fun H1 locs1 hP1 hD1 hS1 => kk H1 locs1 ls ⟨hP1, hD1⟩ hS1 hl)
theorem bw_ctor (S : Cx X cc own nL fr lo mc ms) (hX : kgB (kgHs X) ≤ X.2.2.2.2.1.heap.size) {y : MethodName} {bytes : ByteArray} {maxL n fr1 lo1 mc1 ms1 idx a : Nat} (As : List Value) {W1 : (Nat → Nat) → va_W} (hV : kgIW y bytes maxL n) (hlk : Cond.methodLink own idx y ∈ kg_U)
    (hM : Sdn (kgHs X) (kgL X) y bytes maxL { frames := fr1, cells := mc1, slots := ms1, locals := lo1 } (.ref a :: As) ws W1) (hRm : fr1 + 1 ≤ fr ∧ 8 + (maxL + 11) + lo1 ≤ lo) (hn : As.length = n) (hst : stk = As.reverse ++ .ref a :: st) (hcat : (st.map fun v => v.category).sum ≤ 8)
    (h1 : ce + mc1 = ce2) (h2 : sl + ms1 = sl2) (h3 : ce2 ≤ mc) (h4 : sl2 ≤ ms) (hdg : decode cc pc = .ok (.invokespecial idx, 3)) (kk : ∀ o, BW X nL ce2 sl2 (pc + 3) L st (W1 o)) : BW X nL ce sl pc L stk ws := by
  obtain ⟨p, l, e, R, s, m, args, below, meth, c, hs, Q⟩ := X
  obtain ⟨⟨hx, hb, hml, hown, hts⟩, hR, hK, hE, hlk0⟩ := S
  subst hR; subst hst; subst h1; subst h2
  intro H locs ls a0 b hl
  have hE1 := hE.kept b.2.1
  refine va_callv (va_runI (As := As) (rest := st) ⟨hx, hb, hml, hown, hts⟩ hM
    (cwI (mc := mc1) (ms := ms1) n hts (kgG (fun w hw => ?_)) rfl rfl rfl (hts _ hV.2.1) (hts _ hlk) (hts _ hV.1.1) hV.1.2 ⟨hV.2.2.2.1.1, hV.2.2.2.1.2, hV.2.2.2.2⟩ hRm) ⟨kgNc_blind, fun U hU hW => ⟨rfl, by rw [hU]; exact a0, by rw [hU]; exact Nat.le_trans hX b.1, hK.moved hW.alike, by rw [hU]; exact hE1.warm hW⟩⟩
    rfl hn hl.1 rfl (lv_room hcat) hdg ⟨h3, h4⟩) b (fun q _ h => h) (fun _ h => h) (fun u t H1 locs1 ht hvm hw hB hz1 hk1 hS => ?_)
  · rcases List.mem_cons.mp hw with rfl | hw
    · exact hV.2.2.1
    · exact hw
  · subst ht
    exact kk u t.heap locs1 ls hB.1 hS hl
theorem bw_ctorN (S : Cx X cc own nL fr lo mc ms) (hX : kgB (kgHs X) ≤ X.2.2.2.2.1.heap.size) {y : MethodName} {bytes : ByteArray} {maxL n fr1 lo1 mc1 ms1 idx a : Nat} {host : String} (As : List Value) {W1 : (Nat → Nat) → va_W} (hV : kgIW y bytes maxL n) (hlk : kgE (kgHs X) X.2.2.2.2.1 X.2.2.2.2.1.heap → va_Nw (.methodLinkNest own idx y host) X.2.2.2.2.1)
    (hM : Sdn (kgHs X) (kgL X) y bytes maxL { frames := fr1, cells := mc1, slots := ms1, locals := lo1 } (.ref a :: As) ws W1) (hRm : fr1 + 1 ≤ fr ∧ 8 + (maxL + 11) + lo1 ≤ lo) (hn : As.length = n) (hst : stk = As.reverse ++ .ref a :: st) (hcat : (st.map fun v => v.category).sum ≤ 8)
    (h1 : ce + mc1 = ce2) (h2 : sl + ms1 = sl2) (h3 : ce2 ≤ mc) (h4 : sl2 ≤ ms) (hdg : decode cc pc = .ok (.invokespecial idx, 3)) (kk : ∀ o, BW X nL ce2 sl2 (pc + 3) L st (W1 o)) : BW X nL ce sl pc L stk ws := by
  obtain ⟨p, l, e, R, s, m, args, below, meth, c, hs, Q⟩ := X
  obtain ⟨⟨hx, hb, hml, hown, hts⟩, hR, hK, hE, hlk0⟩ := S
  subst hR; subst hst; subst h1; subst h2
  intro H locs ls a0 b hl
  have hE1 := hE.kept b.2.1
  refine va_callv (va_runIN (As := As) (rest := st) ⟨hx, hb, hml, hown, hts⟩ hM
    ⟨va_cnB (mc := mc1) (ms := ms1) n hts (kgG (fun w hw => ?_)) rfl rfl rfl (hlk hE) (hts _ hV.2.1) ⟨hV.2.2.2.1.1, hV.2.2.2.1.2, hV.2.2.2.2⟩ hRm, hV.1.2, hts _ hV.1.1⟩ ⟨kgNc_blind, fun U hU hW => ⟨rfl, by rw [hU]; exact a0, by rw [hU]; exact Nat.le_trans hX b.1, hK.moved hW.alike, by rw [hU]; exact hE1.warm hW⟩⟩
    rfl hn hl.1 rfl (lv_room hcat) hdg ⟨h3, h4⟩) b (fun q _ h => h) (fun _ h => h) (fun u t H1 locs1 ht hvm hw hB hz1 hk1 hS => ?_)
  · rcases List.mem_cons.mp hw with rfl | hw
    · exact hV.2.2.1
    · exact hw
  · subst ht
    exact kk u t.heap locs1 ls hB.1 hS hl
theorem bw_cS (S : Cx X cc own nL fr lo mc ms) (hX : kgB (kgHs X) ≤ X.2.2.2.2.1.heap.size) {y : MethodName} {bytes : ByteArray} {maxL n fr1 lo1 mc1 ms1 idx : Nat} (As : List Value) {W1 : (Nat → Nat) → va_W} (hV : kgSW y bytes maxL none n) (hlk : Cond.methodLink own idx y ∈ kg_U)
    (hM : Sdn (kgHs X) (kgL X) y bytes maxL { frames := fr1, cells := mc1, slots := ms1, locals := lo1 } As ws W1) (hRm : fr1 + 1 ≤ fr ∧ 8 + (maxL + 11) + lo1 ≤ lo) (hn : As.length = n) (hst : stk = As.reverse ++ st) (hcat : (st.map fun v => v.category).sum ≤ 8)
    (h1 : ce + mc1 = ce2) (h2 : sl + ms1 = sl2) (h3 : ce2 ≤ mc) (h4 : sl2 ≤ ms) (hdg : decode cc pc = .ok (.invokestatic idx, 3)) (kk : ∀ o, BW X nL ce2 sl2 (pc + 3) L st (W1 o)) : BW X nL ce sl pc L stk ws := by
  obtain ⟨p, l, e, R, s, m, args, below, meth, c, hs, Q⟩ := X
  obtain ⟨⟨hx, hb, hml, hown, hts⟩, hR, hK, hE, hlk0⟩ := S
  subst hR; subst hst; subst h1; subst h2
  intro H locs ls a0 b hl
  have hE1 := hE.kept b.2.1
  refine va_callv (va_runS (As := As) (rest := st) ⟨hx, hb, hml, hown, hts⟩ hM
    (va_cwS (mc := mc1) (ms := ms1) n hts (kgG (fun w hw => ?_)) rfl rfl rfl ⟨hV.2.2.2.1.1, hV.2.2.2.1.2, hV.2.2.2.2⟩ hRm) ⟨kgNc_blind, fun U hU hW => ⟨rfl, by rw [hU]; exact a0, by rw [hU]; exact Nat.le_trans hX b.1, hK.moved hW.alike, by rw [hU]; exact hE1.warm hW⟩⟩
    rfl hn hl.1 rfl (lv_room hcat) hdg ⟨h3, h4⟩) b (fun q _ h => h) (fun _ h => h) (fun u t H1 locs1 ht hvm hw hB hz1 hk1 hS => ?_)
  · unfold va_wsS at hw
    rcases List.mem_append.mp hw with hw | hw
    · simp only [List.mem_cons, List.not_mem_nil, or_false] at hw
      rcases hw with rfl | rfl | rfl
      · exact hlk
      · exact hV.1
      · exact hV.2.1
    · rcases List.mem_cons.mp hw with rfl | hw
      · exact hV.2.2.1
      · exact hw
  · subst ht
    exact kk u t.heap locs1 ls hB.1 hS hl
theorem bw_ret (S : Cx X cc own nL fr lo mc ms) {W1 : (Nat → Nat) → va_W} (hQ : Qxn X W1) (o : Nat → Nat) (ho : ws = W1 o) (h1 : ce ≤ mc) (h2 : sl ≤ ms) (hdg : decode cc pc = .ok (.return_, 1)) : BW X nL ce sl pc L [] ws := by
  obtain ⟨p, l, e, R, s, m, args, below, meth, c, hs, Q⟩ := X
  obtain ⟨⟨hx, hb, hml, hown, hts⟩, hR, hK, hE, hlk0⟩ := S
  obtain ⟨hrt, hQ⟩ := hQ
  subst hQ; subst hR; subst ho
  intro H locs ls a b hl
  refine W.widen (k := mc) (n := ms) h1 h2 ?_
  exact W.vret hx hb hrt (fun t ht hW => ⟨⟨o, rfl, trivial, by rw [ht]; exact a, hK.moved hW.alike⟩, b.F ht⟩) b.2.2 hdg hlk0
end BWR2
theorem sd_n {y : MethodName} {bytes : ByteArray} {maxL fr lo mc ms : Nat} {av : List Value} {W0 : va_W} {W1 : (Nat → Nat) → va_W} (hy : plainFor y = true) (hln : (lg_sl av).length ≤ maxL) (hs : kgH) (l : Launch)
    (h : ∀ X : kgCX Unit, kgHs X = hs → kgL X = l → Cx X bytes y.cls maxL fr lo mc ms → (y.name = "<init>" → Nx X) → Qxn X W1 → BW X maxL 0 0 0 (lv_args 0 av) [] W0) :
    Sdn hs l y bytes maxL { frames := fr, cells := mc, slots := ms, locals := lo } av W0 W1 := by
  refine va_MetF (cc := bytes) (maxL := maxL) (ret := none) hy rfl ?_
  intro p e s m args below meth c s₁ B hml hv
  obtain ⟨rfl, hH, hbs, hK, hE⟩ := hv
  have hts := atoms_spec (ws := kg_ws y bytes maxL none) B.pre
  have hl := lv_entry av (n := maxL) hln
  rw [lg_entry_eq]
  exact h (p, l, e, { frames := fr, cells := mc, slots := ms, locals := lo }, s, m, av.toArray, below, meth, c, hs, fun _ => MQ below (kgNq hs W1) av.toArray s mc ms (kgA hs)) rfl rfl
    ⟨⟨B.exec, B.bytes, hml, findClass_of_methodNamed B.named, fun w hw => hts w (List.mem_cons_of_mem _ hw)⟩, rfl, hK, hE, B.notSynchronized⟩ (fun hyn => ⟨(name_of_methodNamed B.named B.method).1.trans hyn, hbs⟩) ⟨B.returns, rfl⟩ s.heap [] _ hH va_S.rf hl
section BWR3
variable {X : kgCX Unit} {cc : ByteArray} {own : String} {nL fr lo mc ms ce sl ce2 sl2 : Nat} {pc : Nat} {L L2 : List (Nat × Value)} {st stk : List Value} {ws ws2 : va_W}
theorem bw_istore_n (S : Cx X cc own nL fr lo mc ms) {q : Fin 4} {i : Nat} {x : Int32} (ks : List Nat) (hdg : decode cc pc = .ok (.istore_n q, 1)) (hi : (q : Nat) = i) (hn : i < nL) (hl2 : lv_pick ((i, Value.int x) :: L.filter (fun q => !(q.1 == i) && !(q.1 + 1 == i && q.2.category == 2))) ks = L2) (k : BW X nL ce sl (pc + 1) L2 st ws) : BW X nL ce sl pc L (.int x :: st) ws := by
  obtain ⟨p, l, e, R, s, m, args, below, meth, c, hs, Q⟩ := X
  obtain ⟨⟨hx, hb, hml, hown, hts⟩, hR, hK, hE, hlk⟩ := S
  intro H locs ls a b hl
  exact lv_istore_n hx hb hdg hi hl hn rfl (fun ls2 hl3 => k H locs ls2 a b (lv_sub hl3 ks hl2))
theorem bw_iinc (S : Cx X cc own nL fr lo mc ms) {i : Nat} {n : Int} {x v : Int32} (ks : List Nat) (j : Nat) (hdg : decode cc pc = .ok (.iinc i n, 3)) (hj : L[j]? = some (i, .int x)) (hv : x + Int32.ofInt n = v) (hn : i < nL) (hl2 : lv_pick ((i, Value.int v) :: L.filter (fun q => !(q.1 == i) && !(q.1 + 1 == i && q.2.category == 2))) ks = L2) (k : BW X nL ce sl (pc + 3) L2 st ws) : BW X nL ce sl pc L st ws := by
  obtain ⟨p, l, e, R, s, m, args, below, meth, c, hs, Q⟩ := X
  obtain ⟨⟨hx, hb, hml, hown, hts⟩, hR, hK, hE, hlk⟩ := S
  intro H locs ls a b hl
  exact lv_iinc hx hb hdg hl hj hv hn rfl (fun ls2 hl3 => k H locs ls2 a b (lv_sub hl3 ks hl2))
theorem bw_icmp_geT (S : Cx X cc own nL fr lo mc ms) {x y : Int32} {off : Int} {tgt : Nat} (hdg : decode cc pc = .ok (.if_icmp .ge off, 3)) (ht : (pc : Int) + off = (tgt : Int)) (hc : y ≤ x) (kt : BW X nL ce sl tgt L st ws) : BW X nL ce sl pc L (.int y :: .int x :: st) ws := by
  obtain ⟨p, l, e, R, s, m, args, below, meth, c, hs, Q⟩ := X
  obtain ⟨⟨hx, hb, hml, hown, hts⟩, hR, hK, hE, hlk⟩ := S
  intro H locs ls a b hl
  exact lv_icmp_ge hx hb hdg ht (fun h => kt H locs ls a b hl) (fun h => absurd hc h)
theorem bw_icmp_geF (S : Cx X cc own nL fr lo mc ms) {x y : Int32} {off : Int} {tgt : Nat} (hdg : decode cc pc = .ok (.if_icmp .ge off, 3)) (ht : (pc : Int) + off = (tgt : Int)) (hc : ¬ y ≤ x) (kf : BW X nL ce sl (pc + 3) L st ws) : BW X nL ce sl pc L (.int y :: .int x :: st) ws := by
  obtain ⟨p, l, e, R, s, m, args, below, meth, c, hs, Q⟩ := X
  obtain ⟨⟨hx, hb, hml, hown, hts⟩, hR, hK, hE, hlk⟩ := S
  intro H locs ls a b hl
  exact lv_icmp_ge hx hb hdg ht (fun h => absurd h hc) (fun h => kf H locs ls a b hl)
theorem bw_eqF (S : Cx X cc own nL fr lo mc ms) {x : Int32} {off : Int} {tgt : Nat} (hdg : decode cc pc = .ok (.ifCond .eq off, 3)) (ht : (pc : Int) + off = (tgt : Int)) (hc : ¬ x = 0) (kf : BW X nL ce sl (pc + 3) L st ws) : BW X nL ce sl pc L (.int x :: st) ws := by
  obtain ⟨p, l, e, R, s, m, args, below, meth, c, hs, Q⟩ := X
  obtain ⟨⟨hx, hb, hml, hown, hts⟩, hR, hK, hE, hlk⟩ := S
  intro H locs ls a b hl
  exact lv_if_eq hx hb hdg ht (fun h => absurd h hc) (fun h => kf H locs ls a b hl)
theorem bw_goto (S : Cx X cc own nL fr lo mc ms) {off : Int} {tgt : Nat} (hdg : decode cc pc = .ok (.goto off, 3)) (ht : (pc : Int) + off = (tgt : Int)) (k : BW X nL ce sl tgt L st ws) : BW X nL ce sl pc L st ws := by
  obtain ⟨p, l, e, R, s, m, args, below, meth, c, hs, Q⟩ := X
  obtain ⟨⟨hx, hb, hml, hown, hts⟩, hR, hK, hE, hlk⟩ := S
  intro H locs ls a b hl
  exact lv_goto hx hb hdg ht (k H locs ls a b hl)
theorem bw_getCS (S : Cx X cc own nL fr lo mc ms) {idx : Nat} (hlk : Cond.fieldLink own idx "java/lang/String" "COMPACT_STRINGS" "Z" ∈ kg_U) (hdg : decode cc pc = .ok (.getstatic idx, 3)) (k : BW X nL ce sl (pc + 3) L (.int 1 :: st) ws) : BW X nL ce sl pc L st ws := by
  obtain ⟨p, l, e, R, s, m, args, below, meth, c, hs, Q⟩ := X
  obtain ⟨⟨hx, hb, hml, hown, hts⟩, hR, hK, hE, hlk0⟩ := S
  intro H locs ls a b hl
  exact va_gets hx hb hE.2.1.1 b hown (hts _ hlk) (fun x h => h) hdg (k H locs ls a b hl)
theorem bw_get (S : Cx X cc own nL fr lo mc ms) (q0 k : Nat) {a : Nat} {fs : List Value} {C ref n d : String} {T : u_T} {ci nf idx : Nat} {v : Value} (he : ws[q0]? = some (a, .inr (ci, fs))) (hc : kgCl ci nf C T) (hk : k < nf) (hT : T k = (ref, n, d, (T k).2.2.2)) (hlk : Cond.fieldLink own idx ref n d ∈ kg_U) (hv : fs[k]? = some v)
    (hdg : decode cc pc = .ok (.getfield idx, 3)) (kk : BW X nL ce sl (pc + 3) L (v :: st) ws) : BW X nL ce sl pc L (.ref a :: st) ws := by
  obtain ⟨p, l, e, R, s, m, args, below, meth, c, hs, Q⟩ := X
  obtain ⟨⟨hx, hb, hml, hown, hts⟩, hR, hK, hE, hlk0⟩ := S
  intro H locs ls a0 b hl
  have e1 : (T k).1 = ref := by rw [hT]
  exact va_get (ref := ref) hx hb hts hc.2.1 hown hK a0.1 q0 he hc.1 k hk (by rw [hT]; exact hts _ hlk) (fun x h => by rw [e1] at h; exact h) hv hdg (kk H locs ls a0 b hl)
theorem bw_alen (S : Cx X cc own nL fr lo mc ms) (q0 t0 : Nat) {a n kt : Nat} {x : _} {ty : FieldType} {v : Int32} (he : ws[q0]? = some (a, .inl (kgC (kgHs X) kt, n, x))) (ht : (kgT (kgHs X))[t0]? = some (kgC (kgHs X) kt, ty)) (hv : Int32.ofNat n = v) (hdg : decode cc pc = .ok (.arraylength, 1))
    (kk : BW X nL ce sl (pc + 1) L (.int v :: st) ws) : BW X nL ce sl pc L (.ref a :: st) ws := by
  obtain ⟨p, l, e, R, s, m, args, below, meth, c, hs, Q⟩ := X
  obtain ⟨⟨hx, hb, hml, hown, hts⟩, hR, hK, hE, hlk0⟩ := S
  intro H locs ls a0 b hl
  exact va_alen hx hb hK a0.1 q0 t0 he ht hv hdg (kk H locs ls a0 b hl)
theorem bw_iast (S : Cx X cc own nL fr lo mc ms) (q0 : Nat) {a n : Nat} {f : Nat → Int32} {i x : Int32} (he : ws[q0]? = some (a, .inl (kgC (kgHs X) 10, n, .inl f))) (hi : vp_in i n) (hws : ws.set q0 (a, .inl (kgC (kgHs X) 10, n, .inl (upd f i.toNatClampNeg x))) = ws2) (hdg : decode cc pc = .ok (.iastore, 1))
    (kk : BW X nL ce sl (pc + 1) L st ws2) : BW X nL ce sl pc L (.int x :: .int i :: .ref a :: st) ws := by
  obtain ⟨p, l, e, R, s, m, args, below, meth, c, hs, Q⟩ := X
  obtain ⟨⟨hx, hb, hml, hown, hts⟩, hR, hK, hE, hlk0⟩ := S
  subst hws
  intro H locs ls a0 b hl
  exact va_iast hx hb hK a0.1 a0.2 b q0 0 he rfl hi hdg (fun H1 locs1 hP1 hD1 hS1 => kk H1 locs1 ls ⟨hP1, hD1⟩ hS1 hl)
theorem bw_newq (S : Cx X cc own nL fr lo mc ms) (hX : kgB (kgHs X) ≤ X.2.2.2.2.1.heap.size) {n : Int32} {N' idx : Nat} (hlk : Cond.classLink own idx "KettleGuild$State" ∈ kg_U) (hn : ¬ n < 0) (hN : n.toNatClampNeg = N') (hby : N' * 4 ≤ 536870912)
    (h1 : ce + 1 = ce2) (h2 : sl + N' = sl2) (h3 : ce2 ≤ mc) (h4 : sl2 ≤ ms) (hdg : decode cc pc = .ok (.anewarray idx, 3)) (kk : ∀ q : Nat, BW X nL ce2 sl2 (pc + 3) L (.ref q :: st) ((q, .inl (kgC (kgHs X) 13, N', .inr (.inr (.inr (.inr (fun _ => none)))))) :: ws)) : BW X nL ce sl pc L (.int n :: st) ws := by
  obtain ⟨p, l, e, R, s, m, args, below, meth, c, hs, Q⟩ := X
  obtain ⟨⟨hx, hb, hml, hown, hts⟩, hR, hK, hE, hlk0⟩ := S
  subst hR; subst h1; subst h2
  intro H locs ls a b hl
  refine va_newq hx hb hown (hts _ hlk) hE.2.2.2.2.2.2.2.2.2.2.2.2 hK a.1 a.2 b (fun q h => ?_) hn hN hby h3 h4 hdg (fun q cA H1 hK1 hP1 hD1 hS1 => ?_)
  · show kgB hs ≤ q
    exact Nat.le_trans hX h
  · obtain ⟨_, _, -, -, -, e1⟩ := (hK.2 3 _ rfl).2
    obtain ⟨_, _, -, -, -, e2⟩ := (hK1.2 4 _ rfl).2
    have ec : cA = kgC hs 13 := Option.some.inj (e2.symm.trans e1)
    subst ec
    exact kk q H1 locs ls (kgCW.rot hP1 hD1) hS1 hl
theorem bw_astq (S : Cx X cc own nL fr lo mc ms) (q0 qk : Nat) {a n v : Nat} {f : Nat → Option Nat} {vs : List Value} {i : Int32} (he : ws[q0]? = some (a, .inl (kgC (kgHs X) 13, n, .inr (.inr (.inr (.inr f)))))) (hv : ws[qk]? = some (v, .inr (4, vs))) (hi : vp_in i n)
    (hws : ws.set q0 (a, .inl (kgC (kgHs X) 13, n, .inr (.inr (.inr (.inr (va_up f i.toNatClampNeg (some v))))))) = ws2) (hdg : decode cc pc = .ok (.aastore, 1)) (kk : BW X nL ce sl (pc + 1) L st ws2) : BW X nL ce sl pc L (.ref v :: .int i :: .ref a :: st) ws := by
  obtain ⟨p, l, e, R, s, m, args, below, meth, c, hs, Q⟩ := X
  obtain ⟨⟨hx, hb, hml, hown, hts⟩, hR, hK, hE, hlk0⟩ := S
  subst hws
  intro H locs ls a0 b hl
  exact va_astq (r := (RX3, TX3, 18)) hx hb hK a0.1 a0.2 b q0 3 qk 4 he rfl hv cl_X3.1 hi hdg (fun H1 locs1 hP1 hD1 hS1 => kk H1 locs1 ls ⟨hP1, hD1⟩ hS1 hl)
end BWR3
/-! filling a row -/
def kgFl (f : Nat → Int32) (v : Int32) (n j : Nat) : Int32 := if j < n then v else f j
theorem kgFl_s (f : Nat → Int32) (v : Int32) (i : Nat) : upd (kgFl f v i) i v = kgFl f v (i + 1) := by
  funext j
  by_cases h : j = i
  · subst h
    rw [pk_us, kgFl, if_pos (by omega)]
  · rw [upd, if_neg h]
    unfold kgFl
    by_cases h2 : j < i
    · rw [if_pos h2, if_pos (by omega)]
    · rw [if_neg h2, if_neg (by omega)]
theorem kgCW.arr {hs : kgH} {ws : va_W} {H : Heap} {q0 a n : Nat} {cA : ClassId} {f g : Nat → Option Nat} (h : kgCW hs ws H) (he : ws[q0]? = some (a, .inl (cA, n, .inr (.inr (.inr (.inr f)))))) (hfg : ∀ j, j < n → f j = g j) : kgCW hs (ws.set q0 (a, .inl (cA, n, .inr (.inr (.inr (.inr g)))))) H := by
  have hlt := (List.getElem?_eq_some_iff.mp he).1
  refine ⟨fun k q hk => ?_, h.2.set he⟩
  by_cases hkp : k = q0
  · subst hkp
    rw [List.getElem?_set_self hlt] at hk
    cases hk
    have h1 : H[a]? = some (vp_cell cA (n, .inr (.inr (.inr (.inr f))))) := h.1 k _ he
    show H[a]? = some (vp_cell cA (n, .inr (.inr (.inr (.inr g)))))
    rw [h1]
    show some (arrV cA n (fun j => va_rf (f j))) = some (arrV cA n (fun j => va_rf (g j)))
    have : (arrV cA n (fun j => va_rf (f j))) = (arrV cA n (fun j => va_rf (g j))) := by
      unfold arrV
      congr 1
      apply Array.ext
      · simp
      · intro i h1 h2
        simp only [Array.getElem_ofFn]
        rw [hfg i (by simpa using h1)]
    rw [this]
  · rw [List.getElem?_set_ne (Ne.symm hkp)] at hk
    exact h.1 k q hk
theorem bw_arr {X : kgCX Unit} {cc : ByteArray} {own : String} {nL fr lo mc ms ce sl : Nat} {pc : Nat} {L : List (Nat × Value)} {st : List Value} {ws ws2 : va_W} (S : Cx X cc own nL fr lo mc ms) (q0 : Nat) {a n : Nat} {cA : ClassId} {f g : Nat → Option Nat} (he : ws[q0]? = some (a, .inl (cA, n, .inr (.inr (.inr (.inr f)))))) (hfg : ∀ j, j < n → f j = g j)
    (hws : ws.set q0 (a, .inl (cA, n, .inr (.inr (.inr (.inr g))))) = ws2) (kk : BW X nL ce sl pc L st ws2) : BW X nL ce sl pc L st ws := by
  obtain ⟨p, l, e, R, s, m, args, below, meth, c, hs, Q⟩ := X
  subst hws
  intro H locs ls a0 b hl
  exact kk H locs ls (a0.arr he hfg) b hl
theorem s_fill13 (hs : kgH) (l : Launch) {ws : va_W} (q0 : Nat) {q : Nat} {f : Nat → Int32} {v : Int32} (he : ws[q0]? = some (q, .inl (kgC hs 10, 13, .inl f))) :
    Sdn hs l yJ7_fill_53178 cJ7_fill_53178 4 { frames := 0, cells := 0, slots := 0, locals := 0 } [.ref q, .int v] ws (fun _ => ws.set q0 (q, .inl (kgC hs 10, 13, .inl (kgFl f v 13)))) := by
  have hlt := (List.getElem?_eq_some_iff.mp he).1
  refine sd_n (by decide +kernel) (Nat.le_of_ble_eq_true rfl) hs l (fun X hh hl S hX hQ => ?_)
  subst hh
  have key : ∀ d i : Nat, i + d = 13 → BW X 4 0 0 5 [(0, .ref q), (1, .int v), (2, .int (nI i)), (3, .int 13)] [] (ws.set q0 (q, .inl (kgC (kgHs X) 10, 13, .inl (kgFl f v i)))) := by
    intro d
    induction d with
    | zero =>
      intro i hi
      have : i = 13 := by omega
      subst this
      refine bw_iload_n S 2 rfl dJ7_fill_53178_5 rfl ?_
      refine bw_iload_n S 3 rfl dJ7_fill_53178_6 rfl ?_
      refine bw_icmp_geT (tgt := 20) S dJ7_fill_53178_7 (by decide) (by decide) ?_
      exact bw_ret S hQ id rfl (Nat.le_refl _) (Nat.le_refl _) dJ7_fill_53178_20
    | succ d ih =>
      intro i hi
      have hi13 : i < 13 := by omega
      have h1 : vp_in (nI i) 13 := vp_in_iff.mpr ((by decide : ∀ i, i < 13 → 0 ≤ (nI i).toInt ∧ (nI i).toInt < ((13 : Nat) : Int)) i hi13)
      have h2 : (nI i).toNatClampNeg = i := (by decide : ∀ i, i < 13 → (nI i).toNatClampNeg = i) i hi13
      have h3 : ¬ (13 : Int32) ≤ nI i := (by decide : ∀ i, i < 13 → ¬ (13 : Int32) ≤ nI i) i hi13
      have h4 : nI i + Int32.ofInt 1 = nI (i + 1) := (by decide : ∀ i, i < 13 → nI i + Int32.ofInt 1 = nI (i + 1)) i hi13
      refine bw_iload_n S 2 rfl dJ7_fill_53178_5 rfl ?_
      refine bw_iload_n S 3 rfl dJ7_fill_53178_6 rfl ?_
      refine bw_icmp_geF (tgt := 20) S dJ7_fill_53178_7 (by decide) h3 ?_
      refine bw_aload_n S 0 rfl dJ7_fill_53178_10 rfl ?_
      refine bw_iload_n S 2 rfl dJ7_fill_53178_11 rfl ?_
      refine bw_iload_n S 1 rfl dJ7_fill_53178_12 rfl ?_
      refine bw_iast (ws2 := ws.set q0 (q, .inl (kgC (kgHs X) 10, 13, .inl (kgFl f v (i + 1))))) S q0 (List.getElem?_set_self hlt) h1 (by rw [List.set_set, h2, kgFl_s]) dJ7_fill_53178_13 ?_
      refine bw_iinc (L2 := [(0, .ref q), (1, .int v), (2, .int (nI (i + 1))), (3, .int 13)]) S [1, 2, 0, 3] 2 dJ7_fill_53178_14 rfl h4 (by decide) rfl ?_
      exact bw_goto (tgt := 5) S dJ7_fill_53178_17 (by decide) (ih (i + 1) (by omega))
  refine bw_iconst S dJ7_fill_53178_0 (v := 0) (by decide) ?_
  refine bw_istore_n (L2 := [(0, .ref q), (1, .int v), (2, .int 0)]) S [1, 2, 0] dJ7_fill_53178_1 rfl (by decide) rfl ?_
  refine bw_aload_n S 0 rfl dJ7_fill_53178_2 rfl ?_
  refine bw_alen (n := 13) (kt := 10) S q0 0 he rfl (v := 13) (by decide) dJ7_fill_53178_3 ?_
  refine bw_istore_n (L2 := [(0, .ref q), (1, .int v), (2, .int 0), (3, .int 13)]) S [1, 2, 3, 0] dJ7_fill_53178_4 rfl (by decide) rfl ?_
  have h0 : ws.set q0 (q, .inl (kgC (kgHs X) 10, 13, .inl (kgFl f v 0))) = ws := by
    have : kgFl f v 0 = f := by funext j; unfold kgFl; rw [if_neg (by omega)]
    rw [this]
    apply List.ext_getElem?
    intro i
    by_cases h : i = q0
    · subst h; rw [List.getElem?_set_self hlt, he]
    · rw [List.getElem?_set_ne (Ne.symm h)]
  have := key 13 0 rfl
  rw [h0] at this
  exact this

