/-! THE LAW'S OWN WALK -/
/-- the same answer of both, from every memory of the kind Inv; Inv holds behind -/
def kgSame (Inv Inv2 : kgM → Prop) (F G : kgM → Option (Int32 × kgM)) : Prop := ∀ I, Inv I → ∃ x J J2, F I = some (x, J) ∧ G J = some (x, J2) ∧ Inv2 J2
/-- the same number with a point, and one that is a number -/
def kgSameD (Inv Inv2 : kgM → Prop) (F G : kgM → Option (UInt64 × kgM)) : Prop := ∀ I, Inv I → ∃ x J J2, F I = some (x, J) ∧ G J = some (x, J2) ∧ Inv2 J2 ∧ Op.cmpValue (FP.dcmp x x) .l = 0
def kgSameF (Inv Inv2 : kgM → Prop) (F G : kgM → Option (UInt32 × kgM)) : Prop := ∀ I, Inv I → ∃ x J J2, F I = some (x, J) ∧ G J = some (x, J2) ∧ Inv2 J2 ∧ vf_n64 (FP.f2d x) ∧ Op.cmpValue (FP.dcmp (FP.f2d x) (FP.f2d x)) .l = 0
/-- the script's cell -/
def Sc {ρ : Type} (X : kgCX ρ) (b L : Nat) (xs : Nat → Int32) : Prop := va_X b L xs X.2.2.2.2.1 X.2.2.2.2.1.heap ∧ b < X.2.2.2.2.1.heap.size ∧ X.2.2.2.2.1.heap.size = kgB (kgHs X)
section LWR
variable {ρ : Type} {X : kgCX ρ} {cc : ByteArray} {own : String} {nL fr lo mc ms ce sl ce2 sl2 : Nat} {fin : Option ρ} {pc : Nat} {L L2 : List (Nat × Value)} {st stk : List Value} {I : kgM} {w : Option (Nat × Nat)} {b N : Nat} {xs : Nat → Int32}
theorem lw_sld (S : Cx X cc own nL fr lo mc ms) (hs : Sc X b N xs) {i : Int32} (hi : vp_in i N) (hdg : decode cc pc = .ok (.iaload, 1)) (k : AW X nL ce sl w fin (pc + 1) L (.int (xs i.toNatClampNeg) :: st) I) : AW X nL ce sl w fin pc L (.int i :: .ref b :: st) I := by
  obtain ⟨p, l, e, R, s, m, args, below, meth, c, hs, Q⟩ := X
  obtain ⟨⟨hx, hb, hml, hown, hts⟩, hR, hK, hE, hlk⟩ := S
  obtain ⟨h1, h2, h3⟩ := hs
  intro r hr H locs ls a b2 hl
  exact va_sld hx hb h1 h2 (fun h => by have h : kgB _ ≤ b := h; have h2 : b < s.heap.size := h2; have h3 : s.heap.size = kgB hs := h3; omega) b2 hi hdg (k r hr H locs ls a b2 hl)
theorem lw_slen (S : Cx X cc own nL fr lo mc ms) (hs : Sc X b N xs) (hdg : decode cc pc = .ok (.arraylength, 1)) (k : AW X nL ce sl w fin (pc + 1) L (.int (Int32.ofNat N) :: st) I) : AW X nL ce sl w fin pc L (.ref b :: st) I := by
  obtain ⟨p, l, e, R, s, m, args, below, meth, c, hs, Q⟩ := X
  obtain ⟨⟨hx, hb, hml, hown, hts⟩, hR, hK, hE, hlk⟩ := S
  obtain ⟨h1, h2, h3⟩ := hs
  intro r hr H locs ls a b2 hl
  exact va_slen hx hb h1 h2 (fun h => by have h : kgB _ ≤ b := h; have h2 : b < s.heap.size := h2; have h3 : s.heap.size = kgB hs := h3; omega) b2 hdg (k r hr H locs ls a b2 hl)
theorem lw_cV (S : Cx X cc own nL fr lo mc ms) (k : Nat) {y : MethodName} {bytes : ByteArray} {maxL n fr1 lo1 mc1 ms1 idx ci nf : Nat} {rt : Option FieldType} {T : u_T} (As : List Value) {F : Option (Int32 × kgM)} {x0 : Int32} {J0 : kgM} (hF : F = some (x0, J0))
    (hV : kgVW y bytes maxL rt n) (hc : kgCl ci nf y.cls T) (hk : kgKD k = (ci, nf)) (hk2 : k < 177) (hlk : Cond.methodLink own idx y ∈ kg_U) (hM : Sdi (kgHs X) (kgL X) w y (kg_ws y bytes maxL rt) { frames := fr1, cells := mc1, slots := ms1, locals := lo1 } (.ref (kgO (kgHs X) k) :: As) I F)
    (hRm : fr1 + 1 ≤ fr ∧ 8 + (maxL + 11) + lo1 ≤ lo) (hn : As.length = n) (hst : stk = As.reverse ++ .ref (kgO (kgHs X) k) :: st) (hcat : (st.map fun v => v.category).sum ≤ 8) (h1 : ce + mc1 ≤ ce2) (h2 : sl + ms1 ≤ sl2) (h3 : ce2 ≤ mc) (h4 : sl2 ≤ ms) (hdg : decode cc pc = .ok (.invokevirtual idx, 3))
    (kk : AW X nL ce2 sl2 w fin (pc + 3) L (.int x0 :: st) J0) : AW X nL ce sl w fin pc L stk I := by
  refine aw_to hF (aw_cVi (ce2 := ce + mc1) (sl2 := sl + ms1) (st := st) S k As hV hc hk hk2 hlk hM hRm hn hst hcat rfl rfl (Nat.le_trans h1 h3) (Nat.le_trans h2 h4) hdg (fun x J => aw_fr (fun e1 e2 => ?_)))
  subst e1; subst e2
  exact aw_widen h1 h2 kk
noncomputable def kgS3 {α ρ : Type} (x0 : α) (J0 : kgM) (fin : Option ρ) (x : α) (J : kgM) : Option ρ := @ite _ (x = x0 ∧ J = J0) (Classical.propDecidable _) fin none
theorem aw_to3 {α : Type} {F : Option (α × kgM)} {x0 : α} {J0 : kgM} (hF : F = some (x0, J0)) (k : AW X nL ce sl w (bndC F (kgS3 x0 J0 fin)) pc L st I) : AW X nL ce sl w fin pc L st I := by
  subst hF
  have e : bndC (some (x0, J0)) (kgS3 x0 J0 fin) = fin := by
    show kgS3 x0 J0 fin x0 J0 = fin
    unfold kgS3
    rw [if_pos ⟨rfl, rfl⟩]
  rw [e] at k
  exact k
theorem aw_fr3 {α : Type} {x0 x : α} {J0 J : kgM} (h : x = x0 → J = J0 → AW X nL ce sl w fin pc L st J) : AW X nL ce sl w (kgS3 x0 J0 fin x J) pc L st J := by
  unfold kgS3
  by_cases q : x = x0 ∧ J = J0
  · rw [if_pos q]; exact h q.1 q.2
  · rw [if_neg q]; exact aw_none
theorem lw_cVd (S : Cx X cc own nL fr lo mc ms) (k : Nat) {y : MethodName} {bytes : ByteArray} {maxL n fr1 lo1 mc1 ms1 idx ci nf : Nat} {rt : Option FieldType} {T : u_T} (As : List Value) {F : Option (UInt64 × kgM)} {x0 : UInt64} {J0 : kgM} (hF : F = some (x0, J0))
    (hV : kgVW y bytes maxL rt n) (hc : kgCl ci nf y.cls T) (hk : kgKD k = (ci, nf)) (hk2 : k < 177) (hlk : Cond.methodLink own idx y ∈ kg_U) (hM : Sdd (kgHs X) (kgL X) w y (kg_ws y bytes maxL rt) { frames := fr1, cells := mc1, slots := ms1, locals := lo1 } (.ref (kgO (kgHs X) k) :: As) I F)
    (hRm : fr1 + 1 ≤ fr ∧ 8 + (maxL + 11) + lo1 ≤ lo) (hn : As.length = n) (hst : stk = As.reverse ++ .ref (kgO (kgHs X) k) :: st) (hcat : (st.map fun v => v.category).sum ≤ 8) (h1 : ce + mc1 ≤ ce2) (h2 : sl + ms1 ≤ sl2) (h3 : ce2 ≤ mc) (h4 : sl2 ≤ ms) (hdg : decode cc pc = .ok (.invokevirtual idx, 3))
    (kk : AW X nL ce2 sl2 w fin (pc + 3) L (.double x0 :: st) J0) : AW X nL ce sl w fin pc L stk I := by
  refine aw_to3 hF (aw_cVd (ce2 := ce + mc1) (sl2 := sl + ms1) (st := st) S k As hV hc hk hk2 hlk hM hRm hn hst hcat rfl rfl (Nat.le_trans h1 h3) (Nat.le_trans h2 h4) hdg (fun x J => aw_fr3 (fun e1 e2 => ?_)))
  subst e1; subst e2
  exact aw_widen h1 h2 kk
theorem lw_cVf (S : Cx X cc own nL fr lo mc ms) (k : Nat) {y : MethodName} {bytes : ByteArray} {maxL n fr1 lo1 mc1 ms1 idx ci nf : Nat} {rt : Option FieldType} {T : u_T} (As : List Value) {F : Option (UInt32 × kgM)} {x0 : UInt32} {J0 : kgM} (hF : F = some (x0, J0))
    (hV : kgVW y bytes maxL rt n) (hc : kgCl ci nf y.cls T) (hk : kgKD k = (ci, nf)) (hk2 : k < 177) (hlk : Cond.methodLink own idx y ∈ kg_U) (hM : Sdf (kgHs X) (kgL X) w y (kg_ws y bytes maxL rt) { frames := fr1, cells := mc1, slots := ms1, locals := lo1 } (.ref (kgO (kgHs X) k) :: As) I F)
    (hRm : fr1 + 1 ≤ fr ∧ 8 + (maxL + 11) + lo1 ≤ lo) (hn : As.length = n) (hst : stk = As.reverse ++ .ref (kgO (kgHs X) k) :: st) (hcat : (st.map fun v => v.category).sum ≤ 8) (h1 : ce + mc1 ≤ ce2) (h2 : sl + ms1 ≤ sl2) (h3 : ce2 ≤ mc) (h4 : sl2 ≤ ms) (hdg : decode cc pc = .ok (.invokevirtual idx, 3))
    (kk : AW X nL ce2 sl2 w fin (pc + 3) L (.float x0 :: st) J0) : AW X nL ce sl w fin pc L stk I := by
  refine aw_to3 hF (aw_cVf (ce2 := ce + mc1) (sl2 := sl + ms1) (st := st) S k As hV hc hk hk2 hlk hM hRm hn hst hcat rfl rfl (Nat.le_trans h1 h3) (Nat.le_trans h2 h4) hdg (fun x J => aw_fr3 (fun e1 e2 => ?_)))
  subst e1; subst e2
  exact aw_widen h1 h2 kk
theorem lw_f2d (S : Cx X cc own nL fr lo mc ms) {x : UInt32} (hne : vf_n64 (FP.f2d x)) (hdg : decode cc pc = .ok (.f2d, 1)) (k : AW X nL ce sl w fin (pc + 1) L (.double (FP.f2d x) :: st) I) : AW X nL ce sl w fin pc L (.float x :: st) I := by
  obtain ⟨p, l, e, R, s, m, args, below, meth, c, hs, Q⟩ := X
  obtain ⟨⟨hx, hb, hml, hown, hts⟩, hR, hK, hE, hlk⟩ := S
  intro r hr H locs ls a b hl
  exact lv_f2d hx hb hdg hne (k r hr H locs ls a b hl)
theorem lw_dstore (S : Cx X cc own nL fr lo mc ms) {i : Nat} {x : UInt64} (ks : List Nat) (hdg : decode cc pc = .ok (.dstore i, 2)) (hn : i + 1 < nL) (hl2 : lv_pick ((i, Value.double x) :: L.filter (fun q => !(q.1 == i) && (!(q.1 == i + 1) && !(q.1 + 1 == i && q.2.category == 2)))) ks = L2) (k : AW X nL ce sl w fin (pc + 2) L2 st I) : AW X nL ce sl w fin pc L (.double x :: st) I := by
  obtain ⟨p, l, e, R, s, m, args, below, meth, c, hs, Q⟩ := X
  obtain ⟨⟨hx, hb, hml, hown, hts⟩, hR, hK, hE, hlk⟩ := S
  intro r hr H locs ls a b hl
  exact lv_dstore hx hb hdg hl hn rfl (fun ls2 hl3 => k r hr H locs ls2 a b (lv_sub hl3 ks hl2))
theorem lw_dload (S : Cx X cc own nL fr lo mc ms) {i : Nat} {x : UInt64} (j : Nat) (hj : L[j]? = some (i, .double x)) (hdg : decode cc pc = .ok (.dload i, 2)) (k : AW X nL ce sl w fin (pc + 2) L (.double x :: st) I) : AW X nL ce sl w fin pc L st I := by
  obtain ⟨p, l, e, R, s, m, args, below, meth, c, hs, Q⟩ := X
  obtain ⟨⟨hx, hb, hml, hown, hts⟩, hR, hK, hE, hlk⟩ := S
  intro r hr H locs ls a b hl
  exact lv_dload hx hb hdg (lv_at hl j hj) (k r hr H locs ls a b hl)
theorem lw_dcmp (S : Cx X cc own nL fr lo mc ms) {x y : UInt64} {op : CmpOp} (hdg : decode cc pc = .ok (.dcmp op, 1)) (k : AW X nL ce sl w fin (pc + 1) L (.int (Op.cmpValue (FP.dcmp x y) op) :: st) I) : AW X nL ce sl w fin pc L (.double y :: .double x :: st) I := by
  obtain ⟨p, l, e, R, s, m, args, below, meth, c, hs, Q⟩ := X
  obtain ⟨⟨hx, hb, hml, hown, hts⟩, hR, hK, hE, hlk⟩ := S
  intro r hr H locs ls a b hl
  exact lv_dcmp hx hb hdg (k r hr H locs ls a b hl)
end LWR
