section LWS
variable {X : kgCX Unit} {cc : ByteArray} {own : String} {nL fr lo mc ms ce sl ce2 sl2 : Nat} {pc : Nat} {L : List (Nat × Value)} {st stk : List Value} {I : kgM} {w : Option (Nat × Nat)}
theorem aw_eqi {x y : Int32} (h : x = y) (k : AW X nL ce sl w (some ()) pc L (.int y :: st) I) : AW X nL ce sl w (some ()) pc L (.int x :: st) I := by rw [h]; exact k
theorem aw_xeq {xt xt2 : va_W} (h : xt = xt2) (k : AW (kgXs X xt2) nL ce sl w (some ()) pc L st I) : AW (kgXs X xt) nL ce sl w (some ()) pc L st I := by rw [h]; exact k
theorem lw_cS (S : Cx X cc own nL fr lo mc ms) {y : MethodName} {bytes : ByteArray} {maxL n fr1 lo1 mc1 ms1 idx : Nat} {rt : Option FieldType} (As : List Value) {F : Option (Int32 × kgM)} {x0 : Int32} {J0 : kgM} (hF : F = some (x0, J0))
    (hV : kgSW y bytes maxL rt n) (hlk : Cond.methodLink own idx y ∈ kg_U) (hM : Sdi (kgHs X) (kgL X) w y (kg_ws y bytes maxL rt) { frames := fr1, cells := mc1, slots := ms1, locals := lo1 } As I F)
    (hRm : fr1 + 1 ≤ fr ∧ 8 + (maxL + 11) + lo1 ≤ lo) (hn : As.length = n) (hst : stk = As.reverse ++ st) (hcat : (st.map fun v => v.category).sum ≤ 8) (h1 : ce + mc1 ≤ ce2) (h2 : sl + ms1 ≤ sl2) (h3 : ce2 ≤ mc) (h4 : sl2 ≤ ms) (hdg : decode cc pc = .ok (.invokestatic idx, 3))
    (kk : AW X nL ce2 sl2 w (some ()) (pc + 3) L (.int x0 :: st) J0) : AW X nL ce sl w (some ()) pc L stk I := by
  refine aw_to hF (aw_cSi (ce2 := ce + mc1) (sl2 := sl + ms1) (st := st) S As hV hlk hM hRm hn hst hcat rfl rfl (Nat.le_trans h1 h3) (Nat.le_trans h2 h4) hdg (fun x J => aw_fr (fun e1 e2 => ?_)))
  subst e1; subst e2
  exact aw_widen h1 h2 kk
theorem lw_cT (S : Cx X cc own nL fr lo mc ms) {y : MethodName} {bytes : ByteArray} {maxL n fr1 lo1 mc1 ms1 idx : Nat} {rt : Option FieldType} (As : List Value) {F : Option (Int32 × kgM)} {x0 : Int32} {J0 : kgM} (hF : F = some (x0, J0))
    (hV : kgSW y bytes maxL rt n) (hlk : Cond.methodLink own idx y ∈ kg_U) (hM : Sdv (kgHs X) (kgL X) w y (kg_ws y bytes maxL rt) { frames := fr1, cells := mc1, slots := ms1, locals := lo1 } As I F)
    (hRm : fr1 + 1 ≤ fr ∧ 8 + (maxL + 11) + lo1 ≤ lo) (hn : As.length = n) (hst : stk = As.reverse ++ st) (hcat : (st.map fun v => v.category).sum ≤ 8) (h1 : ce + mc1 ≤ ce2) (h2 : sl + ms1 ≤ sl2) (h3 : ce2 ≤ mc) (h4 : sl2 ≤ ms) (hdg : decode cc pc = .ok (.invokestatic idx, 3))
    (kk : AW X nL ce2 sl2 w (some ()) (pc + 3) L st J0) : AW X nL ce sl w (some ()) pc L stk I := by
  refine aw_to hF (aw_cSv (ce2 := ce + mc1) (sl2 := sl + ms1) (st := st) S As hV hlk hM hRm hn hst hcat rfl rfl (Nat.le_trans h1 h3) (Nat.le_trans h2 h4) hdg (fun x J => aw_fr (fun e1 e2 => ?_)))
  subst e1; subst e2
  exact aw_widen h1 h2 kk
theorem lw_fcmp (S : Cx X cc own nL fr lo mc ms) {x y : UInt32} {op : CmpOp} (hdg : decode cc pc = .ok (.fcmp op, 1)) (k : AW X nL ce sl w (some ()) (pc + 1) L (.int (Op.cmpValue (FP.fcmp x y) op) :: st) I) : AW X nL ce sl w (some ()) pc L (.float y :: .float x :: st) I := by
  obtain ⟨p, l, e, R, s, m, args, below, meth, c, hs, Q⟩ := X
  obtain ⟨⟨hx, hb, hml, hown, hts⟩, hR, hK, hE, hlk⟩ := S
  intro r hr H locs ls a b hl
  exact lv_fcmp hx hb hdg (k r hr H locs ls a b hl)
end LWS
/-! the numbers that the law counts -/
section LNM
variable {s : kgS}
def oF (s : kgS) (p : Nat) : Nat → Int32 := fun m => nI (cnt p (fun q => decide (s.1 1 (q + 1) = m + 1)))
def kF (s : kgS) (k : Nat) : Nat → Int32 := fun m => nI (cnt k (fun i => decide (s.1 6 i = m)))
def wF (s : kgS) (k : Nat) : Nat → Int32 := fun m => nI (cnt k (fun i => decide (s.1 6 i = m) && wh s i))
theorem cnt_b (k : Nat) (p : Nat → Bool) : nI (cnt k p) + b2i (p k) = nI (cnt (k + 1) p) := by
  show _ = nI (cnt k p + (if p k then 1 else 0))
  rw [← nI_add]
  cases p k <;> rfl
theorem upd_c {f g : Nat → Int32} {j : Nat} {x : Int32} (h1 : ∀ m, m ≠ j → g m = f m) (h2 : g j = x) : upd f j x = g := by
  funext m
  by_cases e : m = j
  · subst e; rw [pk_us, h2]
  · rw [pk_un e, h1 m e]
theorem kF_s (k : Nat) : upd (kF s k) (s.1 6 k) (kF s k (s.1 6 k) + 1) = kF s (k + 1) := by
  refine upd_c (fun m hm => ?_) ?_
  · show nI (cnt k _ + (if decide (s.1 6 k = m) = true then 1 else 0)) = _
    rw [decide_eq_false (Ne.symm hm)]; rfl
  · show nI (cnt k _ + (if decide (s.1 6 k = s.1 6 k) = true then 1 else 0)) = _
    rw [decide_eq_true rfl, ← nI_add]; rfl
theorem wF_s (k : Nat) : upd (wF s k) (s.1 6 k) (wF s k (s.1 6 k) + b2i (wh s k)) = wF s (k + 1) := by
  refine upd_c (fun m hm => ?_) ?_
  · show nI (cnt k _ + (if (decide (s.1 6 k = m) && wh s k) = true then 1 else 0)) = _
    rw [decide_eq_false (Ne.symm hm)]; rfl
  · rw [show wF s k (s.1 6 k) + b2i (wh s k) = nI (cnt k (fun i => decide (s.1 6 i = s.1 6 k) && wh s i)) + b2i ((fun i => decide (s.1 6 i = s.1 6 k) && wh s i) k) from by
      show _ = _ + b2i (decide (s.1 6 k = s.1 6 k) && wh s k)
      rw [decide_eq_true rfl, Bool.true_and]; rfl, cnt_b]
    rfl
theorem oF_s {p m : Nat} (h : s.1 1 (p + 1) = m + 1) : upd (oF s p) m (oF s p m + 1) = oF s (p + 1) := by
  refine upd_c (fun i hi => ?_) ?_
  · show nI (cnt p _ + (if decide (s.1 1 (p + 1) = i + 1) = true then 1 else 0)) = _
    rw [decide_eq_false (by omega)]; rfl
  · show nI (cnt p _ + (if decide (s.1 1 (p + 1) = m + 1) = true then 1 else 0)) = _
    rw [decide_eq_true h, ← nI_add]; rfl
theorem oF_n {p : Nat} (h : s.1 1 (p + 1) = 0) : oF s p = oF s (p + 1) := by
  funext i
  show _ = nI (cnt p _ + (if decide (s.1 1 (p + 1) = i + 1) = true then 1 else 0))
  rw [decide_eq_false (by omega)]; rfl
end LNM
