/-! THE WALK OVER THE MEMORY. X: machine, start and end of a method; 'fin': what it answers (none: nothing is said) -/
abbrev kgCX (ρ : Type) : Type := Program × Launch × Env × Room × State × MethodId × Array Value × List Frame × Method × Code × kgH × (ρ → State → Prop)
def AW {ρ : Type} (X : kgCX ρ) (nL ce sl : Nat) (w : Option (Nat × Nat)) (fin : Option ρ) (pc : Nat) (L : List (Nat × Value)) (st : List Value) (I : kgM) : Prop :=
  match X with
  | (p, l, e, R, s, m, args, below, meth, c, hs, Q) => ∀ r, fin = some r → ∀ (H : Heap) (locs : List Loc) (ls : Array Slot), kgHR hs w I H → va_S (kgA hs) s.heap H locs → lv_has ls nL L → W p l e R s m args below meth c H locs ce sl (Q r) (F0 m pc ls st)
/-- what stays through a method: its code, its class, its room, the tables, what lies outside -/
def Cx {ρ : Type} (X : kgCX ρ) (cc : ByteArray) (own : String) (nL fr lo mc ms : Nat) : Prop :=
  match X with
  | (p, l, e, R, s, m, args, below, meth, c, hs, Q) => CallFix p m c cc nL s args kg_U own ∧ R = { frames := fr, cells := mc, slots := ms, locals := lo } ∧ kgKX hs s ∧ kgE hs s s.heap ∧ meth.locks = false
abbrev kgHs {ρ : Type} (X : kgCX ρ) : kgH := X.2.2.2.2.2.2.2.2.2.2.1
abbrev kgL {ρ : Type} (X : kgCX ρ) : Launch := X.2.1
def ck {ρ : Type} (b : Bool) (x : Option ρ) : Option ρ := match b with
  | true => x
  | false => none
def inb (i : Int32) (n : Nat) : Bool := decide (0 ≤ i.toInt ∧ i.toInt < n)
theorem inb_in {i : Int32} {n : Nat} (h : inb i n = true) : vp_in i n := vp_in_iff.mpr (of_decide_eq_true h)
theorem ck_some {ρ : Type} {b : Bool} {x : Option ρ} {r : ρ} (h : ck b x = some r) : b = true ∧ x = some r := by
  cases b with
  | true => exact ⟨rfl, h⟩
  | false => cases h
def bndC {α ρ : Type} (x : Option (α × kgM)) (f : α → kgM → Option ρ) : Option ρ := match x with
  | some r => f r.1 r.2
  | none => none
theorem bndC_some {α ρ : Type} {x : Option (α × kgM)} {f : α → kgM → Option ρ} {r : ρ} (h : bndC x f = some r) : ∃ a I, x = some (a, I) ∧ f a I = some r := by
  cases x with
  | none => cases h
  | some q => exact ⟨q.1, q.2, rfl, h⟩
def bnd {α ρ : Type} (v : α) (f : α → Option ρ) : Option ρ := f v
def letJ {α β : Type} (t : α) (f : α → β) : β := f t
section AWR
variable {ρ : Type} {X : kgCX ρ} {cc : ByteArray} {own : String} {nL fr lo mc ms ce sl : Nat} {fin A B : Option ρ} {pc : Nat} {L L2 : List (Nat × Value)} {st : List Value} {I : kgM} {w : Option (Nat × Nat)}
theorem aw_none : AW X nL ce sl w none pc L st I := by
  obtain ⟨p, l, e, R, s, m, args, below, meth, c, hs, Q⟩ := X
  intro r hr
  cases hr
theorem aw_sub (ks : List Nat) (h : lv_pick L ks = L2) (k : AW X nL ce sl w fin pc L2 st I) : AW X nL ce sl w fin pc L st I := by
  obtain ⟨p, l, e, R, s, m, args, below, meth, c, hs, Q⟩ := X
  intro r hr H locs ls a b hl
  exact k r hr H locs ls a b (lv_sub hl ks h)
theorem aw_widen {k n : Nat} (h1 : ce ≤ k) (h2 : sl ≤ n) (kk : AW X nL k n w fin pc L st I) : AW X nL ce sl w fin pc L st I := by
  obtain ⟨p, l, e, R, s, m, args, below, meth, c, hs, Q⟩ := X
  intro r hr H locs ls a b hl
  exact W.widen h1 h2 (kk r hr H locs ls a b hl)
theorem aw_wr {J : kgM} {f : kgM → Option ρ} (k : ∀ J2, AW X nL ce sl w (f J2) pc L st J2) : AW X nL ce sl w (bnd J f) pc L st J := k J
theorem aw_let {f : Int32 → Option ρ} {Lf : Int32 → List (Nat × Value)} (v : Int32) (k : ∀ x, AW X nL ce sl w (f x) pc (Lf x) st I) : AW X nL ce sl w (bnd v f) pc (Lf v) st I := k v
theorem aw_letJ {α : Type} {t : α} {f : α → Option ρ} (P : α → Prop) (ht : P t) (k : ∀ j, P j → AW X nL ce sl w (f j) pc L st I) : AW X nL ce sl w (letJ t f) pc L st I := k t ht

theorem aw_iconst (S : Cx X cc own nL fr lo mc ms) {n : Int} {v : Int32} (hdg : decode cc pc = .ok (.iconst n, 1)) (hv : Int32.ofInt n = v) (k : AW X nL ce sl w fin (pc + 1) L (.int v :: st) I) : AW X nL ce sl w fin pc L (st) I := by
  obtain ⟨p, l, e, R, s, m, args, below, meth, c, hs, Q⟩ := X
  obtain ⟨⟨hx, hb, hml, hown, hts⟩, hR, hK, hE, hlk⟩ := S
  intro r hr H locs ls a b hl
  exact lv_iconst hx hb hdg hv (k r hr H locs ls a b hl)
theorem aw_bipush (S : Cx X cc own nL fr lo mc ms) {n : Int} {v : Int32} (hdg : decode cc pc = .ok (.bipush n, 2)) (hv : (Int8.ofInt n).toInt32 = v) (k : AW X nL ce sl w fin (pc + 2) L (.int v :: st) I) : AW X nL ce sl w fin pc L (st) I := by
  obtain ⟨p, l, e, R, s, m, args, below, meth, c, hs, Q⟩ := X
  obtain ⟨⟨hx, hb, hml, hown, hts⟩, hR, hK, hE, hlk⟩ := S
  intro r hr H locs ls a b hl
  exact lv_bipush hx hb hdg hv (k r hr H locs ls a b hl)
theorem aw_sipush (S : Cx X cc own nL fr lo mc ms) {n : Int} {v : Int32} (hdg : decode cc pc = .ok (.sipush n, 3)) (hv : (Int16.ofInt n).toInt32 = v) (k : AW X nL ce sl w fin (pc + 3) L (.int v :: st) I) : AW X nL ce sl w fin pc L (st) I := by
  obtain ⟨p, l, e, R, s, m, args, below, meth, c, hs, Q⟩ := X
  obtain ⟨⟨hx, hb, hml, hown, hts⟩, hR, hK, hE, hlk⟩ := S
  intro r hr H locs ls a b hl
  exact lv_sipush hx hb hdg hv (k r hr H locs ls a b hl)
theorem aw_iload_n (S : Cx X cc own nL fr lo mc ms) {q : Fin 4} {i : Nat} {x : Int32} (j : Nat) (hj : L[j]? = some (i, .int x)) (hdg : decode cc pc = .ok (.iload_n q, 1)) (hi : (q : Nat) = i) (k : AW X nL ce sl w fin (pc + 1) L (.int x :: st) I) : AW X nL ce sl w fin pc L (st) I := by
  obtain ⟨p, l, e, R, s, m, args, below, meth, c, hs, Q⟩ := X
  obtain ⟨⟨hx, hb, hml, hown, hts⟩, hR, hK, hE, hlk⟩ := S
  intro r hr H locs ls a b hl
  exact lv_iload_n hx hb hdg hi (lv_at hl j hj) (k r hr H locs ls a b hl)
theorem aw_iload (S : Cx X cc own nL fr lo mc ms) {i : Nat} {x : Int32} (j : Nat) (hj : L[j]? = some (i, .int x)) (hdg : decode cc pc = .ok (.iload i, 2)) (k : AW X nL ce sl w fin (pc + 2) L (.int x :: st) I) : AW X nL ce sl w fin pc L (st) I := by
  obtain ⟨p, l, e, R, s, m, args, below, meth, c, hs, Q⟩ := X
  obtain ⟨⟨hx, hb, hml, hown, hts⟩, hR, hK, hE, hlk⟩ := S
  intro r hr H locs ls a b hl
  exact lv_iload hx hb hdg (lv_at hl j hj) (k r hr H locs ls a b hl)
theorem aw_aload_n (S : Cx X cc own nL fr lo mc ms) {q : Fin 4} {i : Nat} {x : Nat} (j : Nat) (hj : L[j]? = some (i, .ref x)) (hdg : decode cc pc = .ok (.aload_n q, 1)) (hi : (q : Nat) = i) (k : AW X nL ce sl w fin (pc + 1) L (.ref x :: st) I) : AW X nL ce sl w fin pc L (st) I := by
  obtain ⟨p, l, e, R, s, m, args, below, meth, c, hs, Q⟩ := X
  obtain ⟨⟨hx, hb, hml, hown, hts⟩, hR, hK, hE, hlk⟩ := S
  intro r hr H locs ls a b hl
  exact lv_aload_n hx hb hdg hi (lv_at hl j hj) (k r hr H locs ls a b hl)
theorem aw_aload (S : Cx X cc own nL fr lo mc ms) {i : Nat} {x : Nat} (j : Nat) (hj : L[j]? = some (i, .ref x)) (hdg : decode cc pc = .ok (.aload i, 2)) (k : AW X nL ce sl w fin (pc + 2) L (.ref x :: st) I) : AW X nL ce sl w fin pc L (st) I := by
  obtain ⟨p, l, e, R, s, m, args, below, meth, c, hs, Q⟩ := X
  obtain ⟨⟨hx, hb, hml, hown, hts⟩, hR, hK, hE, hlk⟩ := S
  intro r hr H locs ls a b hl
  exact lv_aload hx hb hdg (lv_at hl j hj) (k r hr H locs ls a b hl)
theorem aw_iadd (S : Cx X cc own nL fr lo mc ms) {x y : Int32} (hdg : decode cc pc = .ok (.iadd, 1)) (k : AW X nL ce sl w fin (pc + 1) L (.int (x + y) :: st) I) : AW X nL ce sl w fin pc L (.int y :: .int x :: st) I := by
  obtain ⟨p, l, e, R, s, m, args, below, meth, c, hs, Q⟩ := X
  obtain ⟨⟨hx, hb, hml, hown, hts⟩, hR, hK, hE, hlk⟩ := S
  intro r hr H locs ls a b hl
  exact lv_iadd hx hb hdg (k r hr H locs ls a b hl)
theorem aw_isub (S : Cx X cc own nL fr lo mc ms) {x y : Int32} (hdg : decode cc pc = .ok (.isub, 1)) (k : AW X nL ce sl w fin (pc + 1) L (.int (x - y) :: st) I) : AW X nL ce sl w fin pc L (.int y :: .int x :: st) I := by
  obtain ⟨p, l, e, R, s, m, args, below, meth, c, hs, Q⟩ := X
  obtain ⟨⟨hx, hb, hml, hown, hts⟩, hR, hK, hE, hlk⟩ := S
  intro r hr H locs ls a b hl
  exact lv_isub hx hb hdg (k r hr H locs ls a b hl)
theorem aw_imul (S : Cx X cc own nL fr lo mc ms) {x y : Int32} (hdg : decode cc pc = .ok (.imul, 1)) (k : AW X nL ce sl w fin (pc + 1) L (.int (x * y) :: st) I) : AW X nL ce sl w fin pc L (.int y :: .int x :: st) I := by
  obtain ⟨p, l, e, R, s, m, args, below, meth, c, hs, Q⟩ := X
  obtain ⟨⟨hx, hb, hml, hown, hts⟩, hR, hK, hE, hlk⟩ := S
  intro r hr H locs ls a b hl
  exact lv_imul hx hb hdg (k r hr H locs ls a b hl)
theorem aw_iand (S : Cx X cc own nL fr lo mc ms) {x y : Int32} (hdg : decode cc pc = .ok (.iand, 1)) (k : AW X nL ce sl w fin (pc + 1) L (.int (x &&& y) :: st) I) : AW X nL ce sl w fin pc L (.int y :: .int x :: st) I := by
  obtain ⟨p, l, e, R, s, m, args, below, meth, c, hs, Q⟩ := X
  obtain ⟨⟨hx, hb, hml, hown, hts⟩, hR, hK, hE, hlk⟩ := S
  intro r hr H locs ls a b hl
  exact lv_iand hx hb hdg (k r hr H locs ls a b hl)
theorem aw_ior (S : Cx X cc own nL fr lo mc ms) {x y : Int32} (hdg : decode cc pc = .ok (.ior, 1)) (k : AW X nL ce sl w fin (pc + 1) L (.int (x ||| y) :: st) I) : AW X nL ce sl w fin pc L (.int y :: .int x :: st) I := by
  obtain ⟨p, l, e, R, s, m, args, below, meth, c, hs, Q⟩ := X
  obtain ⟨⟨hx, hb, hml, hown, hts⟩, hR, hK, hE, hlk⟩ := S
  intro r hr H locs ls a b hl
  exact lv_ior hx hb hdg (k r hr H locs ls a b hl)
theorem aw_ixor (S : Cx X cc own nL fr lo mc ms) {x y : Int32} (hdg : decode cc pc = .ok (.ixor, 1)) (k : AW X nL ce sl w fin (pc + 1) L (.int (x ^^^ y) :: st) I) : AW X nL ce sl w fin pc L (.int y :: .int x :: st) I := by
  obtain ⟨p, l, e, R, s, m, args, below, meth, c, hs, Q⟩ := X
  obtain ⟨⟨hx, hb, hml, hown, hts⟩, hR, hK, hE, hlk⟩ := S
  intro r hr H locs ls a b hl
  exact lv_ixor hx hb hdg (k r hr H locs ls a b hl)
theorem aw_ishl (S : Cx X cc own nL fr lo mc ms) {x y : Int32} (hdg : decode cc pc = .ok (.ishl, 1)) (k : AW X nL ce sl w fin (pc + 1) L (.int (x <<< (y &&& 31)) :: st) I) : AW X nL ce sl w fin pc L (.int y :: .int x :: st) I := by
  obtain ⟨p, l, e, R, s, m, args, below, meth, c, hs, Q⟩ := X
  obtain ⟨⟨hx, hb, hml, hown, hts⟩, hR, hK, hE, hlk⟩ := S
  intro r hr H locs ls a b hl
  exact lv_ishl hx hb hdg (k r hr H locs ls a b hl)
theorem aw_ishr (S : Cx X cc own nL fr lo mc ms) {x y : Int32} (hdg : decode cc pc = .ok (.ishr, 1)) (k : AW X nL ce sl w fin (pc + 1) L (.int (x >>> (y &&& 31)) :: st) I) : AW X nL ce sl w fin pc L (.int y :: .int x :: st) I := by
  obtain ⟨p, l, e, R, s, m, args, below, meth, c, hs, Q⟩ := X
  obtain ⟨⟨hx, hb, hml, hown, hts⟩, hR, hK, hE, hlk⟩ := S
  intro r hr H locs ls a b hl
  exact lv_ishr hx hb hdg (k r hr H locs ls a b hl)
theorem aw_iushr (S : Cx X cc own nL fr lo mc ms) {x y : Int32} (hdg : decode cc pc = .ok (.iushr, 1)) (k : AW X nL ce sl w fin (pc + 1) L (.int ((x.toUInt32 >>> (y.toUInt32 &&& Int32.toUInt32 31)).toInt32) :: st) I) : AW X nL ce sl w fin pc L (.int y :: .int x :: st) I := by
  obtain ⟨p, l, e, R, s, m, args, below, meth, c, hs, Q⟩ := X
  obtain ⟨⟨hx, hb, hml, hown, hts⟩, hR, hK, hE, hlk⟩ := S
  intro r hr H locs ls a b hl
  exact lv_iushr hx hb hdg rfl (k r hr H locs ls a b hl)
theorem aw_ineg (S : Cx X cc own nL fr lo mc ms) {x : Int32} (hdg : decode cc pc = .ok (.ineg, 1)) (k : AW X nL ce sl w fin (pc + 1) L (.int (-x) :: st) I) : AW X nL ce sl w fin pc L (.int x :: st) I := by
  obtain ⟨p, l, e, R, s, m, args, below, meth, c, hs, Q⟩ := X
  obtain ⟨⟨hx, hb, hml, hown, hts⟩, hR, hK, hE, hlk⟩ := S
  intro r hr H locs ls a b hl
  exact lv_ineg hx hb hdg (k r hr H locs ls a b hl)
theorem aw_idiv (S : Cx X cc own nL fr lo mc ms) {x y : Int32} (hdg : decode cc pc = .ok (.idiv, 1)) (k : AW X nL ce sl w fin (pc + 1) L (.int (x / y) :: st) I) : AW X nL ce sl w (ck (decide (¬ y = 0)) fin) pc L (.int y :: .int x :: st) I := by
  obtain ⟨p, l, e, R, s, m, args, below, meth, c, hs, Q⟩ := X
  obtain ⟨⟨hx, hb, hml, hown, hts⟩, hR, hK, hE, hlk⟩ := S
  intro r hr H locs ls a b hl
  obtain ⟨h0, hr⟩ := ck_some hr
  exact lv_idiv hx hb hdg (of_decide_eq_true h0) (k r hr H locs ls a b hl)
theorem aw_idivK (S : Cx X cc own nL fr lo mc ms) {x y : Int32} (hdg : decode cc pc = .ok (.idiv, 1)) (hy : ¬ y = 0) (k : AW X nL ce sl w fin (pc + 1) L (.int (x / y) :: st) I) : AW X nL ce sl w fin pc L (.int y :: .int x :: st) I := by
  obtain ⟨p, l, e, R, s, m, args, below, meth, c, hs, Q⟩ := X
  obtain ⟨⟨hx, hb, hml, hown, hts⟩, hR, hK, hE, hlk⟩ := S
  intro r hr H locs ls a b hl
  exact lv_idiv hx hb hdg hy (k r hr H locs ls a b hl)
theorem aw_irem (S : Cx X cc own nL fr lo mc ms) {x y : Int32} (hdg : decode cc pc = .ok (.irem, 1)) (k : AW X nL ce sl w fin (pc + 1) L (.int (x - x / y * y) :: st) I) : AW X nL ce sl w (ck (decide (¬ y = 0)) fin) pc L (.int y :: .int x :: st) I := by
  obtain ⟨p, l, e, R, s, m, args, below, meth, c, hs, Q⟩ := X
  obtain ⟨⟨hx, hb, hml, hown, hts⟩, hR, hK, hE, hlk⟩ := S
  intro r hr H locs ls a b hl
  obtain ⟨h0, hr⟩ := ck_some hr
  exact lv_irem hx hb hdg (of_decide_eq_true h0) (k r hr H locs ls a b hl)
theorem aw_iremK (S : Cx X cc own nL fr lo mc ms) {x y : Int32} (hdg : decode cc pc = .ok (.irem, 1)) (hy : ¬ y = 0) (k : AW X nL ce sl w fin (pc + 1) L (.int (x - x / y * y) :: st) I) : AW X nL ce sl w fin pc L (.int y :: .int x :: st) I := by
  obtain ⟨p, l, e, R, s, m, args, below, meth, c, hs, Q⟩ := X
  obtain ⟨⟨hx, hb, hml, hown, hts⟩, hR, hK, hE, hlk⟩ := S
  intro r hr H locs ls a b hl
  exact lv_irem hx hb hdg hy (k r hr H locs ls a b hl)
theorem aw_i2c (S : Cx X cc own nL fr lo mc ms) {x : Int32} (hdg : decode cc pc = .ok (.i2c, 1)) (k : AW X nL ce sl w fin (pc + 1) L (.int ((x.toUInt32 % 65536).toInt32) :: st) I) : AW X nL ce sl w fin pc L (.int x :: st) I := by
  obtain ⟨p, l, e, R, s, m, args, below, meth, c, hs, Q⟩ := X
  obtain ⟨⟨hx, hb, hml, hown, hts⟩, hR, hK, hE, hlk⟩ := S
  intro r hr H locs ls a b hl
  exact lv_i2c hx hb hdg rfl (k r hr H locs ls a b hl)
theorem aw_dup (S : Cx X cc own nL fr lo mc ms) {va : Value} (hdg : decode cc pc = .ok (.dup, 1)) (hc : va.category = 1) (k : AW X nL ce sl w fin (pc + 1) L (va :: va :: st) I) : AW X nL ce sl w fin pc L (va :: st) I := by
  obtain ⟨p, l, e, R, s, m, args, below, meth, c, hs, Q⟩ := X
  obtain ⟨⟨hx, hb, hml, hown, hts⟩, hR, hK, hE, hlk⟩ := S
  intro r hr H locs ls a b hl
  exact lv_dup hx hb hdg hc (k r hr H locs ls a b hl)
theorem aw_pop (S : Cx X cc own nL fr lo mc ms) {va : Value} (hdg : decode cc pc = .ok (.pop, 1)) (hc : va.category = 1) (k : AW X nL ce sl w fin (pc + 1) L (st) I) : AW X nL ce sl w fin pc L (va :: st) I := by
  obtain ⟨p, l, e, R, s, m, args, below, meth, c, hs, Q⟩ := X
  obtain ⟨⟨hx, hb, hml, hown, hts⟩, hR, hK, hE, hlk⟩ := S
  intro r hr H locs ls a b hl
  exact lv_pop hx hb hdg hc (k r hr H locs ls a b hl)
theorem aw_dup2 (S : Cx X cc own nL fr lo mc ms) {va vb : Value} (hdg : decode cc pc = .ok (.dup2, 1)) (hc : va.category = 1) (hd : vb.category = 1) (k : AW X nL ce sl w fin (pc + 1) L (va :: vb :: va :: vb :: st) I) : AW X nL ce sl w fin pc L (va :: vb :: st) I := by
  obtain ⟨p, l, e, R, s, m, args, below, meth, c, hs, Q⟩ := X
  obtain ⟨⟨hx, hb, hml, hown, hts⟩, hR, hK, hE, hlk⟩ := S
  intro r hr H locs ls a b hl
  exact lv_dup2_11 hx hb hdg hc hd (k r hr H locs ls a b hl)
theorem aw_istore_n (S : Cx X cc own nL fr lo mc ms) {q : Fin 4} {i : Nat} {x : Int32} (ks : List Nat) (hdg : decode cc pc = .ok (.istore_n q, 1)) (hi : (q : Nat) = i) (hn : i < nL) (hl2 : lv_pick ((i, Value.int x) :: L.filter (fun q => !(q.1 == i) && !(q.1 + 1 == i && q.2.category == 2))) ks = L2) (k : AW X nL ce sl w fin (pc + 1) L2 st I) : AW X nL ce sl w fin pc L (.int x :: st) I := by
  obtain ⟨p, l, e, R, s, m, args, below, meth, c, hs, Q⟩ := X
  obtain ⟨⟨hx, hb, hml, hown, hts⟩, hR, hK, hE, hlk⟩ := S
  intro r hr H locs ls a b hl
  exact lv_istore_n hx hb hdg hi hl hn rfl (fun ls2 hl3 => k r hr H locs ls2 a b (lv_sub hl3 ks hl2))
theorem aw_istore (S : Cx X cc own nL fr lo mc ms) {i : Nat} {x : Int32} (ks : List Nat) (hdg : decode cc pc = .ok (.istore i, 2)) (hn : i < nL) (hl2 : lv_pick ((i, Value.int x) :: L.filter (fun q => !(q.1 == i) && !(q.1 + 1 == i && q.2.category == 2))) ks = L2) (k : AW X nL ce sl w fin (pc + 2) L2 st I) : AW X nL ce sl w fin pc L (.int x :: st) I := by
  obtain ⟨p, l, e, R, s, m, args, below, meth, c, hs, Q⟩ := X
  obtain ⟨⟨hx, hb, hml, hown, hts⟩, hR, hK, hE, hlk⟩ := S
  intro r hr H locs ls a b hl
  exact lv_istore hx hb hdg hl hn rfl (fun ls2 hl3 => k r hr H locs ls2 a b (lv_sub hl3 ks hl2))
theorem aw_astore_n (S : Cx X cc own nL fr lo mc ms) {q : Fin 4} {i : Nat} {x : Nat} (ks : List Nat) (hdg : decode cc pc = .ok (.astore_n q, 1)) (hi : (q : Nat) = i) (hn : i < nL) (hl2 : lv_pick ((i, Value.ref x) :: L.filter (fun q => !(q.1 == i) && !(q.1 + 1 == i && q.2.category == 2))) ks = L2) (k : AW X nL ce sl w fin (pc + 1) L2 st I) : AW X nL ce sl w fin pc L (.ref x :: st) I := by
  obtain ⟨p, l, e, R, s, m, args, below, meth, c, hs, Q⟩ := X
  obtain ⟨⟨hx, hb, hml, hown, hts⟩, hR, hK, hE, hlk⟩ := S
  intro r hr H locs ls a b hl
  exact lv_astore_n hx hb hdg hi hl hn rfl (fun ls2 hl3 => k r hr H locs ls2 a b (lv_sub hl3 ks hl2))
theorem aw_astore (S : Cx X cc own nL fr lo mc ms) {i : Nat} {x : Nat} (ks : List Nat) (hdg : decode cc pc = .ok (.astore i, 2)) (hn : i < nL) (hl2 : lv_pick ((i, Value.ref x) :: L.filter (fun q => !(q.1 == i) && !(q.1 + 1 == i && q.2.category == 2))) ks = L2) (k : AW X nL ce sl w fin (pc + 2) L2 st I) : AW X nL ce sl w fin pc L (.ref x :: st) I := by
  obtain ⟨p, l, e, R, s, m, args, below, meth, c, hs, Q⟩ := X
  obtain ⟨⟨hx, hb, hml, hown, hts⟩, hR, hK, hE, hlk⟩ := S
  intro r hr H locs ls a b hl
  exact lv_astore hx hb hdg hl hn rfl (fun ls2 hl3 => k r hr H locs ls2 a b (lv_sub hl3 ks hl2))
theorem aw_iinc (S : Cx X cc own nL fr lo mc ms) {i : Nat} {n : Int} {x v : Int32} (ks : List Nat) (j : Nat) (hdg : decode cc pc = .ok (.iinc i n, 3)) (hj : L[j]? = some (i, .int x)) (hv : x + Int32.ofInt n = v) (hn : i < nL) (hl2 : lv_pick ((i, Value.int v) :: L.filter (fun q => !(q.1 == i) && !(q.1 + 1 == i && q.2.category == 2))) ks = L2) (k : AW X nL ce sl w fin (pc + 3) L2 st I) : AW X nL ce sl w fin pc L st I := by
  obtain ⟨p, l, e, R, s, m, args, below, meth, c, hs, Q⟩ := X
  obtain ⟨⟨hx, hb, hml, hown, hts⟩, hR, hK, hE, hlk⟩ := S
  intro r hr H locs ls a b hl
  exact lv_iinc hx hb hdg hl hj hv hn rfl (fun ls2 hl3 => k r hr H locs ls2 a b (lv_sub hl3 ks hl2))
theorem aw_if_eq (S : Cx X cc own nL fr lo mc ms) {x y : Int32} {off : Int} {tgt : Nat} (hdg : decode cc pc = .ok (.ifCond .eq off, 3)) (ht : (pc : Int) + off = (tgt : Int)) (kt : AW X nL ce sl w A tgt L st I) (kf : AW X nL ce sl w B (pc + 3) L st I) : AW X nL ce sl w (if x = 0 then A else B) pc L (.int x :: st) I := by
  obtain ⟨p, l, e, R, s, m, args, below, meth, c, hs, Q⟩ := X
  obtain ⟨⟨hx, hb, hml, hown, hts⟩, hR, hK, hE, hlk⟩ := S
  intro r hr H locs ls a b hl
  refine lv_if_eq hx hb hdg ht (fun h => ?_) (fun h => ?_)
  · rw [if_pos h] at hr
    exact kt r hr H locs ls a b hl
  · rw [if_neg h] at hr
    exact kf r hr H locs ls a b hl
theorem aw_if_ne (S : Cx X cc own nL fr lo mc ms) {x y : Int32} {off : Int} {tgt : Nat} (hdg : decode cc pc = .ok (.ifCond .ne off, 3)) (ht : (pc : Int) + off = (tgt : Int)) (kt : AW X nL ce sl w B tgt L st I) (kf : AW X nL ce sl w A (pc + 3) L st I) : AW X nL ce sl w (if x = 0 then A else B) pc L (.int x :: st) I := by
  obtain ⟨p, l, e, R, s, m, args, below, meth, c, hs, Q⟩ := X
  obtain ⟨⟨hx, hb, hml, hown, hts⟩, hR, hK, hE, hlk⟩ := S
  intro r hr H locs ls a b hl
  refine lv_if_ne hx hb hdg ht (fun h => ?_) (fun h => ?_)
  · rw [if_neg h] at hr
    exact kt r hr H locs ls a b hl
  · rw [if_pos h] at hr
    exact kf r hr H locs ls a b hl
theorem aw_if_lt (S : Cx X cc own nL fr lo mc ms) {x y : Int32} {off : Int} {tgt : Nat} (hdg : decode cc pc = .ok (.ifCond .lt off, 3)) (ht : (pc : Int) + off = (tgt : Int)) (kt : AW X nL ce sl w A tgt L st I) (kf : AW X nL ce sl w B (pc + 3) L st I) : AW X nL ce sl w (if x < 0 then A else B) pc L (.int x :: st) I := by
  obtain ⟨p, l, e, R, s, m, args, below, meth, c, hs, Q⟩ := X
  obtain ⟨⟨hx, hb, hml, hown, hts⟩, hR, hK, hE, hlk⟩ := S
  intro r hr H locs ls a b hl
  refine lv_if_lt hx hb hdg ht (fun h => ?_) (fun h => ?_)
  · rw [if_pos h] at hr
    exact kt r hr H locs ls a b hl
  · rw [if_neg h] at hr
    exact kf r hr H locs ls a b hl
theorem aw_if_ge (S : Cx X cc own nL fr lo mc ms) {x y : Int32} {off : Int} {tgt : Nat} (hdg : decode cc pc = .ok (.ifCond .ge off, 3)) (ht : (pc : Int) + off = (tgt : Int)) (kt : AW X nL ce sl w A tgt L st I) (kf : AW X nL ce sl w B (pc + 3) L st I) : AW X nL ce sl w (if 0 ≤ x then A else B) pc L (.int x :: st) I := by
  obtain ⟨p, l, e, R, s, m, args, below, meth, c, hs, Q⟩ := X
  obtain ⟨⟨hx, hb, hml, hown, hts⟩, hR, hK, hE, hlk⟩ := S
  intro r hr H locs ls a b hl
  refine lv_if_ge hx hb hdg ht (fun h => ?_) (fun h => ?_)
  · rw [if_pos h] at hr
    exact kt r hr H locs ls a b hl
  · rw [if_neg h] at hr
    exact kf r hr H locs ls a b hl
theorem aw_if_gt (S : Cx X cc own nL fr lo mc ms) {x y : Int32} {off : Int} {tgt : Nat} (hdg : decode cc pc = .ok (.ifCond .gt off, 3)) (ht : (pc : Int) + off = (tgt : Int)) (kt : AW X nL ce sl w A tgt L st I) (kf : AW X nL ce sl w B (pc + 3) L st I) : AW X nL ce sl w (if 0 < x then A else B) pc L (.int x :: st) I := by
  obtain ⟨p, l, e, R, s, m, args, below, meth, c, hs, Q⟩ := X
  obtain ⟨⟨hx, hb, hml, hown, hts⟩, hR, hK, hE, hlk⟩ := S
  intro r hr H locs ls a b hl
  refine lv_if_gt hx hb hdg ht (fun h => ?_) (fun h => ?_)
  · rw [if_pos h] at hr
    exact kt r hr H locs ls a b hl
  · rw [if_neg h] at hr
    exact kf r hr H locs ls a b hl
theorem aw_if_le (S : Cx X cc own nL fr lo mc ms) {x y : Int32} {off : Int} {tgt : Nat} (hdg : decode cc pc = .ok (.ifCond .le off, 3)) (ht : (pc : Int) + off = (tgt : Int)) (kt : AW X nL ce sl w A tgt L st I) (kf : AW X nL ce sl w B (pc + 3) L st I) : AW X nL ce sl w (if x ≤ 0 then A else B) pc L (.int x :: st) I := by
  obtain ⟨p, l, e, R, s, m, args, below, meth, c, hs, Q⟩ := X
  obtain ⟨⟨hx, hb, hml, hown, hts⟩, hR, hK, hE, hlk⟩ := S
  intro r hr H locs ls a b hl
  refine lv_if_le hx hb hdg ht (fun h => ?_) (fun h => ?_)
  · rw [if_pos h] at hr
    exact kt r hr H locs ls a b hl
  · rw [if_neg h] at hr
    exact kf r hr H locs ls a b hl
theorem aw_icmp_eq (S : Cx X cc own nL fr lo mc ms) {x y : Int32} {off : Int} {tgt : Nat} (hdg : decode cc pc = .ok (.if_icmp .eq off, 3)) (ht : (pc : Int) + off = (tgt : Int)) (kt : AW X nL ce sl w A tgt L st I) (kf : AW X nL ce sl w B (pc + 3) L st I) : AW X nL ce sl w (if x = y then A else B) pc L (.int y :: .int x :: st) I := by
  obtain ⟨p, l, e, R, s, m, args, below, meth, c, hs, Q⟩ := X
  obtain ⟨⟨hx, hb, hml, hown, hts⟩, hR, hK, hE, hlk⟩ := S
  intro r hr H locs ls a b hl
  refine lv_icmp_eq hx hb hdg ht (fun h => ?_) (fun h => ?_)
  · rw [if_pos h] at hr
    exact kt r hr H locs ls a b hl
  · rw [if_neg h] at hr
    exact kf r hr H locs ls a b hl
theorem aw_icmp_ne (S : Cx X cc own nL fr lo mc ms) {x y : Int32} {off : Int} {tgt : Nat} (hdg : decode cc pc = .ok (.if_icmp .ne off, 3)) (ht : (pc : Int) + off = (tgt : Int)) (kt : AW X nL ce sl w B tgt L st I) (kf : AW X nL ce sl w A (pc + 3) L st I) : AW X nL ce sl w (if x = y then A else B) pc L (.int y :: .int x :: st) I := by
  obtain ⟨p, l, e, R, s, m, args, below, meth, c, hs, Q⟩ := X
  obtain ⟨⟨hx, hb, hml, hown, hts⟩, hR, hK, hE, hlk⟩ := S
  intro r hr H locs ls a b hl
  refine lv_icmp_ne hx hb hdg ht (fun h => ?_) (fun h => ?_)
  · rw [if_neg h] at hr
    exact kt r hr H locs ls a b hl
  · rw [if_pos h] at hr
    exact kf r hr H locs ls a b hl
theorem aw_icmp_lt (S : Cx X cc own nL fr lo mc ms) {x y : Int32} {off : Int} {tgt : Nat} (hdg : decode cc pc = .ok (.if_icmp .lt off, 3)) (ht : (pc : Int) + off = (tgt : Int)) (kt : AW X nL ce sl w A tgt L st I) (kf : AW X nL ce sl w B (pc + 3) L st I) : AW X nL ce sl w (if x < y then A else B) pc L (.int y :: .int x :: st) I := by
  obtain ⟨p, l, e, R, s, m, args, below, meth, c, hs, Q⟩ := X
  obtain ⟨⟨hx, hb, hml, hown, hts⟩, hR, hK, hE, hlk⟩ := S
  intro r hr H locs ls a b hl
  refine lv_icmp_lt hx hb hdg ht (fun h => ?_) (fun h => ?_)
  · rw [if_pos h] at hr
    exact kt r hr H locs ls a b hl
  · rw [if_neg h] at hr
    exact kf r hr H locs ls a b hl
theorem aw_icmp_ge (S : Cx X cc own nL fr lo mc ms) {x y : Int32} {off : Int} {tgt : Nat} (hdg : decode cc pc = .ok (.if_icmp .ge off, 3)) (ht : (pc : Int) + off = (tgt : Int)) (kt : AW X nL ce sl w A tgt L st I) (kf : AW X nL ce sl w B (pc + 3) L st I) : AW X nL ce sl w (if y ≤ x then A else B) pc L (.int y :: .int x :: st) I := by
  obtain ⟨p, l, e, R, s, m, args, below, meth, c, hs, Q⟩ := X
  obtain ⟨⟨hx, hb, hml, hown, hts⟩, hR, hK, hE, hlk⟩ := S
  intro r hr H locs ls a b hl
  refine lv_icmp_ge hx hb hdg ht (fun h => ?_) (fun h => ?_)
  · rw [if_pos h] at hr
    exact kt r hr H locs ls a b hl
  · rw [if_neg h] at hr
    exact kf r hr H locs ls a b hl
theorem aw_icmp_gt (S : Cx X cc own nL fr lo mc ms) {x y : Int32} {off : Int} {tgt : Nat} (hdg : decode cc pc = .ok (.if_icmp .gt off, 3)) (ht : (pc : Int) + off = (tgt : Int)) (kt : AW X nL ce sl w A tgt L st I) (kf : AW X nL ce sl w B (pc + 3) L st I) : AW X nL ce sl w (if y < x then A else B) pc L (.int y :: .int x :: st) I := by
  obtain ⟨p, l, e, R, s, m, args, below, meth, c, hs, Q⟩ := X
  obtain ⟨⟨hx, hb, hml, hown, hts⟩, hR, hK, hE, hlk⟩ := S
  intro r hr H locs ls a b hl
  refine lv_icmp_gt hx hb hdg ht (fun h => ?_) (fun h => ?_)
  · rw [if_pos h] at hr
    exact kt r hr H locs ls a b hl
  · rw [if_neg h] at hr
    exact kf r hr H locs ls a b hl
theorem aw_icmp_le (S : Cx X cc own nL fr lo mc ms) {x y : Int32} {off : Int} {tgt : Nat} (hdg : decode cc pc = .ok (.if_icmp .le off, 3)) (ht : (pc : Int) + off = (tgt : Int)) (kt : AW X nL ce sl w A tgt L st I) (kf : AW X nL ce sl w B (pc + 3) L st I) : AW X nL ce sl w (if x ≤ y then A else B) pc L (.int y :: .int x :: st) I := by
  obtain ⟨p, l, e, R, s, m, args, below, meth, c, hs, Q⟩ := X
  obtain ⟨⟨hx, hb, hml, hown, hts⟩, hR, hK, hE, hlk⟩ := S
  intro r hr H locs ls a b hl
  refine lv_icmp_le hx hb hdg ht (fun h => ?_) (fun h => ?_)
  · rw [if_pos h] at hr
    exact kt r hr H locs ls a b hl
  · rw [if_neg h] at hr
    exact kf r hr H locs ls a b hl
theorem aw_if_eqT (S : Cx X cc own nL fr lo mc ms) {x y : Int32} {off : Int} {tgt : Nat} (hdg : decode cc pc = .ok (.ifCond .eq off, 3)) (ht : (pc : Int) + off = (tgt : Int)) (hc : x = 0) (kt : AW X nL ce sl w fin tgt L st I) : AW X nL ce sl w fin pc L (.int x :: st) I := by
  obtain ⟨p, l, e, R, s, m, args, below, meth, c, hs, Q⟩ := X
  obtain ⟨⟨hx, hb, hml, hown, hts⟩, hR, hK, hE, hlk⟩ := S
  intro r hr H locs ls a b hl
  exact lv_if_eq hx hb hdg ht (fun h => kt r hr H locs ls a b hl) (fun h => absurd hc h)
theorem aw_if_eqF (S : Cx X cc own nL fr lo mc ms) {x y : Int32} {off : Int} {tgt : Nat} (hdg : decode cc pc = .ok (.ifCond .eq off, 3)) (ht : (pc : Int) + off = (tgt : Int)) (hc : ¬ x = 0) (kf : AW X nL ce sl w fin (pc + 3) L st I) : AW X nL ce sl w fin pc L (.int x :: st) I := by
  obtain ⟨p, l, e, R, s, m, args, below, meth, c, hs, Q⟩ := X
  obtain ⟨⟨hx, hb, hml, hown, hts⟩, hR, hK, hE, hlk⟩ := S
  intro r hr H locs ls a b hl
  exact lv_if_eq hx hb hdg ht (fun h => absurd h hc) (fun h => kf r hr H locs ls a b hl)
theorem aw_if_neT (S : Cx X cc own nL fr lo mc ms) {x y : Int32} {off : Int} {tgt : Nat} (hdg : decode cc pc = .ok (.ifCond .ne off, 3)) (ht : (pc : Int) + off = (tgt : Int)) (hc : ¬ x = 0) (kt : AW X nL ce sl w fin tgt L st I) : AW X nL ce sl w fin pc L (.int x :: st) I := by
  obtain ⟨p, l, e, R, s, m, args, below, meth, c, hs, Q⟩ := X
  obtain ⟨⟨hx, hb, hml, hown, hts⟩, hR, hK, hE, hlk⟩ := S
  intro r hr H locs ls a b hl
  exact lv_if_ne hx hb hdg ht (fun h => kt r hr H locs ls a b hl) (fun h => absurd h hc)
theorem aw_if_neF (S : Cx X cc own nL fr lo mc ms) {x y : Int32} {off : Int} {tgt : Nat} (hdg : decode cc pc = .ok (.ifCond .ne off, 3)) (ht : (pc : Int) + off = (tgt : Int)) (hc : x = 0) (kf : AW X nL ce sl w fin (pc + 3) L st I) : AW X nL ce sl w fin pc L (.int x :: st) I := by
  obtain ⟨p, l, e, R, s, m, args, below, meth, c, hs, Q⟩ := X
  obtain ⟨⟨hx, hb, hml, hown, hts⟩, hR, hK, hE, hlk⟩ := S
  intro r hr H locs ls a b hl
  exact lv_if_ne hx hb hdg ht (fun h => absurd hc h) (fun h => kf r hr H locs ls a b hl)
theorem aw_if_ltT (S : Cx X cc own nL fr lo mc ms) {x y : Int32} {off : Int} {tgt : Nat} (hdg : decode cc pc = .ok (.ifCond .lt off, 3)) (ht : (pc : Int) + off = (tgt : Int)) (hc : x < 0) (kt : AW X nL ce sl w fin tgt L st I) : AW X nL ce sl w fin pc L (.int x :: st) I := by
  obtain ⟨p, l, e, R, s, m, args, below, meth, c, hs, Q⟩ := X
  obtain ⟨⟨hx, hb, hml, hown, hts⟩, hR, hK, hE, hlk⟩ := S
  intro r hr H locs ls a b hl
  exact lv_if_lt hx hb hdg ht (fun h => kt r hr H locs ls a b hl) (fun h => absurd hc h)
theorem aw_if_ltF (S : Cx X cc own nL fr lo mc ms) {x y : Int32} {off : Int} {tgt : Nat} (hdg : decode cc pc = .ok (.ifCond .lt off, 3)) (ht : (pc : Int) + off = (tgt : Int)) (hc : ¬ x < 0) (kf : AW X nL ce sl w fin (pc + 3) L st I) : AW X nL ce sl w fin pc L (.int x :: st) I := by
  obtain ⟨p, l, e, R, s, m, args, below, meth, c, hs, Q⟩ := X
  obtain ⟨⟨hx, hb, hml, hown, hts⟩, hR, hK, hE, hlk⟩ := S
  intro r hr H locs ls a b hl
  exact lv_if_lt hx hb hdg ht (fun h => absurd h hc) (fun h => kf r hr H locs ls a b hl)
theorem aw_if_geT (S : Cx X cc own nL fr lo mc ms) {x y : Int32} {off : Int} {tgt : Nat} (hdg : decode cc pc = .ok (.ifCond .ge off, 3)) (ht : (pc : Int) + off = (tgt : Int)) (hc : 0 ≤ x) (kt : AW X nL ce sl w fin tgt L st I) : AW X nL ce sl w fin pc L (.int x :: st) I := by
  obtain ⟨p, l, e, R, s, m, args, below, meth, c, hs, Q⟩ := X
  obtain ⟨⟨hx, hb, hml, hown, hts⟩, hR, hK, hE, hlk⟩ := S
  intro r hr H locs ls a b hl
  exact lv_if_ge hx hb hdg ht (fun h => kt r hr H locs ls a b hl) (fun h => absurd hc h)
theorem aw_if_geF (S : Cx X cc own nL fr lo mc ms) {x y : Int32} {off : Int} {tgt : Nat} (hdg : decode cc pc = .ok (.ifCond .ge off, 3)) (ht : (pc : Int) + off = (tgt : Int)) (hc : ¬ 0 ≤ x) (kf : AW X nL ce sl w fin (pc + 3) L st I) : AW X nL ce sl w fin pc L (.int x :: st) I := by
  obtain ⟨p, l, e, R, s, m, args, below, meth, c, hs, Q⟩ := X
  obtain ⟨⟨hx, hb, hml, hown, hts⟩, hR, hK, hE, hlk⟩ := S
  intro r hr H locs ls a b hl
  exact lv_if_ge hx hb hdg ht (fun h => absurd h hc) (fun h => kf r hr H locs ls a b hl)
theorem aw_if_gtT (S : Cx X cc own nL fr lo mc ms) {x y : Int32} {off : Int} {tgt : Nat} (hdg : decode cc pc = .ok (.ifCond .gt off, 3)) (ht : (pc : Int) + off = (tgt : Int)) (hc : 0 < x) (kt : AW X nL ce sl w fin tgt L st I) : AW X nL ce sl w fin pc L (.int x :: st) I := by
  obtain ⟨p, l, e, R, s, m, args, below, meth, c, hs, Q⟩ := X
  obtain ⟨⟨hx, hb, hml, hown, hts⟩, hR, hK, hE, hlk⟩ := S
  intro r hr H locs ls a b hl
  exact lv_if_gt hx hb hdg ht (fun h => kt r hr H locs ls a b hl) (fun h => absurd hc h)
theorem aw_if_gtF (S : Cx X cc own nL fr lo mc ms) {x y : Int32} {off : Int} {tgt : Nat} (hdg : decode cc pc = .ok (.ifCond .gt off, 3)) (ht : (pc : Int) + off = (tgt : Int)) (hc : ¬ 0 < x) (kf : AW X nL ce sl w fin (pc + 3) L st I) : AW X nL ce sl w fin pc L (.int x :: st) I := by
  obtain ⟨p, l, e, R, s, m, args, below, meth, c, hs, Q⟩ := X
  obtain ⟨⟨hx, hb, hml, hown, hts⟩, hR, hK, hE, hlk⟩ := S
  intro r hr H locs ls a b hl
  exact lv_if_gt hx hb hdg ht (fun h => absurd h hc) (fun h => kf r hr H locs ls a b hl)
theorem aw_if_leT (S : Cx X cc own nL fr lo mc ms) {x y : Int32} {off : Int} {tgt : Nat} (hdg : decode cc pc = .ok (.ifCond .le off, 3)) (ht : (pc : Int) + off = (tgt : Int)) (hc : x ≤ 0) (kt : AW X nL ce sl w fin tgt L st I) : AW X nL ce sl w fin pc L (.int x :: st) I := by
  obtain ⟨p, l, e, R, s, m, args, below, meth, c, hs, Q⟩ := X
  obtain ⟨⟨hx, hb, hml, hown, hts⟩, hR, hK, hE, hlk⟩ := S
  intro r hr H locs ls a b hl
  exact lv_if_le hx hb hdg ht (fun h => kt r hr H locs ls a b hl) (fun h => absurd hc h)
theorem aw_if_leF (S : Cx X cc own nL fr lo mc ms) {x y : Int32} {off : Int} {tgt : Nat} (hdg : decode cc pc = .ok (.ifCond .le off, 3)) (ht : (pc : Int) + off = (tgt : Int)) (hc : ¬ x ≤ 0) (kf : AW X nL ce sl w fin (pc + 3) L st I) : AW X nL ce sl w fin pc L (.int x :: st) I := by
  obtain ⟨p, l, e, R, s, m, args, below, meth, c, hs, Q⟩ := X
  obtain ⟨⟨hx, hb, hml, hown, hts⟩, hR, hK, hE, hlk⟩ := S
  intro r hr H locs ls a b hl
  exact lv_if_le hx hb hdg ht (fun h => absurd h hc) (fun h => kf r hr H locs ls a b hl)
theorem aw_icmp_eqT (S : Cx X cc own nL fr lo mc ms) {x y : Int32} {off : Int} {tgt : Nat} (hdg : decode cc pc = .ok (.if_icmp .eq off, 3)) (ht : (pc : Int) + off = (tgt : Int)) (hc : x = y) (kt : AW X nL ce sl w fin tgt L st I) : AW X nL ce sl w fin pc L (.int y :: .int x :: st) I := by
  obtain ⟨p, l, e, R, s, m, args, below, meth, c, hs, Q⟩ := X
  obtain ⟨⟨hx, hb, hml, hown, hts⟩, hR, hK, hE, hlk⟩ := S
  intro r hr H locs ls a b hl
  exact lv_icmp_eq hx hb hdg ht (fun h => kt r hr H locs ls a b hl) (fun h => absurd hc h)
theorem aw_icmp_eqF (S : Cx X cc own nL fr lo mc ms) {x y : Int32} {off : Int} {tgt : Nat} (hdg : decode cc pc = .ok (.if_icmp .eq off, 3)) (ht : (pc : Int) + off = (tgt : Int)) (hc : ¬ x = y) (kf : AW X nL ce sl w fin (pc + 3) L st I) : AW X nL ce sl w fin pc L (.int y :: .int x :: st) I := by
  obtain ⟨p, l, e, R, s, m, args, below, meth, c, hs, Q⟩ := X
  obtain ⟨⟨hx, hb, hml, hown, hts⟩, hR, hK, hE, hlk⟩ := S
  intro r hr H locs ls a b hl
  exact lv_icmp_eq hx hb hdg ht (fun h => absurd h hc) (fun h => kf r hr H locs ls a b hl)
theorem aw_icmp_neT (S : Cx X cc own nL fr lo mc ms) {x y : Int32} {off : Int} {tgt : Nat} (hdg : decode cc pc = .ok (.if_icmp .ne off, 3)) (ht : (pc : Int) + off = (tgt : Int)) (hc : ¬ x = y) (kt : AW X nL ce sl w fin tgt L st I) : AW X nL ce sl w fin pc L (.int y :: .int x :: st) I := by
  obtain ⟨p, l, e, R, s, m, args, below, meth, c, hs, Q⟩ := X
  obtain ⟨⟨hx, hb, hml, hown, hts⟩, hR, hK, hE, hlk⟩ := S
  intro r hr H locs ls a b hl
  exact lv_icmp_ne hx hb hdg ht (fun h => kt r hr H locs ls a b hl) (fun h => absurd h hc)
theorem aw_icmp_neF (S : Cx X cc own nL fr lo mc ms) {x y : Int32} {off : Int} {tgt : Nat} (hdg : decode cc pc = .ok (.if_icmp .ne off, 3)) (ht : (pc : Int) + off = (tgt : Int)) (hc : x = y) (kf : AW X nL ce sl w fin (pc + 3) L st I) : AW X nL ce sl w fin pc L (.int y :: .int x :: st) I := by
  obtain ⟨p, l, e, R, s, m, args, below, meth, c, hs, Q⟩ := X
  obtain ⟨⟨hx, hb, hml, hown, hts⟩, hR, hK, hE, hlk⟩ := S
  intro r hr H locs ls a b hl
  exact lv_icmp_ne hx hb hdg ht (fun h => absurd hc h) (fun h => kf r hr H locs ls a b hl)
theorem aw_icmp_ltT (S : Cx X cc own nL fr lo mc ms) {x y : Int32} {off : Int} {tgt : Nat} (hdg : decode cc pc = .ok (.if_icmp .lt off, 3)) (ht : (pc : Int) + off = (tgt : Int)) (hc : x < y) (kt : AW X nL ce sl w fin tgt L st I) : AW X nL ce sl w fin pc L (.int y :: .int x :: st) I := by
  obtain ⟨p, l, e, R, s, m, args, below, meth, c, hs, Q⟩ := X
  obtain ⟨⟨hx, hb, hml, hown, hts⟩, hR, hK, hE, hlk⟩ := S
  intro r hr H locs ls a b hl
  exact lv_icmp_lt hx hb hdg ht (fun h => kt r hr H locs ls a b hl) (fun h => absurd hc h)
theorem aw_icmp_ltF (S : Cx X cc own nL fr lo mc ms) {x y : Int32} {off : Int} {tgt : Nat} (hdg : decode cc pc = .ok (.if_icmp .lt off, 3)) (ht : (pc : Int) + off = (tgt : Int)) (hc : ¬ x < y) (kf : AW X nL ce sl w fin (pc + 3) L st I) : AW X nL ce sl w fin pc L (.int y :: .int x :: st) I := by
  obtain ⟨p, l, e, R, s, m, args, below, meth, c, hs, Q⟩ := X
  obtain ⟨⟨hx, hb, hml, hown, hts⟩, hR, hK, hE, hlk⟩ := S
  intro r hr H locs ls a b hl
  exact lv_icmp_lt hx hb hdg ht (fun h => absurd h hc) (fun h => kf r hr H locs ls a b hl)
theorem aw_icmp_geT (S : Cx X cc own nL fr lo mc ms) {x y : Int32} {off : Int} {tgt : Nat} (hdg : decode cc pc = .ok (.if_icmp .ge off, 3)) (ht : (pc : Int) + off = (tgt : Int)) (hc : y ≤ x) (kt : AW X nL ce sl w fin tgt L st I) : AW X nL ce sl w fin pc L (.int y :: .int x :: st) I := by
  obtain ⟨p, l, e, R, s, m, args, below, meth, c, hs, Q⟩ := X
  obtain ⟨⟨hx, hb, hml, hown, hts⟩, hR, hK, hE, hlk⟩ := S
  intro r hr H locs ls a b hl
  exact lv_icmp_ge hx hb hdg ht (fun h => kt r hr H locs ls a b hl) (fun h => absurd hc h)
theorem aw_icmp_geF (S : Cx X cc own nL fr lo mc ms) {x y : Int32} {off : Int} {tgt : Nat} (hdg : decode cc pc = .ok (.if_icmp .ge off, 3)) (ht : (pc : Int) + off = (tgt : Int)) (hc : ¬ y ≤ x) (kf : AW X nL ce sl w fin (pc + 3) L st I) : AW X nL ce sl w fin pc L (.int y :: .int x :: st) I := by
  obtain ⟨p, l, e, R, s, m, args, below, meth, c, hs, Q⟩ := X
  obtain ⟨⟨hx, hb, hml, hown, hts⟩, hR, hK, hE, hlk⟩ := S
  intro r hr H locs ls a b hl
  exact lv_icmp_ge hx hb hdg ht (fun h => absurd h hc) (fun h => kf r hr H locs ls a b hl)
theorem aw_icmp_gtT (S : Cx X cc own nL fr lo mc ms) {x y : Int32} {off : Int} {tgt : Nat} (hdg : decode cc pc = .ok (.if_icmp .gt off, 3)) (ht : (pc : Int) + off = (tgt : Int)) (hc : y < x) (kt : AW X nL ce sl w fin tgt L st I) : AW X nL ce sl w fin pc L (.int y :: .int x :: st) I := by
  obtain ⟨p, l, e, R, s, m, args, below, meth, c, hs, Q⟩ := X
  obtain ⟨⟨hx, hb, hml, hown, hts⟩, hR, hK, hE, hlk⟩ := S
  intro r hr H locs ls a b hl
  exact lv_icmp_gt hx hb hdg ht (fun h => kt r hr H locs ls a b hl) (fun h => absurd hc h)
theorem aw_icmp_gtF (S : Cx X cc own nL fr lo mc ms) {x y : Int32} {off : Int} {tgt : Nat} (hdg : decode cc pc = .ok (.if_icmp .gt off, 3)) (ht : (pc : Int) + off = (tgt : Int)) (hc : ¬ y < x) (kf : AW X nL ce sl w fin (pc + 3) L st I) : AW X nL ce sl w fin pc L (.int y :: .int x :: st) I := by
  obtain ⟨p, l, e, R, s, m, args, below, meth, c, hs, Q⟩ := X
  obtain ⟨⟨hx, hb, hml, hown, hts⟩, hR, hK, hE, hlk⟩ := S
  intro r hr H locs ls a b hl
  exact lv_icmp_gt hx hb hdg ht (fun h => absurd h hc) (fun h => kf r hr H locs ls a b hl)
theorem aw_icmp_leT (S : Cx X cc own nL fr lo mc ms) {x y : Int32} {off : Int} {tgt : Nat} (hdg : decode cc pc = .ok (.if_icmp .le off, 3)) (ht : (pc : Int) + off = (tgt : Int)) (hc : x ≤ y) (kt : AW X nL ce sl w fin tgt L st I) : AW X nL ce sl w fin pc L (.int y :: .int x :: st) I := by
  obtain ⟨p, l, e, R, s, m, args, below, meth, c, hs, Q⟩ := X
  obtain ⟨⟨hx, hb, hml, hown, hts⟩, hR, hK, hE, hlk⟩ := S
  intro r hr H locs ls a b hl
  exact lv_icmp_le hx hb hdg ht (fun h => kt r hr H locs ls a b hl) (fun h => absurd hc h)
theorem aw_icmp_leF (S : Cx X cc own nL fr lo mc ms) {x y : Int32} {off : Int} {tgt : Nat} (hdg : decode cc pc = .ok (.if_icmp .le off, 3)) (ht : (pc : Int) + off = (tgt : Int)) (hc : ¬ x ≤ y) (kf : AW X nL ce sl w fin (pc + 3) L st I) : AW X nL ce sl w fin pc L (.int y :: .int x :: st) I := by
  obtain ⟨p, l, e, R, s, m, args, below, meth, c, hs, Q⟩ := X
  obtain ⟨⟨hx, hb, hml, hown, hts⟩, hR, hK, hE, hlk⟩ := S
  intro r hr H locs ls a b hl
  exact lv_icmp_le hx hb hdg ht (fun h => absurd h hc) (fun h => kf r hr H locs ls a b hl)
theorem aw_goto (S : Cx X cc own nL fr lo mc ms) {off : Int} {tgt : Nat} (hdg : decode cc pc = .ok (.goto off, 3)) (ht : (pc : Int) + off = (tgt : Int)) (k : AW X nL ce sl w fin tgt L st I) : AW X nL ce sl w fin pc L st I := by
  obtain ⟨p, l, e, R, s, m, args, below, meth, c, hs, Q⟩ := X
  obtain ⟨⟨hx, hb, hml, hown, hts⟩, hR, hK, hE, hlk⟩ := S
  intro r hr H locs ls a b hl
  exact lv_goto hx hb hdg ht (k r hr H locs ls a b hl)
theorem aw_tableAt (S : Cx X cc own nL fr lo mc ms) {x : Int32} {dflt lw hi : Int} {offs : Array Int} {len : Nat} {off : Int} {tgt : Nat} (v : Int) (hdg : decode cc pc = .ok (.tableswitch dflt lw hi offs, len)) (h1 : lw ≤ v) (h2 : v ≤ hi) (ho : offs[(v - lw).toNat]? = some off) (ht : (pc : Int) + off = (tgt : Int)) (ka : AW X nL ce sl w A tgt L st I) (kb : ¬ x.toInt = v → AW X nL ce sl w B pc L (.int x :: st) I) : AW X nL ce sl w (if x.toInt = v then A else B) pc L (.int x :: st) I := by
  by_cases hxv : x.toInt = v
  · rw [if_pos hxv]
    subst hxv
    obtain ⟨p, l, e, R, s, m, args, below, meth, c, hs, Q⟩ := X
    obtain ⟨⟨hx, hb, hml, hown, hts⟩, hR, hK, hE, hlk⟩ := S
    intro r hr H locs ls a b hl
    exact lv_tableIn hx hb hdg (by omega) (by omega) ho ht (ka r hr H locs ls a b hl)
  · rw [if_neg hxv]
    exact kb hxv
theorem aw_tableOut (S : Cx X cc own nL fr lo mc ms) {x : Int32} {dflt lw hi : Int} {offs : Array Int} {len : Nat} {tgt : Nat} (hdg : decode cc pc = .ok (.tableswitch dflt lw hi offs, len)) (h : x.toInt < lw ∨ hi < x.toInt) (ht : (pc : Int) + dflt = (tgt : Int)) (k : AW X nL ce sl w fin tgt L st I) : AW X nL ce sl w fin pc L (.int x :: st) I := by
  obtain ⟨p, l, e, R, s, m, args, below, meth, c, hs, Q⟩ := X
  obtain ⟨⟨hx, hb, hml, hown, hts⟩, hR, hK, hE, hlk⟩ := S
  intro r hr H locs ls a b hl
  exact lv_tableOut hx hb hdg h ht (k r hr H locs ls a b hl)
theorem aw_tableD (S : Cx X cc own nL fr lo mc ms) {x : Int32} {dflt lw hi : Int} {offs : Array Int} {len : Nat} {tgt : Nat} (vs : List Int) (hdg : decode cc pc = .ok (.tableswitch dflt lw hi offs, len)) (hall : (List.range offs.size).all (fun j => offs[j]? == some dflt || vs.contains (lw + j)) = true) (hhi : hi + 1 = lw + offs.size) (hv : ∀ v ∈ vs, ¬ x.toInt = v) (ht : (pc : Int) + dflt = (tgt : Int)) (k : AW X nL ce sl w fin tgt L st I) : AW X nL ce sl w fin pc L (.int x :: st) I := by
  by_cases h : x.toInt < lw ∨ hi < x.toInt
  · exact aw_tableOut S hdg h ht k
  · have h9 := List.all_eq_true.mp hall (x.toInt - lw).toNat (List.mem_range.mpr (by omega))
    rw [Bool.or_eq_true] at h9
    rcases h9 with h9 | h9
    · obtain ⟨p, l, e, R, s, m, args, below, meth, c, hs, Q⟩ := X
      obtain ⟨⟨hx, hb, hml, hown, hts⟩, hR, hK, hE, hlk⟩ := S
      intro r hr H locs ls a b hl
      exact lv_tableIn hx hb hdg (by omega) (by omega) (by simpa using h9) ht (k r hr H locs ls a b hl)
    · rw [show (lw + (((x.toInt - lw).toNat : Nat) : Int)) = x.toInt from by omega] at h9
      exact absurd rfl (hv _ (by simpa using h9))
theorem aw_ldc (S : Cx X cc own nL fr lo mc ms) {idx : Nat} {v : Int32} (hc : Cond.constant own idx v ∈ kg_U) (hdg : decode cc pc = .ok (.ldc idx, 2)) (k : AW X nL ce sl w fin (pc + 2) L (.int v :: st) I) : AW X nL ce sl w fin pc L st I := by
  obtain ⟨p, l, e, R, s, m, args, below, meth, c, hs, Q⟩ := X
  obtain ⟨⟨hx, hb, hml, hown, hts⟩, hR, hK, hE, hlk⟩ := S
  intro r hr H locs ls a b hl
  exact lv_ldc hx hb hown (hts _ hc) hdg (k r hr H locs ls a b hl)
theorem aw_ldcw (S : Cx X cc own nL fr lo mc ms) {idx : Nat} {v : Int32} (hc : Cond.constant own idx v ∈ kg_U) (hdg : decode cc pc = .ok (.ldc_w idx, 3)) (k : AW X nL ce sl w fin (pc + 3) L (.int v :: st) I) : AW X nL ce sl w fin pc L st I := by
  obtain ⟨p, l, e, R, s, m, args, below, meth, c, hs, Q⟩ := X
  obtain ⟨⟨hx, hb, hml, hown, hts⟩, hR, hK, hE, hlk⟩ := S
  intro r hr H locs ls a b hl
  exact lv_ldcw hx hb hown (hts _ hc) hdg (k r hr H locs ls a b hl)
end AWR
