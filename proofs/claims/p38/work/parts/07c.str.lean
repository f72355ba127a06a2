/-! Constant texts, and statics of the JDK's. -/
section AWT
variable {ρ : Type} {X : kgCX ρ} {cc : ByteArray} {own : String} {nL fr lo mc ms ce sl ce2 sl2 : Nat} {fin A B : Option ρ} {pc : Nat} {L L2 : List (Nat × Value)} {st stk : List Value} {I : kgM} {w : Option (Nat × Nat)}
theorem aw_getCS (S : Cx X cc own nL fr lo mc ms) {idx : Nat} (hlk : Cond.fieldLink own idx "java/lang/String" "COMPACT_STRINGS" "Z" ∈ kg_U) (hdg : decode cc pc = .ok (.getstatic idx, 3))
    (kk : AW X nL ce sl w fin (pc + 3) L (.int (1 : Int32) :: st) I) : AW X nL ce sl w fin pc L st I := by
  obtain ⟨p, l, e, R, s, m, args, below, meth, c, hs, Q⟩ := X
  obtain ⟨⟨hx, hb, hml, hown, hts⟩, hR, hK, hE, hlk0⟩ := S
  intro r hr H locs ls a b hl
  exact va_gets hx hb hE.2.1.1 b hown (hts _ hlk) (fun _ h => h) hdg (kk r hr H locs ls a b hl)
theorem aw_getSI (S : Cx X cc own nL fr lo mc ms) {idx : Nat} (hlk : Cond.fieldLink own idx "jdk/internal/util/Preconditions" "SIOOBE_FORMATTER" "Ljava/util/function/BiFunction;" ∈ kg_U) (hdg : decode cc pc = .ok (.getstatic idx, 3))
    (kk : ∀ v : Value, (v = .null ∨ ∃ t, v = .ref t) → AW X nL ce sl w fin (pc + 3) L (v :: st) I) : AW X nL ce sl w fin pc L st I := by
  obtain ⟨p, l, e, R, s, m, args, below, meth, c, hs, Q⟩ := X
  obtain ⟨⟨hx, hb, hml, hown, hts⟩, hR, hK, hE, hlk0⟩ := S
  intro r hr H locs ls a b hl
  rcases hE.2.1.2.1 with h | ⟨t, h⟩
  · exact va_gets hx hb h b hown (hts _ hlk) (fun _ h => h) hdg (kk .null (Or.inl rfl) r hr H locs ls a b hl)
  · exact va_gets hx hb h b hown (hts _ hlk) (fun _ h => h) hdg (kk (.ref t) (Or.inr ⟨t, rfl⟩) r hr H locs ls a b hl)
end AWT
/-! a method that answers one of the constant texts, by its number -/
/-- a sign of which it isn't plain that it is one -/
def isc (x : Int32) : Bool := decide (x.toUInt32.toUInt16.toUInt32.toInt32 = x)
theorem aw_retc {X : kgCX (Int32 × kgM)} {cc : ByteArray} {own : String} {nL fr lo mc ms ce sl : Nat} {pc : Nat} {L : List (Nat × Value)} {I : kgM} {w : Option (Nat × Nat)} (S : Cx X cc own nL fr lo mc ms) {x : Int32} (hQ : Qxi X w .char) (h1 : ce ≤ mc) (h2 : sl ≤ ms) (hdg : decode cc pc = .ok (.ireturn, 1)) : AW X nL ce sl w (ck (isc x) (some (x, I))) pc L [.int x] I := by
  by_cases h : isc x = true
  · rw [h]
    exact aw_ret S hQ (show Value.int (x.toUInt32.toUInt16.toUInt32.toInt32) = Value.int x from congrArg Value.int (of_decide_eq_true h)) h1 h2 hdg
  · rw [show isc x = false from by simpa using h]
    exact aw_none

