theorem bw_astore_n {X : kgCX Unit} {cc : ByteArray} {own : String} {nL fr lo mc ms ce sl : Nat} {pc : Nat} {L L2 : List (Nat × Value)} {st : List Value} {ws : va_W} (S : Cx X cc own nL fr lo mc ms) {q : Fin 4} {i : Nat} {x : Nat} (ks : List Nat) (hdg : decode cc pc = .ok (.astore_n q, 1)) (hi : (q : Nat) = i) (hn : i < nL) (hl2 : lv_pick ((i, Value.ref x) :: L.filter (fun q => !(q.1 == i) && !(q.1 + 1 == i && q.2.category == 2))) ks = L2) (k : BW X nL ce sl (pc + 1) L2 st ws) : BW X nL ce sl pc L (.ref x :: st) ws := by
  obtain ⟨p, l, e, R, s, m, args, below, meth, c, hs, Q⟩ := X
  obtain ⟨⟨hx, hb, hml, hown, hts⟩, hR, hK, hE, hlk⟩ := S
  intro H locs ls a b hl
  exact lv_astore_n hx hb hdg hi hl hn rfl (fun ls2 hl3 => k H locs ls2 a b (lv_sub hl3 ks hl2))
/-! THE FIRST MEMORY -/
def kgI0 : kgM := fun k => if k < 31 ∧ k % 15 = 2 ∨ 33 ≤ k ∧ k < 168 ∧ k % 15 = 4 then kgFl (fun _ => 0) (-1) 13 else fun _ => 0
theorem kgCW.rev {hs : kgH} {ws : va_W} {H : Heap} (h : kgCW hs ws H) : kgCW hs ws.reverse H := by
  have key : ∀ (k : Nat) (q : Nat × va_E), ws.reverse[k]? = some q → ws[ws.length - 1 - k]? = some q ∧ k < ws.length := by
    intro k q hk
    have hl : k < ws.length := by have := (List.getElem?_eq_some_iff.mp hk).1; simpa using this
    rw [List.getElem?_reverse hl] at hk
    exact ⟨hk, hl⟩
  refine ⟨fun k q hk => h.1 _ q (key k q hk).1, fun i j p q hi hj he => ?_, fun k q hk => h.2.2 _ q (key k q hk).1⟩
  have h1 := key i p hi
  have h2 := key j q hj
  have := h.2.1 _ _ p q h1.1 h2.1 he
  omega
def kgAd (o0 o1 : Nat → Nat) (k : Nat) : Nat := if k < 177 then o0 k else o1 (k - 177)
/-- the table of addresses, put in -/
def kgHo (hs : kgH) (o : Nat → Nat) : kgH := (hs.1, hs.2.1, hs.2.2.1, hs.2.2.2.1, hs.2.2.2.2.1, hs.2.2.2.2.2.1, o)
set_option maxRecDepth 1000000 in
set_option maxHeartbeats 4000000 in
theorem kg_first (hs : kgH) (o0 o1 : Nat → Nat) : ((kgWX5 hs o1 ++ kgWX4 hs o0 []).set 151 (o0 32, .inl (kgC hs 13, 9, .inr (.inr (.inr (.inr (fun j => some (kgAd o0 o1 (33 + 15 * j))))))))).reverse = kgw (kgHo hs (kgAd o0 o1)) (o0 176) 16 kgI0 := rfl
theorem kg_begin {hs : kgH} {o0 o1 : Nat → Nat} {H : Heap} (h : kgCW hs (kgWX5 hs o1 ++ kgWX4 hs o0 []) H) : kgHR (kgHo hs (kgAd o0 o1)) none kgI0 H := by
  have h1 := (h.arr (q0 := 151) (g := fun j => some (kgAd o0 o1 (33 + 15 * j))) rfl (fun j hj => by
    match j, hj with
    | 0, _ => rfl
    | 1, _ => rfl
    | 2, _ => rfl
    | 3, _ => rfl
    | 4, _ => rfl
    | 5, _ => rfl
    | 6, _ => rfl
    | 7, _ => rfl
    | 8, _ => rfl)).rev
  have h2 := kg_first hs o0 o1
  have h3 : kgCW hs (kgw (kgHo hs (kgAd o0 o1)) (o0 176) 16 kgI0) H := by
    rw [← h2]; exact h1
  refine ⟨o0 176, 16, h3.1, h3.2, fun z h => (by cases h), Or.inl rfl, fun _ q _ => ⟨rfl, fun _ _ => rfl⟩⟩
