theorem bw_astore_n {X : kgCX Unit} {cc : ByteArray} {own : String} {nL fr lo mc ms ce sl : Nat} {pc : Nat} {L L2 : List (Nat × Value)} {st : List Value} {ws : va_W} (S : Cx X cc own nL fr lo mc ms) {q : Fin 4} {i : Nat} {x : Nat} (ks : List Nat) (hdg : decode cc pc = .ok (.astore_n q, 1)) (hi : (q : Nat) = i) (hn : i < nL) (hl2 : lv_pick ((i, Value.ref x) :: L.filter (fun q => !(q.1 == i) && !(q.1 + 1 == i && q.2.category == 2))) ks = L2) (k : BW X nL ce sl (pc + 1) L2 st ws) : BW X nL ce sl pc L (.ref x :: st) ws := by
  obtain ⟨p, l, e, R, s, m, args, below, meth, c, hs, Q⟩ := X
  obtain ⟨⟨hx, hb, hml, hown, hts⟩, hR, hK, hE, hlk⟩ := S
  intro H locs ls a b hl
  exact lv_astore_n hx hb hdg hi hl hn rfl (fun ls2 hl3 => k H locs ls2 a b (lv_sub hl3 ks hl2))
/-! THE FIRST MEMORY -/
def kgI0 : kgM := fun k => if k < 31 ∧ k % 15 = 2 ∨ 33 ≤ k ∧ k < 168 ∧ k % 15 = 4 then kgFl (fun _ => 0) (-1) 13 else fun _ => 0
theorem kgCW.rev {hs : kgH} {ws : va_W} {H : Heap} (h : kgCW hs ws H) : kgCW hs ws.reverse H := by
  have key : ∀ (k : Nat) (q : Nat × va_E), ws.reverse[k]? = some q → ws[ws.length - 1 - k]? = some q ∧ k < ws.length := by
    intro k q hk
    have hl : k < ws.length := by have := (List.getElem?_eq_some_iff.mp hk).1; simpa using this
    rw [List.getElem?_reverse hl] at hk
    exact ⟨hk, hl⟩
  refine ⟨fun k q hk => h.1 _ q (key k q hk).1, fun i j p q hi hj he => ?_, fun k q hk => h.2.2 _ q (key k q hk).1⟩
  have h1 := key i p hi
  have h2 := key j q hj
  have := h.2.1 _ _ p q h1.1 h2.1 he
  omega
def kgAd (o0 : Nat → Nat) (k : Nat) : Nat := if k = 184 then o0 175 else o0 k
set_option maxRecDepth 1000000 in
set_option maxHeartbeats 4000000 in
theorem kg_first (hs : kgH) (o0 : Nat → Nat) : ((kgWX4 hs o0 []).set 144 (o0 32, .inl (kgC hs 13, 9, .inr (.inr (.inr (.inr (fun j => some (kgAd o0 (33 + 15 * j))))))))).reverse = kgw0 (kgHx hs (kgAd o0) []) (o0 176) 16 kgI0 := rfl
theorem kg_begin {hs : kgH} {o0 : Nat → Nat} {H : Heap} (h : kgCW hs (kgWX4 hs o0 []) H) : kgHR (kgHx hs (kgAd o0) []) none kgI0 H := by
  have h1 := (h.arr (q0 := 144) (g := fun j => some (kgAd o0 (33 + 15 * j))) rfl (fun j hj => by
    match j, hj with
    | 0, _ => rfl
    | 1, _ => rfl
    | 2, _ => rfl
    | 3, _ => rfl
    | 4, _ => rfl
    | 5, _ => rfl
    | 6, _ => rfl
    | 7, _ => rfl
    | 8, _ => rfl)).rev
  have h2 := kg_first hs o0
  have h3 : kgCW hs (kgw (kgHx hs (kgAd o0) []) (o0 176) 16 kgI0) H := by
    rw [show kgw (kgHx hs (kgAd o0) []) (o0 176) 16 kgI0 = kgw0 (kgHx hs (kgAd o0) []) (o0 176) 16 kgI0 from List.append_nil _, ← h2]; exact h1
  refine ⟨o0 176, 16, h3.1, h3.2, fun z h => (by cases h), Or.inl rfl, fun _ q _ => ⟨rfl, fun _ _ => rfl⟩⟩
/-! THE FIRST MEMORY IS OF THE KIND; EVERY CALL KEEPS IT -/
def kgS0 : kgS := (fun _ _ => 0, fun _ => 0)
theorem wf0 : kgWF kgS0 := by
  have h6 : ∀ m, m < 4 → own kgS0 m ≤ 4 := by
    intro m hm
    match m, hm with
    | 0, _ => exact Nat.le_of_ble_eq_true rfl
    | 1, _ => exact Nat.le_of_ble_eq_true rfl
    | 2, _ => exact Nat.le_of_ble_eq_true rfl
    | 3, _ => exact Nat.le_of_ble_eq_true rfl
  exact ⟨Nat.zero_le _, fun p _ _ => Nat.zero_le _, fun i _ => Nat.zero_le _, fun k hk => absurd hk (Nat.not_lt_zero _), fun j k _ hk => absurd hk (Nat.not_lt_zero _), h6, rfl⟩
theorem i0_z {k p : Nat} (h : ¬ (k < 31 ∧ k % 15 = 2 ∨ 33 ≤ k ∧ k < 168 ∧ k % 15 = 4)) : kgI0 k p = 0 := by
  show (if k < 31 ∧ k % 15 = 2 ∨ 33 ≤ k ∧ k < 168 ∧ k % 15 = 4 then kgFl (fun _ => 0) (-1) 13 else fun _ => 0) p = 0
  rw [if_neg h]
theorem i0_2 {p : Nat} (h : p < 13) : kgI0 2 p = -1 := by
  show (if 2 < 31 ∧ 2 % 15 = 2 ∨ 33 ≤ 2 ∧ 2 < 168 ∧ 2 % 15 = 4 then kgFl (fun _ => 0) (-1) 13 else fun _ => 0) p = -1
  rw [if_pos (by omega)]
  show (if p < 13 then (-1 : Int32) else 0) = -1
  rw [if_pos h]
theorem g0 : RepG kgI0 1 kgS0 := by
  refine ⟨fun j p hd => ?_, i0_z (by omega), fun m hm => ⟨i0_z (by omega), i0_z (by omega), i0_z (by omega)⟩, i0_z (by omega), i0_z (by omega), i0_z (by omega)⟩
  rcases hd with ⟨rfl, h1, h2⟩ | ⟨rfl, h1⟩ | ⟨-, -, h⟩
  · rw [i0_2 h2]; rfl
  · rw [i0_z (by omega)]; rfl
  · exact absurd h (Nat.not_lt_zero _)
theorem r0 : RepR (kgRow kgI0 0) kgS0 := by
  have z : ∀ x, kgRow kgI0 0 x = 0 := fun x => by unfold kgRow; exact i0_z (by omega)
  refine ⟨fun j p hd => ?_, z _, fun m hm => ⟨z _, z _, z _⟩, z _, z _, z _, z _⟩
  rw [z]
  rcases hd with ⟨rfl, h1, h2⟩ | ⟨rfl, h1⟩ | ⟨-, -, h⟩
  · rfl
  · rfl
  · exact absurd h (Nat.not_lt_zero _)
theorem own0 : ∀ m, m < 4 → own kgS0 m < 4 := by
  intro m hm
  match m, hm with
  | 0, _ => exact Nat.le_of_ble_eq_true rfl
  | 1, _ => exact Nat.le_of_ble_eq_true rfl
  | 2, _ => exact Nat.le_of_ble_eq_true rfl
  | 3, _ => exact Nat.le_of_ble_eq_true rfl
theorem invC0 : InvC (bnI 0) kgS0 kgI0 := by
  refine ⟨⟨kgI0, r0, ⟨0, by omega, i0_z (by omega), i0_z (by omega), fun i hi => absurd hi (Nat.not_lt_zero _)⟩⟩, g0, wf0, fun m hm => ?_, fun k hk => absurd hk (Nat.not_lt_zero _), ⟨0, 0, by omega, by omega, i0_z (by omega), i0_z (by omega)⟩, ⟨i0_z (by omega), 0, by omega, i0_z (by omega)⟩⟩
  show -bnI 0 ≤ (0 : Int32).toInt ∧ (0 : Int32).toInt ≤ bnI 0
  exact ⟨by decide, by decide⟩
