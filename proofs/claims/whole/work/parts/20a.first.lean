/-! THE FIRST MEMORY IS OF THE KIND; EVERY CALL KEEPS IT -/
def kgS0 : kgS := (fun _ _ => 0, fun _ => 0)
theorem wf0 : kgWF kgS0 := by
  have h6 : ∀ m, m < 4 → own kgS0 m ≤ 4 := by
    intro m hm
    match m, hm with
    | 0, _ => exact Nat.le_of_ble_eq_true rfl
    | 1, _ => exact Nat.le_of_ble_eq_true rfl
    | 2, _ => exact Nat.le_of_ble_eq_true rfl
    | 3, _ => exact Nat.le_of_ble_eq_true rfl
  exact ⟨Nat.zero_le _, fun p _ _ => Nat.zero_le _, fun i _ => Nat.zero_le _, fun k hk => absurd hk (Nat.not_lt_zero _), fun j k _ hk => absurd hk (Nat.not_lt_zero _), h6, rfl⟩
theorem i0_z {k p : Nat} (h : ¬ (k < 31 ∧ k % 15 = 2 ∨ 33 ≤ k ∧ k < 168 ∧ k % 15 = 4)) : kgI0 k p = 0 := by
  show (if k < 31 ∧ k % 15 = 2 ∨ 33 ≤ k ∧ k < 168 ∧ k % 15 = 4 then kgFl (fun _ => 0) (-1) 13 else fun _ => 0) p = 0
  rw [if_neg h]
theorem i0_2 {p : Nat} (h : p < 13) : kgI0 2 p = -1 := by
  show (if 2 < 31 ∧ 2 % 15 = 2 ∨ 33 ≤ 2 ∧ 2 < 168 ∧ 2 % 15 = 4 then kgFl (fun _ => 0) (-1) 13 else fun _ => 0) p = -1
  rw [if_pos (by omega)]
  show (if p < 13 then (-1 : Int32) else 0) = -1
  rw [if_pos h]
theorem g0 : RepG kgI0 1 kgS0 := by
  refine ⟨fun j p hd => ?_, i0_z (by omega), fun m hm => ⟨i0_z (by omega), i0_z (by omega), i0_z (by omega)⟩, i0_z (by omega), i0_z (by omega), i0_z (by omega)⟩
  rcases hd with ⟨rfl, h1, h2⟩ | ⟨rfl, h1⟩ | ⟨-, -, h⟩
  · rw [i0_2 h2]; rfl
  · rw [i0_z (by omega)]; rfl
  · exact absurd h (Nat.not_lt_zero _)
theorem r0 : RepR (kgRow kgI0 0) kgS0 := by
  have z : ∀ x, kgRow kgI0 0 x = 0 := fun x => by unfold kgRow; exact i0_z (by omega)
  refine ⟨fun j p hd => ?_, z _, fun m hm => ⟨z _, z _, z _⟩, z _, z _, z _, z _⟩
  rw [z]
  rcases hd with ⟨rfl, h1, h2⟩ | ⟨rfl, h1⟩ | ⟨-, -, h⟩
  · rfl
  · rfl
  · exact absurd h (Nat.not_lt_zero _)
theorem inv0 : Inv 0 kgI0 := by
  refine ⟨⟨kgS0, g0, r0, wf0, fun m hm => ?_⟩, ⟨0, by omega, i0_z (by omega), i0_z (by omega), fun i hi => absurd hi (Nat.not_lt_zero _)⟩, ⟨0, 0, by omega, by omega, i0_z (by omega), i0_z (by omega), i0_z (by omega), fun i h1 h2 => by omega⟩, ⟨false, i0_z (by omega), i0_z (by omega), fun h => by cases h⟩, ⟨0, by omega, i0_z (by omega), i0_z (by omega), fun i hi => absurd hi (Nat.not_lt_zero _)⟩, ⟨0, by omega, i0_z (by omega), i0_z (by omega), i0_z (by omega), fun i hi => absurd hi (Nat.not_lt_zero _)⟩⟩
  show -bnI 0 ≤ (0 : Int32).toInt ∧ (0 : Int32).toInt ≤ bnI 0
  exact ⟨by decide, by decide⟩
theorem kgSame.of {Inv Inv2 : kgM → Prop} {F G F' G' : kgM → Option (Int32 × kgM)} (h : kgSame Inv Inv2 F G) (e1 : ∀ I, F' I = F I) (e2 : ∀ I, G' I = G I) : kgSame Inv Inv2 F' G' := by
  intro I hI
  obtain ⟨x, J, J2, a, b, c⟩ := h I hI
  exact ⟨x, J, J2, (e1 I).trans a, (e2 J).trans b, c⟩
section ORD
variable {q : Nat}
theorem cl_own (a c : Int32) : kgSame (Inv q) (Inv (q + 1)) (fun I => f_X4_own a c I) (fun I => f_X5_own a c I) := (call_op ((ok_own a c).mono (by omega))).of (fun I => by unfold f_X4_own kgCc; rfl) (fun I => by unfold f_X5_own kgMm; rfl)
theorem cl_kettle (a c d : Int32) : kgSame (Inv q) (Inv (q + 1)) (fun I => f_X4_kettle a c d I) (fun I => f_X5_kettle a c d I) := (call_op ((ok_kettle a c d).mono (by omega))).of (fun I => by unfold f_X4_kettle kgCc; rfl) (fun I => by unfold f_X5_kettle kgMm; rfl)
theorem cl_fill (a c : Int32) : kgSame (Inv q) (Inv (q + 1)) (fun I => f_X4_fill a c I) (fun I => f_X5_fill a c I) := (call_op ((ok_fill a c).mono (by omega))).of (fun I => by unfold f_X4_fill kgCc; rfl) (fun I => by unfold f_X5_fill kgMm; rfl)
theorem cl_set (a c : Int32) : kgSame (Inv q) (Inv (q + 1)) (fun I => f_X4_set a c I) (fun I => f_X5_set a c I) := (call_op ((ok_set a c).mono (by omega))).of (fun I => by unfold f_X4_set kgCc; rfl) (fun I => by unfold f_X5_set kgMm; rfl)
theorem cl_off (a : Int32) : kgSame (Inv q) (Inv (q + 1)) (fun I => f_X4_off a I) (fun I => f_X5_off a I) := (call_op ((ok_off a).mono (by omega))).of (fun I => by unfold f_X4_off kgCc; rfl) (fun I => by unfold f_X5_off kgMm; rfl)
theorem cl_heat (a c : Int32) : kgSame (Inv q) (Inv (q + 1)) (fun I => f_X4_heat a c I) (fun I => f_X5_heat a c I) := (call_op ((ok_heat a c).mono (by omega))).of (fun I => by unfold f_X4_heat kgCc; rfl) (fun I => by unfold f_X5_heat kgMm; rfl)
theorem cl_lid (a c : Int32) : kgSame (Inv q) (Inv (q + 1)) (fun I => f_X4_lid a c I) (fun I => f_X5_lid a c I) := (call_op ((ok_lid a c).mono (by omega))).of (fun I => by unfold f_X4_lid kgCc; rfl) (fun I => by unfold f_X5_lid kgMm; rfl)
theorem cl_appeal (a c : Int32) : kgSame (Inv q) (Inv (q + 1)) (fun I => f_X4_appeal a c I) (fun I => f_X5_appeal a c I) := (call_op ((ok_appeal a c).mono (by omega))).of (fun I => by unfold f_X4_appeal kgCc; rfl) (fun I => by unfold f_X5_appeal kgMm; rfl)
theorem cl_minute (hq : q < 512) (a : Int32) : kgSame (Inv q) (Inv (q + 1)) (fun I => f_X4_minute a I) (fun I => f_X5_minute a I) := (call_op (ok_minute (B := bnI q) (by unfold bnI; omega) a)).of (fun I => by unfold f_X4_minute kgCc; rfl) (fun I => by unfold f_X5_minute kgMm; rfl)
theorem all_ok (hq : q < 512) : kgOK (Inv q) (Inv (q + 1)) :=
  ⟨cl_own, rd_owner, cl_kettle, cl_fill, rd_kettleOf, cl_set, cl_off, cl_heat, cl_lid, cl_appeal, fun a c _ => rd_stoveOf a c, cl_minute hq, rd_whistling, rd_harmony, rd_harmonyAgain, rd_boilsIn, rd_boilsInAgain, rd_dryIn, rd_bestPitch, rd_memberOf, rd_ranked (by omega), rd_hottest, rd_append, rd_run hq, rd_tell, rd_tellStoves, rd_character, fun a c _ => rd_reason a c, rd_account, rd_isBalanced, rd_mean, rd_share, ok_undo, ok_save, ok_restore⟩
end ORD
theorem whole_start {p : Program} {e : Env} {s : State} {m : MethodId} {below : List Frame} {meth : Method} {c : Code} (l : Launch) {b L : Nat} {xs : Nat → Int32} (hL : L ≤ 2048) (C0 : lw_At p s m meth c b L xs) : W p l e room_1 s m #[Value.ref b] below meth c s.heap [] 0 0 (lw_Z below #[Value.ref b] s) (entryFrame m ([Value.ref b] : List Value).toArray 8) :=
  whole_start_open (Inv := Inv) (fun q hq => all_ok hq) (fun q I h => h.mono) inv0 l hL C0
