/-! THE STATE: all data of both objects as one memory: cell k, place j. Cells are numbered in the order in which the law makes them. -/
abbrev kgM : Type := Nat → Nat → Int32
def kgW (I : kgM) (k j : Nat) (x : Int32) : kgM := fun a => if a = k then upd (I k) j x else I a
theorem kgW_s (I : kgM) (k j : Nat) (x : Int32) : kgW I k j x k = upd (I k) j x := if_pos rfl
theorem kgW_n (I : kgM) {k a : Nat} (j : Nat) (x : Int32) (h : a ≠ k) : kgW I k j x a = I a := if_neg h
/-- classes, base, array classes, outer arrays (0 SOUNDS, 1 ones, 2 tens), constant texts, their bytes, where the cells stand -/
abbrev kgH : Type := va_G × Nat × (Nat → ClassId) × (Nat → Nat) × (Nat → Nat) × (Nat → Nat) × (Nat → Nat) × va_W
abbrev kgD (hs : kgH) : va_G := hs.1
abbrev kgB (hs : kgH) : Nat := hs.2.1
abbrev kgC (hs : kgH) : Nat → ClassId := hs.2.2.1
abbrev kgX (hs : kgH) : Nat → Nat := hs.2.2.2.1
abbrev kgK (hs : kgH) : Nat → Nat := hs.2.2.2.2.1
abbrev kgV (hs : kgH) : Nat → Nat := hs.2.2.2.2.2.1
abbrev kgO (hs : kgH) : Nat → Nat := hs.2.2.2.2.2.2.1
/-- cells beside: those of the law -/
abbrev kgXt (hs : kgH) : va_W := hs.2.2.2.2.2.2.2
abbrev kgA (hs : kgH) : Nat → Prop := fun q => kgB hs ≤ q
/-- a guild's state: its object, then its rows -/
def kgKs (j : Nat) : Nat × Nat := if j = 0 then (4, 18) else if j = 1 then (10, 13) else if j < 5 then (10, 4) else if j = 5 then (10, 6) else (10, 10)
/-- what cell k is: 0..6 the classes of vwCl, 10 ints, 11 chars, 12 bytes, 13 states; and how long -/
def kgKD (k : Nat) : Nat × Nat :=
  if k = 0 then (5, 7) else if k < 31 then kgKs ((k - 1) % 15) else if k = 31 then (1, 3) else if k = 32 then (13, 9) else if k < 168 then kgKs ((k - 33) % 15) else
  if k = 168 then (3, 3) else if k = 169 then (10, 3) else if k = 170 then (10, 3) else if k = 171 then (2, 6) else if k = 172 then (11, 60) else if k = 173 then (10, 11) else if k = 174 then (10, 33) else
  if k = 175 then (0, 4) else if k = 176 then (12, 16) else if k = 177 then (6, 14) else if k = 178 then (10, 1375) else if k = 179 then (10, 3) else if k = 180 then (10, 3) else if k = 181 then (11, 60) else if k = 182 then (10, 244) else (11, 40)
/-- where a field of references points -/
def kgRF (k j : Nat) : Option Nat :=
  if (kgKD k).1 = 4 then (if j < 14 then some (k + 1 + j) else none) else
  if k = 0 then (if j = 0 then some 1 else if j = 1 then some 16 else if j = 2 then some 31 else if j = 3 then some 168 else if j = 4 then some 171 else if j = 5 then some 184 else none) else
  if k = 31 then (if j = 0 then some 32 else none) else
  if k = 168 then (if j < 2 then some (169 + j) else none) else
  if k = 171 then (if j < 3 then some (172 + j) else none) else
  if k = 175 then (if j = 0 then some 176 else none) else
  if k = 177 then (if j = 0 then some 178 else if j = 3 then some 179 else if j = 4 then some 180 else if j = 6 then some 181 else if j = 10 then some 182 else if j = 12 then some 183 else none) else none
def kgad (hs : kgH) (av k : Nat) : Nat := if k = 176 then av else kgO hs k
def kgfv (hs : kgH) (av : Nat) (I : kgM) (k j : Nat) : Value := match kgRF k j with
  | some k2 => .ref (kgad hs av k2)
  | none => .int (I k j)
def kgce (hs : kgH) (av cap : Nat) (I : kgM) (k : Nat) : va_E :=
  if (kgKD k).1 < 7 then .inr ((kgKD k).1, (List.range (kgKD k).2).map (fun j => kgfv hs av I k j)) else
  if (kgKD k).1 = 13 then .inl (kgC hs 13, (kgKD k).2, .inr (.inr (.inr (.inr (fun j => some (kgO hs (33 + 15 * j))))))) else
  .inl (kgC hs (kgKD k).1, (if k = 176 then cap else (kgKD k).2), .inl (I k))
def kgw0 (hs : kgH) (av cap : Nat) (I : kgM) : va_W := (List.range 177).map (fun k => (kgad hs av k, kgce hs av cap I k))
theorem kgw0_len {hs : kgH} {av cap : Nat} {I : kgM} : (kgw0 hs av cap I).length = 177 := by simp [kgw0]
def kgw (hs : kgH) (av cap : Nat) (I : kgM) : va_W := kgw0 hs av cap I ++ kgXt hs
theorem kgw_len {hs : kgH} {av cap : Nat} {I : kgM} : (kgw hs av cap I).length = 177 + (kgXt hs).length := by rw [kgw, List.length_append, kgw0_len]
theorem kgw_xt {hs : kgH} {av cap : Nat} {I : kgM} (i : Nat) : (kgw hs av cap I)[177 + i]? = (kgXt hs)[i]? := by
  rw [kgw, List.getElem?_append_right (by rw [kgw0_len]; omega), kgw0_len, Nat.add_sub_cancel_left]
theorem kgw_get {hs : kgH} {av cap : Nat} {I : kgM} {k : Nat} (h : k < 177) : (kgw hs av cap I)[k]? = some (kgad hs av k, kgce hs av cap I k) := by
  rw [kgw, List.getElem?_append_left (by rw [kgw0_len]; exact h)]
  simp [kgw0, h]
theorem kgce_eq {hs : kgH} {av cap : Nat} {I I1 : kgM} {k : Nat} (h : I1 k = I k) : kgce hs av cap I1 k = kgce hs av cap I k := by
  have h2 : ∀ j, kgfv hs av I1 k j = kgfv hs av I k j := fun j => by unfold kgfv; rw [h]
  unfold kgce
  simp only [h, h2]
theorem kgw_set {hs : kgH} {av cap : Nat} {I : kgM} {k j : Nat} {x : Int32} (h : k < 177) : (kgw hs av cap I).set k (kgad hs av k, kgce hs av cap (kgW I k j x) k) = kgw hs av cap (kgW I k j x) := by
  apply List.ext_getElem?
  intro i
  by_cases hi : i = k
  · subst hi
    rw [List.getElem?_set_self (by rw [kgw_len]; omega), kgw_get h]
  · rw [List.getElem?_set_ne (Ne.symm hi)]
    by_cases h2 : i < 177
    · rw [kgw_get h2, kgw_get h2, kgce_eq (kgW_n I j x hi)]
    · obtain ⟨i2, rfl⟩ : ∃ i2, i = 177 + i2 := ⟨i - 177, by omega⟩
      rw [kgw_xt, kgw_xt]
theorem kg_fits8 (x : Int32) : fits .byte (.int (vp_nar .byte x)) = true := by
  show (decide ((-128 : Int32) ≤ x.toInt8.toInt32) && decide (x.toInt8.toInt32 ≤ 127)) = true
  have h1 := Int8.le_toInt x.toInt8
  have h2 := Int8.toInt_lt x.toInt8
  simp only [Bool.and_eq_true, decide_eq_true_eq, Int32.le_iff_toInt_le, Int8.toInt_toInt32]
  constructor
  · exact h1
  · show x.toInt8.toInt ≤ 127; omega
/-- what stands at place q of the line's bytes: a byte; 0 where there is no room -/
def kgZ (f : Nat → Int32) (cap q : Nat) : Prop := fits .byte (.int (f q)) = true ∧ (cap = 16 → 16 ≤ q → f q = 0)
/-- the cells of both objects; w: where the line's bytes stand and how many fit, if that is said; behind the first sixteen bytes the memory holds 0 as long as they are not there -/
def kgHR (hs : kgH) (w : Option (Nat × Nat)) (I : kgM) (H : Heap) : Prop := ∃ av cap : Nat, va_P (kgD hs) vwCl (kgw hs av cap I) H ∧ va_D (kgA hs) (kgw hs av cap I) ∧ (∀ z, w = some z → z = (av, cap)) ∧ (cap = 16 ∨ cap = 34) ∧ (True → ∀ q, True → kgZ (I 176) cap q)
abbrev kgT (hs : kgH) : List (ClassId × FieldType) := [(kgC hs 10, .int), (kgC hs 11, .char), (kgC hs 12, .byte), (kgC hs 13, .object "KettleGuild$State")]
def kgKX (hs : kgH) (U : State) : Prop := va_K (kgD hs) vwCl (kgT hs) U
theorem kgKX.moved {hs : kgH} {u U : State} (hvm : u.vm.Alike U.vm) (h : kgKX hs u) : kgKX hs U := va_K.moved hvm h
def kg_snd (j : Nat) : Int32 := [(0 : Int32), -1, -1, 1, 1, 1, -1, 1, 1, 1, -1, -1].getD j 0
def kg_ones (j : Nat) : Int32 := nI (48 + j % 10)
def kg_tens (j : Nat) : Int32 := nI (48 + j / 10)
abbrev kg_txt : List String := [":", "p", "w", "t", "_", "", "#", "@", "!", "x", "(", ")"]
abbrev kg_ent : List Nat := [111, 116, 118, 120, 122, 124, 126, 128, 134, 136, 157, 159]
abbrev kg_len : List Nat := [1, 1, 1, 1, 1, 0, 1, 1, 1, 1, 1, 1]
abbrev kg_byt : List (List Int32) := [[58], [112], [119], [116], [95], [], [35], [64], [33], [120], [40], [41]]
/-- a private method of the line's upper class -/
def kgPv (y : MethodName) (U : State) : Prop := (Cond.privateMethod y).before #[] U = true
theorem kgPv.warm {y : MethodName} {u U : State} (hW : u.WarmedH U.vm) (h : kgPv y u) : kgPv y U := Cond.privateMethod_warm hW h
theorem kgPv.same {y : MethodName} {u U : State} (hv : U.vm = u.vm) (h : kgPv y u) : kgPv y U := by
  unfold kgPv at h ⊢
  have e : (Cond.privateMethod y).before #[] U = (Cond.privateMethod y).before #[] u := by
    simp only [Cond.before, Cond.holds, Cond.value, State.methodNamed?, hv]
  rw [e]; exact h
theorem kg_sel {args : Array Value} {s : State} {C : String} {cC : ClassId} {y : MethodName} (hC : s.vm.findClass C = some cC) (hpriv : kgPv y s)
    (hs : (Cond.sameMethod y.cls y.cls y.name y.desc).before args s = true) (hinst : (Cond.instanceMethod y).before args s = true) : (Cond.selects C y y).before args s = true := by
  obtain ⟨cn, ck, r1, hcn, hck, hni, hf, hn1⟩ := Cond.sameMethod_found hs
  obtain ⟨m2, methM, hnamed, hmethM, -, -⟩ := Cond.instanceMethod_spec hinst
  have hn1 : s.methodNamed? y = some r1 := hn1
  have e : m2 = r1 := Option.some.inj (hnamed.symm.trans hn1)
  subst e
  have hcls : m2.cls = cn := Option.some.inj ((findClass_of_methodNamed hnamed).symm.trans hcn)
  have hsel : selectMethod {} s.vm cC m2 = .method m2 := selectMethod_private hmethM (Cond.privateMethod_at hpriv m2 methM hnamed hmethM)
  simp only [Cond.before, Cond.holds, Cond.value, hC, hf, hnamed, hsel, hcls, hck]
  simp; exact hni
/-- what lies outside and stays: the table of sounds, the JDK's digits, the constant texts, what nest mates may call -/
def kgE (hs : kgH) (U : State) (H : Heap) : Prop :=
  (va_Z "KettleGuild" "SOUNDS" "[I" (.ref (kgX hs 0)) (kgA hs) U H ∧ va_T .int (kgX hs 0) 12 (fun j => .int (kg_snd j)) (kgA hs) U H) ∧
  (va_Z "java/lang/String" "COMPACT_STRINGS" "Z" (.int 1) (kgA hs) U H ∧ (va_Zq "jdk/internal/util/Preconditions" "SIOOBE_FORMATTER" "Ljava/util/function/BiFunction;" (kgA hs) U H ∧ va_T .int (kgX hs 3) (kgX hs 4) (fun j => .int (nI (kgX hs (5 + j)))) (kgA hs) U H ∧ kgX hs 4 < 2 ^ 30)) ∧
  (va_Z "java/lang/Integer" "DigitOnes" "[B" (.ref (kgX hs 1)) (kgA hs) U H ∧ va_T .byte (kgX hs 1) 100 (fun j => .int (kg_ones j)) (kgA hs) U H) ∧
  (va_Z "java/lang/Integer" "DigitTens" "[B" (.ref (kgX hs 2)) (kgA hs) U H ∧ va_T .byte (kgX hs 2) 100 (fun j => .int (kg_tens j)) (kgA hs) U H) ∧
  vk_S 12 kg_len kg_byt (kgK hs) (kgV hs) (kgA hs) U H ∧ (∀ i : Nat, i < 12 → vk_R RL (kg_ent.getD i 0) (kg_txt.getD i "") (kgK hs i) U) ∧
  (va_Nw (.methodLinkNest RX3 114 yX4_isIn RX4) U ∧ va_Nw (.methodLinkNest RX3 118 yX4_soundOf RX4) U ∧ va_Nw (.methodLinkNest RX4 28 yX2_init RX4) U ∧ va_Nw (.methodLinkNest RX4 35 yX1_init RX4) U ∧ (kgPv yJ5_ensureCapacityInternal_d00df U ∧ kgPv yJ5_putStringAt_47b60 U ∧ kgPv yJ5_inflateIfNeededFor_a7421 U ∧ va_Nw (.castable "[B" "java/lang/Cloneable") U) ∧ kgPv yJ5_newCapacity_0f7a4 U ∧ va_AO "KettleGuild$State" U)
theorem kgE.kept {hs : kgH} {U : State} {H H1 : Heap} (h : kgE hs U H) (hq : ∀ a : Nat, a < H.size → ¬ kgA hs a → H1[a]? = H[a]?) : kgE hs U H1 :=
  ⟨⟨h.1.1.kept hq, h.1.2.kept hq⟩, ⟨h.2.1.1.kept hq, ⟨h.2.1.2.1.kept hq, h.2.1.2.2.1.kept hq, h.2.1.2.2.2⟩⟩, ⟨h.2.2.1.1.kept hq, h.2.2.1.2.kept hq⟩, ⟨h.2.2.2.1.1.kept hq, h.2.2.2.1.2.kept hq⟩, h.2.2.2.2.1.kept hq, h.2.2.2.2.2.1, h.2.2.2.2.2.2⟩
theorem kgE.warm {hs : kgH} {u U : State} {H : Heap} (hW : u.WarmedH U.vm) (h : kgE hs u H) : kgE hs U H :=
  ⟨⟨h.1.1.moved hW.alike, h.1.2.moved hW.alike⟩, ⟨h.2.1.1.moved hW.alike, ⟨h.2.1.2.1.moved hW.alike, h.2.1.2.2.1.moved hW.alike, h.2.1.2.2.2⟩⟩, ⟨h.2.2.1.1.moved hW.alike, h.2.2.1.2.moved hW.alike⟩, ⟨h.2.2.2.1.1.moved hW.alike, h.2.2.2.1.2.moved hW.alike⟩, h.2.2.2.2.1.moved hW.alike, fun i hi => (h.2.2.2.2.2.1 i hi).warm hW,
    h.2.2.2.2.2.2.1.warmM hW, h.2.2.2.2.2.2.2.1.warmM hW, h.2.2.2.2.2.2.2.2.1.warmM hW, h.2.2.2.2.2.2.2.2.2.1.warmM hW, ⟨h.2.2.2.2.2.2.2.2.2.2.1.1.warm hW, h.2.2.2.2.2.2.2.2.2.2.1.2.1.warm hW, h.2.2.2.2.2.2.2.2.2.2.1.2.2.1.warm hW, h.2.2.2.2.2.2.2.2.2.2.1.2.2.2.warmC hW⟩, h.2.2.2.2.2.2.2.2.2.2.2.1.warm hW, h.2.2.2.2.2.2.2.2.2.2.2.2.moved hW.alike⟩
/-- the same tables, the same heap -/
theorem kgE.same {hs : kgH} {u U : State} {H : Heap} (hv : U.vm = u.vm) (h : kgE hs u H) : kgE hs U H := by
  have hm : u.vm.Alike U.vm := by rw [hv]; exact Vm.Alike.refl _
  exact ⟨⟨h.1.1.moved hm, h.1.2.moved hm⟩, ⟨h.2.1.1.moved hm, ⟨h.2.1.2.1.moved hm, h.2.1.2.2.1.moved hm, h.2.1.2.2.2⟩⟩, ⟨h.2.2.1.1.moved hm, h.2.2.1.2.moved hm⟩, ⟨h.2.2.2.1.1.moved hm, h.2.2.2.1.2.moved hm⟩, h.2.2.2.2.1.moved hm, fun i hi => vk_R.same hv (h.2.2.2.2.2.1 i hi),
    h.2.2.2.2.2.2.1.same rfl hv.symm, h.2.2.2.2.2.2.2.1.same rfl hv.symm, h.2.2.2.2.2.2.2.2.1.same rfl hv.symm, h.2.2.2.2.2.2.2.2.2.1.same rfl hv.symm, ⟨h.2.2.2.2.2.2.2.2.2.2.1.1.same hv, h.2.2.2.2.2.2.2.2.2.2.1.2.1.same hv, h.2.2.2.2.2.2.2.2.2.2.1.2.2.1.same hv, h.2.2.2.2.2.2.2.2.2.2.1.2.2.2.same rfl hv.symm⟩, h.2.2.2.2.2.2.2.2.2.2.2.1.same hv, h.2.2.2.2.2.2.2.2.2.2.2.2.moved hm⟩

