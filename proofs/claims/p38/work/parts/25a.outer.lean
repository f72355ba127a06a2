/-! WHAT STANDS OUTSIDE, at the law's entry -/
theorem kg_arr {s : State} {a : Array Value} {ty : FieldType} (h : (Cond.arrayClass ty).before a s = true) (hra : ∀ (U : State) (cA : ClassId), va_RA U cA ty = (U.vm.findClass ("[" ++ ty.toString) = some cA)) : ∃ cA, ArrOfT s cA ty ∧ va_RA s cA ty := by
  obtain ⟨c, k, comp, h1, h2, h3⟩ := Cond.arrayClass_spec h
  exact ⟨c, fun n z => ⟨fun k h => (by cases h), k, h2, comp, h3⟩, by rw [hra]; exact h1⟩
theorem kg_arrO {s : State} {a : Array Value} {C : String} (h : (Cond.arrayOver (.object C)).before a s = true) : ∃ cA, ArrOfT s cA (.object C) ∧ va_RA s cA (.object C) := by
  obtain ⟨comp, c, k, h1, h2, h3, h4, h5⟩ := Cond.arrayOver_spec h
  exact ⟨c, fun n z => ⟨fun k h => (by cases h), k, h3, comp, h4⟩, k, comp, h3, h4, h1, h5⟩
abbrev kg_st (i : Nat) : Term := .string RL (kg_ent.getD i 0)
set_option maxRecDepth 1000000
theorem nw_ones : ∀ j, j < 100 → (flatC narrow_1)[21 + j]? = some (Cond.eq (.elem (.static "java/lang/Integer" "DigitOnes" "[B") (.int (Int32.ofNat j))) (.int (kg_ones j))) := by decide +kernel
theorem nw_tens : ∀ j, j < 100 → (flatC narrow_1)[124 + j]? = some (Cond.eq (.elem (.static "java/lang/Integer" "DigitTens" "[B") (.int (Int32.ofNat j))) (.int (kg_tens j))) := by decide +kernel
abbrev nw_p : List Nat := [231, 236, 242, 249, 257, 266, 275, 286, 298, 311, 325, 340]
theorem nw_s1 : ∀ i, i < 12 → (flatC narrow_1)[nw_p.getD i 0 - 3]? = some (Cond.exactly (kg_st i) "java/lang/String") := by decide +kernel
theorem nw_s2 : ∀ i, i < 12 → (flatC narrow_1)[nw_p.getD i 0 - 2]? = some (Cond.eq ((kg_st i).field "java/lang/String" "coder" "B") (.int 0)) := by decide +kernel
theorem nw_s3 : ∀ i, i < 12 → (flatC narrow_1)[nw_p.getD i 0 - 1]? = some (Cond.arrayOf ((kg_st i).field "java/lang/String" "value" "[B") .byte) := by decide +kernel
theorem nw_s4 : ∀ i, i < 12 → (flatC narrow_1)[nw_p.getD i 0]? = some (Cond.eq ((kg_st i).field "java/lang/String" "value" "[B").length (.int (Int32.ofNat (kg_len.getD i 0)))) := by decide +kernel
theorem nw_s5 : ∀ i, i < 12 → ∀ j, j < kg_len.getD i 0 → (flatC narrow_1)[nw_p.getD i 0 + 1 + j]? = some (Cond.eq (((kg_st i).field "java/lang/String" "value" "[B").elem (.int (Int32.ofNat j))) (.int ((kg_byt.getD i []).getD j 0))) := by decide +kernel
abbrev nw_q : List Nat := [0, 238, 244, 251, 259, 267, 277, 288, 300, 313, 327, 342]
theorem nw_s6 : ∀ i, i < 12 → ∀ j, j < 12 → i < j → (flatC narrow_1)[nw_q.getD j 0 + i]? = some (Cond.not (.eq (kg_st i) (kg_st j))) := by decide +kernel
theorem nw_s7 : ∀ i, i < 12 → lw_tbl[909 + i]? = some (Cond.stringRef RL (kg_ent.getD i 0) (kg_txt.getD i "")) := by decide +kernel
theorem nw_sounds : ∀ j, j < 12 → (flatC narrow_1)[6 + j]? = some (Cond.eq (.elem (.static "KettleGuild" "SOUNDS" "[I") (.int (Int32.ofNat j))) (.int (kg_snd j))) := by decide +kernel
theorem kgE_start {s : State} {b : Nat} (hts : ∀ w ∈ lw_tbl, w.before #[Value.ref b] s = true) (hgv : (Jvm.Cond.and given_1 narrow_1).before #[Value.ref b] s = true) {A : Nat → Prop} (hA : ∀ a : Nat, a < s.heap.size → ¬ A a) :
    ∃ (xa xo xt : Nat) (K V : Nat → Nat),
  (va_Z "KettleGuild" "SOUNDS" "[I" (.ref xa) A s s.heap ∧ va_T .int xa 12 (fun j => .int (kg_snd j)) A s s.heap) ∧
  (va_Z "java/lang/String" "COMPACT_STRINGS" "Z" (.int 1) A s s.heap ∧ va_Zq "jdk/internal/util/Preconditions" "SIOOBE_FORMATTER" "Ljava/util/function/BiFunction;" A s s.heap) ∧
  (va_Z "java/lang/Integer" "DigitOnes" "[B" (.ref xo) A s s.heap ∧ va_T .byte xo 100 (fun j => .int (kg_ones j)) A s s.heap) ∧
  (va_Z "java/lang/Integer" "DigitTens" "[B" (.ref xt) A s s.heap ∧ va_T .byte xt 100 (fun j => .int (kg_tens j)) A s s.heap) ∧
  vk_S 12 kg_len kg_byt K V A s s.heap ∧ (∀ i : Nat, i < 12 → vk_R RL (kg_ent.getD i 0) (kg_txt.getD i "") (K i) s) ∧
  (va_Nw (.methodLinkNest RX3 114 yX4_isIn RX4) s ∧ va_Nw (.methodLinkNest RX3 118 yX4_soundOf RX4) s ∧ va_Nw (.methodLinkNest RX4 28 yX2_init RX4) s ∧ va_Nw (.methodLinkNest RX4 35 yX1_init RX4) s ∧ (kgPv yJ5_ensureCapacityInternal_d00df s ∧ kgPv yJ5_putStringAt_47b60 s ∧ kgPv yJ5_inflateIfNeededFor_a7421 s ∧ va_Nw (.castable "[B" "java/lang/Cloneable") s) ∧ kgPv yJ5_newCapacity_0f7a4 s ∧ va_AO "KettleGuild$State" s) := by
  have hs0 := flat_of_before _ hgv
  have hs : ∀ c ∈ flatC narrow_1, c.before #[Value.ref b] s = true := fun c hc => hs0 c (by
    show c ∈ flatC given_1 ++ flatC narrow_1
    exact List.mem_append_right _ hc)
  have hsi : ∀ {i : Nat} {c : Cond}, (flatC narrow_1)[i]? = some c → c.before #[Value.ref b] s = true := fun h => hs _ (List.mem_of_getElem? h)
  have hti : ∀ {i : Nat} {c : Cond}, lw_tbl[i]? = some c → c.before #[Value.ref b] s = true := fun h => hts _ (List.mem_of_getElem? h)
  obtain ⟨xa, ea, ha⟩ := va_Tof (A := A) (tm := .static "KettleGuild" "SOUNDS" "[I") (ty := .int) (N := 12) (f := fun j => .int (kg_snd j)) (by decide) (hsi (i := 4) rfl) (va_eqt (hsi (i := 5) rfl)) (fun j hj => va_eqt (hsi (nw_sounds j hj))) hA
  obtain ⟨xo, eo, ho⟩ := va_Tof (A := A) (tm := .static "java/lang/Integer" "DigitOnes" "[B") (ty := .byte) (N := 100) (f := fun j => .int (kg_ones j)) (by decide) (hsi (i := 19) rfl) (va_eqt (hsi (i := 20) rfl)) (fun j hj => va_eqt (hsi (nw_ones j hj))) hA
  obtain ⟨xt, et, ht⟩ := va_Tof (A := A) (tm := .static "java/lang/Integer" "DigitTens" "[B") (ty := .byte) (N := 100) (f := fun j => .int (kg_tens j)) (by decide) (hsi (i := 122) rfl) (va_eqt (hsi (i := 123) rfl)) (fun j hj => va_eqt (hsi (nw_tens j hj))) hA
  obtain ⟨K, V, hS, hK⟩ := vk_Sof (A := A) (N := 12) (tm := kg_st) (len := kg_len) (byt := kg_byt) (args := #[Value.ref b]) (s := s) (by decide) (fun i hi => hsi (nw_s1 i hi)) (fun i hi => hsi (nw_s2 i hi)) (fun i hi => hsi (nw_s3 i hi)) (fun i hi => hsi (nw_s4 i hi)) (fun i hi j hj => hsi (nw_s5 i hi j hj))
    (fun i j hi hj hij => (Nat.lt_or_gt_of_ne hij).imp (fun h => hsi (nw_s6 i hi j hj h)) (fun h => hsi (nw_s6 j hj i hi h))) hA
  refine ⟨xa, xo, xt, K, V, ⟨va_Zof (hti (i := 318) rfl) (hts _ (by decide +kernel)) ea hA, ha⟩, ⟨va_Zof (hti (i := 202) rfl) (hts _ (by decide +kernel)) (va_eqt (hsi (i := 2) rfl)) hA, va_Zqof (hti (i := 490) rfl) (hts _ (by decide +kernel)) (hsi (i := 224) rfl) hA⟩,
    ⟨va_Zof (hti (i := 474) rfl) (hts _ (by decide +kernel)) eo hA, ho⟩, ⟨va_Zof (hti (i := 476) rfl) (hts _ (by decide +kernel)) et hA, ht⟩, hS, fun i hi => vk_R.of (hti (nw_s7 i hi)) (hK i hi), ?_⟩
  exact ⟨va_Nw.of rfl (hti (i := 281) rfl), va_Nw.of rfl (hti (i := 769) rfl), va_Nw.of rfl (hti (i := 153) rfl), va_Nw.of rfl (hti (i := 170) rfl), ⟨hti (i := 412) rfl, hti (i := 844) rfl, hti (i := 848) rfl, va_Nw.of rfl (hti (i := 436) rfl)⟩, hti (i := 416) rfl, va_AO.of (hti (i := 138) rfl)⟩
