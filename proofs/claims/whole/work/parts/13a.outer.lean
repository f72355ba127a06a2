/-! WHAT STANDS OUTSIDE, at the law's entry -/
theorem kg_arr {s : State} {a : Array Value} {ty : FieldType} (h : (Cond.arrayClass ty).before a s = true) (hra : ∀ (U : State) (cA : ClassId), va_RA U cA ty = (U.vm.findClass ("[" ++ ty.toString) = some cA)) : ∃ cA, ArrOfT s cA ty ∧ va_RA s cA ty := by
  obtain ⟨c, k, comp, h1, h2, h3⟩ := Cond.arrayClass_spec h
  exact ⟨c, fun n z => ⟨fun k h => (by cases h), k, h2, comp, h3⟩, by rw [hra]; exact h1⟩
theorem kg_arrO {s : State} {a : Array Value} {C : String} (h : (Cond.arrayOver (.object C)).before a s = true) : ∃ cA, ArrOfT s cA (.object C) ∧ va_RA s cA (.object C) := by
  obtain ⟨comp, c, k, h1, h2, h3, h4, h5⟩ := Cond.arrayOver_spec h
  exact ⟨c, fun n z => ⟨fun k h => (by cases h), k, h3, comp, h4⟩, k, comp, h3, h4, h1, h5⟩
abbrev kg_st (i : Nat) : Term := .string RX1 (kg_ent.getD i 0)
set_option maxRecDepth 1000000
theorem nw_ones : ∀ j, j < 100 → (flatC narrow_1)[25 + j]? = some (Cond.eq (.elem (.static "java/lang/Integer" "DigitOnes" "[B") (.int (Int32.ofNat j))) (.int (kg_ones j))) := by decide +kernel
theorem nw_tens : ∀ j, j < 100 → (flatC narrow_1)[128 + j]? = some (Cond.eq (.elem (.static "java/lang/Integer" "DigitTens" "[B") (.int (Int32.ofNat j))) (.int (kg_tens j))) := by decide +kernel
abbrev nw_p : List Nat := [231, 242, 259, 272, 284, 300, 317, 333, 354]
theorem nw_s1 : ∀ i, i < 9 → (flatC narrow_1)[nw_p.getD i 0 - 3]? = some (Cond.exactly (kg_st i) "java/lang/String") := by decide +kernel
theorem nw_s2 : ∀ i, i < 9 → (flatC narrow_1)[nw_p.getD i 0 - 2]? = some (Cond.eq ((kg_st i).field "java/lang/String" "coder" "B") (.int 0)) := by decide +kernel
theorem nw_s3 : ∀ i, i < 9 → (flatC narrow_1)[nw_p.getD i 0 - 1]? = some (Cond.arrayOf ((kg_st i).field "java/lang/String" "value" "[B") .byte) := by decide +kernel
theorem nw_s4 : ∀ i, i < 9 → (flatC narrow_1)[nw_p.getD i 0]? = some (Cond.eq ((kg_st i).field "java/lang/String" "value" "[B").length (.int (Int32.ofNat (kg_len.getD i 0)))) := by decide +kernel
theorem nw_s5 : ∀ i, i < 9 → ∀ j, j < kg_len.getD i 0 → (flatC narrow_1)[nw_p.getD i 0 + 1 + j]? = some (Cond.eq (((kg_st i).field "java/lang/String" "value" "[B").elem (.int (Int32.ofNat j))) (.int ((kg_byt.getD i []).getD j 0))) := by decide +kernel
abbrev nw_q : List Nat := [0, 255, 267, 278, 293, 309, 324, 344, 363]
theorem nw_s6 : ∀ i, i < 9 → ∀ j, j < 9 → i < j → (flatC narrow_1)[nw_q.getD j 0 + i]? = some (Cond.not (.eq (kg_st i) (kg_st j))) := by decide +kernel
theorem nw_s7 : ∀ i, i < 9 → lw_tbl[636 + i]? = some (Cond.stringRef RX1 (kg_ent.getD i 0) (kg_txt.getD i "")) := by decide +kernel
theorem nw_sounds : ∀ j, j < 12 → (flatC narrow_1)[6 + j]? = some (Cond.eq (.elem (.static "KettleGuild" "SOUNDS" "[I") (.int (Int32.ofNat j))) (.int (kg_snd j))) := by decide +kernel
