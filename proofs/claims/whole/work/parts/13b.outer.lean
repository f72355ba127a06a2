set_option maxRecDepth 1000000
theorem kgE_start {s : State} {b : Nat} (hts : ∀ w ∈ lw_tbl, w.before #[Value.ref b] s = true) (hgv : (Jvm.Cond.and given_1 narrow_1).before #[Value.ref b] s = true) {A : Nat → Prop} (hA : ∀ a : Nat, a < s.heap.size → ¬ A a) :
    ∃ (xa xo xt : Nat) (K V : Nat → Nat),
  (va_Z "KettleGuild" "SOUNDS" "[I" (.ref xa) A s s.heap ∧ va_T .int xa 12 (fun j => .int (kg_snd j)) A s s.heap) ∧
  (va_Z "java/lang/String" "COMPACT_STRINGS" "Z" (.int 1) A s s.heap ∧ va_Zq "jdk/internal/util/Preconditions" "SIOOBE_FORMATTER" "Ljava/util/function/BiFunction;" A s s.heap) ∧
  (va_Z "java/lang/Integer" "DigitOnes" "[B" (.ref xo) A s s.heap ∧ va_T .byte xo 100 (fun j => .int (kg_ones j)) A s s.heap) ∧
  (va_Z "java/lang/Integer" "DigitTens" "[B" (.ref xt) A s s.heap ∧ va_T .byte xt 100 (fun j => .int (kg_tens j)) A s s.heap) ∧
  vk_S 9 kg_len kg_byt K V A s s.heap ∧ (∀ i : Nat, i < 9 → vk_R RX1 (kg_ent.getD i 0) (kg_txt.getD i "") (K i) s) ∧
  (va_Nw (.methodLinkNest RX3 114 yX4_isIn RX4) s ∧ va_Nw (.methodLinkNest RX3 118 yX4_soundOf RX4) s ∧ va_Nw (.methodLinkNest RX4 28 yX2_init RX4) s ∧ va_Nw (.methodLinkNest RX4 35 yX1_init RX4) s ∧ kgPv yJ5_ensureCapacityInternal_d00df s ∧ kgPv yJ5_newCapacity_0f7a4 s ∧ va_AO "KettleGuild$State" s) := by
  have hs0 := flat_of_before _ hgv
  have hs : ∀ c ∈ flatC narrow_1, c.before #[Value.ref b] s = true := fun c hc => hs0 c (by
    show c ∈ flatC given_1 ++ flatC narrow_1
    exact List.mem_append_right _ hc)
  have hsi : ∀ {i : Nat} {c : Cond}, (flatC narrow_1)[i]? = some c → c.before #[Value.ref b] s = true := fun h => hs _ (List.mem_of_getElem? h)
  have hti : ∀ {i : Nat} {c : Cond}, lw_tbl[i]? = some c → c.before #[Value.ref b] s = true := fun h => hts _ (List.mem_of_getElem? h)
  obtain ⟨xa, ea, ha⟩ := va_Tof (A := A) (tm := .static "KettleGuild" "SOUNDS" "[I") (ty := .int) (N := 12) (f := fun j => .int (kg_snd j)) (by decide) (hsi (i := 4) rfl) (va_eqt (hsi (i := 5) rfl)) (fun j hj => va_eqt (hsi (nw_sounds j hj))) hA
  obtain ⟨xo, eo, ho⟩ := va_Tof (A := A) (tm := .static "java/lang/Integer" "DigitOnes" "[B") (ty := .byte) (N := 100) (f := fun j => .int (kg_ones j)) (by decide) (hsi (i := 23) rfl) (va_eqt (hsi (i := 24) rfl)) (fun j hj => va_eqt (hsi (nw_ones j hj))) hA
  obtain ⟨xt, et, ht⟩ := va_Tof (A := A) (tm := .static "java/lang/Integer" "DigitTens" "[B") (ty := .byte) (N := 100) (f := fun j => .int (kg_tens j)) (by decide) (hsi (i := 126) rfl) (va_eqt (hsi (i := 127) rfl)) (fun j hj => va_eqt (hsi (nw_tens j hj))) hA
  obtain ⟨K, V, hS, hK⟩ := vk_Sof (A := A) (N := 9) (tm := kg_st) (len := kg_len) (byt := kg_byt) (args := #[Value.ref b]) (s := s) (by decide) (fun i hi => hsi (nw_s1 i hi)) (fun i hi => hsi (nw_s2 i hi)) (fun i hi => hsi (nw_s3 i hi)) (fun i hi => hsi (nw_s4 i hi)) (fun i hi j hj => hsi (nw_s5 i hi j hj))
    (fun i j hi hj hij => (Nat.lt_or_gt_of_ne hij).imp (fun h => hsi (nw_s6 i hi j hj h)) (fun h => hsi (nw_s6 j hj i hi h))) hA
  refine ⟨xa, xo, xt, K, V, ⟨va_Zof (hti (i := 532) rfl) (hts _ (by decide +kernel)) ea hA, ha⟩, ⟨va_Zof (hti (i := 264) rfl) (hts _ (by decide +kernel)) (va_eqt (hsi (i := 2) rfl)) hA, va_Zqof (hti (i := 673) rfl) (hts _ (by decide +kernel)) (hsi (i := 18) rfl) hA⟩,
    ⟨va_Zof (hti (i := 809) rfl) (hts _ (by decide +kernel)) eo hA, ho⟩, ⟨va_Zof (hti (i := 811) rfl) (hts _ (by decide +kernel)) et hA, ht⟩, hS, fun i hi => vk_R.of (hti (nw_s7 i hi)) (hK i hi), ?_⟩
  exact ⟨va_Nw.of rfl (hti (i := 413) rfl), va_Nw.of rfl (hti (i := 525) rfl), va_Nw.of rfl (hti (i := 209) rfl), va_Nw.of rfl (hti (i := 228) rfl), hti (i := 749) rfl, hti (i := 753) rfl, va_AO.of (hti (i := 194) rfl)⟩
