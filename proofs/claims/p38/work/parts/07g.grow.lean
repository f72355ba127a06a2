/-! the line grows -/
abbrev kgWX (hs : kgH) (av a : Nat) (I : kgM) : va_W := kgw hs av 16 I ++ [(a, .inl (kgC hs 12, 34, .inl (I 176)))]
def kgHX (hs : kgH) (av a : Nat) (I : kgM) (H : Heap) : Prop := va_P (kgD hs) vwCl (kgWX hs av a I) H ∧ va_D (kgA hs) (kgWX hs av a I) ∧ ∀ j, kgZ (I 176) 34 j
def kgQc (hs : kgH) (av : Nat) (I : kgM) : Array Value → State → Outcome → State → Prop := va_Qr (fun (_ : Unit) => True) (fun _ a t => kgHX hs av a I t.heap ∧ kgKX hs t) (kgA hs)
theorem kgHR_base {hs : kgH} {w : Option (Nat × Nat)} {I : kgM} {H : Heap} (h : kgHR hs w I H) : kgB hs < H.size := by
  obtain ⟨av, cap, hP, hD, -⟩ := h
  have h1 := (hP 0 _ (kgw_get (k := 0) (by decide))).lt
  have h2 := hD.2 0 _ (kgw_get (k := 0) (by decide))
  exact Nat.lt_of_le_of_lt h2 h1
set_option maxHeartbeats 4000000 in
set_option maxRecDepth 100000 in
theorem s_J7_copyOf (hs : kgH) (l : Launch) (av : Nat) (I : kgM) : Met l yJ7_copyOf_9075b (kg_ws yJ7_copyOf_9075b cJ7_copyOf_9075b 3 (some (.array .byte))) { frames := 1, cells := 1, slots := 34, locals := 60 } (kgPc hs (some (av, 16)) [.ref av, .int 34] I) (kgQc hs av I) 1 34 (kgA hs) := by
  refine va_MetF (cc := cJ7_copyOf_9075b) (maxL := 3) (ret := some (.array .byte)) (by decide +kernel) rfl ?_
  intro p e s m args below meth c s₁ B hml hv
  obtain ⟨rfl, hH, hK, hE⟩ := hv
  have hts := atoms_spec (ws := kg_ws yJ7_copyOf_9075b cJ7_copyOf_9075b 3 (some (.array .byte))) B.pre
  have hl0 := lv_entry [.ref av, .int 34] (n := 3) (Nat.le_of_ble_eq_true rfl)
  rw [lg_entry_eq]
  have S : Cx (p, l, e, { frames := 1, cells := 1, slots := 34, locals := 60 }, s, m, [Value.ref av, .int 34].toArray, below, meth, c, hs, fun (_ : Unit) => MQ below (kgQc hs av I) [Value.ref av, .int 34].toArray s 1 34 (kgA hs)) cJ7_copyOf_9075b yJ7_copyOf_9075b.cls 3 1 60 1 34 :=
    ⟨⟨B.exec, B.bytes, hml, findClass_of_methodNamed B.named, fun w hw => hts w (List.mem_cons_of_mem _ hw)⟩, rfl, hK, hE, B.notSynchronized⟩
  suffices hh : AW (p, l, e, { frames := 1, cells := 1, slots := 34, locals := 60 }, s, m, [Value.ref av, .int 34].toArray, below, meth, c, hs, fun (_ : Unit) => MQ below (kgQc hs av I) [Value.ref av, .int 34].toArray s 1 34 (kgA hs)) 3 0 0 (some (av, 16)) (some ()) 0 (lv_args 0 [.ref av, .int 34]) [] I from hh () rfl s.heap [] _ hH va_S.rf hl0
  refine aw_sub (L2 := [(0, .ref av), (1, .int 34)]) [0, 1] rfl ?_
  refine aw_iload_n S 1 rfl dJ7_copyOf_9075b_0 rfl ?_
  refine aw_aload_n S 0 rfl dJ7_copyOf_9075b_1 rfl ?_
  refine aw_alenB S dJ7_copyOf_9075b_2 ?_
  refine aw_icmp_neT (tgt := 14) S dJ7_copyOf_9075b_3 (by decide) (by decide) ?_
  refine aw_iload_n S 1 rfl dJ7_copyOf_9075b_14 rfl ?_
  intro r hr H locs ls a b hl
  obtain ⟨⟨hx, hb, hml, hown, hts⟩, hR, hK, hE, hlk0⟩ := S
  obtain ⟨av1, cap1, hP, hD, hw, h34, hz⟩ := a
  cases hw _ rfl
  have hbase := kgHR_base hH
  refine va_newa (atype := .byte) (N' := 34) (a0 := (34, .inl (fun _ => 0))) hx hb (hts _ tw_224) rfl hK hP hD b (fun q h => by show kgB hs ≤ q; omega) (fun _ => rfl) (by decide) rfl (by decide) (Nat.le_of_ble_eq_true rfl) (Nat.le_of_ble_eq_true rfl) dJ7_copyOf_9075b_15 (fun q cA H1 hK1 hP1 hD1 hS1 => ?_)
  have e1 := (hK1.2 2 _ rfl).2
  have e2 := (hK1.2 4 _ rfl).2
  have ec : cA = kgC hs 12 := Option.some.inj (e2.symm.trans e1)
  subst ec
  have ha0 : (kgw hs av 16 I ++ [(q, Sum.inl (kgC hs 12, 34, .inl (fun _ => (0 : Int32))))])[176]? = some (av, .inl (kgC hs 12, 16, .inl (I 176))) := by
    rw [List.getElem?_append_left (by rw [kgw_len]; omega)]
    exact kgw_176
  have ha1 : (kgw hs av 16 I ++ [(q, Sum.inl (kgC hs 12, 34, .inl (fun _ => (0 : Int32))))])[177 + (kgXt hs).length]? = some (q, .inl (kgC hs 12, 34, .inl (fun _ => 0))) := by
    rw [List.getElem?_append_right (by rw [kgw_len]; omega), kgw_len, Nat.sub_self]
    rfl
  refine lv_astore_n hx hb dJ7_copyOf_9075b_17 rfl hl (by decide) rfl (fun ls2 hl2 => ?_)
  refine lv_aload_n hx hb dJ7_copyOf_9075b_18 rfl (lv_at hl2 1 rfl) ?_
  refine lv_iconst hx hb dJ7_copyOf_9075b_19 (v := 0) (by decide) ?_
  refine lv_aload_n hx hb dJ7_copyOf_9075b_20 rfl (lv_at hl2 0 rfl) ?_
  refine lv_iconst hx hb dJ7_copyOf_9075b_21 (v := 0) (by decide) ?_
  refine lv_aload_n hx hb dJ7_copyOf_9075b_22 rfl (lv_at hl2 1 rfl) ?_
  refine va_alen hx hb hK1 hP1 176 2 ha0 rfl rfl dJ7_copyOf_9075b_23 ?_
  refine lv_iload_n hx hb dJ7_copyOf_9075b_24 rfl (lv_at hl2 2 rfl) ?_
  refine va_mmin hx hb (hml.trans hl2.1.symm) hown (hts _ tw_438) (hts _ tw_333) (hts _ tw_33) (hts _ tw_334) (Nat.le_of_ble_eq_true rfl) (Nat.le_of_ble_eq_true rfl) (Nat.le_of_ble_eq_true rfl) (Nat.le_of_ble_eq_true rfl) dJ7_copyOf_9075b_25 ?_
  have emin : (if (34 : Int32) < Int32.ofNat 16 then (34 : Int32) else Int32.ofNat 16) = 16 := by decide
  show W _ _ _ _ _ _ _ _ _ _ _ _ _ _ _ (F0 m 28 ls2 (.int (if (34 : Int32) < Int32.ofNat 16 then (34 : Int32) else Int32.ofNat 16) :: _))
  rw [emin]
  refine va_copyi hx hb (hml.trans hl2.1.symm) hown (hts _ tw_439) (hts _ tw_441) (hts _ tw_440) (hts _ tw_34) hK1 hP1 hD1 hS1 176 (177 + (kgXt hs).length) 2 2 ha0 ha1 rfl rfl rfl (by decide) (by decide) (by decide) (Nat.le_of_ble_eq_true rfl) (Nat.le_of_ble_eq_true rfl) (fun i _ => (hz trivial _ trivial).1) (Nat.le_of_ble_eq_true rfl) (Nat.le_of_ble_eq_true rfl) dJ7_copyOf_9075b_28 (fun H2 locs2 hP2 hD2 hS2 => ?_)
  have ecp : va_cpy (I 176) (fun _ => (0 : Int32)) (0 : Int32).toNatClampNeg (0 : Int32).toNatClampNeg (16 : Int32).toNatClampNeg = I 176 := by
    funext j
    show (if 0 ≤ j ∧ j < 0 + 16 then I 176 (0 + (j - 0)) else 0) = _
    by_cases h : j < 16
    · rw [if_pos ⟨Nat.zero_le _, by omega⟩]; congr 1; omega
    · rw [if_neg (by omega)]; exact ((hz trivial j trivial).2 rfl (by omega)).symm
  have eset : (kgw hs av 16 I ++ [(q, Sum.inl (kgC hs 12, 34, Sum.inl (fun _ => (0 : Int32))))]).set (177 + (kgXt hs).length) (q, .inl (kgC hs 12, 34, .inl (I 176))) = kgWX hs av q I := by
    rw [List.set_append_right _ _ (by rw [kgw_len]; omega), kgw_len, Nat.sub_self]
    rfl
  rw [ecp, eset] at hP2 hD2
  refine lv_aload_n hx hb dJ7_copyOf_9075b_31 rfl (lv_at hl2 0 rfl) ?_
  exact W.aret hx hb B.returns (Or.inr ⟨.byte, rfl⟩) (Or.inr ⟨_, rfl⟩) (fun t ht hW => ⟨⟨(), _, rfl, trivial, by rw [ht]; exact ⟨hP2, hD2, fun j => ⟨(hz trivial j trivial).1, fun h => by cases h⟩⟩, hK.moved hW.alike⟩, hS2.F ht⟩) hS2.2.2 dJ7_copyOf_9075b_32 hlk0
set_option maxRecDepth 100000 in
theorem kgRF_176 : ∀ k, k < 177 → k ≠ 175 → ∀ j, j < 18 → kgRF k j ≠ some 176 := by decide +kernel
set_option maxRecDepth 100000 in
theorem kgKD_18 : ∀ k, k < 177 → (kgKD k).1 < 7 → (kgKD k).2 ≤ 18 := by decide +kernel
theorem kgce_grow {hs : kgH} {av a c c2 : Nat} {I : kgM} {k : Nat} (hk : k < 177) (h5 : k ≠ 175) (h6 : k ≠ 176) : kgce hs a c2 I k = kgce hs av c I k := by
  unfold kgce
  by_cases h : (kgKD k).1 < 7
  · rw [if_pos h, if_pos h]
    congr 2
    apply List.map_congr_left
    intro j hj
    have hj2 := List.mem_range.mp hj
    have h18 := kgKD_18 k hk h
    have hn := kgRF_176 k hk h5 j (by omega)
    unfold kgfv
    cases e : kgRF k j with
    | none => rfl
    | some k2 =>
      have : k2 ≠ 176 := fun q => hn (by rw [e, q])
      simp only [kgad_ne this]
  · rw [if_neg h, if_neg h, if_neg h6, if_neg h6]
abbrev kgWG (hs : kgH) (av a : Nat) (I : kgM) : va_W := (kgWX hs av a I).set 175 (kgO hs 175, .inr (0, ((List.range 4).map (fun j => kgfv hs av I 175 j)).set 0 (.ref a)))
theorem kgw_grow {hs : kgH} {av a : Nat} {I : kgM} {k : Nat} {x : Nat × va_E} (h : (kgw hs a 34 I)[k]? = some x) : (kgWG hs av a I)[if k = 176 then 177 + (kgXt hs).length else k]? = some x := by
  have hkl : k < 177 + (kgXt hs).length := by
    have := (List.getElem?_eq_some_iff.mp h).1
    rwa [kgw_len] at this
  by_cases hk : 177 ≤ k
  · obtain ⟨i, rfl⟩ : ∃ i, k = 177 + i := ⟨k - 177, by omega⟩
    rw [kgw_xt] at h
    rw [if_neg (by omega)]
    unfold kgWG
    rw [List.getElem?_set_ne (by omega), List.getElem?_append_left (by rw [kgw_len]; omega), kgw_xt]
    exact h
  replace hk : k < 177 := by omega
  by_cases h6 : k = 176
  · subst h6
    rw [kgw_176] at h
    cases h
    show (kgWG hs av a I)[177 + (kgXt hs).length]? = _
    unfold kgWG
    rw [List.getElem?_set_ne (by omega), List.getElem?_append_right (by rw [kgw_len]; omega), kgw_len, Nat.sub_self]
    rfl
  · rw [if_neg h6]
    rw [kgw_get hk, kgad_ne h6] at h
    cases h
    unfold kgWG
    by_cases h5 : k = 175
    · subst h5
      rw [List.getElem?_set_self (by rw [List.length_append, kgw_len]; omega)]
      rfl
    · rw [List.getElem?_set_ne (Ne.symm h5), List.getElem?_append_left (by rw [kgw_len]; omega), kgw_get hk, kgad_ne h6, kgce_grow (a := a) (av := av) hk h5 h6]
theorem kgGrow {hs : kgH} {av a : Nat} {I : kgM} {H : Heap} (hP : va_P (kgD hs) vwCl (kgWG hs av a I) H) (hD : va_D (kgA hs) (kgWG hs av a I)) (hz : ∀ j, kgZ (I 176) 34 j) : kgHR hs (some (a, 34)) I H :=
  ⟨a, 34, fun k x h => hP _ x (kgw_grow h), ⟨fun i j p q hi hj he => by
    have := hD.1 _ _ p q (kgw_grow hi) (kgw_grow hj) he
    split at this <;> split at this <;> first | omega | (have h1 := (List.getElem?_eq_some_iff.mp hi).1; have h2 := (List.getElem?_eq_some_iff.mp hj).1; rw [kgw_len] at h1 h2; omega), fun k q h => hD.2 _ q (kgw_grow h)⟩, fun z h => (Option.some.inj h).symm, Or.inr rfl, fun _ q _ => hz q⟩
theorem kgGet {hs : kgH} {av a : Nat} {I : kgM} : (kgWX hs av a I)[175]? = some (kgO hs 175, .inr (0, (List.range 4).map (fun j => kgfv hs av I 175 j))) := by
  unfold kgWX
  rw [List.getElem?_append_left (by rw [kgw_len]; omega), kgw_get (by decide)]
  rfl
noncomputable def kgS2 {ρ : Type} (x0 : Int32) (J0 : kgM) (fin : Option ρ) (x : Int32) (J : kgM) : Option ρ := @ite _ (x = x0 ∧ J = J0) (Classical.propDecidable _) fin none
theorem aw_to {ρ : Type} {X : kgCX ρ} {nL ce sl : Nat} {fin : Option ρ} {pc : Nat} {L : List (Nat × Value)} {st : List Value} {I : kgM} {w : Option (Nat × Nat)} {F : Option (Int32 × kgM)} {x0 : Int32} {J0 : kgM} (hF : F = some (x0, J0)) (k : AW X nL ce sl w (bndC F (kgS2 x0 J0 fin)) pc L st I) : AW X nL ce sl w fin pc L st I := by
  subst hF
  have e : bndC (some (x0, J0)) (kgS2 x0 J0 fin) = fin := by
    show kgS2 x0 J0 fin x0 J0 = fin
    unfold kgS2
    rw [if_pos ⟨rfl, rfl⟩]
  rw [e] at k
  exact k
theorem aw_fr {ρ : Type} {X : kgCX ρ} {nL ce sl : Nat} {fin : Option ρ} {pc : Nat} {L : List (Nat × Value)} {st : List Value} {w : Option (Nat × Nat)} {x0 x : Int32} {J0 J : kgM} (h : x = x0 → J = J0 → AW X nL ce sl w fin pc L st J) : AW X nL ce sl w (kgS2 x0 J0 fin x J) pc L st J := by
  unfold kgS2
  by_cases q : x = x0 ∧ J = J0
  · rw [if_pos q]; exact h q.1 q.2
  · rw [if_neg q]; exact aw_none
theorem kg_small {n : Int32} {b : Nat} (hb : b < 2 ^ 31) (h : inb n b = true) : ∃ k, k < b ∧ n = nI k := by
  obtain ⟨k, hk, e⟩ := vp_in_of (inb_in h) hb
  exact ⟨k, hk, e⟩
theorem f_newCap {I : kgM} (hc : I 175 1 = 0) {k : Nat} (h1 : 16 < k) (h2 : k < 35) : f_J5_newCapacity_0f7a4 16 (nI k) I = some (34, I) := by
  have hm : f_J9_max_7cf53 (nI k <<< ((0 : Int32) &&& 31) - Int32.ofNat 16) (Int32.ofNat 16 + (2 : Int32) <<< ((0 : Int32) &&& 31)) I = some (18, I) := by
    unfold f_J9_max_7cf53
    have hk : k = 17 ∨ k = 18 ∨ k = 19 ∨ k = 20 ∨ k = 21 ∨ k = 22 ∨ k = 23 ∨ k = 24 ∨ k = 25 ∨ k = 26 ∨ k = 27 ∨ k = 28 ∨ k = 29 ∨ k = 30 ∨ k = 31 ∨ k = 32 ∨ k = 33 ∨ k = 34 := by omega
    rcases hk with rfl | rfl | rfl | rfl | rfl | rfl | rfl | rfl | rfl | rfl | rfl | rfl | rfl | rfl | rfl | rfl | rfl | rfl <;> rfl
  have hn : f_J8_newLength_cabcc (Int32.ofNat 16) (nI k <<< ((0 : Int32) &&& 31) - Int32.ofNat 16) (Int32.ofNat 16 + (2 : Int32) <<< ((0 : Int32) &&& 31)) I = some (34, I) := by
    unfold f_J8_newLength_cabcc
    rw [hm]
    rfl
  unfold f_J5_newCapacity_0f7a4
  simp only [bnd, hc]
  rw [hn]
  show (if (34 : Int32) = 2147483647 then none else some ((34 : Int32) >>> ((I 175 1) &&& 31), I)) = _
  rw [hc]
  rfl
theorem selP {y : MethodName} (hy : ∀ (hs : kgH) (s : State), kgE hs s s.heap → kgPv y s) (h1 : Cond.sameMethod y.cls y.cls y.name y.desc ∈ kg_U) (h2 : Cond.instanceMethod y ∈ kg_U) : kgSel y := fun hs args s hts hE => by
  obtain ⟨cC, hat, -⟩ := kg_at hts
  exact kg_sel hat (hy hs s hE) (hts _ h1) (hts _ h2)
theorem sel_ens : kgSel yJ5_ensureCapacityInternal_d00df := selP (fun hs s h => h.2.2.2.2.2.2.2.2.2.2.1.1) tw_922 tw_413
theorem sel_cap : kgSel yJ5_newCapacity_0f7a4 := selP (fun hs s h => h.2.2.2.2.2.2.2.2.2.2.2.1) tw_923 tw_417
theorem sel_lat : kgSel yJ5_isLatin1_aae02 := fun hs args s hts hE => hts _ tw_445
theorem uw_ens : kgUW yJ5_ensureCapacityInternal_d00df cJ5_ensureCapacityInternal_d00df 3 none 1 := ⟨tw_414, tw_29, tw_413, tw_922, by decide +kernel, by decide +kernel⟩
theorem uw_cap : kgUW yJ5_newCapacity_0f7a4 cJ5_newCapacity_0f7a4 6 (some .int) 1 := ⟨tw_418, tw_29, tw_417, tw_923, by decide +kernel, by decide +kernel⟩
theorem uw_lat : kgUW yJ5_isLatin1_aae02 cJ5_isLatin1_aae02 1 (some .boolean) 0 := ⟨tw_446, tw_29, tw_443, tw_444, by decide +kernel, by decide +kernel⟩
theorem ens_small : ∀ k, k < 35 → (nI k - 34 ≤ (0 : Int32)) ∧ (k ≤ 16 → nI k - 16 ≤ (0 : Int32)) ∧ (16 < k → ¬ nI k - 16 ≤ (0 : Int32)) ∧ (nI k).toInt = k := by decide +kernel
set_option maxHeartbeats 4000000 in
set_option maxRecDepth 100000 in
theorem s_J5_ens (hs : kgH) (l : Launch) (n : Int32) (I : kgM) (hn : inb n 35 = true) (hc : I 175 1 = 0) : Sde hs l yJ5_ensureCapacityInternal_d00df (kg_ws yJ5_ensureCapacityInternal_d00df cJ5_ensureCapacityInternal_d00df 3 none) { frames := 4, cells := 1, slots := 34, locals := 120 } [.ref (kgO hs 175), .int n] I n := by
  refine va_MetF (cc := cJ5_ensureCapacityInternal_d00df) (maxL := 3) (ret := none) (by decide +kernel) rfl ?_
  intro p e s m args below meth c s₁ B hml hv
  obtain ⟨rfl, hH, hK, hE⟩ := hv
  have hts := atoms_spec (ws := kg_ws yJ5_ensureCapacityInternal_d00df cJ5_ensureCapacityInternal_d00df 3 none) B.pre
  have hl0 := lv_entry [.ref (kgO hs 175), .int n] (n := 3) (Nat.le_of_ble_eq_true rfl)
  rw [lg_entry_eq]
  have S : Cx (p, l, e, { frames := 4, cells := 1, slots := 34, locals := 120 }, s, m, [Value.ref (kgO hs 175), .int n].toArray, below, meth, c, hs, fun (_ : Unit) => MQ below (kgQe hs n I) [Value.ref (kgO hs 175), .int n].toArray s 1 34 (kgA hs)) cJ5_ensureCapacityInternal_d00df yJ5_ensureCapacityInternal_d00df.cls 3 4 120 1 34 :=
    ⟨⟨B.exec, B.bytes, hml, findClass_of_methodNamed B.named, fun w hw => hts w (List.mem_cons_of_mem _ hw)⟩, rfl, hK, hE, B.notSynchronized⟩
  suffices hh : AW (p, l, e, { frames := 4, cells := 1, slots := 34, locals := 120 }, s, m, [Value.ref (kgO hs 175), .int n].toArray, below, meth, c, hs, fun (_ : Unit) => MQ below (kgQe hs n I) [Value.ref (kgO hs 175), .int n].toArray s 1 34 (kgA hs)) 3 0 0 none (some ()) 0 (lv_args 0 [.ref (kgO hs 175), .int n]) [] I from hh () rfl s.heap [] _ hH va_S.rf hl0
  have hret : ∀ (av cap : Nat) (L : List (Nat × Value)), n.toInt ≤ cap → (cap = 16 ∨ cap = 34) → AW (p, l, e, { frames := 4, cells := 1, slots := 34, locals := 120 }, s, m, [Value.ref (kgO hs 175), .int n].toArray, below, meth, c, hs, fun (_ : Unit) => MQ below (kgQe hs n I) [Value.ref (kgO hs 175), .int n].toArray s 1 34 (kgA hs)) 3 0 0 (some (av, cap)) (some ()) 38 L [] I := by
    intro av cap L hcap h34 r hr H locs ls a b hl
    obtain ⟨⟨hx, hb, hml, hown, hts⟩, hR, hK, hE, hlk0⟩ := S
    refine W.widen (k := 1) (n := 34) (Nat.zero_le _) (Nat.zero_le _) ?_
    exact W.vret hx hb B.returns (fun t ht hW => ⟨⟨(av, cap), rfl, ⟨hcap, h34⟩, by rw [ht]; exact a, hK.moved hW.alike⟩, b.F ht⟩) b.2.2 dJ5_ensureCapacityInternal_d00df_38 hlk0
  obtain ⟨k, hk, rfl⟩ := kg_small (by decide) hn
  obtain ⟨g1, g2, g3, g4⟩ := ens_small k hk
  refine aw_sub (L2 := [(0, .ref (kgO hs 175)), (1, .int (nI k))]) [0, 1] rfl ?_
  refine aw_open (fun av cap h34 hz => ?_)
  refine aw_aload_n S 0 rfl dJ5_ensureCapacityInternal_d00df_0 rfl ?_
  refine aw_getB S tw_210 dJ5_ensureCapacityInternal_d00df_1 ?_
  refine aw_alenB S dJ5_ensureCapacityInternal_d00df_4 ?_
  refine aw_aload_n S 0 rfl dJ5_ensureCapacityInternal_d00df_5 rfl ?_
  refine aw_getIs S 1 (by decide) (by decide) rfl tw_211 dJ5_ensureCapacityInternal_d00df_6 ?_
  rw [hc]
  refine aw_ishr S dJ5_ensureCapacityInternal_d00df_9 ?_
  rcases h34 with rfl | rfl
  · have e1 : (Int32.ofNat 16 >>> ((0 : Int32) &&& 31)) = 16 := by decide
    rw [e1]
    refine aw_istore_n (L2 := [(0, .ref (kgO hs 175)), (1, .int (nI k)), (2, .int 16)]) S [1, 2, 0] dJ5_ensureCapacityInternal_d00df_10 rfl (by decide) rfl ?_
    refine aw_iload_n S 1 rfl dJ5_ensureCapacityInternal_d00df_11 rfl ?_
    refine aw_iload_n S 2 rfl dJ5_ensureCapacityInternal_d00df_12 rfl ?_
    refine aw_isub S dJ5_ensureCapacityInternal_d00df_13 ?_
    by_cases h16 : k ≤ 16
    · refine aw_if_leT (y := 0) (tgt := 38) S dJ5_ensureCapacityInternal_d00df_14 (by decide) (g2 h16) ?_
      exact hret av 16 _ (by rw [g4]; omega) (Or.inl rfl)
    · have h17 : 16 < k := by omega
      refine aw_if_leF (y := 0) (tgt := 38) S dJ5_ensureCapacityInternal_d00df_14 (by decide) (g3 h17) ?_
      refine aw_aload_n S 0 rfl dJ5_ensureCapacityInternal_d00df_17 rfl ?_
      refine aw_aload_n S 0 rfl dJ5_ensureCapacityInternal_d00df_18 rfl ?_
      refine aw_getB S tw_210 dJ5_ensureCapacityInternal_d00df_19 ?_
      refine aw_aload_n S 0 rfl dJ5_ensureCapacityInternal_d00df_22 rfl ?_
      refine aw_iload_n S 1 rfl dJ5_ensureCapacityInternal_d00df_23 rfl ?_
      refine aw_to (f_newCap hc h17 hk) ?_
      refine aw_cUi S [.int (nI k)] uw_cap sel_cap tw_415 (s_J5_newCapacity_0f7a4 _ _ av 16 0 (by decide) (nI k) I) ⟨by decide, by decide⟩ rfl rfl (Nat.le_of_ble_eq_true rfl) rfl rfl (by decide) (by decide) dJ5_ensureCapacityInternal_d00df_24 (fun x J => aw_fr (fun hx1 hJ1 => ?_))
      subst hx1
      subst hJ1
      refine aw_aload_n S 0 rfl dJ5_ensureCapacityInternal_d00df_27 rfl ?_
      refine aw_getIs S 1 (by decide) (by decide) rfl tw_211 dJ5_ensureCapacityInternal_d00df_28 ?_
      rw [hc]
      refine aw_ishl S dJ5_ensureCapacityInternal_d00df_31 ?_
      have e2 : ((34 : Int32) <<< ((0 : Int32) &&& 31)) = 34 := by decide
      rw [e2]
      intro r hr H locs ls a b hl
      obtain ⟨⟨hx, hb, hml, hown, hts⟩, hR, hK, hE, hlk0⟩ := S
      have hE1 := hE.kept b.2.1
      refine va_callr (va_runS (As := [.ref av, .int 34]) (rest := [.ref (kgO hs 175)]) ⟨hx, hb, hml, hown, hts⟩ (s_J7_copyOf hs l av J)
        (va_cwS (mc := 1) (ms := 34) 2 hts (kgG (fun w hw => ?_)) rfl rfl rfl ⟨vw_J7_copyOf_9075b.2.2.2.1.1, vw_J7_copyOf_9075b.2.2.2.1.2, vw_J7_copyOf_9075b.2.2.2.2⟩ ⟨Nat.le_of_ble_eq_true rfl, Nat.le_of_ble_eq_true rfl⟩) ⟨kgPc_blind, fun U hU hW => ⟨rfl, by rw [hU]; exact a, hK.moved hW.alike, by rw [hU]; exact hE1.warm hW⟩⟩
        rfl rfl hl.1 rfl (lv_room (Nat.le_of_ble_eq_true rfl)) dJ5_ensureCapacityInternal_d00df_32 ⟨Nat.le_of_ble_eq_true rfl, Nat.le_of_ble_eq_true rfl⟩) b (fun q _ h => h) (fun _ h => h) (fun u a1 t H1 locs1 ht hvm hw hB hz1 hk1 hS => ?_)
      · unfold va_wsS at hw
        rcases List.mem_append.mp hw with hw | hw
        · simp only [List.mem_cons, List.not_mem_nil, or_false] at hw
          rcases hw with rfl | rfl | rfl
          · exact tw_428
          · exact vw_J7_copyOf_9075b.1
          · exact vw_J7_copyOf_9075b.2.1
        · rcases List.mem_cons.mp hw with rfl | hw
          · exact vw_J7_copyOf_9075b.2.2.1
          · exact hw
      · subst ht
        obtain ⟨⟨hP2, hD2, hz2⟩, hK2⟩ := hB
        refine va_put (D := kgD hs) (ci := 0) (C := RJ4) (T := TJ4) (N := 4) (ref := RJ5) hx hb hts cl_J4.2.1 _ tyJ4_k nmJ4_k hown hK hP2 hD2 hS 175 kgGet cl_J4.1 0 (by decide) (hts _ tw_210) (fun x h => h) rfl (tyJ4_k 0 (by decide)) rfl rfl (by simp) dJ5_ensureCapacityInternal_d00df_35 (fun H3 locs3 hP3 hD3 hS3 => ?_)
        exact W.vret hx hb B.returns (fun t ht hW => ⟨⟨(a1, 34), rfl, ⟨by rw [g4]; omega, Or.inr rfl⟩, by rw [ht]; exact kgGrow hP3 hD3 hz2, hK.moved hW.alike⟩, hS3.F ht⟩) hS3.2.2 dJ5_ensureCapacityInternal_d00df_38 hlk0
  · have e1 : (Int32.ofNat 34 >>> ((0 : Int32) &&& 31)) = 34 := by decide
    rw [e1]
    refine aw_istore_n (L2 := [(0, .ref (kgO hs 175)), (1, .int (nI k)), (2, .int 34)]) S [1, 2, 0] dJ5_ensureCapacityInternal_d00df_10 rfl (by decide) rfl ?_
    refine aw_iload_n S 1 rfl dJ5_ensureCapacityInternal_d00df_11 rfl ?_
    refine aw_iload_n S 2 rfl dJ5_ensureCapacityInternal_d00df_12 rfl ?_
    refine aw_isub S dJ5_ensureCapacityInternal_d00df_13 ?_
    refine aw_if_leT (y := 0) (tgt := 38) S dJ5_ensureCapacityInternal_d00df_14 (by decide) g1 ?_
    exact hret av 34 _ (by rw [g4]; omega) (Or.inr rfl)

