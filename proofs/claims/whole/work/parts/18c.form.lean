/-! THE CLASS READS -/
theorem fm_len : ∀ j, j < 9 → (fmN j).length = kg_len.getD j 0 ∧ kg_len.getD j 0 ≤ 12 ∧ 5 ≤ kg_len.getD j 0 ∧ nmC (fmN j) ≤ 3 ∧ 1 ≤ nmC (fmN j) := by decide +kernel
theorem fm_ch0 : ∀ j, j < 9 → ∀ i, i < 12 → i < kg_len.getD j 0 → (((((kg_byt.getD j []).getD i 0) &&& (255 : Int32)).toUInt32 % 65536).toInt32 = nI ((fmN j).getD i 0) ∧ isc (nI ((fmN j).getD i 0)) = true ∧ 32 ≤ (fmN j).getD i 0 ∧ (fmN j).getD i 0 < 127) := by decide +kernel
theorem fm_pos : ∀ j, j < 9 → ∀ c, c ∈ fmN j → c ≠ 0 := by decide +kernel
theorem c_chars {I : kgM} {j i : Nat} (hj : j < 9) (hi : i < kg_len.getD j 0) : f_J0_charAt_5068e j (nI i) I = some (nI ((fmN j).getD i 0), I) := by
  have hl := fm_len j hj
  obtain ⟨e1, e2, -⟩ := fm_ch0 j hj i (by omega) hi
  unfold f_J0_charAt_5068e f_J0_isLatin1_aae02 f_J1_charAt_3b067 f_J0_checkIndex_df160 f_J3_checkIndex_8e157
  rw [bndC_s, if_neg (by decide), if_neg (nI_pos (by omega)), if_pos (show nI i < Int32.ofNat (kg_len.getD j 0) from nI_lt (b := kg_len.getD j 0) hi (by omega)), bndC_s, bndC_s, ck_inb hi (by omega), nI_clamp (by omega), e1, ck_t e2, bndC_s, ck_t e2]
theorem c_length {I : kgM} {j : Nat} (hj : j < 9) : f_J0_length_8abf5 j I = some (nI (kg_len.getD j 0), I) := by
  have h : ∀ j, j < 9 → (Int32.ofNat (kg_len.getD j 0)) >>> ((0 : Int32) &&& 31) = nI (kg_len.getD j 0) := by decide +kernel
  unfold f_J0_length_8abf5 f_J0_coder_7d493
  rw [bndC_s, h j hj]
/-- what reading may touch -/
def rdC (I : kgM) (J : kgM) : Prop := (∀ c, c ≠ 171 → c ≠ 173 → c ≠ 174 → J c = I c) ∧ (∀ x, x ≠ 3 → x ≠ 5 → J 171 x = I 171 x)
theorem rdC.rf {I : kgM} : rdC I I := ⟨fun _ _ _ _ => rfl, fun _ _ _ => rfl⟩
theorem rdC.trans {I J K : kgM} (h1 : rdC I J) (h2 : rdC J K) : rdC I K := ⟨fun c a b d => (h2.1 c a b d).trans (h1.1 c a b d), fun x a b => (h2.2 x a b).trans (h1.2 x a b)⟩
theorem rdC.tx {I J : kgM} (p : rdC I J) {t : Nat → Nat} {L : Nat} (x : TxC t L I) : TxC t L J := ⟨by rw [p.2 4 (by omega) (by omega)]; exact x.1, fun i hi => by rw [p.1 172 (by omega) (by omega) (by omega)]; exact x.2 i hi⟩
/-- a form's reading: the numbers from place p on -/
def fmC (I : kgM) (p h : Nat) (J : kgM) : Prop := rdC I J ∧ J 171 5 = I 171 5 ∧ J 171 3 = nI h ∧ J 173 = I 173 ∧ ∀ x, (x < p ∨ p + 3 ≤ x) → J 174 x = I 174 x
def nuC (p : Nat) (a : List Nat) (J : kgM) : Prop := ∀ i, i < a.length → J 174 (p + i) = nI (a.getD i 0)
theorem drop_cons {l : List Nat} {i : Nat} (h : i < l.length) : l.drop i = l.getD i 0 :: l.drop (i + 1) := by
  rw [List.drop_eq_getElem_cons h, List.getD_eq_getElem?_getD, List.getElem?_eq_getElem h]; rfl
theorem c_form {t : Nat → Nat} {L : Nat} (w : TxW t L) {I : kgM} (tx : TxC t L I) {j p : Nat} (hj : j < 9) (hp : p ≤ 30) (K : kgM → Option (Int32 × kgM)) :
    ∀ q i h (a : List Nat) (I2 : kgM), kg_len.getD j 0 < q + i → i ≤ kg_len.getD j 0 → h ≤ L → a.length + nmC ((fmN j).drop i) ≤ 3 → fmC I p h I2 → nuC p a I2 → ∃ J, fmC I p (rdF t ((fmN j).drop i) h a).1 J ∧ (match (rdF t ((fmN j).drop i) h a).2 with
      | none => f_X1_readForm_L5 j K q (nI (p + a.length)) (nI i) I2 = some (0, J)
      | some b => f_X1_readForm_L5 j K q (nI (p + a.length)) (nI i) I2 = K J ∧ nuC p b J) := by
  have hl := fm_len j hj
  have h60 := w.1
  intro q
  induction q with
  | zero => intro i h a I2 h1 h2; omega
  | succ q ih =>
    intro i h a I2 h1 h2 hh h3 hf hn
    have tx2 := hf.1.tx tx
    rw [f_X1_readForm_L5, c_length hj, bndC_s]
    by_cases e : i = kg_len.getD j 0
    · have : (fmN j).drop i = [] := List.drop_eq_nil_iff.mpr (by omega)
      rw [this]
      exact ⟨I2, hf, by rw [if_pos (by rw [e]; exact Int32.le_refl _)], hn⟩
    · have hi : i < kg_len.getD j 0 := by omega
      obtain ⟨-, -, cb1, cb2⟩ := fm_ch0 j hj i (by omega) hi
      have dc : (fmN j).drop i = (fmN j).getD i 0 :: (fmN j).drop (i + 1) := drop_cons (by omega)
      rw [if_neg (nI_ge hi (by omega)), c_chars hj hi, bndC_s, letJ_s, dc]
      rw [dc] at h3
      generalize (fmN j).getD i 0 = c at cb1 cb2 h3
      have e0 : rdF t (c :: (fmN j).drop (i + 1)) h a = match rd1 t c h with | none => (h, none) | some y => rdF t ((fmN j).drop (i + 1)) y.1 (a ++ y.2) := rfl
      have h3' : a.length + (nmC ((fmN j).drop (i + 1)) + (if isN c = true then 1 else 0)) ≤ 3 := h3
      by_cases n : isN c = true
      · obtain ⟨J, v, g1, g2⟩ := c_number w tx2 hf.2.2.1 (by omega) n
        have body : (if nI c = (35 : Int32) then bndC (f_X1_readNumber (nI c) I2) (fun x3 I3 => (if x3 < 0 then some ((0 : Int32), I3) else (if nI (p + a.length) < (Int32.ofNat 33) then ck (inb (nI (p + a.length)) 33) (bnd (kgW I3 174 (nI (p + a.length)).toNatClampNeg x3) (fun I4 => bnd (nI (p + a.length) + (1 : Int32)) (fun x4 => bnd (nI i + (1 : Int32)) (fun x5 => f_X1_readForm_L5 j K q x4 x5 I4)))) else some ((0 : Int32), I3)))) else (if nI c = (37 : Int32) then bndC (f_X1_readNumber (nI c) I2) (fun x3 I3 => (if x3 < 0 then some ((0 : Int32), I3) else (if nI (p + a.length) < (Int32.ofNat 33) then ck (inb (nI (p + a.length)) 33) (bnd (kgW I3 174 (nI (p + a.length)).toNatClampNeg x3) (fun I4 => bnd (nI (p + a.length) + (1 : Int32)) (fun x4 => bnd (nI i + (1 : Int32)) (fun x5 => f_X1_readForm_L5 j K q x4 x5 I4)))) else some ((0 : Int32), I3)))) else (if nI c = (63 : Int32) then bndC (f_X1_readNumber (nI c) I2) (fun x3 I3 => (if x3 < 0 then some ((0 : Int32), I3) else (if nI (p + a.length) < (Int32.ofNat 33) then ck (inb (nI (p + a.length)) 33) (bnd (kgW I3 174 (nI (p + a.length)).toNatClampNeg x3) (fun I4 => bnd (nI (p + a.length) + (1 : Int32)) (fun x4 => bnd (nI i + (1 : Int32)) (fun x5 => f_X1_readForm_L5 j K q x4 x5 I4)))) else some ((0 : Int32), I3)))) else bndC (f_X1_isAtPlace (nI c) I2) (fun x6 I5 => (if x6 = 0 then some ((0 : Int32), I5) else bnd (kgW I5 171 3 ((I5 171 3) + (1 : Int32))) (fun I6 => bnd (nI i + (1 : Int32)) (fun x7 => f_X1_readForm_L5 j K q (nI (p + a.length)) x7 I6))))))) = bndC (f_X1_readNumber (nI c) I2) (fun x3 I3 => (if x3 < 0 then some ((0 : Int32), I3) else (if nI (p + a.length) < (Int32.ofNat 33) then ck (inb (nI (p + a.length)) 33) (bnd (kgW I3 174 (nI (p + a.length)).toNatClampNeg x3) (fun I4 => bnd (nI (p + a.length) + (1 : Int32)) (fun x4 => bnd (nI i + (1 : Int32)) (fun x5 => f_X1_readForm_L5 j K q x4 x5 I4)))) else some ((0 : Int32), I3)))) := by
          unfold isN at n
          simp only [Bool.or_eq_true, decide_eq_true_eq] at n
          rcases n with (rfl | rfl) | rfl
          · rw [if_pos (by decide)]
          · rw [if_neg (by decide), if_pos (by decide)]
          · rw [if_neg (by decide), if_neg (by decide), if_pos (by decide)]
        dsimp only
        rw [body, g1, bndC_s]
        cases r : rd1 t c h with
        | none =>
          rw [r] at g2 e0
          rw [show rdF t (c :: (fmN j).drop (i + 1)) h a = (h, none) from e0]
          obtain ⟨rfl, rfl⟩ := g2
          exact ⟨J, hf, by show (if (-1 : Int32) < 0 then _ else _) = _; rw [if_pos (by decide)]⟩
        | some y =>
          rw [r] at g2 e0
          rw [show rdF t (c :: (fmN j).drop (i + 1)) h a = rdF t ((fmN j).drop (i + 1)) y.1 (a ++ y.2) from e0]
          obtain ⟨m, k1, rfl, k3⟩ := g2
          have ps := rd1_pos w (by omega) (h2 := y.1) (ns := y.2) r
          rw [if_pos n] at h3'
          rw [if_neg (nI_pos (by have := ps.2.2.2 m (by rw [k1]; exact List.mem_singleton_self _); omega)), if_pos (show nI (p + a.length) < Int32.ofNat 33 from nI_lt (b := 33) (by omega) (by omega)), ck_inb (by omega) (by omega), nI_clamp (by omega), bnd_s, nI_1, bnd_s, nI_1, bnd_s]
          have := ih (i + 1) y.1 (a ++ y.2) (kgW J 174 (p + a.length) (nI m)) (by omega) (by omega) ps.2.1 (by rw [List.length_append, k1]; simp only [List.length_singleton]; omega) ?_ ?_
          · rw [show p + (a ++ y.2).length = p + a.length + 1 by rw [List.length_append, k1]; rfl] at this
            exact this
          · refine ⟨⟨fun c c1 c2 c3 => by rw [kgW_n _ _ _ c3, k3.1 c c1, hf.1.1 c c1 c2 c3], fun x x1 x2 => by rw [kgW_n _ _ _ (by decide), k3.2.1 x x1, hf.1.2 x x1 x2]⟩, by rw [kgW_n _ _ _ (by decide), k3.2.1 5 (by decide)]; exact hf.2.1, by rw [kgW_n _ _ _ (by decide)]; exact k3.2.2, by rw [kgW_n _ _ _ (by decide), k3.1 173 (by decide)]; exact hf.2.2.2.1, fun x hx => ?_⟩
            rw [kgW_r, if_neg (by omega), k3.1 174 (by decide)]
            exact hf.2.2.2.2 x hx
          · intro i2 hi2
            rw [List.length_append, k1] at hi2
            simp only [List.length_singleton] at hi2
            rw [kgW_r, k1]
            by_cases z : i2 = a.length
            · rw [if_pos ⟨rfl, by omega⟩, z]; simp
            · rw [if_neg (by omega), k3.1 174 (by decide), hn i2 (by omega)]
              congr 1
              simp [List.getElem?_append_left (show i2 < a.length by omega)]
      · have n3 : ¬ c = 35 ∧ ¬ c = 37 ∧ ¬ c = 63 := by
          unfold isN at n
          simp at n
          exact ⟨n.1.1, n.1.2, n.2⟩
        have e1 : rd1 t c h = if t h = c then some (h + 1, []) else none := by
          unfold rd1; rw [if_neg n3.1, if_neg n3.2.1, if_neg n3.2.2]
        rw [if_neg n] at h3'
        rw [if_neg (show ¬ nI c = (35 : Int32) from fun z => n3.1 ((nI_eq (b := 35) (by omega) (by omega)).mp z)), if_neg (show ¬ nI c = (37 : Int32) from fun z => n3.2.1 ((nI_eq (b := 37) (by omega) (by omega)).mp z)), if_neg (show ¬ nI c = (63 : Int32) from fun z => n3.2.2 ((nI_eq (b := 63) (by omega) (by omega)).mp z)), c_isAt w tx2 hf.2.2.1 (by omega) (by omega) cb2, bndC_s]
        by_cases d : t h = c
        · have hlt := ne_lt w (by omega) d
          rw [e1, if_pos d] at e0
          rw [show rdF t (c :: (fmN j).drop (i + 1)) h a = rdF t ((fmN j).drop (i + 1)) (h + 1) (a ++ []) from e0, List.append_nil, decide_eq_true d, if_neg (by decide), hf.2.2.1, nI_1, bnd_s, nI_1, bnd_s]
          have k3 := plC_w I2 (h + 1)
          refine ih (i + 1) (h + 1) a (kgW I2 171 3 (nI (h + 1))) (by omega) (by omega) (by omega) (by omega) ?_ ?_
          · exact ⟨⟨fun c c1 c2 c3 => by rw [k3.1 c c1, hf.1.1 c c1 c2 c3], fun x x1 x2 => by rw [k3.2.1 x x1, hf.1.2 x x1 x2]⟩, by rw [k3.2.1 5 (by decide)]; exact hf.2.1, k3.2.2, by rw [k3.1 173 (by decide)]; exact hf.2.2.2.1, fun x hx => by rw [k3.1 174 (by decide)]; exact hf.2.2.2.2 x hx⟩
          · intro i2 hi2
            rw [k3.1 174 (by decide)]
            exact hn i2 hi2
        · rw [e1, if_neg d] at e0
          rw [show rdF t (c :: (fmN j).drop (i + 1)) h a = (h, none) from e0, decide_eq_false d]
          exact ⟨I2, hf, by rw [if_pos (show b2i false = 0 from rfl)]⟩
