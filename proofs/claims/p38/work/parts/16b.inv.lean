/-! WHAT HOLDS BETWEEN CALLS -/
def Pair (B : Int) (I : kgM) (c r : Nat) : Prop := ∃ u, RepG I c u ∧ RepR (kgRow I r) u ∧ kgWF u ∧ kgPt B u
def InvH (B : Int) (I : kgM) : Prop := ∃ n b, n ≤ 8 ∧ b < 9 ∧ I 31 1 = nI b ∧ I 31 2 = nI n ∧ I 177 1 = nI n ∧ ∀ i, 1 ≤ i → i ≤ n → Pair B I (33 + 15 * ((b + 8 - (n - i)) % 9)) i
def InvS (B : Int) (I : kgM) : Prop := ∃ z : Bool, I 0 6 = b2i z ∧ I 177 2 = b2i z ∧ (z = true → Pair B I 16 9)
def InvT (I : kgM) : Prop := ∃ L, L ≤ 60 ∧ I 171 4 = nI L ∧ I 177 7 = nI L ∧ ∀ i, i < L → I 172 i = I 181 i ∧ ∃ ch, 32 ≤ ch ∧ ch < 127 ∧ I 172 i = nI ch
def InvL (I : kgM) : Prop := ∃ n, n ≤ 34 ∧ I 175 3 = nI n ∧ I 177 13 = nI n ∧ I 175 1 = 0 ∧ ∀ i, i < n → ∃ ch, 32 ≤ ch ∧ ch < 127 ∧ I 176 i = nI ch ∧ I 183 i = nI ch
def bnI (q : Nat) : Int := 25000 * (q : Int)
def Inv (q : Nat) (I : kgM) : Prop := Pair (bnI q) I 1 0 ∧ RepQ I I ∧ InvH (bnI q) I ∧ InvS (bnI q) I ∧ InvT I ∧ InvL I
theorem Pair.mono {B B' : Int} {I : kgM} {c r : Nat} (h : Pair B I c r) (hB : B ≤ B') : Pair B' I c r := by
  obtain ⟨u, a, b, c, d⟩ := h
  exact ⟨u, a, b, c, pt_mono d hB⟩
theorem Pair.kept {B : Int} {I J : kgM} {c r r' : Nat} (h : Pair B I c r') (hc : ∀ j, j < 15 → J (c + j) = I (c + j)) (hr : ∀ x, x < 125 → J 178 (125 * r + x) = I 178 (125 * r' + x)) : Pair B J c r := by
  obtain ⟨u, a, b, e, d⟩ := h
  exact ⟨u, a.same hc, b.same e.1 (fun x hx => hr x hx), e, d⟩
theorem Inv.mono {q : Nat} {I : kgM} (h : Inv q I) : Inv (q + 1) I := by
  have hb : bnI q ≤ bnI (q + 1) := by unfold bnI; omega
  obtain ⟨h1, h2, ⟨n, b, e1, e2, e3, e4, e5, e6⟩, ⟨z, f1, f2, f3⟩, h5, h6⟩ := h
  exact ⟨h1.mono hb, h2, ⟨n, b, e1, e2, e3, e4, e5, fun i a c => (e6 i a c).mono hb⟩, ⟨z, f1, f2, fun h => (f3 h).mono hb⟩, h5, h6⟩
theorem InvT.kept {I J : kgM} (h : InvT I) (h1 : J 171 4 = I 171 4) (h2 : J 172 = I 172) (h3 : J 177 7 = I 177 7) (h4 : J 181 = I 181) : InvT J := by
  obtain ⟨L, a, b, c, d⟩ := h
  exact ⟨L, a, by rw [h1]; exact b, by rw [h3]; exact c, fun i hi => by rw [h2, h4]; exact d i hi⟩
theorem InvL.kept {I J : kgM} (h : InvL I) (h1 : J 175 = I 175) (h2 : J 176 = I 176) (h3 : J 177 13 = I 177 13) (h4 : J 183 = I 183) : InvL J := by
  obtain ⟨L, a, b, c, d, e⟩ := h
  exact ⟨L, a, by rw [h1]; exact b, by rw [h3]; exact c, by rw [h1]; exact d, fun i hi => by rw [h2, h4]; exact e i hi⟩
/-! the reference's end of a change -/
theorem m_ends_neg {I : kgM} {x : Int32} (hx : ¬ (-1011 : Int32) < x) : f_X5_ends x I = some (x, cpR I 10 0 125) := by
  unfold f_X5_ends
  rw [if_neg hx, show f_X5_copies (10 : Int32) (0 : Int32) I = some (0, cpR I 10 0 125) from m_copies (a := 10) (b := 0) (by omega) (by omega), bndC_s]
theorem m_shift {I : kgM} {x : Int32} (KK : kgM → Option (Int32 × kgM)) (Q : Option (Int32 × kgM) → Prop) (hQ : ∀ y : kgM, (∀ c, c ≠ 178 → y c = I c) → (∀ r j, j < 125 → y 178 (125 * r + j) = if 1 ≤ r ∧ r < 8 then I 178 (125 * (r + 1) + j) else I 178 (125 * r + j)) → Q (KK y)) :
    ∀ q k (y : kgM), 1 ≤ k → k ≤ 8 → 8 < q + k → (∀ c, c ≠ 178 → y c = I c) → (∀ r j, j < 125 → y 178 (125 * r + j) = if 1 ≤ r ∧ r < k then I 178 (125 * (r + 1) + j) else I 178 (125 * r + j)) → Q (f_X5_ends_L27 x KK q (nI k) y) := by
  intro q
  induction q with
  | zero => intro k y h0 h1 h2; omega
  | succ q ih =>
    intro k y h0 h1 h2 hf hr
    by_cases e : k = 8
    · subst e
      rw [f_X5_ends_L27, if_pos (show (8 : Int32) ≤ nI 8 from Int32.le_refl _)]
      exact hQ y hf hr
    · rw [f_X5_ends_L27, if_neg (show ¬ (8 : Int32) ≤ nI k from nI_ge (b := 8) (by omega) (by omega)), nI_1, m_copies (a := k + 1) (b := k) (by omega) (by omega), bndC_s, bnd_s]
      have mv := cpR_mv (I := y) (a := k + 1) (b := k) (by omega)
      refine ih (k + 1) _ (by omega) (by omega) (by omega) (fun c hc => by rw [mv.1 c hc, hf c hc]) (fun r j hj => ?_)
      rw [mv.2 r j hj]
      by_cases e2 : r = k
      · rw [if_pos e2, hr (k + 1) j hj, if_neg (by omega), if_pos (by omega), e2]
      · rw [if_neg e2, hr r j hj]
        by_cases e3 : 1 ≤ r ∧ r < k
        · rw [if_pos e3, if_pos (by omega)]
        · rw [if_neg e3, if_neg (by omega)]
theorem m_ends_pos {I : kgM} {x : Int32} {n : Nat} (hx : (-1011 : Int32) < x) (hn : n ≤ 8) (hI : I 177 1 = nI n) : ∃ J, f_X5_ends x I = some (x, J) ∧ J 177 1 = nI (if n = 8 then 8 else n + 1) ∧ (∀ j, j ≠ 1 → J 177 j = I 177 j) ∧ (∀ c, c ≠ 177 → c ≠ 178 → J c = I c) ∧
    ∀ r j, j < 125 → J 178 (125 * r + j) = if r = (if n = 8 then 8 else n + 1) then I 178 (125 * 10 + j) else if n = 8 ∧ 1 ≤ r ∧ r < 8 then I 178 (125 * (r + 1) + j) else I 178 (125 * r + j) := by
  unfold f_X5_ends
  rw [if_pos hx, letJ_s]
  dsimp only
  have fin : ∀ (y : kgM) (k : Nat), k < 8 → y 177 1 = nI k → ∃ J, (bnd (kgW y 177 1 ((y 177 1) + (1 : Int32))) (fun I1 => bndC (f_X5_copies (10 : Int32) (I1 177 1) I1) (fun x1 I2 => some (x, I2)))) = some (x, J) ∧ J 177 1 = nI (k + 1) ∧ (∀ j, j ≠ 1 → J 177 j = y 177 j) ∧ (∀ c, c ≠ 177 → c ≠ 178 → J c = y c) ∧ ∀ r j, j < 125 → J 178 (125 * r + j) = if r = k + 1 then y 178 (125 * 10 + j) else y 178 (125 * r + j) := by
    intro y k hk hy
    have mv := cpR_mv (I := kgW y 177 1 (nI (k + 1))) (a := 10) (b := k + 1) (by omega)
    refine ⟨_, by rw [hy, nI_1, bnd_s, show kgW y 177 1 (nI (k + 1)) 177 1 = nI (k + 1) from by rw [kgW_r, if_pos ⟨rfl, rfl⟩], show f_X5_copies (10 : Int32) (nI (k + 1)) _ = some (0, _) from m_copies (a := 10) (b := k + 1) (by omega) (by omega), bndC_s], ?_, fun j hj => ?_, fun c h1 h2 => ?_, fun r j hj => ?_⟩
    · rw [mv.1 177 (by decide), kgW_r, if_pos ⟨rfl, rfl⟩]
    · rw [mv.1 177 (by decide), kgW_r, if_neg (fun z => hj z.2)]
    · rw [mv.1 c h2, kgW_n _ _ _ h1]
    · rw [mv.2 r j hj, kgW_n y (k := 177) (a := 178) 1 _ (by decide)]
  by_cases e : n = 8
  · subst e
    rw [hI, if_pos (show nI 8 = (8 : Int32) from rfl)]
    refine m_shift (I := I) (x := x) _ (fun r => ∃ J, r = some (x, J) ∧ J 177 1 = nI (if 8 = 8 then 8 else 8 + 1) ∧ (∀ j, j ≠ 1 → J 177 j = I 177 j) ∧ (∀ c, c ≠ 177 → c ≠ 178 → J c = I c) ∧ ∀ r j, j < 125 → J 178 (125 * r + j) = if r = (if 8 = 8 then 8 else 8 + 1) then I 178 (125 * 10 + j) else if 8 = 8 ∧ 1 ≤ r ∧ r < 8 then I 178 (125 * (r + 1) + j) else I 178 (125 * r + j)) (fun y hf hr => ?_) 200 1 I (by omega) (by omega) (by omega) (fun _ _ => rfl) (fun r j hj => by rw [if_neg (by omega)])
    have e1 : y 177 1 - 1 = nI 7 := by rw [hf 177 (by decide), hI]; exact nI_pred 7
    rw [bnd_s, e1]
    obtain ⟨J, g1, g2, g3, g4, g5⟩ := fin (kgW y 177 1 (nI 7)) 7 (by omega) (by rw [kgW_r, if_pos ⟨rfl, rfl⟩])
    refine ⟨J, g1, g2, fun j hj => ?_, fun c h1 h2 => ?_, fun r j hj => ?_⟩
    · rw [g3 j hj, kgW_r, if_neg (fun z => hj z.2), hf 177 (by decide)]
    · rw [g4 c h1 h2, kgW_n _ _ _ h1, hf c h2]
    · rw [g5 r j hj, if_pos rfl, kgW_n y (k := 177) (a := 178) 1 _ (by decide), hr 10 j hj, hr r j hj, if_neg (show ¬ (1 ≤ 10 ∧ 10 < 8) by omega)]
      by_cases q : r = 8
      · rw [if_pos q, if_pos q]
      · rw [if_neg q, if_neg q]
        by_cases q2 : 1 ≤ r ∧ r < 8
        · rw [if_pos q2, if_pos ⟨rfl, q2⟩]
        · rw [if_neg q2, if_neg (fun z => q2 z.2)]
  · rw [if_neg (show ¬ I 177 1 = (8 : Int32) from fun h => e ((nI_eq (b := 8) (by omega) (by omega)).mp (hI.symm.trans h)))]
    obtain ⟨J, g1, g2, g3, g4, g5⟩ := fin I n (by omega) hI
    refine ⟨J, g1, by rw [if_neg e]; exact g2, g3, g4, fun r j hj => ?_⟩
    rw [g5 r j hj, if_neg e, if_neg (show ¬ (n = 8 ∧ 1 ≤ r ∧ r < 8) from fun z => e z.1)]

