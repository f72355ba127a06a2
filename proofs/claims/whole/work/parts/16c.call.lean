def kgCc (F : kgM → Option (Int32 × kgM)) (I : kgM) : Option (Int32 × kgM) := bndC (f_X0_begin I) (fun _ I1 => bndC (F I1) (fun x2 I2 => bndC (f_X4_settle x2 I2) (fun x3 I3 => some (x3, I3))))
def kgMm (G : kgM → Option (Int32 × kgM)) (I : kgM) : Option (Int32 × kgM) := bndC (f_X5_begins I) (fun _ I1 => bndC (G I1) (fun x2 I2 => bndC (f_X5_ends x2 I2) (fun x3 I3 => some (x3, I3))))
theorem OpOK.mono {B B' B'' : Int} {F G : kgM → Option (Int32 × kgM)} (h : OpOK B B' F G) (hB : B' ≤ B'') : OpOK B B'' F G := by
  intro s IC IM a b c d e
  obtain ⟨s', x, JC, JM, h1, h2, h3, h4, h5, h6, h7⟩ := h s IC IM a b c d e
  exact ⟨s', x, JC, JM, h1, h2, h3, h4, h5, pt_mono h6 hB, h7⟩
theorem beg_mod : ∀ b, b < 9 → (nI b + 1) - (nI b + 1) / (9 : Int32) * (9 : Int32) = nI ((b + 1) % 9) := by decide +kernel
theorem min_8 {I : kgM} {n : Nat} (h : n ≤ 8) : f_J9_min_7cf53 (8 : Int32) (nI (n + 1)) I = some (nI (if n = 8 then 8 else n + 1), I) := by
  unfold f_J9_min_7cf53
  by_cases e : n = 8
  · subst e; rw [if_neg (by decide), if_pos rfl]; rfl
  · by_cases e7 : n = 7
    · subst e7; rw [if_neg (by decide), if_neg (by decide)]; rfl
    · rw [if_pos (show nI (n + 1) < (8 : Int32) from nI_lt (b := 8) (by omega) (by omega)), if_neg e]
theorem c_begin {I : kgM} {b : Nat} (hb : b < 9) (h : I 31 1 = nI b) : f_X0_begin I = some (0, cpJ I (33 + 15 * b) 1) := by
  unfold f_X0_begin
  rw [h, ck_inb (by omega) (by omega), nI_clamp (by omega), c_copy I (k1 := 33 + 15 * b) (k2 := 1) (by omega), bndC_s]
theorem c_keep {I : kgM} {b n : Nat} (hb : b < 9) (hn : n ≤ 8) (h1 : I 31 1 = nI b) (h2 : I 31 2 = nI n) : f_X0_keepBegun I = some (0, kgW (kgW I 31 1 (nI ((b + 1) % 9))) 31 2 (nI (if n = 8 then 8 else n + 1))) := by
  unfold f_X0_keepBegun
  have e : kgW I 31 1 (nI ((b + 1) % 9)) 31 2 = nI n := by rw [kgW_r, if_neg (by omega)]; exact h2
  rw [h1, beg_mod b hb, bnd_s, e, nI_1, min_8 hn, bndC_s, bnd_s]
theorem m_begins {I : kgM} : f_X5_begins I = some (0, cpR I 0 10 125) := by
  unfold f_X5_begins
  rw [show f_X5_copies (0 : Int32) (10 : Int32) I = some (0, cpR I 0 10 125) from m_copies (a := 0) (b := 10) (by omega) (by omega), bndC_s]
theorem row_of {I J : kgM} {r r' : Nat} {s : kgS} (hn : kgN s ≤ 10) (h : RepR (kgRow I r') s) (e : ∀ x, x < 125 → J 178 (125 * r + x) = I 178 (125 * r' + x)) : RepR (kgRow J r) s := h.same hn (fun x hx => e x hx)
set_option maxHeartbeats 1000000 in
theorem call_op {F G : kgM → Option (Int32 × kgM)} {q : Nat} (hF : OpOK (bnI q) (bnI q + 2000) F G) : kgSame (Inv q) (Inv (q + 1)) (kgCc F) (kgMm G) := by
  intro I hI
  obtain ⟨⟨s, hG, hR, w, hp⟩, hq, ⟨n, b, e1, e2, e3, e4, e5, e6⟩, ⟨z, f1, f2, f3⟩, hT, hL⟩ := hI
  have hn := w.1
  have hmono : bnI q + 2000 ≤ bnI (q + 1) := by unfold bnI; omega
  have hmono2 : bnI q ≤ bnI (q + 1) := by unfold bnI; omega
  have hdis : 33 + 15 * b + 15 ≤ 1 ∨ 1 + 15 ≤ 33 + 15 * b := by omega
  have hbeg := c_begin e2 e3
  generalize hJ1 : cpJ I (33 + 15 * b) 1 = J1 at hbeg
  have j1 : ∀ c, (c < 33 + 15 * b ∨ 33 + 15 * b + 15 ≤ c) → J1 c = I c := fun c hc => by rw [← hJ1]; exact cpJ_n hdis hc
  have hGb : RepG J1 (33 + 15 * b) s := by rw [← hJ1]; exact cpJ_G hdis hG hn
  have hG1 : RepG J1 1 s := hG.same (fun j hj => j1 _ (by omega))
  have hR1 : RepR (kgRow J1 0) s := row_of hn hR (fun x _ => by rw [j1 178 (by omega)])
  have hq1 : RepQ J1 J1 := hq.kept (fun k a c => j1 k (by omega)) (by rw [j1 177 (by omega)]) (j1 179 (by omega)) (j1 180 (by omega))
  obtain ⟨-, x, JC, -, hFC, -, -, -, -, -, -, hfC, -, -⟩ := hF s J1 J1 hG1 hR1 w hp hq1
  -- the second time: from whatever the class leaves
  have two : ∀ M1 : kgM, RepR (kgRow M1 0) s → M1 177 5 = I 177 5 → M1 179 = I 179 → M1 180 = I 180 → ∃ (s' : kgS) (JM : kgM), G M1 = some (x, JM) ∧ RepG JC 1 s' ∧ RepR (kgRow JM 0) s' ∧ kgWF s' ∧ kgPt (bnI q + 2000) s' ∧ RepQ JC JM ∧ frM M1 JM ∧ (0 ≤ x ∨ (s' = s ∧ (x = -1011 ∨ x = -1012 ∨ (x = -1014 ∧ ∃ d, d ≤ 2 ∧ JC 168 2 = nI d)))) := by
    intro M1 r1 r2 r3 r4
    have hq2 : RepQ J1 M1 := hq1.kept (fun k a c => rfl) (by rw [r2, j1 177 (by omega)]) (by rw [r3, j1 179 (by omega)]) (by rw [r4, j1 180 (by omega)])
    obtain ⟨s', x', JC', JM, g1, g2, g3, g4, g5, g6, g7, g8, g9, g10⟩ := hF s J1 M1 hG1 r1 w hp hq2
    have := hFC.symm.trans g1
    cases this
    exact ⟨s', JM, g2, g3, g4, g5, g6, g7, g9, g10⟩
  have jc : ∀ c, (c = 0 ∨ 16 ≤ c) → c ≠ 168 → c ≠ 169 → c ≠ 170 → JC c = J1 c := hfC
  have hidx : ∀ t, t ≤ 7 → (b + 8 - t) % 9 < 9 ∧ (b + 8 - t) % 9 ≠ b := fun t ht => by omega
  have c31 : ∀ j, JC 31 j = I 31 j := fun j => by rw [jc 31 (by omega) (by omega) (by omega) (by omega), j1 31 (by omega)]
  by_cases hx : 0 ≤ x
  · have hx1 : (-1011 : Int32) < x := by
      rw [lt_t]; rw [le_t] at hx
      have h0 : (0 : Int32).toInt = 0 := rfl
      have h1 : (-1011 : Int32).toInt = -1011 := by decide
      omega
    have hxn : ¬ x < 0 := by
      rw [lt_t]; rw [le_t] at hx; omega
    have hset : f_X4_settle x JC = some (x, kgW (kgW JC 31 1 (nI ((b + 1) % 9))) 31 2 (nI (if n = 8 then 8 else n + 1))) := by
      unfold f_X4_settle
      rw [if_neg hxn, c_keep e2 e1 (by rw [c31]; exact e3) (by rw [c31]; exact e4), bndC_s]
    generalize hJ3 : kgW (kgW JC 31 1 (nI ((b + 1) % 9))) 31 2 (nI (if n = 8 then 8 else n + 1)) = J3 at hset
    have j3 : ∀ c, c ≠ 31 → J3 c = JC c := fun c hc => by rw [← hJ3, kgW_n _ _ _ hc, kgW_n _ _ _ hc]
    have j31 : J3 31 1 = nI ((b + 1) % 9) ∧ J3 31 2 = nI (if n = 8 then 8 else n + 1) := by
      rw [← hJ3]
      refine ⟨?_, ?_⟩
      · rw [kgW_r, if_neg (by omega), kgW_r, if_pos ⟨rfl, rfl⟩]
      · rw [kgW_r, if_pos ⟨rfl, rfl⟩]
    have j3I : ∀ c, c ≠ 31 → (c = 0 ∨ 16 ≤ c) → c ≠ 168 → c ≠ 169 → c ≠ 170 → (c < 33 + 15 * b ∨ 33 + 15 * b + 15 ≤ c) → J3 c = I c := fun c h1 h2 h3 h4 h5 h6 => by rw [j3 c h1, jc c h2 h3 h4 h5, j1 c h6]
    have mv := cpR_mv (I := J3) (a := 0) (b := 10) (by omega)
    have hmb := m_begins (I := J3)
    generalize hM1 : cpR J3 0 10 125 = M1 at hmb mv
    have m1r : ∀ r j, j < 125 → M1 178 (125 * r + j) = if r = 10 then I 178 (125 * 0 + j) else I 178 (125 * r + j) := fun r j hj => by
      rw [mv.2 r j hj, j3I 178 (by omega) (by omega) (by omega) (by omega) (by omega) (by omega)]
    have m1c : ∀ c, c ≠ 178 → M1 c = J3 c := mv.1
    obtain ⟨s', JM, g2, g3, g4, g5, g6, g7, g9, g10⟩ := two M1 (row_of hn hR (fun x hx => by rw [m1r 0 x hx, if_neg (by omega)])) (by rw [m1c 177 (by omega), j3I 177 (by omega) (by omega) (by omega) (by omega) (by omega) (by omega)]) (by rw [m1c 179 (by omega), j3I 179 (by omega) (by omega) (by omega) (by omega) (by omega) (by omega)]) (by rw [m1c 180 (by omega), j3I 180 (by omega) (by omega) (by omega) (by omega) (by omega) (by omega)])
    have jm177 : ∀ j, j ≠ 5 → JM 177 j = I 177 j := fun j hj => by rw [g9.2.1 j hj, m1c 177 (by omega), j3I 177 (by omega) (by omega) (by omega) (by omega) (by omega) (by omega)]
    have jmr : ∀ r j, 1 ≤ r → j < 125 → JM 178 (125 * r + j) = if r = 10 then I 178 (125 * 0 + j) else I 178 (125 * r + j) := fun r j hr hj => by rw [g9.2.2 _ (by omega), m1r r j hj]
    obtain ⟨M3, k1, k2, k3, k4, k5⟩ := m_ends_pos (I := JM) (x := x) (n := n) hx1 e1 (by rw [jm177 1 (by omega)]; exact e5)
    have m3 : ∀ c, c ≠ 177 → c ≠ 178 → c ≠ 179 → c ≠ 180 → M3 c = J3 c := fun c h1 h2 h3 h4 => by rw [k4 c h1 h2, g9.1 c h1 h2 h3 h4, m1c c h2]
    have hn' : (if n = 8 then 8 else n + 1) ≤ 8 ∧ 1 ≤ (if n = 8 then 8 else n + 1) := by split <;> omega
    refine ⟨x, J3, M3, ?_, ?_, ⟨s', g3.same (fun j hj => by rw [m3 _ (by omega) (by omega) (by omega) (by omega), j3 _ (by omega)]), row_of g5.1 g4 (fun y hy => ?_), g5, pt_mono g6 hmono⟩, ?_, ?_, ?_, ?_, ?_⟩
    · unfold kgCc; rw [hbeg, bndC_s, hFC, bndC_s, hset, bndC_s]
    · unfold kgMm; rw [hmb, bndC_s, g2, bndC_s, k1, bndC_s]
    · rw [k5 0 y hy, if_neg (by omega), if_neg (by omega)]
    · exact g7.kept (fun k h1 h2 => by rw [m3 k (by omega) (by omega) (by omega) (by omega), j3 k (by omega)]) (k3 5 (by omega)) (k4 179 (by omega) (by omega)) (k4 180 (by omega) (by omega))
    · refine ⟨(if n = 8 then 8 else n + 1), (b + 1) % 9, hn'.1, by omega, by rw [m3 31 (by omega) (by omega) (by omega) (by omega)]; exact j31.1, by rw [m3 31 (by omega) (by omega) (by omega) (by omega)]; exact j31.2, k2, fun i hi1 hi2 => ?_⟩
      by_cases ei : i = (if n = 8 then 8 else n + 1)
      · have hb' : ((b + 1) % 9 + 8 - ((if n = 8 then 8 else n + 1) - i)) % 9 = b := by rw [← ei]; omega
        rw [hb']
        refine ⟨s, hGb.same (fun j hj => by rw [m3 _ (by omega) (by omega) (by omega) (by omega), j3 _ (by omega), jc _ (by omega) (by omega) (by omega) (by omega)]), row_of hn hR (fun y hy => ?_), w, pt_mono hp hmono2⟩
        rw [k5 i y hy, if_pos ei, jmr 10 y (by omega) hy, if_pos rfl]
      · have hi3 : i < (if n = 8 then 8 else n + 1) := by omega
        obtain ⟨i0, hi0, hi1', hidx0, hrow⟩ : ∃ i0, i0 ≤ n ∧ 1 ≤ i0 ∧ ((b + 1) % 9 + 8 - ((if n = 8 then 8 else n + 1) - i)) % 9 = (b + 8 - (n - i0)) % 9 ∧ ∀ y, y < 125 → M3 178 (125 * i + y) = I 178 (125 * i0 + y) := by
          by_cases e8 : n = 8
          · rw [if_pos e8] at hi3 ei
            refine ⟨i + 1, by omega, by omega, by rw [if_pos e8]; omega, fun y hy => ?_⟩
            rw [k5 i y hy, if_pos e8, if_neg (by omega), if_pos ⟨e8, by omega, by omega⟩, jmr (i + 1) y (by omega) hy, if_neg (by omega)]
          · rw [if_neg e8] at hi3 ei
            refine ⟨i, by omega, by omega, by rw [if_neg e8]; omega, fun y hy => ?_⟩
            rw [k5 i y hy, if_neg e8, if_neg (by omega), if_neg (fun z => e8 z.1), jmr i y (by omega) hy, if_neg (by omega)]
        rw [hidx0]
        have hx0 := hidx (n - i0) (by omega)
        refine ((e6 i0 hi1' hi0).mono hmono2).kept (fun j hj => ?_) hrow
        rw [m3 _ (by omega) (by omega) (by omega) (by omega), j3I _ (by omega) (by omega) (by omega) (by omega) (by omega) (by omega)]
    · refine ⟨z, by rw [m3 0 (by omega) (by omega) (by omega) (by omega), j3I 0 (by omega) (by omega) (by omega) (by omega) (by omega) (by omega)]; exact f1, by rw [k3 2 (by omega), jm177 2 (by omega)]; exact f2, fun hz => ((f3 hz).mono hmono2).kept (fun j hj => ?_) (fun y hy => ?_)⟩
      · rw [m3 _ (by omega) (by omega) (by omega) (by omega), j3I _ (by omega) (by omega) (by omega) (by omega) (by omega) (by omega)]
      · rw [k5 9 y hy, if_neg (by omega), if_neg (by omega), jmr 9 y (by omega) hy, if_neg (by omega)]
    · exact hT.kept (by rw [m3 171 (by omega) (by omega) (by omega) (by omega), j3I 171 (by omega) (by omega) (by omega) (by omega) (by omega) (by omega)]) (by rw [m3 172 (by omega) (by omega) (by omega) (by omega), j3I 172 (by omega) (by omega) (by omega) (by omega) (by omega) (by omega)]) (by rw [k3 7 (by omega), jm177 7 (by omega)]) (by rw [m3 181 (by omega) (by omega) (by omega) (by omega), j3I 181 (by omega) (by omega) (by omega) (by omega) (by omega) (by omega)])
    · exact hL.kept (by rw [m3 175 (by omega) (by omega) (by omega) (by omega), j3I 175 (by omega) (by omega) (by omega) (by omega) (by omega) (by omega)]) (by rw [m3 176 (by omega) (by omega) (by omega) (by omega), j3I 176 (by omega) (by omega) (by omega) (by omega) (by omega) (by omega)]) (by rw [k3 13 (by omega), jm177 13 (by omega)]) (by rw [m3 183 (by omega) (by omega) (by omega) (by omega), j3I 183 (by omega) (by omega) (by omega) (by omega) (by omega) (by omega)])
  · have hxn : x < 0 := by
      rw [lt_t]; rw [le_t] at hx; omega
    have hset : f_X4_settle x JC = some (x, JC) := by
      unfold f_X4_settle
      rw [if_pos hxn]
    have j3I : ∀ c, (c = 0 ∨ 16 ≤ c) → c ≠ 168 → c ≠ 169 → c ≠ 170 → (c < 33 + 15 * b ∨ 33 + 15 * b + 15 ≤ c) → JC c = I c := fun c h2 h3 h4 h5 h6 => by rw [jc c h2 h3 h4 h5, j1 c h6]
    have mv := cpR_mv (I := JC) (a := 0) (b := 10) (by omega)
    have hmb := m_begins (I := JC)
    generalize hM1 : cpR JC 0 10 125 = M1 at hmb mv
    have m1r : ∀ r j, j < 125 → M1 178 (125 * r + j) = if r = 10 then I 178 (125 * 0 + j) else I 178 (125 * r + j) := fun r j hj => by
      rw [mv.2 r j hj, j3I 178 (by omega) (by omega) (by omega) (by omega) (by omega)]
    have m1c : ∀ c, c ≠ 178 → M1 c = JC c := mv.1
    obtain ⟨s', JM, g2, g3, g4, g5, g6, g7, g9, g10⟩ := two M1 (row_of hn hR (fun x hx => by rw [m1r 0 x hx, if_neg (by omega)])) (by rw [m1c 177 (by omega), j3I 177 (by omega) (by omega) (by omega) (by omega) (by omega)]) (by rw [m1c 179 (by omega), j3I 179 (by omega) (by omega) (by omega) (by omega) (by omega)]) (by rw [m1c 180 (by omega), j3I 180 (by omega) (by omega) (by omega) (by omega) (by omega)])
    have hcode : s' = s ∧ ¬ (-1011 : Int32) < x := by
      rcases g10 with h | ⟨h1, h2⟩
      · exact absurd h hx
      · refine ⟨h1, ?_⟩
        rcases h2 with rfl | rfl | ⟨rfl, -⟩ <;> decide
    obtain ⟨rfl, hcode⟩ := hcode
    have jm177 : ∀ j, j ≠ 5 → JM 177 j = I 177 j := fun j hj => by rw [g9.2.1 j hj, m1c 177 (by omega), j3I 177 (by omega) (by omega) (by omega) (by omega) (by omega)]
    have jmr : ∀ r j, 1 ≤ r → j < 125 → JM 178 (125 * r + j) = if r = 10 then I 178 (125 * 0 + j) else I 178 (125 * r + j) := fun r j hr hj => by rw [g9.2.2 _ (by omega), m1r r j hj]
    have k1 := m_ends_neg (I := JM) hcode
    have kv := cpR_mv (I := JM) (a := 10) (b := 0) (by omega)
    generalize hM3 : cpR JM 10 0 125 = M3 at k1 kv
    have k4 : ∀ c, c ≠ 178 → M3 c = JM c := kv.1
    have k5 : ∀ r j, j < 125 → M3 178 (125 * r + j) = if r = 0 ∨ r = 10 then I 178 (125 * 0 + j) else I 178 (125 * r + j) := fun r j hj => by
      rw [kv.2 r j hj]
      by_cases r0 : r = 0
      · rw [if_pos r0, if_pos (Or.inl r0), jmr 10 j (by omega) hj, if_pos rfl]
      · rw [if_neg r0, jmr r j (by omega) hj]
        by_cases r1 : r = 10
        · rw [if_pos r1, if_pos (Or.inr r1)]
        · rw [if_neg r1, if_neg (by omega)]
    have m3 : ∀ c, c ≠ 177 → c ≠ 178 → c ≠ 179 → c ≠ 180 → M3 c = JC c := fun c h1 h2 h3 h4 => by rw [k4 c h2, g9.1 c h1 h2 h3 h4, m1c c h2]
    refine ⟨x, JC, M3, ?_, ?_, ⟨s', g3.same (fun j hj => by rw [m3 _ (by omega) (by omega) (by omega) (by omega)]), row_of hn hR (fun y hy => ?_), w, pt_mono hp hmono2⟩, ?_, ?_, ?_, ?_, ?_⟩
    · unfold kgCc; rw [hbeg, bndC_s, hFC, bndC_s, hset, bndC_s]
    · unfold kgMm; rw [hmb, bndC_s, g2, bndC_s, k1, bndC_s]
    · rw [k5 0 y hy, if_pos (Or.inl rfl)]
    · exact g7.kept (fun k h1 h2 => by rw [m3 k (by omega) (by omega) (by omega) (by omega)]) (by rw [k4 177 (by omega)]) (k4 179 (by omega)) (k4 180 (by omega))
    · refine ⟨n, b, e1, e2, by rw [m3 31 (by omega) (by omega) (by omega) (by omega), c31]; exact e3, by rw [m3 31 (by omega) (by omega) (by omega) (by omega), c31]; exact e4, by rw [k4 177 (by omega), jm177 1 (by omega)]; exact e5, fun i hi1 hi2 => ?_⟩
      have hx0 := hidx (n - i) (by omega)
      refine ((e6 i hi1 hi2).mono hmono2).kept (fun j hj => ?_) (fun y hy => by rw [k5 i y hy, if_neg (by omega)])
      rw [m3 _ (by omega) (by omega) (by omega) (by omega), j3I _ (by omega) (by omega) (by omega) (by omega) (by omega)]
    · refine ⟨z, by rw [m3 0 (by omega) (by omega) (by omega) (by omega), j3I 0 (by omega) (by omega) (by omega) (by omega) (by omega)]; exact f1, by rw [k4 177 (by omega), jm177 2 (by omega)]; exact f2, fun hz => ((f3 hz).mono hmono2).kept (fun j hj => ?_) (fun y hy => ?_)⟩
      · rw [m3 _ (by omega) (by omega) (by omega) (by omega), j3I _ (by omega) (by omega) (by omega) (by omega) (by omega)]
      · rw [k5 9 y hy, if_neg (by omega)]
    · exact hT.kept (by rw [m3 171 (by omega) (by omega) (by omega) (by omega), j3I 171 (by omega) (by omega) (by omega) (by omega) (by omega)]) (by rw [m3 172 (by omega) (by omega) (by omega) (by omega), j3I 172 (by omega) (by omega) (by omega) (by omega) (by omega)]) (by rw [k4 177 (by omega), jm177 7 (by omega)]) (by rw [m3 181 (by omega) (by omega) (by omega) (by omega), j3I 181 (by omega) (by omega) (by omega) (by omega) (by omega)])
    · exact hL.kept (by rw [m3 175 (by omega) (by omega) (by omega) (by omega), j3I 175 (by omega) (by omega) (by omega) (by omega) (by omega)]) (by rw [m3 176 (by omega) (by omega) (by omega) (by omega), j3I 176 (by omega) (by omega) (by omega) (by omega) (by omega)]) (by rw [k4 177 (by omega), jm177 13 (by omega)]) (by rw [m3 183 (by omega) (by omega) (by omega) (by omega), j3I 183 (by omega) (by omega) (by omega) (by omega) (by omega)])
