theorem und_mod : ∀ b, b < 9 → (nI b + 8) - (nI b + 8) / (9 : Int32) * (9 : Int32) = nI ((b + 8) % 9) := by decide +kernel
theorem max_0 {I : kgM} {n : Nat} (h : n ≤ 8) : f_J9_max_7cf53 (0 : Int32) (nI n) I = some (nI n, I) := by
  unfold f_J9_max_7cf53
  by_cases e : n = 0
  · subst e; rw [if_neg (by decide)]; rfl
  · rw [if_pos (show (0 : Int32) < nI n from nI_lt (a := 0) (by omega) (by omega))]
theorem ok_undo {q : Nat} : kgSame (Inv q) (Inv (q + 1)) (fun I => f_X4_undo I) (fun I => f_X5_undo I) := by
  intro I hI
  by_cases h0 : I 31 2 = 0
  · have hI0 := hI
    obtain ⟨hP, hq, ⟨n, b, e1, e2, e3, e4, e5, e6⟩, hS, hT, hL⟩ := hI
    refine ⟨-1015, I, I, ?_, ?_, hI0.mono⟩
    · show f_X4_undo I = _
      unfold f_X4_undo; rw [if_pos h0]
    · show f_X5_undo I = _
      unfold f_X5_undo; rw [if_pos (by rw [e5, ← e4]; exact h0)]
  · obtain ⟨hP, hq, ⟨n, b, e1, e2, e3, e4, e5, e6⟩, ⟨z, f1, f2, f3⟩, hT, hL⟩ := hI
    have hn0 : n ≠ 0 := fun h => h0 (by rw [e4, h]; rfl)
    obtain ⟨n, rfl⟩ : ∃ m, n = m + 1 := ⟨n - 1, by omega⟩
    have hmono2 : bnI q ≤ bnI (q + 1) := by unfold bnI; omega
    obtain ⟨u, uG, uR, uw, up⟩ := e6 (n + 1) (by omega) (Nat.le_refl _)
    rw [show (b + 8 - (n + 1 - (n + 1))) % 9 = (b + 8) % 9 by omega] at uG
    have hb' : (b + 8) % 9 < 9 := by omega
    have hdis : 1 + 15 ≤ 33 + 15 * ((b + 8) % 9) ∨ 33 + 15 * ((b + 8) % 9) + 15 ≤ 1 := by omega
    generalize hI2 : kgW (kgW I 31 1 (nI ((b + 8) % 9))) 31 2 (nI n) = I2
    have i2 : ∀ c, c ≠ 31 → I2 c = I c := fun c hc => by rw [← hI2, kgW_n _ _ _ hc, kgW_n _ _ _ hc]
    have i31 : I2 31 1 = nI ((b + 8) % 9) ∧ I2 31 2 = nI n := by
      rw [← hI2]
      exact ⟨by rw [kgW_r, if_neg (by omega), kgW_r, if_pos ⟨rfl, rfl⟩], by rw [kgW_r, if_pos ⟨rfl, rfl⟩]⟩
    have uG2 : RepG I2 (33 + 15 * ((b + 8) % 9)) u := uG.same (fun j hj => i2 _ (by omega))
    generalize hJ : cpJ I2 1 (33 + 15 * ((b + 8) % 9)) = J
    have jG : RepG J 1 u := by rw [← hJ]; exact cpJ_G hdis uG2 uw.1
    have j2 : ∀ c, (c < 1 ∨ 16 ≤ c) → J c = I2 c := fun c hc => by rw [← hJ]; exact cpJ_n hdis hc
    have jI : ∀ c, (c < 1 ∨ 16 ≤ c) → c ≠ 31 → J c = I c := fun c h1 h2 => by rw [j2 c h1, i2 c h2]
    have j177 : J 177 = I 177 := jI 177 (by omega) (by omega)
    have mv := cpR_mv (I := J) (a := n + 1) (b := 0) (by omega)
    have hmc := m_copies (I := J) (a := n + 1) (b := 0) (by omega) (by omega)
    generalize hM : cpR J (n + 1) 0 125 = M at mv hmc
    have m1 : ∀ c, c ≠ 178 → M c = J c := mv.1
    have m2 : ∀ r j, j < 125 → M 178 (125 * r + j) = if r = 0 then I 178 (125 * (n + 1) + j) else I 178 (125 * r + j) := fun r j hj => by rw [mv.2 r j hj, jI 178 (by omega) (by omega)]
    refine ⟨nI n, J, kgW M 177 1 (nI n), ?_, ?_, ⟨u, jG.same (fun j hj => by rw [kgW_n _ _ _ (by omega), m1 _ (by omega)]), row_of uw.1 uR (fun y hy => by rw [kgW_n M (k := 177) (a := 178) 1 _ (by decide), m2 0 y hy, if_pos rfl]), uw, pt_mono up hmono2⟩, ?_, ?_, ?_, ?_, ?_⟩
    · show f_X4_undo I = _
      unfold f_X4_undo f_X0_takeBackLatest
      have g2 : kgW I 31 1 (nI ((b + 8) % 9)) 31 2 = nI (n + 1) := by rw [kgW_r, if_neg (by omega)]; exact e4
      have g3 : nI (n + 1) - 1 = nI n := nI_pred n
      rw [if_neg h0, e3, und_mod b e2, bnd_s, g2, g3, max_0 (by omega), bndC_s, bnd_s, hI2, i31.1, ck_inb (by omega) (by omega), nI_clamp (by omega), c_copy I2 hdis, hJ, bndC_s, bndC_s, j2 31 (by omega), i31.2]
    · show f_X5_undo J = _
      unfold f_X5_undo
      rw [if_neg (show ¬ J 177 1 = 0 by rw [j177, e5]; exact nI_ne0 (by omega) (by omega)), j177, e5, show f_X5_copies (nI (n + 1)) 0 J = some (0, M) from hmc, bndC_s, m1 177 (by omega), j177, e5, show nI (n + 1) - 1 = nI n from nI_pred n, bnd_s, kgW_r, if_pos ⟨rfl, rfl⟩]
    · refine hq.kept (fun k h1 h2 => by rw [kgW_n _ _ _ (by omega), m1 _ (by omega), jI _ (by omega) (by omega)]) (by rw [kgW_r, if_neg (by omega), m1 _ (by omega), j177]) (by rw [kgW_n _ _ _ (by omega), m1 _ (by omega), jI _ (by omega) (by omega)]) (by rw [kgW_n _ _ _ (by omega), m1 _ (by omega), jI _ (by omega) (by omega)])
    · refine ⟨n, (b + 8) % 9, by omega, hb', by rw [kgW_n _ _ _ (by omega), m1 _ (by omega), j2 _ (by omega)]; exact i31.1, by rw [kgW_n _ _ _ (by omega), m1 _ (by omega), j2 _ (by omega)]; exact i31.2, by rw [kgW_r, if_pos ⟨rfl, rfl⟩], fun i h1 h2 => ?_⟩
      rw [show ((b + 8) % 9 + 8 - (n - i)) % 9 = (b + 8 - (n + 1 - i)) % 9 by omega]
      refine ((e6 i h1 (by omega)).mono hmono2).kept (fun j hj => by rw [kgW_n _ _ _ (by omega), m1 _ (by omega), jI _ (by omega) (by omega)]) (fun y hy => by rw [kgW_n M (k := 177) (a := 178) 1 _ (by decide), m2 i y hy, if_neg (by omega)])
    · refine ⟨z, by rw [kgW_n _ _ _ (by omega), m1 _ (by omega), jI _ (by omega) (by omega)]; exact f1, by rw [kgW_r, if_neg (by omega), m1 _ (by omega), j177]; exact f2, fun hz => ((f3 hz).mono hmono2).kept (fun j hj => by rw [kgW_n _ _ _ (by omega), m1 _ (by omega), jI _ (by omega) (by omega)]) (fun y hy => by rw [kgW_n M (k := 177) (a := 178) 1 _ (by decide), m2 9 y hy, if_neg (by omega)])⟩
    · exact hT.kept (by rw [kgW_n _ _ _ (by omega), m1 _ (by omega), jI _ (by omega) (by omega)]) (by rw [kgW_n _ _ _ (by omega), m1 _ (by omega), jI _ (by omega) (by omega)]) (by rw [kgW_r, if_neg (by omega), m1 _ (by omega), j177]) (by rw [kgW_n _ _ _ (by omega), m1 _ (by omega), jI _ (by omega) (by omega)])
    · exact hL.kept (by rw [kgW_n _ _ _ (by omega), m1 _ (by omega), jI _ (by omega) (by omega)]) (by rw [kgW_n _ _ _ (by omega), m1 _ (by omega), jI _ (by omega) (by omega)]) (by rw [kgW_r, if_neg (by omega), m1 _ (by omega), j177]) (by rw [kgW_n _ _ _ (by omega), m1 _ (by omega), jI _ (by omega) (by omega)])
theorem ok_save {q : Nat} : kgSame (Inv q) (Inv (q + 1)) (fun I => f_X4_save I) (fun I => f_X5_save I) := by
  intro I hI
  obtain ⟨⟨s, hG, hR, w, hp⟩, hq, ⟨n, b, e1, e2, e3, e4, e5, e6⟩, ⟨z, f1, f2, f3⟩, hT, hL⟩ := hI
  have hn := w.1
  have hmono2 : bnI q ≤ bnI (q + 1) := by unfold bnI; omega
  have hdis : 16 + 15 ≤ 1 ∨ 1 + 15 ≤ 16 := by omega
  generalize hJ1 : cpJ I 16 1 = J1
  have j1 : ∀ c, (c < 16 ∨ 31 ≤ c) → J1 c = I c := fun c hc => by rw [← hJ1]; exact cpJ_n hdis hc
  have jS : RepG J1 16 s := by rw [← hJ1]; exact cpJ_G hdis hG hn
  generalize hJ : kgW J1 0 6 1 = J
  have jc : ∀ c, c ≠ 0 → J c = J1 c := fun c hc => by rw [← hJ, kgW_n _ _ _ hc]
  have j06 : J 0 6 = 1 := by rw [← hJ, kgW_r, if_pos ⟨rfl, rfl⟩]
  generalize hK : kgW J 177 2 1 = K
  have kc : ∀ c, c ≠ 177 → K c = J c := fun c hc => by rw [← hK, kgW_n _ _ _ hc]
  have k177 : ∀ j, j ≠ 2 → K 177 j = I 177 j := fun j hj => by rw [← hK, kgW_r, if_neg (fun h => hj h.2), jc _ (by omega), j1 _ (by omega)]
  have k2 : K 177 2 = 1 := by rw [← hK, kgW_r, if_pos ⟨rfl, rfl⟩]
  have mv := cpR_mv (I := K) (a := 0) (b := 9) (by omega)
  have hmc := m_copies (I := K) (a := 0) (b := 9) (by omega) (by omega)
  generalize hM : cpR K 0 9 125 = M at mv hmc
  have m1 : ∀ c, c ≠ 178 → M c = K c := mv.1
  have mI : ∀ c, c ≠ 178 → c ≠ 177 → c ≠ 0 → (c < 16 ∨ 31 ≤ c) → M c = I c := fun c h1 h2 h3 h4 => by rw [m1 c h1, kc c h2, jc c h3, j1 c h4]
  have m2 : ∀ r j, j < 125 → M 178 (125 * r + j) = if r = 9 then I 178 (125 * 0 + j) else I 178 (125 * r + j) := fun r j hj => by rw [mv.2 r j hj, kc 178 (by omega), jc 178 (by omega), j1 178 (by omega)]
  refine ⟨nI (kgN s), J, M, ?_, ?_, ⟨s, hG.same (fun j hj => mI _ (by omega) (by omega) (by omega) (by omega)), row_of hn hR (fun y hy => by rw [m2 0 y hy, if_neg (by omega)]), w, pt_mono hp hmono2⟩, ?_, ?_, ?_, ?_, ?_⟩
  · show f_X4_save I = _
    unfold f_X4_save
    rw [c_copy I hdis, bndC_s, hJ1, hJ, bnd_s, jc 1 (by omega), j1 1 (by omega), hG.2.1]
  · show f_X5_save J = _
    unfold f_X5_save
    rw [hK, bnd_s, show f_X5_copies (0 : Int32) (9 : Int32) K = some (0, M) from hmc, bndC_s, ck_one, cl_one, show M 178 1 = I 178 1 from by
      have := m2 0 1 (by omega)
      rw [if_neg (by omega)] at this
      exact this, hR.n]
  · exact hq.kept (fun k h1 h2 => mI _ (by omega) (by omega) (by omega) (by omega)) (by rw [m1 _ (by omega), k177 5 (by omega)]) (mI _ (by omega) (by omega) (by omega) (by omega)) (mI _ (by omega) (by omega) (by omega) (by omega))
  · refine ⟨n, b, e1, e2, by rw [mI 31 (by omega) (by omega) (by omega) (by omega)]; exact e3, by rw [mI 31 (by omega) (by omega) (by omega) (by omega)]; exact e4, by rw [m1 _ (by omega), k177 1 (by omega)]; exact e5, fun i h1 h2 => ((e6 i h1 h2).mono hmono2).kept (fun j hj => mI _ (by omega) (by omega) (by omega) (by omega)) (fun y hy => by rw [m2 i y hy, if_neg (by omega)])⟩
  · refine ⟨true, by rw [m1 0 (by omega), kc 0 (by omega)]; exact j06, by rw [m1 _ (by omega)]; exact k2, fun _ => ⟨s, jS.same (fun j hj => by rw [m1 _ (by omega), kc _ (by omega), jc _ (by omega)]), row_of hn hR (fun y hy => by rw [m2 9 y hy, if_pos rfl]), w, pt_mono hp hmono2⟩⟩
  · exact hT.kept (by rw [mI 171 (by omega) (by omega) (by omega) (by omega)]) (mI 172 (by omega) (by omega) (by omega) (by omega)) (by rw [m1 _ (by omega), k177 7 (by omega)]) (mI 181 (by omega) (by omega) (by omega) (by omega))
  · exact hL.kept (mI 175 (by omega) (by omega) (by omega) (by omega)) (mI 176 (by omega) (by omega) (by omega) (by omega)) (by rw [m1 _ (by omega), k177 13 (by omega)]) (mI 183 (by omega) (by omega) (by omega) (by omega))
theorem ok_restore {q : Nat} : kgSame (Inv q) (Inv (q + 1)) (fun I => f_X4_restore I) (fun I => f_X5_restore I) := by
  intro I hI
  have hI0 := hI
  obtain ⟨hP, hq, ⟨n, b, e1, e2, e3, e4, e5, e6⟩, ⟨z, f1, f2, f3⟩, hT, hL⟩ := hI
  have hmono2 : bnI q ≤ bnI (q + 1) := by unfold bnI; omega
  cases z with
  | false =>
    refine ⟨-1015, I, I, ?_, ?_, hI0.mono⟩
    · show f_X4_restore I = _
      unfold f_X4_restore; rw [if_pos (show I 0 6 = 0 from f1)]
    · show f_X5_restore I = _
      unfold f_X5_restore; rw [if_pos (show I 177 2 = 0 from f2)]
  | true =>
    obtain ⟨u, uG, uR, uw, up⟩ := f3 rfl
    have hn := uw.1
    have hdis : 1 + 15 ≤ 16 ∨ 16 + 15 ≤ 1 := by omega
    generalize hJ1 : cpJ I 1 16 = J1
    have j1 : ∀ c, (c < 1 ∨ 16 ≤ c) → J1 c = I c := fun c hc => by rw [← hJ1]; exact cpJ_n hdis hc
    have jG : RepG J1 1 u := by rw [← hJ1]; exact cpJ_G hdis uG hn
    generalize hJ : kgW J1 31 2 0 = J
    have jc : ∀ c, c ≠ 31 → J c = J1 c := fun c hc => by rw [← hJ, kgW_n _ _ _ hc]
    have j31 : J 31 2 = 0 ∧ J 31 1 = nI b := by
      rw [← hJ]
      exact ⟨by rw [kgW_r, if_pos ⟨rfl, rfl⟩], by rw [kgW_r, if_neg (by omega), j1 31 (by omega)]; exact e3⟩
    have jI : ∀ c, (c < 1 ∨ 16 ≤ c) → c ≠ 31 → J c = I c := fun c h1 h2 => by rw [jc c h2, j1 c h1]
    have mv := cpR_mv (I := J) (a := 9) (b := 0) (by omega)
    have hmc := m_copies (I := J) (a := 9) (b := 0) (by omega) (by omega)
    generalize hM : cpR J 9 0 125 = M at mv hmc
    have m1 : ∀ c, c ≠ 178 → M c = J c := mv.1
    have m2 : ∀ r j, j < 125 → M 178 (125 * r + j) = if r = 0 then I 178 (125 * 9 + j) else I 178 (125 * r + j) := fun r j hj => by rw [mv.2 r j hj, jI 178 (by omega) (by omega)]
    generalize hK : kgW M 177 1 0 = K
    have kc : ∀ c, c ≠ 177 → K c = M c := fun c hc => by rw [← hK, kgW_n _ _ _ hc]
    have k177 : ∀ j, j ≠ 1 → K 177 j = I 177 j := fun j hj => by rw [← hK, kgW_r, if_neg (fun h => hj h.2), m1 _ (by omega), jI _ (by omega) (by omega)]
    have k1 : K 177 1 = 0 := by rw [← hK, kgW_r, if_pos ⟨rfl, rfl⟩]
    have kI : ∀ c, c ≠ 178 → c ≠ 177 → (c < 1 ∨ 16 ≤ c) → c ≠ 31 → K c = I c := fun c h1 h2 h3 h4 => by rw [kc c h2, m1 c h1, jI c h3 h4]
    have kr : ∀ r j, j < 125 → K 178 (125 * r + j) = if r = 0 then I 178 (125 * 9 + j) else I 178 (125 * r + j) := fun r j hj => by rw [kc 178 (by omega), m2 r j hj]
    refine ⟨nI (kgN u), J, K, ?_, ?_, ⟨u, jG.same (fun j hj => by rw [kc _ (by omega), m1 _ (by omega), jc _ (by omega)]), row_of hn uR (fun y hy => by rw [kr 0 y hy, if_pos rfl]), uw, pt_mono up hmono2⟩, ?_, ?_, ?_, ?_, ?_⟩
    · show f_X4_restore I = _
      unfold f_X4_restore
      rw [if_neg (by rw [f1]; decide), c_copy I hdis, bndC_s, hJ1, hJ, bnd_s, jc 1 (by omega), jG.2.1]
    · show f_X5_restore J = _
      unfold f_X5_restore
      rw [if_neg (by rw [jI 177 (by omega) (by omega), f2]; decide), show f_X5_copies (9 : Int32) (0 : Int32) J = some (0, M) from hmc, bndC_s, hK, bnd_s, ck_one, cl_one, show K 178 1 = nI (kgN u) from by
        have := kr 0 1 (by omega)
        rw [if_pos rfl] at this
        exact this.trans uR.2.1]
    · exact hq.kept (fun k h1 h2 => kI _ (by omega) (by omega) (by omega) (by omega)) (k177 5 (by omega)) (kI _ (by omega) (by omega) (by omega) (by omega)) (kI _ (by omega) (by omega) (by omega) (by omega))
    · refine ⟨0, b, by omega, e2, by rw [kc 31 (by omega), m1 31 (by omega)]; exact j31.2, by rw [kc 31 (by omega), m1 31 (by omega)]; exact j31.1, k1, fun i h1 h2 => by omega⟩
    · exact ⟨true, by rw [kI 0 (by omega) (by omega) (by omega) (by omega)]; exact f1, by rw [k177 2 (by omega)]; exact f2, fun _ => ((f3 rfl).mono hmono2).kept (fun j hj => kI _ (by omega) (by omega) (by omega) (by omega)) (fun y hy => by rw [kr 9 y hy, if_neg (by omega)])⟩
    · exact hT.kept (by rw [kI 171 (by omega) (by omega) (by omega) (by omega)]) (kI 172 (by omega) (by omega) (by omega) (by omega)) (k177 7 (by omega)) (kI 181 (by omega) (by omega) (by omega) (by omega))
    · exact hL.kept (kI 175 (by omega) (by omega) (by omega) (by omega)) (kI 176 (by omega) (by omega) (by omega) (by omega)) (k177 13 (by omega)) (kI 183 (by omega) (by omega) (by omega) (by omega))
