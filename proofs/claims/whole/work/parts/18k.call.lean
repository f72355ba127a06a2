/-! RUN AS A CALL -/
theorem core_kept {B : Int} {I J : kgM} (hP : Pair B I 1 0) (hq : RepQ I I) (hH : InvH B I) (hS : InvS B I) (hc : ∀ c, c < 171 → J c = I c) (h8 : ∀ c, 178 ≤ c → c ≤ 180 → J c = I c) (h7 : ∀ j, j = 1 ∨ j = 2 ∨ j = 5 → J 177 j = I 177 j) : Pair B J 1 0 ∧ RepQ J J ∧ InvH B J ∧ InvS B J := by
  have pk : ∀ {c r : Nat}, c + 15 ≤ 171 → Pair B I c r → Pair B J c r := fun {c r} hc' h => h.kept (fun j hj => hc _ (by omega)) (fun x _ => by rw [h8 178 (by omega) (by omega)])
  obtain ⟨n, b, e1, e2, e3, e4, e5, e6⟩ := hH
  obtain ⟨z, f1, f2, f3⟩ := hS
  exact ⟨pk (by omega) hP, hq.kept (fun k a b => hc k (by omega)) (h7 5 (by omega)) (h8 179 (by omega) (by omega)) (h8 180 (by omega) (by omega)), ⟨n, b, e1, e2, by rw [hc 31 (by omega)]; exact e3, by rw [hc 31 (by omega)]; exact e4, by rw [h7 1 (by omega)]; exact e5, fun i g1 g2 => pk (by omega) (e6 i g1 g2)⟩, ⟨z, by rw [hc 0 (by omega)]; exact f1, by rw [h7 2 (by omega)]; exact f2, fun hz => pk (by omega) (f3 hz)⟩⟩
theorem tx_of {I : kgM} (h : InvT I) : ∃ (t : Nat → Nat) (L : Nat), TxW t L ∧ TxC t L I ∧ TxM t L I := by
  obtain ⟨L, t1, t2, t3, t4⟩ := h
  refine ⟨fun i => if i < L then (I 172 i).toNatClampNeg else 0, L, ⟨t1, fun i => ⟨fun hi => ?_, fun hi => if_neg (by omega)⟩⟩, ⟨t2, fun i hi => ?_⟩, ⟨t3, fun i hi => ?_⟩⟩
  · obtain ⟨-, ch, a, b, e⟩ := t4 i hi
    show 32 ≤ (if i < L then (I 172 i).toNatClampNeg else 0) ∧ (if i < L then (I 172 i).toNatClampNeg else 0) < 127
    rw [if_pos hi, e, nI_clamp (by omega)]
    exact ⟨a, b⟩
  · obtain ⟨-, ch, a, b, e⟩ := t4 i hi
    show I 172 i = nI (if i < L then (I 172 i).toNatClampNeg else 0)
    rw [if_pos hi, e, nI_clamp (by omega)]
  · obtain ⟨e0, ch, a, b, e⟩ := t4 i hi
    show I 181 i = nI (if i < L then (I 172 i).toNatClampNeg else 0)
    rw [if_pos hi, ← e0, e, nI_clamp (by omega)]
theorem rd_run {q : Nat} (hq5 : q < 512) : kgSame (Inv q) (Inv (q + 1)) (fun I => f_X4_run I) (fun I => f_X5_run I) := by
  intro I hI
  have hmn := hI.mono
  obtain ⟨hP1, hQ1, hH1, hS1, -, hL1⟩ := hmn
  obtain ⟨hP, hQ, hH, hS, hT, hL⟩ := hI
  obtain ⟨t, L, w, tx, tm⟩ := tx_of hT
  have h60 := w.1
  obtain ⟨J, r, h⟩ := c_read w tx
  have hem : f_X1_empty J = some (0, kgW J 171 4 0) := by unfold f_X1_empty; rw [bnd_s]
  generalize hJ0 : kgW J 171 4 0 = J0 at hem
  have j0 : ∀ c, c ≠ 171 → c ≠ 173 → c ≠ 174 → J0 c = I c := fun c h1 h2 h3 => by rw [← hJ0, kgW_n _ _ _ h1]; exact r.1 c h1 h2 h3
  have j4 : J0 171 4 = 0 := by rw [← hJ0, kgW_r, if_pos ⟨rfl, rfl⟩]
  have tm0 : TxM t L J0 := ⟨by rw [j0 177 (by omega) (by omega) (by omega)]; exact tm.1, fun i hi => by rw [j0 181 (by omega) (by omega) (by omega)]; exact tm.2 i hi⟩
  match hp : prs t L 11 0 with
  | (false, f) =>
    rw [hp] at h
    obtain ⟨h1, h2⟩ : f ≤ L ∧ f_X1_read I = some (nI f, J) := h
    obtain ⟨J2, u1, u2, u3⟩ := m_parse w tm0
    rw [hp] at u3
    have u3 : J2 177 9 = nI f := u3
    generalize hJ3 : kgW J2 177 7 0 = J3
    have j3 : ∀ c, c ≠ 171 → c ≠ 173 → c ≠ 174 → c ≠ 177 → c ≠ 182 → J3 c = I c := fun c g1 g2 g3 g4 g5 => by rw [← hJ3, kgW_n _ _ _ g4, u2.1 c g4 g5, j0 c g1 g2 g3]
    have j37 : ∀ j, j ≠ 7 → j ≠ 8 → j ≠ 9 → j ≠ 11 → J3 177 j = I 177 j := fun j g1 g2 g3 g4 => by rw [← hJ3, kgW_r, if_neg (fun z => g1 z.2), u2.2 j g2 g3 g4, j0 177 (by omega) (by omega) (by omega)]
    have j39 : J3 177 9 = nI f := by rw [← hJ3, kgW_r, if_neg (by omega)]; exact u3
    obtain ⟨k1, k2, k3, k4⟩ := core_kept hP1 hQ1 hH1 hS1 (J := J3) (fun c hc => j3 c (by omega) (by omega) (by omega) (by omega) (by omega)) (fun c g1 g2 => j3 c (by omega) (by omega) (by omega) (by omega) (by omega)) (fun j hj => j37 j (by omega) (by omega) (by omega) (by omega))
    refine ⟨(-2000 : Int32) - nI f, J0, J3, ?_, ?_, k1, k2, k3, k4, ⟨0, by omega, ?_, ?_, fun i hi => by omega⟩, hL.kept (j3 175 (by omega) (by omega) (by omega) (by omega) (by omega)) (j3 176 (by omega) (by omega) (by omega) (by omega) (by omega)) (j37 13 (by omega) (by omega) (by omega) (by omega)) (j3 183 (by omega) (by omega) (by omega) (by omega) (by omega))⟩
    · show f_X4_run I = _
      unfold f_X4_run
      rw [h2, bndC_s, hem, bndC_s, if_neg (of_eq_false (nI_m1 (k := f) (by omega)))]
    · show f_X5_run J0 = _
      unfold f_X5_run
      rw [u1, bndC_s, hJ3, bnd_s, j39, if_neg (nI_pos (by omega))]
    · rw [← hJ3, kgW_n _ _ _ (by decide), u2.1 171 (by omega) (by omega)]; exact j4
    · rw [← hJ3, kgW_r, if_pos ⟨rfl, rfl⟩]; rfl
  | (true, m) =>
    rw [hp] at h
    obtain ⟨h1, h2, h3, h4, h5, h6⟩ : 1 ≤ m ∧ m ≤ 10 ∧ f_X1_read I = some (-1, J) ∧ J 171 5 = nI m ∧ SC t m J ∧ ∀ k, k < m → ps t k ≤ L := h
    have rc : RunC t m J0 := RunC.same (I := J) ⟨h4, h5⟩ (by rw [← hJ0, kgW_r, if_neg (by omega)]) (by rw [← hJ0, kgW_n _ _ _ (by decide)]) (by rw [← hJ0, kgW_n _ _ _ (by decide)])
    obtain ⟨k1, k2, k3, k4⟩ := core_kept hP hQ hH hS (J := J0) (fun c hc => j0 c (by omega) (by omega) (by omega)) (fun c g1 g2 => j0 c (by omega) (by omega) (by omega)) (fun j hj => by rw [j0 177 (by omega) (by omega) (by omega)])
    have kL : InvL J0 := hL.kept (j0 175 (by omega) (by omega) (by omega)) (j0 176 (by omega) (by omega) (by omega)) (by rw [j0 177 (by omega) (by omega) (by omega)]) (j0 183 (by omega) (by omega) (by omega))
    obtain ⟨x, J3, a1, a2, a3, a4, a5⟩ := call_run hq5 k1 k2 k3 k4 kL w h2 h6 rc
    have tm3 : TxM t L J3 := ⟨by rw [a3]; exact tm0.1, fun i hi => by rw [a4]; exact tm0.2 i hi⟩
    obtain ⟨J4, u1, u2, u3⟩ := m_parse w tm3
    rw [hp] at u3
    obtain ⟨v1, v2, v3⟩ : J4 177 9 = -1 ∧ J4 177 11 = nI m ∧ SM t m J4 := u3
    generalize hJ5 : kgW J4 177 7 0 = J5
    have j5 : ∀ c, c ≠ 177 → J5 c = J4 c := fun c hc => by rw [← hJ5, kgW_n _ _ _ hc]
    have j57 : ∀ j, j ≠ 7 → J5 177 j = J4 177 j := fun j hj => by rw [← hJ5, kgW_r, if_neg (fun z => hj z.2)]
    have j5t : J5 177 7 = 0 := by rw [← hJ5, kgW_r, if_pos ⟨rfl, rfl⟩]
    obtain ⟨M3, b1, b2, b3, b4, b5, b6, b7, b8⟩ := a5 J5 (fun c g1 g2 => by rw [j5 c g1, u2.1 c g1 g2]) (fun j hj => by rw [j57 j (by omega), u2.2 j (by omega) (by omega) (by omega)]) (RunM.same (I := J4) ⟨v2, v3⟩ (j57 11 (by omega)) (j5 182 (by omega)))
    refine ⟨x, J3, M3, ?_, ?_, b2, b3, b4, b5, ⟨0, by omega, by rw [b7]; exact j4, by rw [b8]; exact j5t, fun i hi => by omega⟩, b6⟩
    · show f_X4_run I = _
      unfold f_X4_run
      rw [h3, bndC_s, hem, bndC_s, if_pos rfl]
      exact a1
    · show f_X5_run J3 = _
      unfold f_X5_run
      rw [u1, bndC_s, hJ5, bnd_s, j57 9 (by omega), v1, if_pos (by decide)]
      exact b1
