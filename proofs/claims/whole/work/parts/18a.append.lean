/-! append -/
theorem ap_ch : ∀ ch, ch < 127 → vp_nar .char ((nI ch).toUInt32 % 65536).toInt32 = nI ch := by decide +kernel
theorem rd_append {q : Nat} (a : Int32) : kgSame (Inv q) (Inv (q + 1)) (fun I => f_X4_append a I) (fun I => f_X5_append a I) := by
  intro I hI
  obtain ⟨hP, hq, hH, hS, ⟨L, t1, t2, t3, t4⟩, hL⟩ := hI.mono
  have refu : ∀ x : Int32, f_X4_append a I = some (x, I) → f_X5_append a I = some (x, I) → ∃ x J J2, f_X4_append a I = some (x, J) ∧ f_X5_append a J = some (x, J2) ∧ Inv (q + 1) J2 := fun x h1 h2 => ⟨x, I, I, h1, h2, hI.mono⟩
  by_cases c1 : a < (32 : Int32)
  · refine refu (-1012) ?_ ?_
    · unfold f_X4_append
      rw [if_pos c1]
    · unfold f_X5_append f_X5_in
      rw [if_pos c1, bndC_s, if_pos rfl]
  · by_cases c2 : (126 : Int32) < a
    · refine refu (-1012) ?_ ?_
      · unfold f_X4_append
        rw [if_neg c1, if_neg (show ¬ a ≤ (126 : Int32) by rw [lt_t] at c2; rw [le_t]; omega)]
      · unfold f_X5_append f_X5_in
        rw [if_neg c1, if_pos c2, bndC_s, if_pos rfl]
    · obtain ⟨ch, rfl, h1, h2⟩ : ∃ ch, a = nI ch ∧ 32 ≤ ch ∧ ch < 127 := by
        rw [lt_t] at c1 c2
        have e1 : (32 : Int32).toInt = 32 := by decide
        have e2 : (126 : Int32).toInt = 126 := by decide
        exact ⟨a.toInt.toNat, to_nI (by omega) (by omega), by omega, by omega⟩
      have c3 : nI ch ≤ (126 : Int32) := by rw [lt_t] at c2; rw [le_t]; omega
      by_cases e : L = 60
      · refine refu (-1013) ?_ ?_
        · unfold f_X4_append f_X1_add
          rw [if_neg c1, if_pos c3, if_neg (show ¬ I 171 4 < Int32.ofNat 60 by rw [t2, e]; decide), bndC_s, if_pos rfl]
        · unfold f_X5_append f_X5_in
          rw [if_neg c1, if_neg c2, bndC_s, if_neg (by decide), if_pos (by rw [t3, e]; rfl)]
      · have hl : L < 60 := by omega
        have hc : f_X4_append (nI ch) I = some (nI (L + 1), kgW (kgW I 172 L (nI ch)) 171 4 (nI (L + 1))) := by
          unfold f_X4_append f_X1_add
          rw [if_neg c1, if_pos c3, if_pos (show I 171 4 < Int32.ofNat 60 by rw [t2]; exact nI_lt (a := L) (b := 60) hl (by omega)), t2, ck_inb hl (by omega), nI_clamp (by omega), bnd_s, ap_ch ch h2, show kgW I 172 L (nI ch) 171 4 = nI L from by rw [kgW_n _ _ _ (by decide)]; exact t2, nI_1, bnd_s, bndC_s, if_neg (by decide), kgW_r, if_pos ⟨rfl, rfl⟩]
        generalize hJ : kgW (kgW I 172 L (nI ch)) 171 4 (nI (L + 1)) = J at hc
        have j1 : ∀ c, c ≠ 171 → c ≠ 172 → J c = I c := fun c g1 g2 => by rw [← hJ, kgW_n _ _ _ g1, kgW_n _ _ _ g2]
        have j171 : J 171 4 = nI (L + 1) := by rw [← hJ, kgW_r, if_pos ⟨rfl, rfl⟩]
        have j172 : ∀ i, J 172 i = if i = L then nI ch else I 172 i := fun i => by
          rw [← hJ, kgW_n _ _ _ (by decide), kgW_r]
          by_cases z : i = L
          · rw [if_pos ⟨rfl, z⟩, if_pos z]
          · rw [if_neg (fun y => z y.2), if_neg z]
        have hm : f_X5_append (nI ch) J = some (nI (L + 1), kgW (kgW J 181 L (nI ch)) 177 7 (nI (L + 1))) := by
          have t3' : J 177 7 = nI L := by rw [j1 177 (by omega) (by omega)]; exact t3
          unfold f_X5_append f_X5_in
          rw [if_neg c1, if_neg c2, bndC_s, if_neg (by decide), t3', if_neg (show ¬ nI L = (60 : Int32) from fun h => e ((nI_eq (b := 60) (by omega) (by omega)).mp h)), ck_inb hl (by omega), nI_clamp (by omega), bnd_s, ap_ch ch h2, show kgW J 181 L (nI ch) 177 7 = nI L from by rw [kgW_n _ _ _ (by decide)]; exact t3', nI_1, bnd_s, kgW_r, if_pos ⟨rfl, rfl⟩]
        generalize hM : kgW (kgW J 181 L (nI ch)) 177 7 (nI (L + 1)) = M at hm
        have m1 : ∀ c, c ≠ 177 → c ≠ 181 → M c = J c := fun c g1 g2 => by rw [← hM, kgW_n _ _ _ g1, kgW_n _ _ _ g2]
        have mI : ∀ c, c ≠ 171 → c ≠ 172 → c ≠ 177 → c ≠ 181 → M c = I c := fun c g1 g2 g3 g4 => by rw [m1 c g3 g4, j1 c g1 g2]
        have m177 : ∀ j, j ≠ 7 → M 177 j = I 177 j := fun j g => by rw [← hM, kgW_r, if_neg (fun y => g y.2), kgW_n _ _ _ (by decide), j1 177 (by omega) (by omega)]
        have m7 : M 177 7 = nI (L + 1) := by rw [← hM, kgW_r, if_pos ⟨rfl, rfl⟩]
        have m181 : ∀ i, M 181 i = if i = L then nI ch else I 181 i := fun i => by
          rw [← hM, kgW_n _ _ _ (by decide), kgW_r]
          by_cases z : i = L
          · rw [if_pos ⟨rfl, z⟩, if_pos z]
          · rw [if_neg (fun y => z y.2), if_neg z, j1 181 (by omega) (by omega)]
        have pk : ∀ {B : Int} {c r : Nat}, c + 15 ≤ 170 → Pair B I c r → Pair B M c r := fun {B c r} hc h => h.kept (fun j hj => mI _ (by omega) (by omega) (by omega) (by omega)) (fun x _ => by rw [mI 178 (by omega) (by omega) (by omega) (by omega)])
        obtain ⟨n, b, e1, e2, e3, e4, e5, e6⟩ := hH
        obtain ⟨z, f1, f2, f3⟩ := hS
        refine ⟨_, J, M, hc, hm, pk (by omega) hP, hq.kept (fun k a b => mI k (by omega) (by omega) (by omega) (by omega)) (m177 5 (by omega)) (mI 179 (by omega) (by omega) (by omega) (by omega)) (mI 180 (by omega) (by omega) (by omega) (by omega)), ⟨n, b, e1, e2, by rw [mI 31 (by omega) (by omega) (by omega) (by omega)]; exact e3, by rw [mI 31 (by omega) (by omega) (by omega) (by omega)]; exact e4, by rw [m177 1 (by omega)]; exact e5, fun i g1 g2 => pk (by omega) (e6 i g1 g2)⟩, ⟨z, by rw [mI 0 (by omega) (by omega) (by omega) (by omega)]; exact f1, by rw [m177 2 (by omega)]; exact f2, fun hz => pk (by omega) (f3 hz)⟩, ⟨L + 1, by omega, by rw [m1 171 (by omega) (by omega)]; exact j171, m7, fun i hi => ?_⟩, hL.kept (mI 175 (by omega) (by omega) (by omega) (by omega)) (mI 176 (by omega) (by omega) (by omega) (by omega)) (m177 13 (by omega)) (mI 183 (by omega) (by omega) (by omega) (by omega))⟩
        rw [m1 172 (by omega) (by omega), j172, m181]
        by_cases z : i = L
        · rw [if_pos z, if_pos z]; exact ⟨rfl, ch, h1, h2, rfl⟩
        · rw [if_neg z, if_neg z]; exact t4 i (by omega)
