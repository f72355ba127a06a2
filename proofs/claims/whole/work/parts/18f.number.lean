theorem rd1_35 {t : Nat → Nat} {h : Nat} : rd1 t 35 h = if dg (t h) = true then some (h + 1, [t h - 48]) else none := rfl
theorem rd1_37 {t : Nat → Nat} {h : Nat} : rd1 t 37 h = if dg (t h) = true then (if dg (t (h + 1)) = true then some (h + 2, [10 * (t h - 48) + (t (h + 1) - 48)]) else some (h + 1, [t h - 48])) else none := rfl
section MNU
variable {t : Nat → Nat} {L : Nat}
theorem num_first {t : Nat → Nat} {L h : Nat} {I : kgM} (w : TxW t L) (x : TxM t L I) (hs : atM I h) (hl : h ≤ 60) (a : Int32) (K : Int32 → kgM → Option (Int32 × kgM)) {q : Nat} {v k : Int32} (hk : ¬ a ≤ k) : f_X5_number_L43 a K (q + 1) v k I = if dg (t h) = true then f_X5_number_L43 a K q (((10 : Int32) * v + nI (t h)) - (48 : Int32)) (k + 1) (kgW I 177 8 (nI (h + 1))) else K v I := by
  rw [f_X5_number_L43, if_neg hk, m_signAt w x hs.1 hl, bndC_s, sg_dg w, bndC_s]
  cases d : dg (t h) with
  | false => rw [if_pos (show b2i false = 0 from rfl), if_neg (by decide)]
  | true =>
    have := dg_lt w d
    rw [if_neg (show ¬ b2i true = 0 by decide), m_signAt w x hs.1 hl, bndC_s, if_pos this.1, bnd_s, hs.1, nI_1, bnd_s, bnd_s, if_pos rfl]
theorem dg_v {d : Nat} (h1 : 48 ≤ d) (h2 : d ≤ 57) (v : Nat) : ((10 : Int32) * nI v + nI d) - (48 : Int32) = nI (10 * v + (d - 48)) := by
  rw [show (10 : Int32) = nI 10 from rfl, nI_mul, nI_add, show (48 : Int32) = nI 48 from rfl, nI_sub (by omega)]
  congr 1; omega
theorem op_number (w : TxW t L) {p : Nat} (hp : p = 1 ∨ p = 2) : OpL t L [32, if p = 1 then 35 else 37] (fun I => f_X5_number (nI p) I) := by
  intro I e x he hs
  have h60 := w.1
  obtain ⟨J, a1, a2, a3⟩ := op_needs w (c := 32) (by omega) (by omega) (by decide) I e x he hs
  have a1' : f_X5_needs (32 : Int32) I = some (nI (nx t [32] e).2, J) := a1
  show ∃ J, f_X5_number (nI p) I = _ ∧ _
  unfold f_X5_number
  rw [a1', bndC_s]
  match e, he, hs with
  | (false, f), he, hs =>
    have he : f ≤ L := he
    have a2 : J 177 9 = nI f := a2
    exact ⟨J, by rw [a2, if_neg (nI_pos (by omega))]; rfl, a2, a3⟩
  | (true, h), he, hs =>
    have he : h ≤ L := he
    have e0 : rdF t [32] h [] = if t h = 32 then (h + 1, some []) else (h, none) := rdF_1 (by decide)
    have e2 : rdF t [32, if p = 1 then 35 else 37] h [] = if t h = 32 then rdF t [if p = 1 then 35 else 37] (h + 1) [] else (h, none) := rdF_1 (by decide)
    unfold nx at a2 ⊢
    dsimp only at a2 ⊢
    rw [e0] at a2
    rw [e2]
    by_cases d : t h = 32
    · have hlt := ne_lt w (by decide) d
      rw [if_pos d] at a2 ⊢
      have a2 : atM J (h + 1) := a2
      have xJ := a3.tx x
      rw [a2.2, if_pos (by decide), m_signAt w xJ a2.1 (by omega), bndC_s, sg_dg w, bndC_s]
      have e3 : rdF t [if p = 1 then 35 else 37] (h + 1) [] = match rd1 t (if p = 1 then 35 else 37) (h + 1) with | none => (h + 1, none) | some y => (y.1, some ([] ++ y.2)) := rfl
      rw [e3]
      by_cases g : dg (t (h + 1)) = true
      · have gl := dg_lt w g
        have st := num_first w xJ a2 (by omega)
        rw [g, if_neg (by decide)]
        have a4 := a2.w8
        have m4 : nmM J (kgW J 177 8 (nI (h + 1 + 1))) := nmM.w8 _
        have v0 := dg_v gl.2.1 gl.2.2 0
        rcases hp with rfl | rfl
        · rw [if_pos rfl, rd1_35, if_pos g]
          refine ⟨_, ?_, a4, a3.trans m4⟩
          show f_X5_number_L43 (nI 1) _ 200 (nI 0) (nI 0) J = _
          rw [st (nI 1) _ (q := 199) (by decide), if_pos g, v0, f_X5_number_L43, if_pos (by decide), show 10 * 0 + (t (h + 1) - 48) = t (h + 1) - 48 by omega]
          rfl
        · rw [if_neg (by omega)]
          have st2 := num_first w (m4.tx xJ) a4 (by omega)
          have e1 : rd1 t 37 (h + 1) = if dg (t (h + 2)) = true then some (h + 3, [10 * (t (h + 1) - 48) + (t (h + 2) - 48)]) else some (h + 2, [t (h + 1) - 48]) := by
            rw [rd1_37, if_pos g]
          rw [e1]
          by_cases g2 : dg (t (h + 2)) = true
          · have gl2 := dg_lt w g2
            have v1 := dg_v gl2.2.1 gl2.2.2 (t (h + 1) - 48)
            rw [if_pos g2]
            refine ⟨_, ?_, a4.w8, (a3.trans m4).trans (nmM.w8 _)⟩
            show f_X5_number_L43 (nI 2) _ 200 (nI 0) (nI 0) J = _
            rw [st (nI 2) _ (q := 199) (by decide), if_pos g, v0, st2 (nI 2) _ (q := 198) (by decide), if_pos g2, show 10 * 0 + (t (h + 1) - 48) = t (h + 1) - 48 by omega, v1, f_X5_number_L43, if_pos (by decide)]
            rfl
          · rw [if_neg g2]
            refine ⟨_, ?_, a4, a3.trans m4⟩
            show f_X5_number_L43 (nI 2) _ 200 (nI 0) (nI 0) J = _
            rw [st (nI 2) _ (q := 199) (by decide), if_pos g, v0, st2 (nI 2) _ (q := 198) (by decide), if_neg g2, show 10 * 0 + (t (h + 1) - 48) = t (h + 1) - 48 by omega]
            rfl
      · have gf : dg (t (h + 1)) = false := by cases q : dg (t (h + 1)); rfl; exact absurd q g
        rw [gf, if_pos (show b2i false = 0 from rfl), a2.1, bnd_s]
        have en : rd1 t (if p = 1 then 35 else 37) (h + 1) = none := by
          rcases hp with rfl | rfl
          · rw [if_pos rfl, rd1_35, if_neg g]
          · rw [if_neg (by omega), rd1_37, if_neg g]
        rw [en]
        exact ⟨_, rfl, w9s, a3.trans (nmM.w9 _)⟩
    · rw [if_neg d] at a2 ⊢
      have a2 : J 177 9 = nI h := a2
      exact ⟨J, by rw [a2, if_neg (nI_pos (by omega))]; rfl, a2, a3⟩
end MNU
