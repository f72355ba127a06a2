theorem hU_set {s : kgS} {j k v : Nat} (h : j ≠ 5 ∧ j ≠ 10) : hU (kgSet s j k v) k = hU s k := by
  unfold hU
  rw [kgSet_ne (Or.inl (by omega)), kgSet_ne (Or.inl (by omega))]
theorem dryS_f {u : kgS} {k v : Nat} (a b : Nat) : (dryS u k v).1 a b = if a = 11 ∧ b = k then v else if a = 10 ∧ b = k then 0 else u.1 a b := rfl
theorem tw_dry {u : kgS} {k v : Nat} : tw (dryS u k v) k = if u.1 9 k ≤ 5 then 4 else u.1 9 k - 1 := by
  have h10 : (dryS u k v).1 10 k = 0 := by rw [dryS_f, if_neg (by omega), if_pos ⟨rfl, rfl⟩]
  have h9 : (dryS u k v).1 9 k = u.1 9 k := by rw [dryS_f, if_neg (by omega), if_neg (by omega)]
  unfold tw
  rw [h10, if_pos rfl, h9]
theorem dry_eq {u : kgS} {k : Nat} : kgSet (dryS u k 6) 9 k (tw (dryS u k 6) k) = st2 (dryS u k 7) k := by
  unfold st2
  rw [tw_dry, tw_dry, show (dryS u k 7).1 11 k - 1 = 6 from by rw [dryS_f, if_pos ⟨rfl, rfl⟩]]
  refine Prod.ext (funext fun a => funext fun b => ?_) rfl
  generalize (if u.1 9 k ≤ 5 then 4 else u.1 9 k - 1) = t
  show (if a = 9 ∧ b = k then t else (dryS u k 6).1 a b) = (if a = 11 ∧ b = k then 6 else if a = 9 ∧ b = k then t else (dryS u k 7).1 a b)
  rw [dryS_f, dryS_f]
  by_cases h1 : a = 9 ∧ b = k
  · rw [if_pos h1, if_neg (by omega), if_pos h1]
  · rw [if_neg h1, if_neg h1]
    by_cases h2 : a = 11 ∧ b = k
    · rw [if_pos h2, if_pos h2]
    · rw [if_neg h2, if_neg h2, if_neg h2]
section CLMIN
variable {I : kgM} {s : kgS}
theorem c_cool (hG : RepG I 1 s) (w : kgWF s) {k : Nat} (hk : k < kgN s) : ∃ J, (ck (inb (nI k) 10) ((if (I 12 (nI k).toNatClampNeg) ≤ 0 then bndC (f_X3_changeTemperature (nI k) I) (fun x2 I2 => ck (isz 0) (some ((0 : Int32), I2))) else ck (inb (nI k) 10) (ck (inb (nI k) 10) (bnd (kgW I 12 (nI k).toNatClampNeg ((I 12 (nI k).toNatClampNeg) - (1 : Int32))) (fun I3 => bndC (f_X3_changeTemperature (nI k) I3) (fun x3 I4 => ck (isz 0) (some ((0 : Int32), I4)))))))) ) = some (0, J) ∧ RepG J 1 (st2 s k) ∧ ∀ c, (c = 0 ∨ 16 ≤ c) → J c = I c := by
  have hn := w.1
  have b := w.2.2.2.1 k hk
  rw [ck_inb (by omega) (by omega), nI_clamp (by omega), hG.ban hk]
  by_cases q : s.1 11 k = 0
  · rw [if_pos (by rw [q]; decide), c_change hG w hk, bndC_s, ck_isz0]
    refine ⟨_, rfl, ?_, fun c hc => by rw [kgW_n _ _ _ (by omega)]⟩
    have : st2 s k = kgSet s 9 k (tw s k) := by
      unfold st2
      rw [q, kgSet_id]
      rw [kgSet_ne (Or.inl (by decide)), q]
    rw [this]
    exact hG.set (j := 9) (p := k) (v := tw s k) (Or.inr (by omega))
  · have hG1 : RepG (kgW I 12 k (nI (s.1 11 k - 1))) 1 (kgSet s 11 k (s.1 11 k - 1)) := hG.set (j := 11) (p := k) (v := s.1 11 k - 1) (Or.inr (by omega))
    have w1 := wf_free w (j := 11) (k := k) (v := s.1 11 k - 1) (Or.inr (Or.inl ⟨rfl, by omega⟩))
    have n1 : kgN (kgSet s 11 k (s.1 11 k - 1)) = kgN s := kgSet_ne (Or.inl (by decide))
    have t1 : tw (kgSet s 11 k (s.1 11 k - 1)) k = tw s k := by
      unfold tw
      rw [hU_set (by decide), kgSet_ne (Or.inl (by decide)), kgSet_ne (Or.inl (by decide))]
    have e1 : nI (s.1 11 k) - 1 = nI (s.1 11 k - 1) := by rw [show (1 : Int32) = nI 1 from rfl, nI_sub (by omega)]
    rw [if_neg (nI_nle (show 0 < s.1 11 k by omega) (by omega)), ck_inb (by omega) (by omega), ck_inb (by omega) (by omega), bnd_s, e1, c_change hG1 w1 (by rw [n1]; exact hk), bndC_s, ck_isz0, t1]
    refine ⟨_, rfl, ?_, fun c hc => by rw [kgW_n _ _ _ (by omega), kgW_n _ _ _ (by omega)]⟩
    have := hG1.set (j := 9) (p := k) (v := tw s k) (Or.inr (by omega))
    rw [kgSet_comm (Or.inl (by decide))] at this
    exact this
theorem c_dryOut (hG : RepG I 1 s) (w : kgWF s) {k : Nat} (hk : k < kgN s) : ∃ J, bndC (f_X3_boilDry (nI k) I) (fun x4 I5 => bndC (f_X3_changeTemperature (nI k) I5) (fun x5 I6 => ck (isz 1) (some ((1 : Int32), I6)))) = some (1, J) ∧ RepG J 1 (st2 (dryS s k 7) k) ∧ ∀ c, (c = 0 ∨ 16 ≤ c) → J c = I c := by
  obtain ⟨J1, h1, h2, h3⟩ := c_boilDry hG w hk
  have w1 := wf_dryS w hk (v := 6) (by omega)
  rw [h1, bndC_s, c_change h2 w1 (by rw [dryS_n]; exact hk), bndC_s, ck_isz1]
  refine ⟨_, rfl, ?_, fun c hc => by rw [kgW_n _ _ _ (by omega)]; exact h3 c hc⟩
  have := h2.set (j := 9) (p := k) (v := tw (dryS s k 6) k) (Or.inr (by omega))
  rw [dry_eq] at this
  exact this
theorem c_over (hG : RepG I 1 s) (w : kgWF s) {k : Nat} (hk : k < kgN s) : ∃ J, f_X3_passMinuteOver (nI k) I = some (b2i (dr s k), J) ∧ RepG J 1 (st2 (st1 s k) k) ∧ ∀ c, (c = 0 ∨ 16 ≤ c) → J c = I c := by
  have hn := w.1
  have b := w.2.2.2.1 k hk
  have t00 : (0 : Int32) = 0 := rfl
  have t10 : ¬ (1 : Int32) = 0 := by decide
  unfold f_X3_passMinuteOver
  rw [c_boils hG w hk, bndC_s, letJ_s]
  dsimp only
  cases hb : bo s k with
  | false =>
    rw [b2i_f, if_pos t00, letJ_s]
    dsimp only
    rw [if_pos t00, if_pos t00]
    obtain ⟨J, h1, h2, h3⟩ := c_cool hG w hk
    refine ⟨J, ?_, ?_, h3⟩
    · rw [show b2i (dr s k) = 0 from by unfold dr; rw [hb]; rfl]; exact h1
    · rw [show st1 s k = s from by unfold st1; rw [if_neg (by rw [hb]; decide)]]; exact h2
  | true =>
    have es : st1 s k = if s.1 8 k ≤ 1 then dryS (watS s k) k 7 else watS s k := by unfold st1; rw [if_pos hb]
    have nu : kgN (watS s k) = kgN s := watS_n
    have wu := wf_watS w hk
    have key : ∀ I1 : kgM, RepG I1 1 (watS s k) → (∀ c, (c = 0 ∨ 16 ≤ c) → I1 c = I c) → ∃ J, (letJ (fun y0j57 => (if y0j57 = 0 then ck (inb (nI k) 10) ((if (I1 12 (nI k).toNatClampNeg) ≤ 0 then bndC (f_X3_changeTemperature (nI k) I1) (fun x2 I2 => ck (isz y0j57) (some (y0j57, I2))) else ck (inb (nI k) 10) (ck (inb (nI k) 10) (bnd (kgW I1 12 (nI k).toNatClampNeg ((I1 12 (nI k).toNatClampNeg) - (1 : Int32))) (fun I3 => bndC (f_X3_changeTemperature (nI k) I3) (fun x3 I4 => ck (isz y0j57) (some (y0j57, I4)))))))) else bndC (f_X3_boilDry (nI k) I1) (fun x4 I5 => bndC (f_X3_changeTemperature (nI k) I5) (fun x5 I6 => ck (isz y0j57) (some (y0j57, I6)))))) (fun (j57 : Int32 → Option (Int32 × kgM)) => (if (1 : Int32) = 0 then j57 (0 : Int32) else ck (inb (nI k) 10) ((if (I1 9 (nI k).toNatClampNeg) = 0 then j57 (1 : Int32) else j57 (0 : Int32)))))) = some (b2i (dr s k), J) ∧ RepG J 1 (st2 (st1 s k) k) ∧ ∀ c, (c = 0 ∨ 16 ≤ c) → J c = I c := by
      intro I1 hG1 hf
      rw [letJ_s]
      dsimp only
      have e9 : I1 9 k = nI ((watS s k).1 8 k) := hG1.wat (by rw [nu]; exact hk)
      have bu := wu.2.2.2.1 k (by rw [nu]; exact hk)
      rw [if_neg t10, ck_inb (by omega) (by omega), nI_clamp (by omega), e9]
      by_cases q : s.1 8 k ≤ 1
      · have q0 : (watS s k).1 8 k = 0 := by
          unfold watS
          by_cases z : 0 < s.1 8 k
          · rw [if_pos z]
            show (kgSet s 8 k (s.1 8 k - 1)).1 8 k = 0
            rw [kgSet_eq]; omega
          · rw [if_neg z]; omega
        rw [q0, if_pos (show nI 0 = (0 : Int32) from rfl), if_neg t10]
        obtain ⟨J, h1, h2, h3⟩ := c_dryOut hG1 wu (by rw [nu]; exact hk)
        refine ⟨J, ?_, ?_, fun c hc => (h3 c hc).trans (hf c hc)⟩
        · rw [show b2i (dr s k) = 1 from by unfold dr; rw [hb, decide_eq_true q]; rfl]; exact h1
        · rw [es, if_pos q]; exact h2
      · have q0 : (watS s k).1 8 k ≠ 0 := by
          unfold watS
          rw [if_pos (by omega)]
          show (kgSet s 8 k (s.1 8 k - 1)).1 8 k ≠ 0
          rw [kgSet_eq]; omega
        rw [if_neg (nI_ne0 (by omega) (by omega)), if_pos t00]
        obtain ⟨J, h1, h2, h3⟩ := c_cool hG1 wu (k := k) (by rw [nu]; exact hk)
        rw [nI_clamp (by omega)] at h1
        refine ⟨J, ?_, ?_, fun c hc => (h3 c hc).trans (hf c hc)⟩
        · rw [show b2i (dr s k) = 0 from by unfold dr; rw [hb, decide_eq_false q]; rfl]; exact h1
        · rw [es, if_neg q]; exact h2
    rw [show b2i true = 1 from rfl, if_neg t10, ck_inb (by omega) (by omega), nI_clamp (by omega), hG.wat hk]
    by_cases z : s.1 8 k = 0
    · rw [if_pos (by rw [z]; decide)]
      have hw : watS s k = s := by unfold watS; rw [if_neg (by omega)]
      have := key I (by rw [hw]; exact hG) (fun _ _ => rfl)
      rw [nI_clamp (by omega), hG.wat hk] at this
      exact this
    · have e1 : nI (s.1 8 k) - 1 = nI (s.1 8 k - 1) := by rw [show (1 : Int32) = nI 1 from rfl, nI_sub (by omega)]
      have hw : watS s k = kgSeb (kgSet s 8 k (s.1 8 k - 1)) 14 (s.2 14 + 1) := by unfold watS; rw [if_pos (by omega)]
      have hG1 := (hG.set (j := 8) (p := k) (v := s.1 8 k - 1) (Or.inr (by omega))).seb (i := 14) (k := 1) (p := 17) (s.2 14 + 1) (Or.inr (Or.inr (Or.inr (by omega))))
      have hG1 : RepG (kgW (kgW I 9 k (nI (s.1 8 k - 1))) 1 17 (s.2 14 + 1)) 1 (watS s k) := by rw [hw]; exact hG1
      have e17 : kgW I 9 k (nI (s.1 8 k - 1)) 1 17 = s.2 14 := by rw [kgW_n _ _ _ (by decide)]; exact hG.2.2.2.2.2
      rw [if_neg (nI_nle (show 0 < s.1 8 k by omega) (by omega)), ck_inb (by omega) (by omega), ck_inb (by omega) (by omega), bnd_s, e1, e17, bnd_s]
      have := key _ hG1 (fun c hc => by rw [kgW_n _ _ _ (by omega), kgW_n _ _ _ (by omega)])
      rw [nI_clamp (by omega)] at this
      exact this
end CLMIN
