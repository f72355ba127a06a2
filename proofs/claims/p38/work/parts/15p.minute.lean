def nxt (s : kgS) : kgS := if ((minS s).2 12 - (minS s).2 12 / (6 : Int32) * (6 : Int32)) = 0 then hrS (minS s) else minS s
def itS (s : kgS) : Nat → kgS
  | 0 => s
  | i + 1 => nxt (itS s i)
def itD (s : kgS) : Nat → Nat
  | 0 => 0
  | i + 1 => itD s i + cnt (kgN (itS s i)) (dr (itS s i))
theorem x2k_eq {s u : kgS} {k : Nat} (h : ∀ a, a = 6 ∨ a = 7 ∨ (10 ≤ a ∧ a < 14) → u.1 a k = s.1 a k) (h1 : ∀ p, u.1 1 p = s.1 1 p) (hx : x2k s k) : x2k u k := by
  unfold x2k at hx ⊢
  rw [h 11 (by omega), h 10 (by omega), h 13 (by omega), h 12 (by omega), h 7 (by omega), h 6 (by omega), h1]
  exact hx
theorem st1_f1 {s : kgS} {k a b : Nat} (h : a ≠ 8 ∧ a ≠ 10 ∧ a ≠ 11) : (st1 s k).1 a b = s.1 a b := st1_f (Or.inr h)
theorem st2_f1 {s : kgS} {k a b : Nat} (h : a ≠ 9 ∧ a ≠ 11) : (st2 s k).1 a b = s.1 a b := st2_f (Or.inr h)
theorem x2k_min {u : kgS} {k : Nat} (hx : x2k u k) : x2k (st2 (st1 u k) k) k := by
  have e11 : (st2 (st1 u k) k).1 11 k = (st1 u k).1 11 k - 1 := by
    show (if 11 = 11 ∧ k = k then (st1 u k).1 11 k - 1 else _) = _
    rw [if_pos ⟨rfl, rfl⟩]
  unfold x2k
  rw [e11, st2_f1 (a := 10) (by decide), st2_f1 (a := 13) (by decide), st2_f1 (a := 12) (by decide), st2_f1 (a := 7) (by decide), st2_f1 (a := 6) (by decide), st2_f1 (a := 1) (by decide), st1_f1 (a := 13) (by decide), st1_f1 (a := 12) (by decide), st1_f1 (a := 7) (by decide), st1_f1 (a := 6) (by decide), st1_f1 (a := 1) (by decide)]
  refine ⟨?_, hx.2⟩
  unfold st1
  by_cases hb : bo u k = true
  · rw [if_pos hb]
    by_cases h8 : u.1 8 k ≤ 1
    · rw [if_pos h8, dryS_f, dryS_f, if_pos ⟨rfl, rfl⟩, if_neg (by omega), if_pos ⟨rfl, rfl⟩]
      exact ⟨Nat.le_refl _, Or.inr rfl⟩
    · rw [if_neg h8, watS_f (by decide), watS_f (by decide)]
      have := hx.1
      omega
  · rw [if_neg hb]
    have := hx.1
    omega
theorem x2_foB {s : kgS} (h : kgX2 s) : ∀ i k, k < kgN s → x2k (foB s i) k := by
  intro i
  induction i with
  | zero => exact fun k hk => h k hk
  | succ i ih =>
    intro k hk
    have h1 := ih k hk
    show x2k (st2 (st1 (foB s i) i) i) k
    by_cases e : k = i
    · subst e; exact x2k_min h1
    · exact x2k_eq (fun a _ => by rw [st2_f (Or.inl e), st1_f (Or.inl e)]) (fun p => by rw [st2_f1 (by decide), st1_f1 (by decide)]) h1
theorem foB_1 {s : kgS} {i p : Nat} : (foB s i).1 1 p = s.1 1 p := by
  induction i with
  | zero => rfl
  | succ i ih =>
    show (st2 (st1 (foB s i) i) i).1 1 p = _
    rw [st2_f1 (by decide), st1_f1 (by decide), ih]
theorem tr_minS {s : kgS} : kgTr s (minS s) :=
  ⟨fun h k hk => x2_foB h (kgN s) k (by rw [minS_n] at hk; exact hk), fun p _ => foB_1, Nat.le_of_eq minS_n.symm⟩
theorem tr_zbS {s : kgS} {i : Nat} : kgTr s (zbS s i) := by
  induction i with
  | zero => rw [zbS_0]; exact tr_rf
  | succ i ih => rw [← zbS_s]; exact ih.trans (tr_bars (Or.inl rfl))
theorem tr_hrS {s : kgS} : kgTr s (hrS s) := by
  have h1 : kgTr s (ptS s (fun m => s.2 m + smI (kgN s) (fun a => smI (kgN s) (fun b => pF s m a b)))) := ⟨id, fun _ _ => rfl, Nat.le_refl _⟩
  exact h1.trans tr_zbS
theorem tr_nxt {s : kgS} : kgTr s (nxt s) := by
  unfold nxt
  split
  · exact tr_minS.trans tr_hrS
  · exact tr_minS
theorem tr_itS {s : kgS} {i : Nat} : kgTr s (itS s i) := by
  induction i with
  | zero => exact tr_rf
  | succ i ih => exact ih.trans tr_nxt
theorem wf_nxt {s : kgS} (w : kgWF s) : kgWF (nxt s) := by
  unfold nxt
  split
  · exact wf_hrS (wf_minS w)
  · exact wf_minS w
theorem wf_itS {s : kgS} (w : kgWF s) {i : Nat} : kgWF (itS s i) := by
  induction i with
  | zero => exact w
  | succ i ih => exact wf_nxt ih
theorem itD_le {s : kgS} (w : kgWF s) {i : Nat} : itD s i ≤ i * 10 := by
  induction i with
  | zero => exact Nat.zero_le _
  | succ i ih =>
    have h1 := cnt_le (kgN (itS s i)) (dr (itS s i))
    have h2 := (wf_itS w (i := i)).1
    show itD s i + _ ≤ _
    omega
theorem pt_mono {B B' : Int} {s : kgS} (h : kgPt B s) (hB : B ≤ B') : kgPt B' s := fun m hm => bdd_mono (h m hm) hB
theorem pt_nxt {B : Int} {s : kgS} (w : kgWF s) (hp : kgPt B s) (hB : 0 ≤ B ∧ B < 500000000) : kgPt (B + 220) (nxt s) := by
  have hn := w.1
  have h1 : kgPt (B + 20) (minS s) := pt_seb (pt_mono (pt_foB w hp (by omega) (Nat.le_refl _)) (by omega)) (by decide)
  unfold nxt
  split
  · exact pt_mono (pt_hrS (wf_minS w) h1 (by omega)) (by omega)
  · exact pt_mono h1 (by omega)
theorem pt_itS {B : Int} {s : kgS} (w : kgWF s) (hp : kgPt B s) (hB : 0 ≤ B ∧ B < 400000000) {i : Nat} (hi : i ≤ 9) : kgPt (B + 220 * i) (itS s i) := by
  induction i with
  | zero => rw [show B + 220 * ((0 : Nat) : Int) = B by omega]; exact hp
  | succ i ih =>
    have := pt_nxt (wf_itS w (i := i)) (ih (by omega)) (by omega)
    rw [show B + 220 * ((i + 1 : Nat) : Int) = B + 220 * (i : Int) + 220 by omega]
    exact this
theorem c_minutes {I : kgM} {s : kgS} (w : kgWF s) {m : Nat} (hm : m ≤ 9) : ∀ q k (x : kgM), k ≤ m → m < q + k → RepG x 1 (itS s k) → frA I x → ∃ J, f_X4_passMinutes_L19 (nI m) (fun x6 I3 => some (x6, I3)) q (nI (itD s k)) (nI k) x = some (nI (itD s m), J) ∧ RepG J 1 (itS s m) ∧ frA I J := by
  intro q
  induction q with
  | zero => intro k x h1 h2; omega
  | succ q ih =>
    intro k x h1 h2 G F
    by_cases e : k = m
    · subst e
      rw [f_X4_passMinutes_L19, if_pos (Int32.le_refl _)]
      exact ⟨x, rfl, G, F⟩
    · have wk := wf_itS w (i := k)
      obtain ⟨J, h3, h4, h5⟩ := c_passMinute G wk
      rw [f_X4_passMinutes_L19, if_neg (nI_ge (show k < m by omega) (by omega)), h3, bndC_s, bnd_s, nI_add, h4.2.2.2.1]
      have en : itS s (k + 1) = nxt (itS s k) := rfl
      by_cases z : ((minS (itS s k)).2 12 - (minS (itS s k)).2 12 / (6 : Int32) * (6 : Int32)) = 0
      · obtain ⟨J2, h6, h7, h8⟩ := c_hold h4 (wf_minS wk)
        rw [if_pos z, h6, bndC_s, bnd_s, nI_1]
        refine ih (k + 1) J2 (by omega) (by omega) ?_ (F.trans (h5.trans h8))
        rw [en]; unfold nxt; rw [if_pos z]; exact h7
      · rw [if_neg z, bnd_s, nI_1]
        refine ih (k + 1) J (by omega) (by omega) ?_ (F.trans h5)
        rw [en]; unfold nxt; rw [if_neg z]; exact h4
theorem m_minutes {I : kgM} {s : kgS} (w : kgWF s) {m : Nat} (hm : m ≤ 9) : ∀ q k (x : kgM), k ≤ m → m < q + k → RepR (kgRow x 0) (itS s k) → fr8 I x → ∃ J, f_X5_passes_L18 (nI m) (fun x5 I3 => some (x5, I3)) q (nI (itD s k)) (nI k) x = some (nI (itD s m), J) ∧ RepR (kgRow J 0) (itS s m) ∧ fr8 I J := by
  intro q
  induction q with
  | zero => intro k x h1 h2; omega
  | succ q ih =>
    intro k x h1 h2 R F
    by_cases e : k = m
    · subst e
      rw [f_X5_passes_L18, if_pos (Int32.le_refl _)]
      exact ⟨x, rfl, R, F⟩
    · have wk := wf_itS w (i := k)
      obtain ⟨J, h3, h4, h5⟩ := m_goes R wk
      rw [f_X5_passes_L18, if_neg (nI_ge (show k < m by omega) (by omega)), h3]
      have en : itS s (k + 1) = nxt (itS s k) := rfl
      by_cases z : ((minS (itS s k)).2 12 - (minS (itS s k)).2 12 / (6 : Int32) * (6 : Int32)) = 0
      · obtain ⟨J2, h6, h7, h8⟩ := m_sounds h4 (wf_minS wk)
        rw [if_pos z, h6, bndC_s, bndC_s, bnd_s, nI_add, bnd_s, nI_1]
        refine ih (k + 1) J2 (by omega) (by omega) ?_ (F.trans (h5.trans h8))
        rw [en]; unfold nxt; rw [if_pos z]; exact h7
      · rw [if_neg z, bndC_s, bnd_s, nI_add, bnd_s, nI_1]
        refine ih (k + 1) J (by omega) (by omega) ?_ (F.trans h5)
        rw [en]; unfold nxt; rw [if_neg z]; exact h4
theorem ok_minute {B : Int} (hB : 0 ≤ B ∧ B < 400000000) (a : Int32) : OpOK B (B + 2000) (fun I => f_X4_passMinutes a I) (fun I => f_X5_passes a I) := by
  intro s IC IM hG hR w hp hq
  have hn := w.1
  have hin : f_X5_in a 1 9 IM = some (b2i (rgI 1 9 a), IM) := m_in a 1 9
  by_cases q1 : rgI 1 9 a = true
  · obtain ⟨m, rfl, hm1, hm⟩ := rg_nI (a := 1) (b := 9) q1
    obtain ⟨JC, c1, c2, c3⟩ := c_minutes (I := IC) w hm 200 0 IC (by omega) (by omega) hG frA.rf
    obtain ⟨JM, k1, k2, k3⟩ := m_minutes (I := IM) w hm 200 0 IM (by omega) (by omega) hR fr8.rf
    have hd := itD_le w (i := m)
    refine op_done hq (x := nI (itD s m)) ?_ ?_ c2 k2 (wf_itS w) (pt_mono (pt_itS w hp hB hm) (by omega)) (nI_ge0 (by omega)) c3 k3.1 k3.2 tr_itS
    · show f_X4_passMinutes _ _ = _
      unfold f_X4_passMinutes
      rw [if_neg (show ¬ nI m < (1 : Int32) from nI_nlt (b := 1) hm1 (by omega)), if_pos (show nI m ≤ (9 : Int32) from nI_le (b := 9) hm (by omega))]
      exact c1
    · show f_X5_passes _ _ = _
      unfold f_X5_passes
      rw [hin, bndC_s, if_neg (b2i_n0 q1)]
      exact k1
  · refine op_code hG hR w (pt_mono hp (by omega)) hq (x := -1012) (Or.inr rfl) ?_ ?_
    · have q3 : ¬ (1 ≤ a.toInt ∧ a.toInt ≤ 9) := of_decide_eq_false (by simpa [rgI] using q1)
      show f_X4_passMinutes _ _ = _
      unfold f_X4_passMinutes
      simp only [lt_t, le_t, show (1 : Int32).toInt = 1 from rfl, show (9 : Int32).toInt = 9 from rfl]
      by_cases q4 : a.toInt < 1
      · rw [if_pos q4]
      · rw [if_neg q4, if_neg (by omega)]
    · show f_X5_passes _ _ = _
      unfold f_X5_passes
      rw [hin, bndC_s, if_pos (b2i_z q1)]

