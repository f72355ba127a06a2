/-! THE REFERENCE READS ALL -/
theorem ordK_one {t : Nat → Nat} {h κ : Nat} (ho : ∀ k, k < 9 → k ≠ κ → (rdF t (fmN k) h []).2 = none ∧ (rdF t (fmN k) h []).1 ≤ (rdF t (fmN κ) h []).1) : ∀ d k m, k + d = 9 → m ≤ (rdF t (fmN κ) h []).1 → (κ < k → (rdF t (fmN κ) h []).2 = none ∧ m = (rdF t (fmN κ) h []).1) → κ < 9 →
    ordK t h d k m = ((rdF t (fmN κ) h []).1, (rdF t (fmN κ) h []).2.map (fun a => (κ, a))) := by
  intro d
  induction d with
  | zero =>
    intro k m hk hm hκ h9
    have := hκ (by omega)
    rw [this.1]
    show (m, none) = _
    rw [this.2]; rfl
  | succ d ih =>
    intro k m hk hm hκ h9
    have e : ordK t h (d + 1) k m = match (rdF t (fmN k) h []).2 with | none => ordK t h d (k + 1) (max m (rdF t (fmN k) h []).1) | some a => ((rdF t (fmN k) h []).1, some (k, a)) := rfl
    rw [e]
    by_cases z : k = κ
    · subst z
      cases q : (rdF t (fmN k) h []).2 with
      | none =>
        dsimp only
        rw [ih (k + 1) _ (by omega) (by omega) (fun _ => ⟨q, by omega⟩) h9, q]
      | some a => rfl
    · have o := ho k (by omega) z
      rw [o.1]
      dsimp only
      refine ih (k + 1) _ (by omega) (by omega) (fun hlt => ?_) h9
      have := hκ (by omega)
      exact ⟨this.1, by omega⟩
theorem ordS_one {t : Nat → Nat} {L h κ : Nat} (w : TxW t L) (hh : h ≤ L) (h9 : κ < 9) (ho : ∀ k, k < 9 → k ≠ κ → (rdF t (fmN k) h []).2 = none ∧ (rdF t (fmN k) h []).1 ≤ (rdF t (fmN κ) h []).1) : ordS t h = ((rdF t (fmN κ) h []).1, (rdF t (fmN κ) h []).2.map (fun a => (κ, a))) :=
  ordK_one ho 9 0 h (by omega) (rdF_pos w (fmN κ) h [] (fm_pos κ h9) hh).1 (fun z => by omega) h9
theorem wd_no {t : Nat → Nat} {h k : Nat} (hk : k < 9) (hc : t h ≠ wdC k) : rdF t (fmN k) h [] = (h, none) := by
  have f := wd_form k hk
  rw [f.1, rdF_1 f.2.1, if_neg hc]
/-- an order is read -/
def orD (t : Nat → Nat) (L : Nat) (I : kgM) (n h : Nat) (J : kgM) : Prop :=
  (∀ c, c ≠ 177 → c ≠ 182 → J c = I c) ∧ (∀ x, x ≠ 8 → x ≠ 9 → x ≠ 11 → J 177 x = I 177 x) ∧ (∀ x, (x < 4 * n ∨ 4 * n + 4 ≤ x) → J 182 x = I 182 x) ∧ TxM t L J ∧ J 177 11 = nI (n + 1) ∧ (match (ordS t h).2 with
    | none => J 177 9 = nI (ordS t h).1
    | some y => atM J (ordS t h).1 ∧ J 182 (4 * n) = nI (wdL y.1) ∧ ∀ i, i < y.2.length → J 182 (4 * n + 1 + i) = nI (y.2.getD i 0))
theorem or_done {t : Nat → Nat} {L n h κ : Nat} {I J : kgM} (w : TxW t L) (hh : h ≤ L) (h9 : κ < 9) (hc : t h = wdC κ) (ho : ∀ k, k < 9 → k ≠ κ → (rdF t (fmN k) h []).2 = none ∧ (rdF t (fmN k) h []).1 ≤ (rdF t (fmN κ) h []).1) (m : orM t L I n (wdE t κ h).1 (nI (wdL κ) :: (wdE t κ h).2.map nI) J) : orD t L I n h J := by
  refine ⟨m.1, m.2.1, m.2.2.1, m.2.2.2.1, m.2.2.2.2.2.2.1, ?_⟩
  rw [ordS_one w hh h9 ho, wd_rdF w h9 hh hc]
  have s := m.2.2.2.2.1
  have v := m.2.2.2.2.2.2.2
  match q : wdE t κ h with
  | ((true, h2), a) =>
    rw [q] at s v
    refine ⟨s, v 0 (by simp), fun i hi => ?_⟩
    have hi : i < a.length := hi
    have := v (i + 1) (by simp; exact hi)
    rw [show 4 * n + 1 + i = 4 * n + (i + 1) by omega, this]
    show (a.map nI).getD i 0 = nI (a.getD i 0)
    simp [List.getD_eq_getElem?_getD, List.getElem?_map, List.getElem?_eq_getElem hi]
  | ((false, f), a) =>
    rw [q] at s
    exact s
theorem wd_c : ∀ k, k < 9 → ∀ j, j < 9 → (j = k ∨ ¬ wdC k = wdC j ∨ (k = 0 ∧ j = 3) ∨ (k = 3 ∧ j = 0)) := by decide +kernel
theorem m_order {t : Nat → Nat} {L n h : Nat} {I : kgM} (w : TxW t L) (hn : n ≤ 10) (x : TxM t L I) (h11 : I 177 11 = nI n) (hs : atM I h) (hh : h ≤ L) : ∃ J, f_X5_order I = some (0, J) ∧ orD t L I n h J := by
  have h60 := w.1
  have only : ∀ κ, κ < 9 → κ ≠ 0 → κ ≠ 3 → t h = wdC κ → ∀ k, k < 9 → k ≠ κ → (rdF t (fmN k) h []).2 = none ∧ (rdF t (fmN k) h []).1 ≤ (rdF t (fmN κ) h []).1 := by
    intro κ h9 a b hc k hk hne
    rw [wd_no hk (fun z => by
      have := wd_c κ h9 k hk
      have := hc.symm.trans z
      omega)]
    exact ⟨rfl, (rdF_pos w (fmN κ) h [] (fm_pos κ h9) hh).1⟩
  have go : ∀ κ, κ < 9 → κ ≠ 0 → κ ≠ 3 → t h = wdC κ → (∃ J, f_X5_order I = some (0, J) ∧ orM t L I n (wdE t κ h).1 (nI (wdL κ) :: (wdE t κ h).2.map nI) J) → ∃ J, f_X5_order I = some (0, J) ∧ orD t L I n h J := by
    intro κ h9 a b hc ⟨J, g1, g2⟩
    exact ⟨J, g1, or_done w hh h9 hc (only κ h9 a b hc) g2⟩
  by_cases c1 : t h = 107
  · exact go 1 (by omega) (by omega) (by omega) c1 (m_kind1 w hn x h11 hs hh c1)
  by_cases c2 : t h = 115
  · exact go 2 (by omega) (by omega) (by omega) c2 (m_kind2 w hn x h11 hs hh c2)
  by_cases c4 : t h = 104
  · exact go 4 (by omega) (by omega) (by omega) c4 (m_kind4 w hn x h11 hs hh c4)
  by_cases c5 : t h = 102
  · exact go 5 (by omega) (by omega) (by omega) c5 (m_kind5 w hn x h11 hs hh c5)
  by_cases c6 : t h = 108
  · exact go 6 (by omega) (by omega) (by omega) c6 (m_kind6 w hn x h11 hs hh c6)
  by_cases c7 : t h = 97
  · exact go 7 (by omega) (by omega) (by omega) c7 (m_kind7 w hn x h11 hs hh c7)
  by_cases c8 : t h = 109
  · exact go 8 (by omega) (by omega) (by omega) c8 (m_kind8 w hn x h11 hs hh c8)
  by_cases c0 : t h = 111
  · have f0 : rdF t (fmN 0) h [] = rdF t (119 :: [110, 32, 35, 32, 37]) (h + 1) [] := by
      show rdF t (111 :: _) h [] = _
      rw [rdF_1 (by decide), if_pos c0]
    have f3 : rdF t (fmN 3) h [] = rdF t (102 :: [102, 32, 35]) (h + 1) [] := by
      show rdF t (111 :: _) h [] = _
      rw [rdF_1 (by decide), if_pos c0]
    have hlt := ne_lt w (by omega) c0
    have other : ∀ k, k < 9 → k ≠ 0 → k ≠ 3 → rdF t (fmN k) h [] = (h, none) := fun k hk a b => wd_no hk (fun z => by
      have := wd_c 0 (by omega) k hk
      have : wdC 0 = wdC k := c0.symm.trans z
      omega)
    by_cases hq : t (h + 1) = 102
    · obtain ⟨J, g1, g2⟩ := m_kind3 w hn x h11 hs hh c0 hq
      refine ⟨J, g1, or_done w hh (κ := 3) (by omega) c0 (fun k hk hne => ?_) g2⟩
      by_cases k0 : k = 0
      · subst k0
        rw [f0, rdF_1 (by decide), if_neg (by omega), f3]
        exact ⟨rfl, (rdF_pos w _ (h + 1) [] (by decide) (by omega)).1⟩
      · rw [other k hk k0 hne]
        exact ⟨rfl, (rdF_pos w (fmN 3) h [] (fm_pos 3 (by omega)) hh).1⟩
    · obtain ⟨J, g1, g2⟩ := m_kind0 w hn x h11 hs hh c0 hq
      refine ⟨J, g1, or_done w hh (κ := 0) (by omega) c0 (fun k hk hne => ?_) g2⟩
      by_cases k3 : k = 3
      · subst k3
        rw [f3, rdF_1 (by decide), if_neg hq, f0]
        exact ⟨rfl, (rdF_pos w _ (h + 1) [] (by decide) (by omega)).1⟩
      · rw [other k hk hne k3]
        exact ⟨rfl, (rdF_pos w (fmN 0) h [] (fm_pos 0 (by omega)) hh).1⟩
  · have no : ∀ k, k < 9 → rdF t (fmN k) h [] = (h, none) := fun k hk => wd_no hk (fun z => by
      have hz : ∀ k, k < 9 → wdC k = 107 ∨ wdC k = 115 ∨ wdC k = 104 ∨ wdC k = 102 ∨ wdC k = 108 ∨ wdC k = 97 ∨ wdC k = 109 ∨ wdC k = 111 := by decide
      have := hz k hk
      omega)
    have es : ordS t h = (h, none) := by
      rw [ordS_one w hh (κ := 0) (by omega) (fun k hk _ => by rw [no k hk, no 0 (by omega)]; exact ⟨rfl, Nat.le_refl _⟩), no 0 (by omega)]
      rfl
    have e4 : (4 : Int32) * nI n = nI (4 * n) := nI_mul 4 n
    unfold f_X5_order
    rw [h11, e4, bnd_s, nI_1, bnd_s]
    have o1 : orM t L I n (true, h) [] (kgW I 177 11 (nI (n + 1))) := or_begin x hs hh
    generalize kgW I 177 11 (nI (n + 1)) = I1 at o1
    rw [m_signAt w o1.2.2.2.1 o1.2.2.2.2.1.1 (by omega), bndC_s, m_zero4 hn]
    have o4 := or_zero o1
    generalize kgW (kgW (kgW (kgW I1 182 (4 * n) 0) 182 (4 * n + 1) 0) 182 (4 * n + 2) 0) 182 (4 * n + 3) 0 = I4 at o4
    have s4 : atM I4 h := o4.2.2.2.2.1
    have ng : ∀ c, c ≠ 0 → c < 127 → t h ≠ c → ¬ (if h < L then nI (t h) else -1) = nI c := fun c a b d z => d ((sg_eq w a b).mp z)
    rw [letJ_s, if_neg (show ¬ (if h < L then nI (t h) else -1) = (111 : Int32) from ng 111 (by omega) (by omega) c0), if_neg (show ¬ (if h < L then nI (t h) else -1) = (107 : Int32) from ng 107 (by omega) (by omega) c1), if_neg (show ¬ (if h < L then nI (t h) else -1) = (115 : Int32) from ng 115 (by omega) (by omega) c2), if_neg (show ¬ (if h < L then nI (t h) else -1) = (104 : Int32) from ng 104 (by omega) (by omega) c4), if_neg (show ¬ (if h < L then nI (t h) else -1) = (102 : Int32) from ng 102 (by omega) (by omega) c5), if_neg (show ¬ (if h < L then nI (t h) else -1) = (108 : Int32) from ng 108 (by omega) (by omega) c6), if_neg (show ¬ (if h < L then nI (t h) else -1) = (97 : Int32) from ng 97 (by omega) (by omega) c7), if_neg (show ¬ (if h < L then nI (t h) else -1) = (109 : Int32) from ng 109 (by omega) (by omega) c8), s4.1, bnd_s]
    have o5 : orM t L I n (false, h) [] (kgW I4 177 9 (nI h)) := o4.nm (nmM.w9 _) w9s hh
    refine ⟨_, rfl, o5.1, o5.2.1, o5.2.2.1, o5.2.2.2.1, o5.2.2.2.2.2.2.1, ?_⟩
    rw [es]
    exact w9s
/-- what the reference has read -/
def SM (t : Nat → Nat) (n : Nat) (J : kgM) : Prop := ∀ k, k < n → ∃ y, (ordS t (ps t k)).2 = some y ∧ J 182 (4 * k) = nI (wdL y.1) ∧ ∀ i, i < y.2.length → J 182 (4 * k + 1 + i) = nI (y.2.getD i 0)
def paM (I J : kgM) : Prop := (∀ c, c ≠ 177 → c ≠ 182 → J c = I c) ∧ ∀ x, x ≠ 8 → x ≠ 9 → x ≠ 11 → J 177 x = I 177 x
theorem paM.trans {I J K : kgM} (h1 : paM I J) (h2 : paM J K) : paM I K := ⟨fun c a b => (h2.1 c a b).trans (h1.1 c a b), fun x a b c => (h2.2 x a b c).trans (h1.2 x a b c)⟩
def paK (I8 : kgM) : Option (Int32 × kgM) := (if 0 ≤ (I8 177 9) then some ((0 : Int32), I8) else (if (I8 177 7) ≤ (I8 177 8) then some ((0 : Int32), I8) else bnd (kgW I8 177 9 (I8 177 8)) (fun I9 => some ((0 : Int32), I9))))
theorem m_parseL {t : Nat → Nat} {L : Nat} (w : TxW t L) {I : kgM} : ∀ q d n (I2 I3 : kgM), n + d = 11 → d < q → ps t n ≤ L → 6 * n ≤ ps t n → (∀ k, k < n → ps t k ≤ L) → paM I I2 → TxM t L I2 → atM I2 (ps t n) → I2 177 11 = nI n → SM t n I2 → orD t L I2 n (ps t n) I3 → ∃ J, f_X5_parse_L19 paK q I3 = some (0, J) ∧ paM I J ∧ (match prs t L d n with
      | (false, f) => J 177 9 = nI f
      | (true, m) => J 177 9 = -1 ∧ J 177 11 = nI m ∧ SM t m J) := by
  have h60 := w.1
  intro q
  induction q with
  | zero => intro d n I2 I3 h1 h2; omega
  | succ q ih =>
    intro d n I2 I3 hd hq hp hp6 hps hr x2 h2 h11 hs o3
    obtain ⟨d, rfl⟩ : ∃ d2, d = d2 + 1 := ⟨d - 1, by omega⟩
    have o := ordS_pos w hp
    obtain ⟨g1, g2, g3, g4, g5, g6⟩ := o3
    have r3 : paM I I3 := hr.trans ⟨g1, g2⟩
    have e : prs t L (d + 1) n = match (ordS t (ps t n)).2 with | none => (false, (ordS t (ps t n)).1) | some _ => if (ordS t (ps t n)).1 = L then (true, n + 1) else if t (ordS t (ps t n)).1 = 59 then prs t L d (n + 1) else (false, (ordS t (ps t n)).1) := rfl
    rw [f_X5_parse_L19]
    cases r : (ordS t (ps t n)).2 with
    | none =>
      rw [r] at e g6
      have g6 : I3 177 9 = nI (ordS t (ps t n)).1 := g6
      rw [show prs t L (d + 1) n = (false, (ordS t (ps t n)).1) from e]
      exact ⟨I3, by rw [g6, if_pos (nI_ge0 (by omega))]; unfold paK; rw [g6, if_pos (nI_ge0 (by omega))], r3, g6⟩
    | some y =>
      rw [r] at e g6
      obtain ⟨g6, g7, g8⟩ := g6
      have oy := o.2.2 y r
      have s3 : SM t (n + 1) I3 := by
        intro k hk
        by_cases z : k = n
        · subst z; exact ⟨y, r, g7, g8⟩
        · obtain ⟨y2, u0, u1, u2⟩ := hs k (by omega)
          have b2 := (ordS_pos w (hps k (by omega))).2.2 y2 u0
          have b3 := fm_len y2.1 b2.2.1
          exact ⟨y2, u0, by rw [g3 _ (by omega)]; exact u1, fun i hi => by rw [g3 _ (by omega)]; exact u2 i hi⟩
      rw [g6.2, if_neg (by decide), m_signAt w g4 g6.1 (by omega), bndC_s]
      have q59 : ((if (ordS t (ps t n)).1 < L then nI (t (ordS t (ps t n)).1) else -1) = (59 : Int32)) = (t (ordS t (ps t n)).1 = 59) := sg_eq w (c := 59) (by omega) (by omega)
      by_cases c1 : (ordS t (ps t n)).1 = L
      · have t0 := (w.2 (ordS t (ps t n)).1).2 (by omega)
        rw [show prs t L (d + 1) n = (true, n + 1) from by rw [show prs t L (d + 1) n = _ from e]; show (if _ then _ else _) = _; rw [if_pos c1]]
        rw [if_neg (fun z => by have := q59.mp z; omega)]
        refine ⟨I3, ?_, r3, g6.2, g5, s3⟩
        unfold paK
        rw [g6.2, if_neg (by decide), g4.1, g6.1, c1, if_pos (Int32.le_refl _)]
      · by_cases c2 : t (ordS t (ps t n)).1 = 59
        · rw [show prs t L (d + 1) n = prs t L d (n + 1) from by rw [show prs t L (d + 1) n = _ from e]; show (if _ then _ else _) = _; rw [if_neg c1, if_pos c2]]
          have hlt := ne_lt w (by decide) c2
          rw [if_pos (q59.mpr c2), g6.1, nI_1, bnd_s]
          have m8 : nmM I3 (kgW I3 177 8 (nI ((ordS t (ps t n)).1 + 1))) := nmM.w8 _
          have a8 := g6.w8
          have r4 : paM I (kgW I3 177 8 (nI ((ordS t (ps t n)).1 + 1))) := r3.trans ⟨fun c a _ => m8.1 c a, fun x a b _ => m8.2 x a b⟩
          obtain ⟨J, u1, u2⟩ := m_order w (n := n + 1) (h := ps t (n + 1)) (by omega) (m8.tx g4) (by rw [m8.2 11 (by omega) (by omega)]; exact g5) a8 (by show (ordS t (ps t n)).1 + 1 ≤ L; omega)
          rw [u1, bndC_s]
          refine ih d (n + 1) _ J (by omega) (by omega) (by show (ordS t (ps t n)).1 + 1 ≤ L; omega) (by show 6 * (n + 1) ≤ (ordS t (ps t n)).1 + 1; omega) (fun k hk => ?_) r4 (m8.tx g4) a8 (by rw [m8.2 11 (by omega) (by omega)]; exact g5) (fun k hk => ?_) u2
          · by_cases z : k = n
            · subst z; exact hp
            · exact hps k (by omega)
          · obtain ⟨y2, u0, u1, u2⟩ := s3 k hk
            exact ⟨y2, u0, by rw [m8.1 182 (by omega)]; exact u1, fun i hi => by rw [m8.1 182 (by omega)]; exact u2 i hi⟩
        · rw [show prs t L (d + 1) n = (false, (ordS t (ps t n)).1) from by rw [show prs t L (d + 1) n = _ from e]; show (if _ then _ else _) = _; rw [if_neg c1, if_neg c2]]
          rw [if_neg (fun z => c2 (q59.mp z))]
          refine ⟨kgW I3 177 9 (nI (ordS t (ps t n)).1), ?_, r3.trans ⟨fun c a _ => kgW_n _ _ _ a, fun x a b _ => by rw [kgW_r, if_neg (fun z => b z.2)]⟩, w9s⟩
          unfold paK
          rw [g6.2, if_neg (by decide), g4.1, g6.1, if_neg (nI_ge (by omega) (by omega)), bnd_s]
theorem m_parse {t : Nat → Nat} {L : Nat} (w : TxW t L) {I : kgM} (x : TxM t L I) : ∃ J, f_X5_parse I = some (0, J) ∧ paM I J ∧ (match prs t L 11 0 with
      | (false, f) => J 177 9 = nI f
      | (true, m) => J 177 9 = -1 ∧ J 177 11 = nI m ∧ SM t m J) := by
  unfold f_X5_parse
  rw [bnd_s, bnd_s, bnd_s]
  have hI3 : paM I (kgW (kgW (kgW I 177 8 0) 177 9 (-1)) 177 11 0) := ⟨fun c a _ => by rw [kgW_n _ _ _ a, kgW_n _ _ _ a, kgW_n _ _ _ a], fun x a b c => by rw [kgW_r, if_neg (fun z => c z.2), kgW_r, if_neg (fun z => b z.2), kgW_r, if_neg (fun z => a z.2)]⟩
  have a3 : atM (kgW (kgW (kgW I 177 8 0) 177 9 (-1)) 177 11 0) (ps t 0) := ⟨by rw [kgW_r, if_neg (by omega), kgW_r, if_neg (by omega), kgW_r, if_pos ⟨rfl, rfl⟩]; rfl, by rw [kgW_r, if_neg (by omega), kgW_r, if_pos ⟨rfl, rfl⟩]⟩
  have b3 : kgW (kgW (kgW I 177 8 0) 177 9 (-1)) 177 11 0 177 11 = nI 0 := by rw [kgW_r, if_pos ⟨rfl, rfl⟩]; rfl
  generalize kgW (kgW (kgW I 177 8 0) 177 9 (-1)) 177 11 0 = I3 at hI3 a3 b3
  have x3 : TxM t L I3 := ⟨by rw [hI3.2 7 (by omega) (by omega) (by omega)]; exact x.1, fun i hi => by rw [hI3.1 181 (by omega) (by omega)]; exact x.2 i hi⟩
  obtain ⟨J, u1, u2⟩ := m_order w (n := 0) (h := ps t 0) (by omega) x3 b3 a3 (Nat.zero_le _)
  rw [u1, bndC_s]
  exact m_parseL w 200 11 0 I3 J (by omega) (by omega) (Nat.zero_le _) (Nat.zero_le _) (fun k hk => by omega) hI3 x3 a3 b3 (fun k hk => by omega) u2
