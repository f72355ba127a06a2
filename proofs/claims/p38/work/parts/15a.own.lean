/-! WHAT AN ORDER DOES -/
/-- what p38 wants besides of a guild's numbers -/
def x2k (s : kgS) (k : Nat) : Prop := (s.1 11 k ≤ 6 ∧ (s.1 11 k = 0 ∨ s.1 10 k = 0)) ∧ (s.1 13 k = 0 ∨ s.1 12 k = 0) ∧ s.1 1 (s.1 7 k) = s.1 6 k + 1
def kgX2 (s : kgS) : Prop := ∀ k, k < kgN s → x2k s k
/-- what an order keeps -/
def kgTr (s s' : kgS) : Prop := (kgX2 s → kgX2 s') ∧ (∀ p, s.1 1 p ≠ 0 → s'.1 1 p = s.1 1 p) ∧ kgN s ≤ kgN s'
theorem tr_rf {s : kgS} : kgTr s s := ⟨id, fun _ _ => rfl, Nat.le_refl _⟩
theorem kgTr.trans {s t u : kgS} (h1 : kgTr s t) (h2 : kgTr t u) : kgTr s u :=
  ⟨fun h => h2.1 (h1.1 h), fun p hp => by rw [h2.2.1 p (by rw [h1.2.1 p hp]; exact hp), h1.2.1 p hp], Nat.le_trans h1.2.2 h2.2.2⟩
theorem ks_at (s : kgS) (j p v a b : Nat) : (kgSet s j p v).1 a b = if a = j ∧ b = p then v else s.1 a b := rfl
theorem tr_own {s : kgS} {p v : Nat} (z : s.1 1 p = 0) : kgTr s (kgSet s 1 p v) := by
  have e1 : ∀ a b, a ≠ 1 → (kgSet s 1 p v).1 a b = s.1 a b := fun a b h => if_neg (fun q => h q.1)
  refine ⟨fun h k hk => ?_, fun q hq => ?_, Nat.le_of_eq (e1 0 0 (by decide)).symm⟩
  · have hx := h k (by rw [← show kgN (kgSet s 1 p v) = kgN s from e1 0 0 (by decide)]; exact hk)
    unfold x2k at hx ⊢
    rw [e1 11 k (by decide), e1 10 k (by decide), e1 13 k (by decide), e1 12 k (by decide), e1 7 k (by decide), e1 6 k (by decide)]
    refine ⟨hx.1, hx.2.1, ?_⟩
    rw [ks_at, if_neg (fun q => by have := hx.2.2; rw [q.2, z] at this; omega)]
    exact hx.2.2
  · rw [ks_at, if_neg (fun z2 => hq (by rw [z2.2]; exact z))]
/-- a field of the kettle k is set -/
theorem tr_set {s : kgS} {j p v : Nat} (hj : j ≠ 0 ∧ j ≠ 1 ∧ j ≠ 6 ∧ j ≠ 7) (h : ∀ k, k = p → x2k s k → ((if j = 11 then v else s.1 11 k) ≤ 6 ∧ ((if j = 11 then v else s.1 11 k) = 0 ∨ (if j = 10 then v else s.1 10 k) = 0)) ∧ ((if j = 13 then v else s.1 13 k) = 0 ∨ (if j = 12 then v else s.1 12 k) = 0)) : kgTr s (kgSet s j p v) := by
  have e0 : kgN (kgSet s j p v) = kgN s := if_neg (fun q => hj.1 q.1.symm)
  have e1 : ∀ b, (kgSet s j p v).1 1 b = s.1 1 b := fun b => if_neg (fun q => hj.2.1 q.1.symm)
  have e6 : ∀ b, (kgSet s j p v).1 6 b = s.1 6 b := fun b => if_neg (fun q => hj.2.2.1 q.1.symm)
  have e7 : ∀ b, (kgSet s j p v).1 7 b = s.1 7 b := fun b => if_neg (fun q => hj.2.2.2 q.1.symm)
  refine ⟨fun hx k hk => ?_, fun q _ => e1 q, Nat.le_of_eq e0.symm⟩
  rw [e0] at hk
  have hk2 := hx k hk
  unfold x2k at hk2 ⊢
  rw [e7, e6, e1]
  refine (and_assoc.mp ⟨?_, hk2.2.2⟩)
  by_cases e : k = p
  · have := h k e (hx k hk)
    simp only [ks_at, e, and_true]
    subst e
    simp only [eq_comm (a := 11), eq_comm (a := 10), eq_comm (a := 13), eq_comm (a := 12)] at this ⊢
    exact this
  · simp only [ks_at, e, and_false, if_false]
    exact ⟨hk2.1, hk2.2.1⟩
theorem tr_free {s : kgS} {j p v : Nat} (hj : j = 5 ∨ j = 8 ∨ j = 9 ∨ j = 14) : kgTr s (kgSet s j p v) :=
  tr_set (by omega) (fun k _ h => by
    rw [if_neg (by omega), if_neg (by omega), if_neg (by omega), if_neg (by omega)]; exact ⟨h.1, h.2.1⟩)
theorem tr_stv {s : kgS} {p v : Nat} (hv : v = 0 ∨ s.1 11 p = 0) : kgTr s (kgSet s 10 p v) :=
  tr_set (by decide) (fun k e h => by
    subst e
    rw [if_neg (by decide), if_pos rfl, if_neg (by decide), if_neg (by decide)]
    exact ⟨⟨h.1.1, hv.symm⟩, h.2.1⟩)
theorem tr_lid {s : kgS} {p v : Nat} (hv : v = 0 ∨ s.1 13 p = 0) : kgTr s (kgSet s 12 p v) :=
  tr_set (by decide) (fun k e h => by
    subst e
    rw [if_neg (by decide), if_neg (by decide), if_neg (by decide), if_pos rfl]
    exact ⟨h.1, hv.symm⟩)
theorem tr_bars {s : kgS} {p v : Nat} (hv : v = 0 ∨ s.1 12 p = 0) : kgTr s (kgSet s 13 p v) :=
  tr_set (by decide) (fun k e h => by
    subst e
    rw [if_neg (by decide), if_neg (by decide), if_pos rfl, if_neg (by decide)]
    exact ⟨h.1, hv⟩)
theorem tr_bar {s : kgS} {k i : Nat} {x : Int32} : kgTr s (kgSet (kgSet (kgSet (kgSeb s i x) 12 k 0) 13 k 1) 14 k 0) := by
  have h1 : kgTr s (kgSeb s i x) := ⟨id, fun _ _ => rfl, Nat.le_refl _⟩
  exact ((h1.trans (tr_lid (Or.inl rfl))).trans (tr_bars (Or.inr (by rw [ks_at, if_pos ⟨rfl, rfl⟩])))).trans (tr_free (by omega))
theorem tr_apl {s : kgS} {k v i : Nat} {x : Int32} : kgTr s (kgSet (kgSeb s i x) 14 k v) := by
  have h1 : kgTr s (kgSeb s i x) := ⟨id, fun _ _ => rfl, Nat.le_refl _⟩
  exact h1.trans (tr_free (by omega))
def kgPt (B : Int) (s : kgS) : Prop := ∀ m, m < 4 → -B ≤ (s.2 m).toInt ∧ (s.2 m).toInt ≤ B
def frC (I J : kgM) : Prop := ∀ k, (k = 0 ∨ 16 ≤ k) → k ≠ 168 → k ≠ 169 → k ≠ 170 → J k = I k
def frM (I J : kgM) : Prop := (∀ k, k ≠ 177 → k ≠ 178 → k ≠ 179 → k ≠ 180 → J k = I k) ∧ (∀ j, j ≠ 5 → J 177 j = I 177 j) ∧ ∀ j, 125 ≤ j → J 178 j = I 178 j
def Res (B' : Int) (s : kgS) (IC IM : kgM) (F G : kgM → Option (Int32 × kgM)) : Prop := ∃ (s' : kgS) (x : Int32) (JC JM : kgM), F IC = some (x, JC) ∧ G IM = some (x, JM) ∧ RepG JC 1 s' ∧ RepR (kgRow JM 0) s' ∧ kgWF s' ∧ kgPt B' s' ∧ RepQ JC JM ∧ frC IC JC ∧ frM IM JM ∧ kgTr s s' ∧
  (0 ≤ x ∨ (s' = s ∧ (x = -1011 ∨ x = -1012 ∨ (x = -1014 ∧ ∃ d, d ≤ 2 ∧ JC 168 2 = nI d))))
def OpOK (B B' : Int) (F G : kgM → Option (Int32 × kgM)) : Prop := ∀ s IC IM, RepG IC 1 s → RepR (kgRow IM 0) s → kgWF s → kgPt B s → RepQ IC IM → Res B' s IC IM F G
section OPS
variable {B : Int} {s : kgS} {IC IM : kgM} {F G : kgM → Option (Int32 × kgM)}
theorem op_code (hG : RepG IC 1 s) (hR : RepR (kgRow IM 0) s) (w : kgWF s) (hp : kgPt B s) (hq : RepQ IC IM) {x : Int32} (hx : x = -1011 ∨ x = -1012) (h1 : F IC = some (x, IC)) (h2 : G IM = some (x, IM)) : Res B s IC IM F G :=
  ⟨s, x, IC, IM, h1, h2, hG, hR, w, hp, hq, fun _ _ _ _ _ => rfl, ⟨fun _ _ _ _ _ => rfl, fun _ _ => rfl, fun _ _ => rfl⟩, tr_rf, Or.inr ⟨rfl, by rcases hx with h | h; exact Or.inl h; exact Or.inr (Or.inl h)⟩⟩
theorem op_ref (hG : RepG IC 1 s) (hR : RepR (kgRow IM 0) s) (w : kgWF s) (hp : kgPt B s) {JC JM : kgM} {l : List (Int32 × Int32)} (hl : l.length ≤ 2) (h1 : F IC = some (-1014, JC)) (h2 : G IM = some (-1014, JM)) (c1 : RsC JC l) (c2 : frQ IC JC) (m1 : RsM JM l) (m2 : frP IM JM) : Res B s IC IM F G :=
  ⟨s, -1014, JC, JM, h1, h2, hG.same (fun j hj => c2 _ (by omega) (by omega) (by omega)), by
    have : kgRow JM 0 = kgRow IM 0 := by funext x; unfold kgRow; rw [m2.1 178 (by decide) (by decide) (by decide)]
    rw [this]; exact hR, w, hp, RepQ.of (by omega) c1 m1, fun k _ a b c => c2 k a b c, ⟨fun k a _ b c => m2.1 k a b c, m2.2, fun j _ => by rw [m2.1 178 (by decide) (by decide) (by decide)]⟩, tr_rf, Or.inr ⟨rfl, Or.inr (Or.inr ⟨rfl, l.length, hl, c1.1⟩)⟩⟩
theorem RepQ.kept (hq : RepQ IC IM) {JC JM : kgM} (h1 : ∀ k, 168 ≤ k → k ≤ 170 → JC k = IC k) (h2 : JM 177 5 = IM 177 5) (h3 : JM 179 = IM 179) (h4 : JM 180 = IM 180) : RepQ JC JM := by
  obtain ⟨d, a, b, c, e⟩ := hq
  exact ⟨d, a, by rw [h1 168 (by omega) (by omega)]; exact b, by rw [h2]; exact c, fun i hi => by rw [h1 169 (by omega) (by omega), h1 170 (by omega) (by omega), h3, h4]; exact e i hi⟩
/-- something done: only cells 1..15 of the class and the first row of the reference are touched -/
theorem op_done (hq : RepQ IC IM) {B' : Int} {s' : kgS} {x : Int32} {JC JM : kgM} (h1 : F IC = some (x, JC)) (h2 : G IM = some (x, JM)) (hG : RepG JC 1 s') (hR : RepR (kgRow JM 0) s') (w : kgWF s') (hp : kgPt B' s') (hx : 0 ≤ x) (c : ∀ k, (k = 0 ∨ 16 ≤ k) → JC k = IC k) (m1 : ∀ k, k ≠ 178 → JM k = IM k) (m2 : ∀ j, 125 ≤ j → JM 178 j = IM 178 j) (ht : kgTr s s') : Res B' s IC IM F G :=
  ⟨s', x, JC, JM, h1, h2, hG, hR, w, hp, hq.kept (fun k a b => c k (by omega)) (by rw [m1 177 (by decide)]) (m1 179 (by decide)) (m1 180 (by decide)), fun k a _ _ _ => c k a, ⟨fun k _ a _ _ => m1 k a, fun j _ => by rw [m1 177 (by decide)], m2⟩, ht, Or.inl hx⟩
theorem row_w (I : kgM) (a : Nat) (v : Int32) (x : Nat) : kgRow (kgW I 178 a v) 0 x = if x = a then v else kgRow I 0 x := by
  unfold kgRow
  rw [kgW_r, Nat.mul_zero, Nat.zero_add]
  by_cases q : x = a
  · rw [if_pos q, if_pos ⟨rfl, q⟩]
  · rw [if_neg q, if_neg (fun z => q z.2)]
theorem cnt_upd {n i : Nat} {p q : Nat → Bool} (hi : i < n) (h : ∀ k, k < n → k ≠ i → p k = q k) : cnt n p + (if q i then 1 else 0) = cnt n q + (if p i then 1 else 0) := by
  induction n with
  | zero => omega
  | succ n ih =>
    show cnt n p + (if p n then 1 else 0) + _ = cnt n q + (if q n then 1 else 0) + _
    by_cases e : i = n
    · subst e
      rw [cnt_congr (fun k hk => h k (by omega) (by omega))]
      omega
    · have := ih (by omega) (fun k hk hne => h k (by omega) hne)
      rw [h n (by omega) (by omega)]
      omega
theorem nI_ge0 {k : Nat} (h : k < 2147483648) : (0 : Int32) ≤ nI k := nI_pos' h
/-- own -/
theorem own_set {s : kgS} {p m v : Nat} (h1 : 1 ≤ p) (h2 : p < 13) : own (kgSet s 1 p v) m + (if s.1 1 p = m + 1 then 1 else 0) = own s m + (if v = m + 1 then 1 else 0) := by
  unfold own
  have := cnt_upd (n := 12) (i := p - 1) (p := fun q => decide ((kgSet s 1 p v).1 1 (q + 1) = m + 1)) (q := fun q => decide (s.1 1 (q + 1) = m + 1)) (by omega) (fun k hk hne => by
    show decide ((if 1 = 1 ∧ k + 1 = p then v else s.1 1 (k + 1)) = m + 1) = _
    rw [if_neg (by omega)])
  simp only [show p - 1 + 1 = p by omega, decide_eq_true_eq] at this
  rw [show (kgSet s 1 p v).1 1 p = v from if_pos ⟨rfl, rfl⟩] at this
  exact this
theorem wf_own {s : kgS} (w : kgWF s) {p m : Nat} (h1 : 1 ≤ p) (h2 : p < 13) (hm : m < 4) (h0 : s.1 1 p = 0) (h4 : own s m < 4) : kgWF (kgSet s 1 p (m + 1)) := by
  have e1 : ∀ j k, j ≠ 1 → (kgSet s 1 p (m + 1)).1 j k = s.1 j k := fun j k hj => if_neg (fun q => hj q.1)
  have en : kgN (kgSet s 1 p (m + 1)) = kgN s := e1 0 0 (by decide)
  refine ⟨by rw [en]; exact w.1, fun q a b => ?_, fun i hi => by rw [e1 _ _ (by decide)]; exact w.2.2.1 i hi, fun k hk => ?_, fun j k a b => ?_, fun m2 hm2 => ?_, ?_⟩
  · show (if 1 = 1 ∧ q = p then m + 1 else s.1 1 q) ≤ 4
    by_cases e : q = p
    · rw [if_pos ⟨rfl, e⟩]; omega
    · rw [if_neg (fun z => e z.2)]; exact w.2.1 q a b
  · rw [en] at hk
    simp only [e1 _ _ (show 6 ≠ 1 by decide), e1 _ _ (show 7 ≠ 1 by decide), e1 _ _ (show 8 ≠ 1 by decide), e1 _ _ (show 9 ≠ 1 by decide), e1 _ _ (show 10 ≠ 1 by decide), e1 _ _ (show 11 ≠ 1 by decide), e1 _ _ (show 12 ≠ 1 by decide), e1 _ _ (show 13 ≠ 1 by decide), e1 _ _ (show 14 ≠ 1 by decide)]
    exact w.2.2.2.1 k hk
  · rw [en] at b
    simp only [e1 _ _ (show 10 ≠ 1 by decide), e1 _ _ (show 7 ≠ 1 by decide)]
    exact w.2.2.2.2.1 j k a b
  · have := own_set (s := s) (m := m2) (v := m + 1) h1 h2
    rw [h0, if_neg (by omega)] at this
    have o := w.2.2.2.2.2.1 m2 hm2
    by_cases e : m2 = m
    · subst e; rw [if_pos rfl] at this; omega
    · rw [if_neg (by omega)] at this; omega
  · rw [en]
    have : smN (kgN s) ((kgSet s 1 p (m + 1)).1 8) = smN (kgN s) (s.1 8) := by
      have : (kgSet s 1 p (m + 1)).1 8 = s.1 8 := by funext k; exact e1 8 k (by decide)
      rw [this]
    rw [this]; exact w.2.2.2.2.2.2
theorem ok_own (a b : Int32) : OpOK B B (fun I => f_X4_takePitch a b I) (fun I => f_X5_owns a b I) := by
  intro s IC IM hG hR w hp hq
  have hn := w.1
  by_cases q1 : rgI 0 3 a = true
  · obtain ⟨m, rfl, -, hm⟩ := rg_nI (a := 0) (b := 3) q1
    by_cases q2 : rgI 1 12 b = true
    · obtain ⟨p, rfl, hp1, hp2⟩ := rg_nI (a := 1) (b := 12) q2
      have bo := w.2.1 p hp1 (by omega)
      have ec := hG.own (p := p) hp1 (by omega)
      have em := m_ownerOf hR (p := p) hp1 (by omega)
      have hcnt := w.2.2.2.2.2.1 m (by omega)
      by_cases z : s.1 1 p = 0
      · have et : ((-1 : Int32) < 0) := by decide
        by_cases z4 : own s m < 4
        · have e5 : ((17 : Int32) + nI p) - 1 = nI (16 + p) := by
            rw [show (17 : Int32) = nI 17 from rfl, nI_add, show 17 + p = (16 + p) + 1 by omega, nI_pred]
          have w' := wf_own w hp1 (by omega) (by omega) z z4
          have hR' : RepR (kgRow (kgW IM 178 (16 + p) (nI (m + 1))) 0) (kgSet s 1 p (m + 1)) := hR.set hn (Or.inl ⟨rfl, hp1, by omega⟩) (fun x => row_w IM (16 + p) (nI (m + 1)) x)
          have hG' : RepG (kgW IC 2 p (nI m)) 1 (kgSet s 1 p (m + 1)) := by
            have := hG.set (j := 1) (p := p) (v := m + 1) (Or.inl rfl)
            rw [show kgCo 1 (m + 1) = nI m from nI_pred m] at this
            exact this
          have eo := own_set (s := s) (m := m) (v := m + 1) hp1 (show p < 13 by omega)
          rw [z, if_neg (by omega), if_pos rfl] at eo
          refine op_done hq (x := nI (own s m + 1)) (JC := kgW IC 2 p (nI m)) (JM := kgW IM 178 (16 + p) (nI (m + 1))) ?_ ?_ hG' hR' w' hp (nI_ge0 (by omega)) (fun k hk => kgW_n _ _ _ (by omega)) (fun k hk => kgW_n _ _ _ hk) (fun j hj => by rw [kgW_r, if_neg (by omega)]) (tr_own z)
          · unfold f_X4_takePitch
            simp (disch := omega) only [c_isMember, c_isPitch, bndC_s, b2i_0, q1, q2, Bool.true_eq_false, if_false, ck_inb, nI_clamp, ec, oc_m1, z, if_true, c_pitchesOf hG w (show m < 4 by omega), l4, nI_ltE, if_pos z4, bnd_s, nI_1]
          · unfold f_X5_owns
            simp (disch := omega) only [m_isMember, m_isPitch, bndC_s, b2i_0, q1, q2, Bool.true_eq_false, if_false, em, letJ_s, z, show nI 0 - 1 = (-1 : Int32) from rfl, if_pos et, m_refuse0, if_true, m_pitchesOf hR w (show m < 4 by omega), l4, nI_eqE, if_neg (show ¬ own s m = 4 by omega), e5, ck_inb, nI_clamp, nI_1, m_pitchesOf hR' w' (show m < 4 by omega), bnd_s]
            rw [show own (kgSet s 1 p (m + 1)) m = own s m + 1 by omega]
        · have z5 : own s m = 4 := by omega
          obtain ⟨JC, g1, g2, g3⟩ := c_refuse (I := IC) 1 (nI 4)
          obtain ⟨JM, k1, k2, k3⟩ := m_refuse (I := IM) 1 4
          refine op_ref hG hR w hp (l := [(1, 4)]) (show 1 ≤ 2 by omega) (JC := JC) (JM := JM) ?_ ?_ g2 g3 k2 k3
          · unfold f_X4_takePitch
            simp (disch := omega) only [c_isMember, c_isPitch, bndC_s, b2i_0, q1, q2, Bool.true_eq_false, if_false, ck_inb, nI_clamp, ec, oc_m1, z, if_true, c_pitchesOf hG w (show m < 4 by omega), l4, nI_ltE, if_neg z4, bnd_s, nI_1, z5, g1]
            simp
          · unfold f_X5_owns
            simp (disch := omega) only [m_isMember, m_isPitch, bndC_s, b2i_0, q1, q2, Bool.true_eq_false, if_false, em, letJ_s, z, show nI 0 - 1 = (-1 : Int32) from rfl, if_pos et, m_refuse0, if_true, m_pitchesOf hR w (show m < 4 by omega), z5, show nI 4 = (4 : Int32) from rfl, k1, if_neg (show ¬ (1 : Int32) = 0 by decide)]
      · obtain ⟨o, ho⟩ : ∃ o, s.1 1 p = o + 1 := ⟨s.1 1 p - 1, by omega⟩
        obtain ⟨JC, g1, g2, g3⟩ := c_refuse (I := IC) 2 (nI o)
        obtain ⟨JM, k1, k2, k3⟩ := m_refuse (I := IM) 2 (nI o)
        refine op_ref hG hR w hp (l := [(2, nI o)]) (show 1 ≤ 2 by omega) (JC := JC) (JM := JM) ?_ ?_ g2 g3 k2 k3
        · unfold f_X4_takePitch
          simp (disch := omega) only [c_isMember, c_isPitch, bndC_s, b2i_0, q1, q2, Bool.true_eq_false, if_false, ck_inb, nI_clamp, ec, oc_m1, if_neg z, bnd_s]
          simp only [ho, nI_pred, g1, bndC_s]
        · unfold f_X5_owns
          simp (disch := omega) only [m_isMember, m_isPitch, bndC_s, b2i_0, q1, q2, Bool.true_eq_false, if_false, em, letJ_s, ho, nI_pred, nI_lt0, k1, if_neg (show ¬ (1 : Int32) = 0 by decide)]
    · refine op_code hG hR w hp hq (x := -1012) (Or.inr rfl) ?_ ?_
      · unfold f_X4_takePitch
        simp only [c_isMember, c_isPitch, bndC_s, b2i_0, q1, q2, Bool.true_eq_false, if_false, if_true]
      · unfold f_X5_owns
        simp only [m_isMember, m_isPitch, bndC_s, b2i_0, q1, q2, Bool.true_eq_false, if_false, if_true]
  · refine op_code hG hR w hp hq (x := -1011) (Or.inl rfl) ?_ ?_
    · unfold f_X4_takePitch
      simp only [c_isMember, bndC_s, b2i_0, q1, if_true]
    · unfold f_X5_owns
      simp only [m_isMember, bndC_s, b2i_0, q1, if_true]
end OPS
