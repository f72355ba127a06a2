/-- the kinds, tried one after the other -/
def ordK (t : Nat → Nat) (h : Nat) : Nat → Nat → Nat → Nat × Option (Nat × List Nat)
  | 0, _, m => (m, none)
  | d + 1, k, m => match (rdF t (fmN k) h []).2 with
    | none => ordK t h d (k + 1) (max m (rdF t (fmN k) h []).1)
    | some a => ((rdF t (fmN k) h []).1, some (k, a))
def ordS (t : Nat → Nat) (h : Nat) : Nat × Option (Nat × List Nat) := ordK t h 9 0 h
theorem ordK_pos {t : Nat → Nat} {L h : Nat} (w : TxW t L) (hh : h ≤ L) : ∀ d k m, k + d = 9 → h ≤ m → m ≤ L → h ≤ (ordK t h d k m).1 ∧ (ordK t h d k m).1 ≤ L ∧ ∀ y, (ordK t h d k m).2 = some y → h + 5 ≤ (ordK t h d k m).1 ∧ y.1 < 9 ∧ y.2.length = nmC (fmN y.1) ∧ ∀ n, n ∈ y.2 → n ≤ 99 := by
  intro d
  induction d with
  | zero => intro k m _ h1 h2; exact ⟨h1, h2, fun y e => by cases e⟩
  | succ d ih =>
    intro k m hk h1 h2
    have p := rdF_pos w (fmN k) h [] (fm_pos k (by omega)) hh
    have e : ordK t h (d + 1) k m = match (rdF t (fmN k) h []).2 with | none => ordK t h d (k + 1) (max m (rdF t (fmN k) h []).1) | some a => ((rdF t (fmN k) h []).1, some (k, a)) := rfl
    cases q : (rdF t (fmN k) h []).2 with
    | none =>
      rw [q] at e
      rw [show ordK t h (d + 1) k m = ordK t h d (k + 1) (max m (rdF t (fmN k) h []).1) from e]
      exact ih (k + 1) _ (by omega) (by omega) (by omega)
    | some a =>
      rw [q] at e
      rw [show ordK t h (d + 1) k m = ((rdF t (fmN k) h []).1, some (k, a)) from e]
      refine ⟨p.1, p.2.1, fun y e => ?_⟩
      cases e
      have r := p.2.2 a q
      have hl := fm_len k (by omega)
      exact ⟨by have := r.1; show h + 5 ≤ (rdF t (fmN k) h []).1; omega, by show k < 9; omega, by rw [r.2.1]; simp, r.2.2 (fun n hn => by cases hn)⟩
theorem formOf_k {I : kgM} : ∀ k, k < 9 → f_X1_formOf (nI k) I = some (nI k, I) := by
  intro k hk
  match k, hk with
  | 0, _ => rfl
  | 1, _ => rfl
  | 2, _ => rfl
  | 3, _ => rfl
  | 4, _ => rfl
  | 5, _ => rfl
  | 6, _ => rfl
  | 7, _ => rfl
  | 8, _ => rfl
theorem max_n {I : kgM} {a b : Nat} (ha : a < 2147483648) (hb : b < 2147483648) : f_J9_max_7cf53 (nI a) (nI b) I = some (nI (max a b), I) := by
  unfold f_J9_max_7cf53
  by_cases q : a < b
  · rw [if_pos (nI_lt q hb), Nat.max_eq_right (by omega)]
  · rw [if_neg (fun z => q ((nI_ltI ha hb).mp z)), Nat.max_eq_left (by omega)]
/-- while the n'th order is read -/
def orC (I : kgM) (n : Nat) (J : kgM) : Prop := rdC I J ∧ J 171 5 = I 171 5 ∧ (∀ x, x ≠ n → J 173 x = I 173 x) ∧ ∀ x, (x < 3 * n ∨ 3 * n + 3 ≤ x) → J 174 x = I 174 x
def nuT (n : Nat) (J : kgM) (y : Nat × List Nat) : Prop := J 173 n = nI y.1 ∧ nuC (3 * n) y.2 J
theorem c_orderL {t : Nat → Nat} {L h n : Nat} (w : TxW t L) {I : kgM} (tx : TxC t L I) (hh : h ≤ L) (hn : n ≤ 10) (K : Int32 → kgM → Option (Int32 × kgM)) :
    ∀ q d k m (I2 : kgM), k + d = 9 → d < q → h ≤ m → m ≤ L → orC I n I2 → ∃ J, orC I n J ∧ (match (ordK t h d k m).2 with
      | none => f_X1_readOrder_L10 (nI n) (nI h) K q (nI m) (nI k) I2 = K (nI (ordK t h d k m).1) J
      | some y => f_X1_readOrder_L10 (nI n) (nI h) K q (nI m) (nI k) I2 = some (1, J) ∧ J 171 3 = nI (ordK t h d k m).1 ∧ nuT n J y) := by
  have h60 := w.1
  intro q
  induction q with
  | zero => intro d k m I2 h1 h2; omega
  | succ q ih =>
    intro d k m I2 hk hq h1 h2 ho
    rw [f_X1_readOrder_L10]
    match d, hk, hq with
    | 0, hk, _ =>
      exact ⟨I2, ho, by
        show _ = K (nI m) I2
        rw [if_pos (show (9 : Int32) ≤ nI k from nI_le (a := 9) (by omega) (by omega))]⟩
    | d + 1, hk, hq =>
      have pl := plC_w I2 h
      have o1 : rdC I (kgW I2 171 3 (nI h)) := ho.1.trans ⟨fun c c1 _ _ => pl.1 c c1, fun x x1 _ => pl.2.1 x x1⟩
      have e : ordK t h (d + 1) k m = match (rdF t (fmN k) h []).2 with | none => ordK t h d (k + 1) (max m (rdF t (fmN k) h []).1) | some a => ((rdF t (fmN k) h []).1, some (k, a)) := rfl
      have hl := fm_len k (by omega)
      have p := rdF_pos w (fmN k) h [] (fm_pos k (by omega)) hh
      obtain ⟨J, f1, f2⟩ := c_form w (o1.tx tx) (j := k) (p := 3 * n) (by omega) (by omega) (fun I7 => some ((1 : Int32), I7)) 200 0 h [] (kgW I2 171 3 (nI h)) (by omega) (by omega) hh (by show 0 + nmC (fmN k) ≤ 3; omega) ⟨rdC.rf, rfl, pl.2.2, rfl, fun _ _ => rfl⟩ (fun i hi => absurd hi (Nat.not_lt_zero _))
      rw [show (fmN k).drop 0 = fmN k from rfl] at f1 f2
      have oJ : orC I n J := by
        refine ⟨o1.trans f1.1, by rw [f1.2.1, pl.2.1 5 (by decide)]; exact ho.2.1, fun x hx => by rw [f1.2.2.2.1, pl.1 173 (by decide)]; exact ho.2.2.1 x hx, fun x hx => by rw [f1.2.2.2.2 x hx, pl.1 174 (by decide)]; exact ho.2.2.2 x hx⟩
      have ek : (nI k).toNatClampNeg = k := nI_clamp (by omega)
      have en : nI n * (3 : Int32) = nI (3 * n) := by rw [show (3 : Int32) = nI 3 from rfl, nI_mul, Nat.mul_comm]
      rw [if_neg (show ¬ (9 : Int32) ≤ nI k from nI_ge (b := 9) (by omega) (by omega)), bnd_s, formOf_k k (by omega), bndC_s, ek, en]
      have z0 : nI (3 * n + ([] : List Nat).length) = nI (3 * n) := rfl
      rw [z0, show nI 0 = (0 : Int32) from rfl] at f2
      cases r : (rdF t (fmN k) h []).2 with
      | none =>
        rw [r] at e f2
        rw [show ordK t h (d + 1) k m = ordK t h d (k + 1) (max m (rdF t (fmN k) h []).1) from e]
        rw [show f_X1_readForm k (nI (3 * n)) (kgW I2 171 3 (nI h)) = some (0, J) from f2, bndC_s, if_pos rfl, f1.2.2.1, max_n (by omega) (by omega), bndC_s, nI_1, bnd_s]
        exact ih d (k + 1) _ J (by omega) (by omega) (by omega) (by omega) oJ
      | some a =>
        rw [r] at e f2
        rw [show ordK t h (d + 1) k m = ((rdF t (fmN k) h []).1, some (k, a)) from e]
        rw [show f_X1_readForm k (nI (3 * n)) (kgW I2 171 3 (nI h)) = some (1, J) from f2.1, bndC_s, if_neg (by decide), ck_inb (by omega) (by omega), nI_clamp (by omega), bnd_s]
        refine ⟨kgW J 173 n (nI k), ⟨⟨fun c c1 c2 c3 => by rw [kgW_n _ _ _ c2, oJ.1.1 c c1 c2 c3], fun x x1 x2 => by rw [kgW_n _ _ _ (by decide), oJ.1.2 x x1 x2]⟩, by rw [kgW_n _ _ _ (by decide)]; exact oJ.2.1, fun x hx => by rw [kgW_r, if_neg (fun z => hx z.2)]; exact oJ.2.2.1 x hx, fun x hx => by rw [kgW_n _ _ _ (by decide)]; exact oJ.2.2.2 x hx⟩, rfl, by rw [kgW_n _ _ _ (by decide)]; exact f1.2.2.1, by rw [kgW_r, if_pos ⟨rfl, rfl⟩], fun i hi => by rw [kgW_n _ _ _ (by decide)]; exact f2.2 i hi⟩
theorem c_order {t : Nat → Nat} {L h n : Nat} (w : TxW t L) {I : kgM} (tx : TxC t L I) (h3 : I 171 3 = nI h) (hh : h ≤ L) (hn : n ≤ 10) : ∃ J, orC I n J ∧ J 171 3 = nI (ordS t h).1 ∧ (match (ordS t h).2 with
      | none => f_X1_readOrder (nI n) I = some (0, J)
      | some y => f_X1_readOrder (nI n) I = some (1, J) ∧ nuT n J y) := by
  obtain ⟨J, h1, h2⟩ := c_orderL w tx hh hn (fun x6 I6 => bnd (kgW I6 171 3 x6) (fun I7 => some ((0 : Int32), I7))) 200 9 0 h I (by omega) (by omega) (Nat.le_refl _) hh ⟨rdC.rf, rfl, fun _ _ => rfl, fun _ _ => rfl⟩
  unfold f_X1_readOrder ordS
  rw [bnd_s, h3]
  cases r : (ordK t h 9 0 h).2 with
  | none =>
    rw [r] at h2
    have pl := plC_w J (ordK t h 9 0 h).1
    refine ⟨kgW J 171 3 (nI (ordK t h 9 0 h).1), ⟨h1.1.trans ⟨fun c c1 _ _ => pl.1 c c1, fun x x1 _ => pl.2.1 x x1⟩, by rw [pl.2.1 5 (by decide)]; exact h1.2.1, fun x hx => by rw [pl.1 173 (by decide)]; exact h1.2.2.1 x hx, fun x hx => by rw [pl.1 174 (by decide)]; exact h1.2.2.2 x hx⟩, pl.2.2, h2.trans (by rw [bnd_s])⟩
  | some y =>
    rw [r] at h2
    exact ⟨J, h1, h2.2.1, h2.1, h2.2.2⟩
/-- where the n'th order begins -/
def ps (t : Nat → Nat) : Nat → Nat
  | 0 => 0
  | n + 1 => (ordS t (ps t n)).1 + 1
/-- the whole text: a fault's place, or how many orders -/
def prs (t : Nat → Nat) (L : Nat) : Nat → Nat → Bool × Nat
  | 0, n => (false, ps t n)
  | d + 1, n => match (ordS t (ps t n)).2 with
    | none => (false, (ordS t (ps t n)).1)
    | some _ => if (ordS t (ps t n)).1 = L then (true, n + 1) else if t (ordS t (ps t n)).1 = 59 then prs t L d (n + 1) else (false, (ordS t (ps t n)).1)
def SC (t : Nat → Nat) (n : Nat) (J : kgM) : Prop := ∀ k, k < n → ∃ y, (ordS t (ps t k)).2 = some y ∧ nuT k J y
theorem SC.same {t : Nat → Nat} {n : Nat} {J J2 : kgM} (h : SC t n J) (h1 : ∀ x, x < n → J2 173 x = J 173 x) (h2 : ∀ x, x < 3 * n → J2 174 x = J 174 x) (hb : ∀ k y, k < n → (ordS t (ps t k)).2 = some y → y.2.length ≤ 3) : SC t n J2 := by
  intro k hk
  obtain ⟨y, e, g1, g2⟩ := h k hk
  exact ⟨y, e, by rw [h1 k hk]; exact g1, fun i hi => by
    have := hb k y hk e
    rw [h2 _ (by omega)]; exact g2 i hi⟩
theorem ordS_pos {t : Nat → Nat} {L h : Nat} (w : TxW t L) (hh : h ≤ L) : h ≤ (ordS t h).1 ∧ (ordS t h).1 ≤ L ∧ ∀ y, (ordS t h).2 = some y → h + 5 ≤ (ordS t h).1 ∧ y.1 < 9 ∧ y.2.length = nmC (fmN y.1) ∧ ∀ n, n ∈ y.2 → n ≤ 99 := ordK_pos w hh 9 0 h (by omega) (Nat.le_refl _) hh
theorem c_readL {t : Nat → Nat} {L : Nat} (w : TxW t L) {I : kgM} (tx : TxC t L I) (K : kgM → Option (Int32 × kgM)) :
    ∀ q d n (I2 : kgM), n + d = 11 → d < q → ps t n ≤ L → 6 * n ≤ ps t n → (∀ k, k < n → ps t k ≤ L) → rdC I I2 → I2 171 3 = nI (ps t n) → I2 171 5 = nI n → SC t n I2 → ∃ J, rdC I J ∧ (match prs t L d n with
      | (false, f) => f ≤ L ∧ f_X1_read_L12 K q (nI n) I2 = some (nI f, J)
      | (true, m) => 1 ≤ m ∧ m ≤ 10 ∧ f_X1_read_L12 K q (nI n) I2 = some (-1, J) ∧ J 171 5 = nI m ∧ SC t m J ∧ ∀ k, k < m → ps t k ≤ L) := by
  have h60 := w.1
  intro q
  induction q with
  | zero => intro d n I2 h1 h2; omega
  | succ q ih =>
    intro d n I2 hd hq hp hp6 hps hr h3 h5 hs
    obtain ⟨d, rfl⟩ : ∃ d2, d = d2 + 1 := ⟨d - 1, by omega⟩
    have o := ordS_pos w hp
    obtain ⟨J, j1, j2, j3⟩ := c_order w (hr.tx tx) h3 hp (n := n) (by omega)
    have tJ := (hr.trans j1.1).tx tx
    have e : prs t L (d + 1) n = match (ordS t (ps t n)).2 with | none => (false, (ordS t (ps t n)).1) | some _ => if (ordS t (ps t n)).1 = L then (true, n + 1) else if t (ordS t (ps t n)).1 = 59 then prs t L d (n + 1) else (false, (ordS t (ps t n)).1) := rfl
    rw [f_X1_read_L12, if_neg (show ¬ (11 : Int32) ≤ nI n from nI_ge (b := 11) (by omega) (by omega))]
    cases r : (ordS t (ps t n)).2 with
    | none =>
      rw [r] at e j3
      rw [show prs t L (d + 1) n = (false, (ordS t (ps t n)).1) from e]
      exact ⟨J, hr.trans j1.1, o.2.1, by rw [show f_X1_readOrder (nI n) I2 = some (0, J) from j3, bndC_s, if_pos rfl, j2]⟩
    | some y =>
      rw [r] at e j3
      have oy := o.2.2 y r
      have j3a : f_X1_readOrder (nI n) I2 = some (1, J) := j3.1
      rw [j3a, bndC_s, if_neg (by decide), j1.2.1, h5, nI_1, bnd_s]
      generalize hJ1 : kgW J 171 5 (nI (n + 1)) = J1
      have k1 : ∀ c, c ≠ 171 → J1 c = J c := fun c hc => by rw [← hJ1, kgW_n _ _ _ hc]
      have k2 : ∀ x, x ≠ 5 → J1 171 x = J 171 x := fun x hx => by rw [← hJ1, kgW_r, if_neg (fun z => hx z.2)]
      have k3 : J1 171 5 = nI (n + 1) := by rw [← hJ1, kgW_r, if_pos ⟨rfl, rfl⟩]
      have r1 : rdC I J1 := (hr.trans j1.1).trans ⟨fun c c1 _ _ => k1 c c1, fun x _ x2 => k2 x x2⟩
      have s1 : SC t (n + 1) J1 := by
        intro k hk
        by_cases z : k = n
        · subst z
          exact ⟨y, r, by rw [k1 173 (by decide)]; exact j3.2.1, fun i hi => by rw [k1 174 (by decide)]; exact j3.2.2 i hi⟩
        · obtain ⟨y2, g0, g1, g2⟩ := hs k (by omega)
          have b2 := (ordS_pos w (hps k (by omega))).2.2 y2 g0
          have b3 := fm_len y2.1 b2.2.1
          exact ⟨y2, g0, by rw [k1 173 (by decide), j1.2.2.1 k z]; exact g1, fun i hi => by
            rw [k1 174 (by decide), j1.2.2.2 _ (by omega)]; exact g2 i hi⟩
      have p1 : J1 171 3 = nI (ordS t (ps t n)).1 := by rw [k2 3 (by decide)]; exact j2
      have p4 : J1 171 4 = nI L := by rw [k2 4 (by decide)]; exact tJ.1
      rw [p1, p4]
      by_cases c1 : (ordS t (ps t n)).1 = L
      · rw [show prs t L (d + 1) n = (true, n + 1) from by rw [show prs t L (d + 1) n = _ from e]; show (if _ then _ else _) = _; rw [if_pos c1]]
        refine ⟨J1, r1, by omega, by omega, by rw [if_pos (by rw [c1])], k3, s1, fun k hk => ?_⟩
        by_cases z : k = n
        · subst z; exact hp
        · exact hps k (by omega)
      · rw [if_neg (fun z => c1 ((nI_eq (by omega) (by omega)).mp z))]
        have t1 : TxC t L J1 := r1.tx tx
        rw [show f_X1_isAtPlace (59 : Int32) J1 = some (b2i (decide (t (ordS t (ps t n)).1 = 59)), J1) from c_isAt w t1 p1 (by omega) (c := 59) (by omega) (by omega), bndC_s]
        by_cases c2 : t (ordS t (ps t n)).1 = 59
        · rw [show prs t L (d + 1) n = prs t L d (n + 1) from by rw [show prs t L (d + 1) n = _ from e]; show (if _ then _ else _) = _; rw [if_neg c1, if_pos c2]]
          rw [decide_eq_true c2, if_neg (by decide), p1, nI_1, bnd_s, bnd_s]
          have pl := plC_w J1 ((ordS t (ps t n)).1 + 1)
          have hlt := ne_lt w (by decide) c2
          refine ih d (n + 1) (kgW J1 171 3 (nI ((ordS t (ps t n)).1 + 1))) (by omega) (by omega) (by show (ordS t (ps t n)).1 + 1 ≤ L; omega) (by show 6 * (n + 1) ≤ (ordS t (ps t n)).1 + 1; omega) (fun k hk => ?_) (r1.trans ⟨fun c c1 _ _ => pl.1 c c1, fun x x1 _ => pl.2.1 x x1⟩) pl.2.2 (by rw [pl.2.1 5 (by decide)]; exact k3) ?_
          · by_cases z : k = n
            · subst z; exact hp
            · exact hps k (by omega)
          · intro k hk
            obtain ⟨y2, g0, g1, g2⟩ := s1 k hk
            exact ⟨y2, g0, by rw [pl.1 173 (by decide)]; exact g1, fun i hi => by rw [pl.1 174 (by decide)]; exact g2 i hi⟩
        · rw [show prs t L (d + 1) n = (false, (ordS t (ps t n)).1) from by rw [show prs t L (d + 1) n = _ from e]; show (if _ then _ else _) = _; rw [if_neg c1, if_neg c2]]
          exact ⟨J1, r1, o.2.1, by rw [decide_eq_false c2, if_pos (show b2i false = 0 from rfl), p1]⟩
theorem c_read {t : Nat → Nat} {L : Nat} (w : TxW t L) {I : kgM} (tx : TxC t L I) : ∃ J, rdC I J ∧ (match prs t L 11 0 with
      | (false, f) => f ≤ L ∧ f_X1_read I = some (nI f, J)
      | (true, m) => 1 ≤ m ∧ m ≤ 10 ∧ f_X1_read I = some (-1, J) ∧ J 171 5 = nI m ∧ SC t m J ∧ ∀ k, k < m → ps t k ≤ L) := by
  unfold f_X1_read
  rw [bnd_s, bnd_s]
  have r0 : rdC I (kgW (kgW I 171 5 0) 171 3 0) := ⟨fun c c1 _ _ => by rw [kgW_n _ _ _ c1, kgW_n _ _ _ c1], fun x x1 x2 => by rw [kgW_r, if_neg (fun z => x1 z.2), kgW_r, if_neg (fun z => x2 z.2)]⟩
  obtain ⟨J, h1, h2⟩ := c_readL w tx (fun I7 => some (I7 171 3, I7)) 200 11 0 (kgW (kgW I 171 5 0) 171 3 0) (by omega) (by omega) (Nat.zero_le _) (Nat.zero_le _) (fun k hk => by omega) r0 (by rw [kgW_r, if_pos ⟨rfl, rfl⟩]; rfl) (by rw [kgW_r, if_neg (by omega), kgW_r, if_pos ⟨rfl, rfl⟩]; rfl) (fun k hk => by omega)
  exact ⟨J, h1, h2⟩
