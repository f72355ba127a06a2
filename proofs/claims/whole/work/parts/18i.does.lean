/-! THE ORDERS ARE CARRIED OUT -/
theorem c_numberOf {I : kgM} {m k i : Nat} (h5 : I 171 5 = nI m) (hk : k < m) (hm : m ≤ 10) (hi : i < 3) : f_X1_numberOf (nI k) (nI i) I = some (I 174 (3 * k + i), I) := by
  unfold f_X1_numberOf
  rw [letJ_s, if_neg (nI_pos (by omega)), h5, if_neg (nI_ge hk (by omega)), if_neg (nI_pos (by omega)), if_neg (show ¬ (3 : Int32) ≤ nI i from nI_ge (b := 3) hi (by omega))]
  show (if (1 : Int32) = 0 then some ((-1 : Int32), I) else ck (inb ((nI k * (3 : Int32)) + nI i) 33) (some (I 174 ((nI k * (3 : Int32)) + nI i).toNatClampNeg, I))) = _
  rw [if_neg (by decide), show nI k * (3 : Int32) + nI i = nI (3 * k + i) from by rw [show (3 : Int32) = nI 3 from rfl, nI_mul, nI_add, Nat.mul_comm], ck_inb (by omega) (by omega), nI_clamp (by omega)]
theorem c_kindOf {I : kgM} {m k : Nat} (h5 : I 171 5 = nI m) (hk : k < m) (hm : m ≤ 10) : f_X1_kindOf (nI k) I = some (I 173 k, I) := by
  unfold f_X1_kindOf
  rw [if_neg (nI_pos (by omega)), h5, if_neg (nI_ge hk (by omega)), ck_inb (by omega) (by omega), nI_clamp (by omega)]
theorem bndC_id {α : Type} (o : Option (α × kgM)) : bndC o (fun x I => some (x, I)) = o := by cases o <;> rfl
def opC (κ : Nat) (a b d : Int32) : kgM → Option (Int32 × kgM) := match κ with
  | 0 => fun I => f_X4_takePitch a b I
  | 1 => fun I => f_X4_bringKettle a b d I
  | 2 => fun I => f_X4_putOnStove a b I
  | 3 => fun I => f_X4_takeOffStove a I
  | 4 => fun I => f_X4_turnStove a b I
  | 5 => fun I => f_X4_pourWater a b I
  | 6 => fun I => f_X4_moveLid a b I
  | 7 => fun I => f_X4_makeAppeal a b I
  | _ => fun I => f_X4_passMinutes a I
def opM (κ : Nat) (a b d : Int32) : kgM → Option (Int32 × kgM) := match κ with
  | 0 => fun I => f_X5_owns a b I
  | 1 => fun I => f_X5_brings a b d I
  | 2 => fun I => f_X5_sets a b I
  | 3 => fun I => f_X5_takesOff a I
  | 4 => fun I => f_X5_heats a b I
  | 5 => fun I => f_X5_fills a b I
  | 6 => fun I => f_X5_putsLid a b I
  | 7 => fun I => f_X5_appeals a b I
  | _ => fun I => f_X5_passes a I
theorem op_all {B : Int} (hB : 0 ≤ B ∧ B < 400000000) (a b d : Int32) : ∀ κ, κ < 9 → OpOK B (B + 2000) (opC κ a b d) (opM κ a b d) := by
  intro κ hκ
  match κ, hκ with
  | 0, _ => exact (ok_own a b).mono (by omega)
  | 1, _ => exact (ok_kettle a b d).mono (by omega)
  | 2, _ => exact (ok_set a b).mono (by omega)
  | 3, _ => exact (ok_off a).mono (by omega)
  | 4, _ => exact (ok_heat a b).mono (by omega)
  | 5, _ => exact (ok_fill a b).mono (by omega)
  | 6, _ => exact (ok_lid a b).mono (by omega)
  | 7, _ => exact (ok_appeal a b).mono (by omega)
  | 8, _ => exact ok_minute hB a
theorem c_carry {m k : Nat} {I : kgM} (h5 : I 171 5 = nI m) (hk : k < m) (hm : m ≤ 10) : ∀ κ, κ < 9 → I 173 k = nI κ → f_X4_carryOut (nI k) I = opC κ (I 174 (3 * k + 0)) (I 174 (3 * k + 1)) (I 174 (3 * k + 2)) I := by
  intro κ hκ h
  have n0 : f_X1_numberOf (nI k) (0 : Int32) I = some (I 174 (3 * k + 0), I) := c_numberOf h5 hk hm (i := 0) (by omega)
  have n1 : f_X1_numberOf (nI k) (1 : Int32) I = some (I 174 (3 * k + 1), I) := c_numberOf h5 hk hm (i := 1) (by omega)
  have n2 : f_X1_numberOf (nI k) (2 : Int32) I = some (I 174 (3 * k + 2), I) := c_numberOf h5 hk hm (i := 2) (by omega)
  unfold f_X4_carryOut
  rw [n0, bndC_s, n1, bndC_s, c_kindOf h5 hk hm, bndC_s, h]
  match κ, hκ with
  | 0, _ => rw [if_pos (show (nI 0).toInt = 0 by decide)]; exact bndC_id _
  | 1, _ => rw [if_neg (show ¬ (nI 1).toInt = 0 by decide), if_pos (show (nI 1).toInt = 1 by decide), n2, bndC_s]; exact bndC_id _
  | 2, _ => rw [if_neg (show ¬ (nI 2).toInt = 0 by decide), if_neg (show ¬ (nI 2).toInt = 1 by decide), if_pos (show (nI 2).toInt = 2 by decide)]; exact bndC_id _
  | 3, _ => rw [if_neg (show ¬ (nI 3).toInt = 0 by decide), if_neg (show ¬ (nI 3).toInt = 1 by decide), if_neg (show ¬ (nI 3).toInt = 2 by decide), if_pos (show (nI 3).toInt = 3 by decide)]; exact bndC_id _
  | 4, _ => rw [if_neg (show ¬ (nI 4).toInt = 0 by decide), if_neg (show ¬ (nI 4).toInt = 1 by decide), if_neg (show ¬ (nI 4).toInt = 2 by decide), if_neg (show ¬ (nI 4).toInt = 3 by decide), if_pos (show (nI 4).toInt = 4 by decide)]; exact bndC_id _
  | 5, _ => rw [if_neg (show ¬ (nI 5).toInt = 0 by decide), if_neg (show ¬ (nI 5).toInt = 1 by decide), if_neg (show ¬ (nI 5).toInt = 2 by decide), if_neg (show ¬ (nI 5).toInt = 3 by decide), if_neg (show ¬ (nI 5).toInt = 4 by decide), if_pos (show (nI 5).toInt = 5 by decide)]; exact bndC_id _
  | 6, _ => rw [if_neg (show ¬ (nI 6).toInt = 0 by decide), if_neg (show ¬ (nI 6).toInt = 1 by decide), if_neg (show ¬ (nI 6).toInt = 2 by decide), if_neg (show ¬ (nI 6).toInt = 3 by decide), if_neg (show ¬ (nI 6).toInt = 4 by decide), if_neg (show ¬ (nI 6).toInt = 5 by decide), if_pos (show (nI 6).toInt = 6 by decide)]; exact bndC_id _
  | 7, _ => rw [if_neg (show ¬ (nI 7).toInt = 0 by decide), if_neg (show ¬ (nI 7).toInt = 1 by decide), if_neg (show ¬ (nI 7).toInt = 2 by decide), if_neg (show ¬ (nI 7).toInt = 3 by decide), if_neg (show ¬ (nI 7).toInt = 4 by decide), if_neg (show ¬ (nI 7).toInt = 5 by decide), if_neg (show ¬ (nI 7).toInt = 6 by decide), if_pos (show (nI 7).toInt = 7 by decide)]; exact bndC_id _
  | 8, _ => rw [if_neg (show ¬ (nI 8).toInt = 0 by decide), if_neg (show ¬ (nI 8).toInt = 1 by decide), if_neg (show ¬ (nI 8).toInt = 2 by decide), if_neg (show ¬ (nI 8).toInt = 3 by decide), if_neg (show ¬ (nI 8).toInt = 4 by decide), if_neg (show ¬ (nI 8).toInt = 5 by decide), if_neg (show ¬ (nI 8).toInt = 6 by decide), if_neg (show ¬ (nI 8).toInt = 7 by decide), if_pos (show (nI 8).toInt = 8 by decide)]; exact bndC_id _
theorem m_does {k : Nat} {I : kgM} (hk : k ≤ 10) : ∀ κ, κ < 9 → I 182 (4 * k) = nI (wdL κ) → f_X5_does ((4 : Int32) * nI k) I = opM κ (I 182 (4 * k + 1 + 0)) (I 182 (4 * k + 1 + 1)) (I 182 (4 * k + 1 + 2)) I := by
  intro κ hκ h
  unfold f_X5_does
  rw [show (4 : Int32) * nI k = nI (4 * k) from nI_mul 4 k, show nI (4 * k) + (1 : Int32) = nI (4 * k + 1) from nI_add (4 * k) 1, show nI (4 * k) + (2 : Int32) = nI (4 * k + 2) from nI_add (4 * k) 2, show nI (4 * k) + (3 : Int32) = nI (4 * k + 3) from nI_add (4 * k) 3, ck_inb (k := 4 * k + 1) (by omega) (by omega), nI_clamp (n := 4 * k + 1) (by omega), bnd_s, ck_inb (k := 4 * k + 2) (by omega) (by omega), nI_clamp (n := 4 * k + 2) (by omega), bnd_s, ck_inb (k := 4 * k) (by omega) (by omega), nI_clamp (n := 4 * k) (by omega), h]
  match κ, hκ with
  | 0, _ => rw [show wdL 0 = 110 from rfl, if_neg (show ¬ (nI 110).toInt = 97 by decide), if_neg (show ¬ (nI 110).toInt = 102 by decide), if_neg (show ¬ (nI 110).toInt = 104 by decide), if_neg (show ¬ (nI 110).toInt = 107 by decide), if_neg (show ¬ (nI 110).toInt = 108 by decide), if_pos (show (nI 110).toInt = 110 by decide)]; exact bndC_id _
  | 1, _ => rw [show wdL 1 = 107 from rfl, if_neg (show ¬ (nI 107).toInt = 97 by decide), if_neg (show ¬ (nI 107).toInt = 102 by decide), if_neg (show ¬ (nI 107).toInt = 104 by decide), if_pos (show (nI 107).toInt = 107 by decide), ck_inb (k := 4 * k + 3) (by omega) (by omega), nI_clamp (n := 4 * k + 3) (by omega)]; exact bndC_id _
  | 2, _ => rw [show wdL 2 = 115 from rfl, if_neg (show ¬ (nI 115).toInt = 97 by decide), if_neg (show ¬ (nI 115).toInt = 102 by decide), if_neg (show ¬ (nI 115).toInt = 104 by decide), if_neg (show ¬ (nI 115).toInt = 107 by decide), if_neg (show ¬ (nI 115).toInt = 108 by decide), if_neg (show ¬ (nI 115).toInt = 110 by decide), if_pos (show (nI 115).toInt = 115 by decide)]; exact bndC_id _
  | 3, _ => rw [show wdL 3 = 116 from rfl, if_neg (show ¬ (nI 116).toInt = 97 by decide), if_neg (show ¬ (nI 116).toInt = 102 by decide), if_neg (show ¬ (nI 116).toInt = 104 by decide), if_neg (show ¬ (nI 116).toInt = 107 by decide), if_neg (show ¬ (nI 116).toInt = 108 by decide), if_neg (show ¬ (nI 116).toInt = 110 by decide), if_neg (show ¬ (nI 116).toInt = 115 by decide), if_pos (show (nI 116).toInt = 116 by decide)]; exact bndC_id _
  | 4, _ => rw [show wdL 4 = 104 from rfl, if_neg (show ¬ (nI 104).toInt = 97 by decide), if_neg (show ¬ (nI 104).toInt = 102 by decide), if_pos (show (nI 104).toInt = 104 by decide)]; exact bndC_id _
  | 5, _ => rw [show wdL 5 = 102 from rfl, if_neg (show ¬ (nI 102).toInt = 97 by decide), if_pos (show (nI 102).toInt = 102 by decide)]; exact bndC_id _
  | 6, _ => rw [show wdL 6 = 108 from rfl, if_neg (show ¬ (nI 108).toInt = 97 by decide), if_neg (show ¬ (nI 108).toInt = 102 by decide), if_neg (show ¬ (nI 108).toInt = 104 by decide), if_neg (show ¬ (nI 108).toInt = 107 by decide), if_pos (show (nI 108).toInt = 108 by decide)]; exact bndC_id _
  | 7, _ => rw [show wdL 7 = 97 from rfl, if_pos (show (nI 97).toInt = 97 by decide)]; exact bndC_id _
  | 8, _ => rw [show wdL 8 = 109 from rfl, if_neg (show ¬ (nI 109).toInt = 97 by decide), if_neg (show ¬ (nI 109).toInt = 102 by decide), if_neg (show ¬ (nI 109).toInt = 104 by decide), if_neg (show ¬ (nI 109).toInt = 107 by decide), if_neg (show ¬ (nI 109).toInt = 108 by decide), if_neg (show ¬ (nI 109).toInt = 110 by decide), if_neg (show ¬ (nI 109).toInt = 115 by decide), if_neg (show ¬ (nI 109).toInt = 116 by decide)]; exact bndC_id _
theorem opM_0 (a b d : Int32) : opM 0 a b d = fun I => f_X5_owns a b I := Eq.trans rfl rfl
theorem opM_1 (a b d : Int32) : opM 1 a b d = fun I => f_X5_brings a b d I := Eq.trans rfl rfl
theorem opM_2 (a b d : Int32) : opM 2 a b d = fun I => f_X5_sets a b I := Eq.trans rfl rfl
theorem opM_3 (a b d : Int32) : opM 3 a b d = fun I => f_X5_takesOff a I := Eq.trans rfl rfl
theorem opM_4 (a b d : Int32) : opM 4 a b d = fun I => f_X5_heats a b I := Eq.trans rfl rfl
theorem opM_5 (a b d : Int32) : opM 5 a b d = fun I => f_X5_fills a b I := Eq.trans rfl rfl
theorem opM_6 (a b d : Int32) : opM 6 a b d = fun I => f_X5_putsLid a b I := Eq.trans rfl rfl
theorem opM_7 (a b d : Int32) : opM 7 a b d = fun I => f_X5_appeals a b I := Eq.trans rfl rfl
theorem opM_8 (a b d : Int32) : opM 8 a b d = fun I => f_X5_passes a I := Eq.trans rfl rfl
theorem op_eq {a b d a' b' d' : Int32} (h1 : a = a') : ∀ κ, κ < 9 → (2 ≤ nmC (fmN κ) → b = b') → (3 ≤ nmC (fmN κ) → d = d') → opM κ a b d = opM κ a' b' d' := by
  intro κ hκ h2 h3
  subst h1
  match κ, hκ, h2, h3 with
  | 0, _, h2, h3 => rw [opM_0, opM_0, h2 (by decide)]
  | 1, _, h2, h3 => rw [opM_1, opM_1, h2 (by decide), h3 (by decide)]
  | 2, _, h2, h3 => rw [opM_2, opM_2, h2 (by decide)]
  | 3, _, h2, h3 => rw [opM_3, opM_3]
  | 4, _, h2, h3 => rw [opM_4, opM_4, h2 (by decide)]
  | 5, _, h2, h3 => rw [opM_5, opM_5, h2 (by decide)]
  | 6, _, h2, h3 => rw [opM_6, opM_6, h2 (by decide)]
  | 7, _, h2, h3 => rw [opM_7, opM_7, h2 (by decide)]
  | 8, _, h2, h3 => rw [opM_8, opM_8]
theorem Res.congr {B' : Int} {s : kgS} {IC IM : kgM} {F G F' G' : kgM → Option (Int32 × kgM)} (h : Res B' s IC IM F G) (e1 : F' IC = F IC) (e2 : G' IM = G IM) : Res B' s IC IM F' G' := by
  obtain ⟨s', x, JC, JM, a, b, c⟩ := h
  exact ⟨s', x, JC, JM, e1.trans a, e2.trans b, c⟩
/-- the orders that were read: the class's, the reference's -/
def RunC (t : Nat → Nat) (m : Nat) (J : kgM) : Prop := J 171 5 = nI m ∧ SC t m J
def RunM (t : Nat → Nat) (m : Nat) (J : kgM) : Prop := J 177 11 = nI m ∧ SM t m J
theorem RunC.same {t : Nat → Nat} {m : Nat} {I J : kgM} (h : RunC t m I) (h1 : J 171 5 = I 171 5) (h2 : J 173 = I 173) (h3 : J 174 = I 174) : RunC t m J := ⟨by rw [h1]; exact h.1, fun k hk => by
  obtain ⟨y, e, a, b⟩ := h.2 k hk
  exact ⟨y, e, by rw [h2]; exact a, fun i hi => by rw [h3]; exact b i hi⟩⟩
theorem RunM.same {t : Nat → Nat} {m : Nat} {I J : kgM} (h : RunM t m I) (h1 : J 177 11 = I 177 11) (h2 : J 182 = I 182) : RunM t m J := ⟨by rw [h1]; exact h.1, fun k hk => by
  obtain ⟨y, e, a, b⟩ := h.2 k hk
  exact ⟨y, e, by rw [h2]; exact a, fun i hi => by rw [h2]; exact b i hi⟩⟩
theorem RunC.fr {t : Nat → Nat} {m : Nat} {I J : kgM} (h : RunC t m I) (f : frC I J) : RunC t m J := h.same (by rw [f 171 (by omega) (by omega) (by omega) (by omega)]) (f 173 (by omega) (by omega) (by omega) (by omega)) (f 174 (by omega) (by omega) (by omega) (by omega))
theorem RunM.fr {t : Nat → Nat} {m : Nat} {I J : kgM} (h : RunM t m I) (f : frM I J) : RunM t m J := h.same (f.2.1 11 (by omega)) (f.1 182 (by omega) (by omega) (by omega) (by omega))
theorem frC.trans {I J K : kgM} (h1 : frC I J) (h2 : frC J K) : frC I K := fun k a b c d => (h2 k a b c d).trans (h1 k a b c d)
theorem frM.trans {I J K : kgM} (h1 : frM I J) (h2 : frM J K) : frM I K := ⟨fun k a b c d => (h2.1 k a b c d).trans (h1.1 k a b c d), fun j a => (h2.2.1 j a).trans (h1.2.1 j a), fun j a => (h2.2.2 j a).trans (h1.2.2 j a)⟩
section RUN
variable {t : Nat → Nat} {L m : Nat}
theorem ok_order (w : TxW t L) (hm : m ≤ 10) (hps : ∀ k, k < m → ps t k ≤ L) {k : Nat} (hk : k < m) {B : Int} (hB : 0 ≤ B ∧ B < 400000000) {s : kgS} {IC IM : kgM} (hG : RepG IC 1 s) (hR : RepR (kgRow IM 0) s) (ws : kgWF s) (hp : kgPt B s) (hq : RepQ IC IM) (hc : RunC t m IC) (hM : RunM t m IM) : Res (B + 2000) s IC IM (fun I => f_X4_carryOut (nI k) I) (fun I => f_X5_does ((4 : Int32) * nI k) I) := by
  obtain ⟨y, e1, c1, c2⟩ := hc.2 k hk
  obtain ⟨y2, e2, m1, m2⟩ := hM.2 k hk
  have : y2 = y := Option.some.inj (e2.symm.trans e1)
  subst this
  have b := (ordS_pos w (hps k hk)).2.2 y2 e1
  have b3 := fm_len y2.1 b.2.1
  have eq : ∀ i, i < y2.2.length → IM 182 (4 * k + 1 + i) = IC 174 (3 * k + i) := fun i hi => (m2 i hi).trans (c2 i hi).symm
  refine Res.congr (op_all hB (IC 174 (3 * k + 0)) (IC 174 (3 * k + 1)) (IC 174 (3 * k + 2)) y2.1 b.2.1 s IC IM hG hR ws hp hq) (c_carry hc.1 hk hm y2.1 b.2.1 c1) ?_
  show f_X5_does ((4 : Int32) * nI k) IM = _
  rw [m_does (by omega) y2.1 b.2.1 m1, op_eq (eq 0 (by omega)) y2.1 b.2.1 (fun h => eq 1 (by omega)) (fun h => eq 2 (by omega))]
theorem neg_codes {x : Int32} (h : x = -1011 ∨ x = -1012 ∨ x = -1014) : ¬ 0 ≤ x ∧ x ≤ (-1011 : Int32) ∧ ¬ (-1011 : Int32) < x := by
  rcases h with rfl | rfl | rfl <;> decide
theorem run_loop (w : TxW t L) (hm : m ≤ 10) (hps : ∀ k, k < m → ps t k ≤ L) : ∀ d n (B : Int) (s : kgS) (IC IM : kgM), n + d = m → 0 ≤ B → B + 2000 * (d : Int) < 400000000 → RepG IC 1 s → RepR (kgRow IM 0) s → kgWF s → kgPt B s → RepQ IC IM → RunC t m IC → RunM t m IM → ∀ q q2 (told : Int32), d < q → d < q2 → 0 ≤ told →
    (∃ (s' : kgS) (told' : Int32) (JC JM : kgM), 0 ≤ told' ∧ (∀ K, f_X4_run_L39 K q (nI n) IC = K JC) ∧ (∀ K, f_X5_run_L33 K q2 told (nI n) IM = K told' (nI m) JM) ∧ RepG JC 1 s' ∧ RepR (kgRow JM 0) s' ∧ kgWF s' ∧ kgPt (B + 2000 * (d : Int)) s' ∧ RepQ JC JM ∧ frC IC JC ∧ frM IM JM) ∨
    (∃ (k : Nat) (x : Int32) (JC JM : kgM), k < m ∧ (x = -1011 ∨ x = -1012 ∨ (x = -1014 ∧ ∃ d, d ≤ 2 ∧ JC 168 2 = nI d)) ∧ (∀ K, f_X4_run_L39 K q (nI n) IC = bndC (f_X0_takeBackBegun JC) (fun _ I5 => bndC (f_X4_refuseOrder (nI k) x I5) (fun x7 I6 => some (x7, I6)))) ∧ (∀ K, f_X5_run_L33 K q2 told (nI n) IM = K x (nI (k + 1)) JM) ∧ RepQ JC JM ∧ frC IC JC ∧ frM IM JM) := by
  intro d
  induction d with
  | zero =>
    intro n B s IC IM hd hB hB2 hG hR ws hp hq hc hM q q2 told hq1 hq2 ht
    obtain ⟨q, rfl⟩ : ∃ r, q = r + 1 := ⟨q - 1, by omega⟩
    obtain ⟨q2, rfl⟩ : ∃ r, q2 = r + 1 := ⟨q2 - 1, by omega⟩
    have : n = m := by omega
    subst this
    refine Or.inl ⟨s, told, IC, IM, ht, fun K => ?_, fun K => ?_, hG, hR, ws, pt_mono hp (by omega), hq, fun _ _ _ _ _ => rfl, ⟨fun _ _ _ _ _ => rfl, fun _ _ => rfl, fun _ _ => rfl⟩⟩
    · rw [f_X4_run_L39, hc.1, if_pos (Int32.le_refl _)]
    · rw [f_X5_run_L33, hM.1, if_pos (Int32.le_refl _)]
  | succ d ih =>
    intro n B s IC IM hd hB hB2 hG hR ws hp hq hc hM q q2 told hq1 hq2 ht
    obtain ⟨q, rfl⟩ : ∃ r, q = r + 1 := ⟨q - 1, by omega⟩
    obtain ⟨q2, rfl⟩ : ∃ r, q2 = r + 1 := ⟨q2 - 1, by omega⟩
    have hnm : n < m := by omega
    obtain ⟨s', x, JC, JM, e1, e2, g1, g2, g3, g4, g5, fC, fM, hx⟩ := ok_order w hm hps hnm (B := B) ⟨hB, by omega⟩ hG hR ws hp hq hc hM
    have e1 : f_X4_carryOut (nI n) IC = some (x, JC) := e1
    have e2 : f_X5_does ((4 : Int32) * nI n) IM = some (x, JM) := e2
    have tn : ¬ told ≤ (-1011 : Int32) := by
      rw [le_t] at ht ⊢
      have h0 : (0 : Int32).toInt = 0 := rfl
      have h1 : (-1011 : Int32).toInt = -1011 := by decide
      omega
    have cC := hc.fr fC
    have cM := hM.fr fM
    by_cases h0 : 0 ≤ x
    · have rC : ∀ K, f_X4_run_L39 K (q + 1) (nI n) IC = f_X4_run_L39 K q (nI (n + 1)) JC := fun K => by
        rw [f_X4_run_L39, hc.1, if_neg (nI_ge hnm (by omega)), e1, bndC_s, if_pos h0, nI_1, bnd_s]
      have rM : ∀ K, f_X5_run_L33 K (q2 + 1) told (nI n) IM = f_X5_run_L33 K q2 x (nI (n + 1)) JM := fun K => by
        rw [f_X5_run_L33, hM.1, if_neg (nI_ge hnm (by omega)), if_neg tn, e2, bndC_s, nI_1, bnd_s]
      rcases ih (n + 1) (B + 2000) s' JC JM (by omega) (by omega) (by omega) g1 g2 g3 g4 g5 cC cM q q2 x (by omega) (by omega) h0 with ⟨s2, t2, KC, KM, k1, k2, k3, k4, k5, k6, k7, k8, k9, k10⟩ | ⟨k, y, KC, KM, k1, k2, k3, k4, k5, k6, k7⟩
      · exact Or.inl ⟨s2, t2, KC, KM, k1, fun K => (rC K).trans (k2 K), fun K => (rM K).trans (k3 K), k4, k5, k6, pt_mono k7 (by omega), k8, fC.trans k9, fM.trans k10⟩
      · exact Or.inr ⟨k, y, KC, KM, k1, k2, fun K => (rC K).trans (k3 K), fun K => (rM K).trans (k4 K), k5, fC.trans k6, fM.trans k7⟩
    · rcases hx with hx | ⟨-, hx⟩
      · exact absurd hx h0
      · have nx := neg_codes (x := x) (by rcases hx with h | h | h; exact Or.inl h; exact Or.inr (Or.inl h); exact Or.inr (Or.inr h.1))
        obtain ⟨q2, rfl⟩ : ∃ r, q2 = r + 1 := ⟨q2 - 1, by omega⟩
        refine Or.inr ⟨n, x, JC, JM, hnm, hx, fun K => ?_, fun K => ?_, g5, fC, fM⟩
        · rw [f_X4_run_L39, hc.1, if_neg (nI_ge hnm (by omega)), e1, bndC_s, if_neg h0]
        · rw [f_X5_run_L33, hM.1, if_neg (nI_ge hnm (by omega)), if_neg tn, e2, bndC_s, nI_1, bnd_s, f_X5_run_L33, if_pos nx.2.1]
          by_cases z : JM 177 11 ≤ nI (n + 1)
          · rw [if_pos z]
          · rw [if_neg z]
end RUN
