/-! within bounds -/
def rgI (a b : Int) (x : Int32) : Bool := decide (a ≤ x.toInt ∧ x.toInt ≤ b)
theorem rg_nI {a b : Nat} {x : Int32} (h : rgI a b x = true) : ∃ k, x = nI k ∧ a ≤ k ∧ k ≤ b := by
  have h := of_decide_eq_true h
  have h0 : ¬ x < 0 := fun q => by
    rw [Int32.lt_iff_toInt_lt] at q
    have : (0 : Int32).toInt = 0 := rfl
    omega
  obtain ⟨j, hj, rfl⟩ := nI_of h0
  rw [nI_toInt hj] at h
  exact ⟨j, rfl, by omega, by omega⟩
theorem rg_of {a b k : Nat} (h1 : a ≤ k) (h2 : k ≤ b) (h3 : k < 2147483648) : rgI a b (nI k) = true := decide_eq_true (by rw [nI_toInt h3]; omega)
theorem lt_t (x y : Int32) : (x < y) = (x.toInt < y.toInt) := propext Int32.lt_iff_toInt_lt
theorem le_t (x y : Int32) : (x ≤ y) = (x.toInt ≤ y.toInt) := propext Int32.le_iff_toInt_le
theorem c_isMember {I : kgM} (x : Int32) : f_X4_isMember x I = some (b2i (rgI 0 3 x), I) := by
  unfold f_X4_isMember rgI
  simp only [lt_t, le_t, show (0 : Int32).toInt = 0 from rfl, show (4 : Int32).toInt = 4 from rfl]
  by_cases q : 0 ≤ x.toInt ∧ x.toInt ≤ 3
  · rw [if_neg (by omega), if_neg (by omega), decide_eq_true q]; rfl
  · rw [decide_eq_false q]
    by_cases q2 : x.toInt < 0
    · rw [if_pos q2]; rfl
    · rw [if_neg q2, if_pos (by omega)]; rfl
theorem c_isPitch {I : kgM} (x : Int32) : f_X4_isPitch x I = some (b2i (rgI 1 12 x), I) := by
  unfold f_X4_isPitch rgI
  simp only [lt_t, le_t, show (1 : Int32).toInt = 1 from rfl, show (12 : Int32).toInt = 12 from rfl]
  by_cases q : 1 ≤ x.toInt ∧ x.toInt ≤ 12
  · rw [if_neg (by omega), if_neg (by omega), decide_eq_true q]; rfl
  · rw [decide_eq_false q]
    by_cases q2 : x.toInt < 1
    · rw [if_pos q2]; rfl
    · rw [if_neg q2, if_pos (by omega)]; rfl
theorem c_isStove {I : kgM} (x : Int32) : f_X4_isStove x I = some (b2i (rgI 0 5 x), I) := by
  unfold f_X4_isStove rgI
  simp only [lt_t, le_t, show (0 : Int32).toInt = 0 from rfl, show (6 : Int32).toInt = 6 from rfl]
  by_cases q : 0 ≤ x.toInt ∧ x.toInt ≤ 5
  · rw [if_neg (by omega), if_neg (by omega), decide_eq_true q]; rfl
  · rw [decide_eq_false q]
    by_cases q2 : x.toInt < 0
    · rw [if_pos q2]; rfl
    · rw [if_neg q2, if_pos (by omega)]; rfl
theorem c_isKettle {I : kgM} {s : kgS} (h : RepG I 1 s) (w : kgWF s) (x : Int32) : f_X4_isKettle x I = some (b2i (rgI 0 ((kgN s : Int) - 1) x), I) := by
  have hn := w.1
  unfold f_X4_isKettle rgI
  simp only [lt_t, le_t, h.2.1, show (0 : Int32).toInt = 0 from rfl, nI_toInt (show kgN s < 2147483648 by omega)]
  by_cases q : 0 ≤ x.toInt ∧ x.toInt ≤ (kgN s : Int) - 1
  · rw [if_neg (by omega), if_neg (by omega), decide_eq_true q]; rfl
  · rw [decide_eq_false q]
    by_cases q2 : x.toInt < 0
    · rw [if_pos q2]; rfl
    · rw [if_neg q2, if_pos (by omega)]; rfl
theorem rg_k {s : kgS} {x : Int32} (h : rgI 0 ((kgN s : Int) - 1) x = true) : ∃ k, x = nI k ∧ k < kgN s := by
  have h2 := of_decide_eq_true h
  obtain ⟨n, hn⟩ : ∃ n, kgN s = n + 1 := ⟨kgN s - 1, by omega⟩
  have e : (kgN s : Int) - 1 = (n : Nat) := by omega
  rw [e] at h
  obtain ⟨k, h1, h3, h4⟩ := rg_nI (a := 0) h
  exact ⟨k, h1, by omega⟩
/-! the same of the reference -/
theorem m_in {I : kgM} (x a b : Int32) : f_X5_in x a b I = some (b2i (rgI a.toInt b.toInt x), I) := by
  unfold f_X5_in rgI
  simp only [lt_t]
  by_cases q : a.toInt ≤ x.toInt ∧ x.toInt ≤ b.toInt
  · rw [if_neg (by omega), if_neg (by omega), decide_eq_true q]; rfl
  · rw [decide_eq_false q]
    by_cases q2 : x.toInt < a.toInt
    · rw [if_pos q2]; rfl
    · rw [if_neg q2, if_pos (by omega)]; rfl
theorem m_isMember {I : kgM} (x : Int32) : f_X5_isMember x I = some (b2i (rgI 0 3 x), I) := by
  unfold f_X5_isMember
  rw [m_in, bndC_s, ck_t (b2i_isz _)]; rfl
theorem m_isPitch {I : kgM} (x : Int32) : f_X5_isPitch x I = some (b2i (rgI 1 12 x), I) := by
  unfold f_X5_isPitch
  rw [m_in, bndC_s, ck_t (b2i_isz _)]; rfl
theorem m_isStove {I : kgM} (x : Int32) : f_X5_isStove x I = some (b2i (rgI 0 5 x), I) := by
  unfold f_X5_isStove
  rw [m_in, bndC_s, ck_t (b2i_isz _)]; rfl
theorem m_isKettle {I : kgM} {s : kgS} (h : RepR (kgRow I 0) s) (w : kgWF s) (x : Int32) : f_X5_isKettle x I = some (b2i (rgI 0 ((kgN s : Int) - 1) x), I) := by
  have hn := w.1
  have e : I 178 1 = nI (kgN s) := h.2.1
  have e2 : (nI (kgN s) - 1).toInt = (kgN s : Int) - 1 := pk_sub_toInt (b := 1) (by omega) (by omega)
  unfold f_X5_isKettle
  rw [ck_t (show inb 1 1375 = true from rfl), show (1 : Int32).toNatClampNeg = 1 from rfl, e, m_in, bndC_s, ck_t (b2i_isz _), e2]; rfl
section MDQ
variable {I : kgM} {s : kgS}
theorem kt_ix {k a : Nat} (hk : k < 10) (ha : a < 9) : inb (((35 : Int32) + ((9 : Int32) * nI k)) + nI a) 1375 = true ∧ (((35 : Int32) + ((9 : Int32) * nI k)) + nI a).toNatClampNeg = 35 + 9 * k + a := by
  have e : ((35 : Int32) + ((9 : Int32) * nI k)) + nI a = nI (35 + 9 * k + a) := by
    rw [show (9 : Int32) = nI 9 from rfl, nI_mul, show (35 : Int32) = nI 35 from rfl, nI_add, nI_add]
  rw [e]
  exact ⟨inb_nI (by omega) (by omega), nI_clamp (by omega)⟩
theorem m_kt (h : RepR (kgRow I 0) s) (hn : kgN s ≤ 10) {k a j : Nat} (hk : k < kgN s) (hj : 6 ≤ j ∧ j < 15) (hl : kgLo j k = 35 + 9 * k + a) (ha : a < 9) : f_X5_kt (nI k) (nI a) I = some (kgCm j (s.1 j k), I) := by
  have e := kt_ix (k := k) (a := a) (by omega) ha
  unfold f_X5_kt
  rw [ck_t e.1, e.2, ← hl]
  have e2 : kgRow I 0 (kgLo j k) = kgCm j (s.1 j k) := h.1 j k (Or.inr (Or.inr ⟨hj.1, hj.2, hk⟩))
  rw [show I 178 (kgLo j k) = kgRow I 0 (kgLo j k) from by unfold kgRow; rw [Nat.mul_zero, Nat.zero_add], e2]
theorem m_of (h : RepR (kgRow I 0) s) (hn : kgN s ≤ 10) {k : Nat} (hk : k < kgN s) : f_X5_kt (nI k) 0 I = some (nI (s.1 6 k), I) := m_kt (a := 0) h hn hk (j := 6) (by omega) rfl (by omega)
theorem m_pit (h : RepR (kgRow I 0) s) (hn : kgN s ≤ 10) {k : Nat} (hk : k < kgN s) : f_X5_kt (nI k) 1 I = some (nI (s.1 7 k), I) := m_kt (a := 1) h hn hk (j := 7) (by omega) rfl (by omega)
theorem m_wat (h : RepR (kgRow I 0) s) (hn : kgN s ≤ 10) {k : Nat} (hk : k < kgN s) : f_X5_kt (nI k) 2 I = some (nI (s.1 8 k), I) := m_kt (a := 2) h hn hk (j := 8) (by omega) rfl (by omega)
theorem m_wrm (h : RepR (kgRow I 0) s) (hn : kgN s ≤ 10) {k : Nat} (hk : k < kgN s) : f_X5_kt (nI k) 3 I = some (nI (5 * s.1 9 k), I) := m_kt (a := 3) h hn hk (j := 9) (by omega) rfl (by omega)
theorem m_lid (h : RepR (kgRow I 0) s) (hn : kgN s ≤ 10) {k : Nat} (hk : k < kgN s) : f_X5_kt (nI k) 4 I = some (nI (s.1 12 k), I) := m_kt (a := 4) h hn hk (j := 12) (by omega) rfl (by omega)
theorem m_stv (h : RepR (kgRow I 0) s) (hn : kgN s ≤ 10) {k : Nat} (hk : k < kgN s) : f_X5_kt (nI k) 5 I = some (nI (s.1 10 k), I) := m_kt (a := 5) h hn hk (j := 10) (by omega) rfl (by omega)
theorem m_ban (h : RepR (kgRow I 0) s) (hn : kgN s ≤ 10) {k : Nat} (hk : k < kgN s) : f_X5_kt (nI k) 6 I = some (nI (s.1 11 k), I) := m_kt (a := 6) h hn hk (j := 11) (by omega) rfl (by omega)
theorem m_bar (h : RepR (kgRow I 0) s) (hn : kgN s ≤ 10) {k : Nat} (hk : k < kgN s) : f_X5_kt (nI k) 7 I = some (nI (s.1 13 k), I) := m_kt (a := 7) h hn hk (j := 13) (by omega) rfl (by omega)
theorem m_apl (h : RepR (kgRow I 0) s) (hn : kgN s ≤ 10) {k : Nat} (hk : k < kgN s) : f_X5_kt (nI k) 8 I = some (nI (s.1 14 k), I) := m_kt (a := 8) h hn hk (j := 14) (by omega) rfl (by omega)
theorem RepR.at0 (h : RepR (kgRow I 0) s) {j p : Nat} (hd : kgDm (kgN s) j p) : I 178 (kgLo j p) = kgCm j (s.1 j p) := by
  have e2 : kgRow I 0 (kgLo j p) = kgCm j (s.1 j p) := h.1 j p hd
  rw [← e2]; unfold kgRow; rw [Nat.mul_zero, Nat.zero_add]
theorem RepR.low (x : Nat) : kgRow I 0 x = I 178 x := by unfold kgRow; rw [Nat.mul_zero, Nat.zero_add]
theorem m_ownerOf (h : RepR (kgRow I 0) s) {p : Nat} (h1 : 1 ≤ p) (h2 : p < 13) : f_X5_ownerOf (nI p) I = some (nI (s.1 1 p) - 1, I) := by
  have e : ((17 : Int32) + nI p) - 1 = nI (16 + p) := by
    rw [show (17 : Int32) = nI 17 from rfl, nI_add, show 17 + p = (16 + p) + 1 by omega, nI_pred]
  unfold f_X5_ownerOf
  rw [e, ck_inb (by omega) (by omega), nI_clamp (by omega), show I 178 (16 + p) = nI (s.1 1 p) from h.at0 (j := 1) (Or.inl ⟨rfl, h1, h2⟩)]
theorem m_isOn (h : RepR (kgRow I 0) s) (w : kgWF s) {k : Nat} (hk : k < kgN s) : f_X5_isOnStove (nI k) I = some (b2i (decide (s.1 10 k ≠ 0)), I) := by
  have hn := w.1
  have b := w.2.2.2.1 k hk
  unfold f_X5_isOnStove
  simp (disch := omega) only [m_stv h hn hk, bndC_s, nI_le0]
  by_cases q : s.1 10 k = 0 <;> simp [q, b2i]
theorem m_heat (h : RepR (kgRow I 0) s) (w : kgWF s) {k : Nat} (hk : k < kgN s) : f_X5_heatUnder (nI k) I = some (nI (hU s k), I) := by
  have hn := w.1
  have b := w.2.2.2.1 k hk
  unfold f_X5_heatUnder hU
  simp (disch := omega) only [m_isOn h w hk, bndC_s, b2i_0, m_stv h hn hk]
  by_cases q : s.1 10 k = 0
  · simp [q]; rfl
  · obtain ⟨a, ha⟩ : ∃ a, s.1 10 k = a + 1 := ⟨s.1 10 k - 1, by omega⟩
    have e : ((29 : Int32) + nI (a + 1)) - 1 = nI (29 + a) := by
      rw [show (29 : Int32) = nI 29 from rfl, nI_add, show 29 + (a + 1) = (29 + a) + 1 by omega, nI_pred]
    have e2 : I 178 (29 + a) = nI (s.1 5 a) := h.at0 (j := 5) (Or.inr (Or.inl ⟨rfl, by omega⟩))
    simp (disch := omega) only [ha, e, ck_inb, nI_clamp, e2]
    simp
theorem m_boils (h : RepR (kgRow I 0) s) (w : kgWF s) {k : Nat} (hk : k < kgN s) : f_X5_boils (nI k) I = some (b2i (bo s k), I) := by
  have hn := w.1
  have b := w.2.2.2.1 k hk
  have h5 := hU_le w hk
  unfold f_X5_boils bo
  simp (disch := omega) only [m_heat h w hk, bndC_s, nI_le0, m_wrm h hn hk, l100, nI_eqE]
  by_cases q : hU s k = 0
  · rw [if_pos q, q]; rfl
  · rw [if_neg q, decide_eq_true (show 0 < hU s k by omega)]
    by_cases q2 : s.1 9 k = 20
    · rw [if_pos (by omega), decide_eq_true q2]; rfl
    · rw [if_neg (by omega), decide_eq_false q2]; rfl
theorem m_whistles (h : RepR (kgRow I 0) s) (w : kgWF s) {k : Nat} (hk : k < kgN s) : f_X5_whistles (nI k) I = some (b2i (wh s k), I) := by
  have hn := w.1
  have b := w.2.2.2.1 k hk
  unfold f_X5_whistles wh
  simp (disch := omega) only [m_boils h w hk, bndC_s, b2i_0, m_wat h hn hk, nI_le0, m_lid h hn hk, show (nI (s.1 12 k) = 1) = (s.1 12 k = 1) from nI_eqE (b := 1) (by omega) (by omega)]
  by_cases z : bo s k = true
  · by_cases z2 : s.1 8 k = 0
    · simp [z, z2, b2i]
    · have z3 : 0 < s.1 8 k := by omega
      by_cases z4 : s.1 12 k = 1 <;> simp [z, z2, z3, z4, b2i]
  · simp [z, b2i]
end MDQ
