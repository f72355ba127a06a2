/-! LINES -/
def LnC (l : List Nat) (I : kgM) : Prop := I 175 1 = 0 ∧ I 175 3 = nI l.length ∧ ∀ i, i < l.length → I 176 i = nI (l.getD i 0)
def LnM (l : List Nat) (I : kgM) : Prop := I 177 13 = nI l.length ∧ ∀ i, i < l.length → I 183 i = nI (l.getD i 0)
def lfC (I J : kgM) : Prop := ∀ c, c ≠ 175 → c ≠ 176 → J c = I c
def lfM (I J : kgM) : Prop := (∀ c, c ≠ 177 → c ≠ 183 → J c = I c) ∧ ∀ j, j ≠ 13 → J 177 j = I 177 j
theorem lfC.rf {I : kgM} : lfC I I := fun _ _ _ => rfl
theorem lfC.trans {I J K : kgM} (h1 : lfC I J) (h2 : lfC J K) : lfC I K := fun c a b => (h2 c a b).trans (h1 c a b)
theorem lfM.rf {I : kgM} : lfM I I := ⟨fun _ _ _ => rfl, fun _ _ => rfl⟩
theorem lfM.trans {I J K : kgM} (h1 : lfM I J) (h2 : lfM J K) : lfM I K := ⟨fun c a b => (h2.1 c a b).trans (h1.1 c a b), fun j a => (h2.2 j a).trans (h1.2 j a)⟩
theorem lfC.G {I J : kgM} (h : lfC I J) {s : kgS} (g : RepG I 1 s) : RepG J 1 s := g.same (fun j hj => h _ (by omega) (by omega))
theorem lfM.R {I J : kgM} (h : lfM I J) {s : kgS} (hn : kgN s ≤ 10) (g : RepR (kgRow I 0) s) : RepR (kgRow J 0) s := row_of hn g (fun x _ => by rw [h.1 178 (by decide) (by decide)])
theorem gd_l {l ds : List Nat} {i : Nat} (h : i < l.length) : (l ++ ds).getD i 0 = l.getD i 0 := by
  simp [List.getD_eq_getElem?_getD, List.getElem?_append_left h]
theorem gd_r {l ds : List Nat} {i : Nat} : (l ++ ds).getD (l.length + i) 0 = ds.getD i 0 := by
  rw [List.getD_eq_getElem?_getD, List.getD_eq_getElem?_getD, List.getElem?_append_right (Nat.le_add_right _ _), Nat.add_sub_cancel_left]
theorem LnC.app {l ds : List Nat} {I J : kgM} (h : LnC l I) (h1 : J 175 1 = 0) (h3 : J 175 3 = nI (l.length + ds.length)) (h6 : ∀ i, i < l.length → J 176 i = I 176 i) (h7 : ∀ i, i < ds.length → J 176 (l.length + i) = nI (ds.getD i 0)) : LnC (l ++ ds) J := by
  refine ⟨h1, by rw [List.length_append]; exact h3, fun i hi => ?_⟩
  rw [List.length_append] at hi
  by_cases q : i < l.length
  · rw [gd_l q, h6 i q]; exact h.2.2 i q
  · obtain ⟨j, rfl⟩ : ∃ j, i = l.length + j := ⟨i - l.length, by omega⟩
    rw [gd_r]; exact h7 j (by omega)
theorem LnM.app {l ds : List Nat} {I J : kgM} (h : LnM l I) (h3 : J 177 13 = nI (l.length + ds.length)) (h6 : ∀ i, i < l.length → J 183 i = I 183 i) (h7 : ∀ i, i < ds.length → J 183 (l.length + i) = nI (ds.getD i 0)) : LnM (l ++ ds) J := by
  refine ⟨by rw [List.length_append]; exact h3, fun i hi => ?_⟩
  rw [List.length_append] at hi
  by_cases q : i < l.length
  · rw [gd_l q, h6 i q]; exact h.2 i q
  · obtain ⟨j, rfl⟩ : ∃ j, i = l.length + j := ⟨i - l.length, by omega⟩
    rw [gd_r]; exact h7 j (by omega)
theorem c_setL {I : kgM} {n : Nat} (h1 : I 175 1 = 0) (h3 : I 175 3 = nI n) (hn : n ≤ 34) : ∃ J, f_setL I = some (0, J) ∧ LnC [] J ∧ lfC I J := by
  unfold f_setL
  rw [ck_t (decide_eq_true h1), h3, if_neg (nI_pos (by omega))]
  by_cases q : n = 0
  · subst q
    rw [if_neg (show ¬ (0 : Int32) < nI 0 by decide), bnd_s]
    exact ⟨_, rfl, ⟨by rw [kgW_r, if_neg (by omega)]; exact h1, by rw [kgW_r, if_pos ⟨rfl, rfl⟩]; rfl, fun i hi => absurd hi (Nat.not_lt_zero _)⟩, fun c a b => kgW_n _ _ _ a⟩
  · rw [if_pos (show (0 : Int32) < nI n from nI_lt (a := 0) (by omega) (by omega)), bnd_s, bnd_s]
    exact ⟨_, rfl, ⟨by rw [kgW_r, if_neg (by omega), kgW_r, if_neg (by omega)]; exact h1, by rw [kgW_r, if_pos ⟨rfl, rfl⟩]; rfl, fun i hi => absurd hi (Nat.not_lt_zero _)⟩, fun c a b => by rw [kgW_n _ _ _ a, kgW_n _ _ _ a]⟩
theorem nar_b : ∀ c, c < 127 → vp_nar .byte (nI c) = nI c ∧ vp_nar .byte (nI c).toInt8.toInt32 = nI c ∧ (nI c ≤ 255) := by decide +kernel
theorem c_addC {I : kgM} {l : List Nat} {ch : Nat} (h : LnC l I) (hl : l.length < 34) (hc : ch < 127) : ∃ J, f_addC (nI ch) I = some (0, J) ∧ LnC (l ++ [ch]) J ∧ lfC I J := by
  have nb := nar_b ch hc
  unfold f_addC
  rw [h.2.1, ck_inb hl (by omega), ck_t (decide_eq_true h.1), ck_t (decide_eq_true nb.2.2), nI_clamp (by omega), nI_1, nb.2.1]
  refine ⟨_, rfl, h.app ?_ ?_ (fun i hi => ?_) (fun i hi => ?_), fun c a b => by rw [kgW_n _ _ _ b, kgW_n _ _ _ a]⟩
  · rw [kgW_n _ _ _ (by decide), kgW_r, if_neg (by omega)]; exact h.1
  · rw [kgW_n _ _ _ (by decide), kgW_r, if_pos ⟨rfl, rfl⟩]; rfl
  · rw [kgW_r, if_neg (by omega), kgW_n _ _ _ (by decide)]
  · have hi : i < 1 := hi
    have : i = 0 := by omega
    subst this
    rw [kgW_r, if_pos ⟨rfl, rfl⟩]; rfl
/-- a number's signs -/
def dgs (v : Nat) : List Nat := if v < 10 then [48 + v] else if v < 100 then [48 + v / 10, 48 + v % 10] else [48 + v / 100, 48 + v / 10 % 10, 48 + v % 10]
theorem dgs_len (v : Nat) : (dgs v).length = if v < 10 then 1 else if v < 100 then 2 else 3 := by
  unfold dgs
  by_cases q : v < 10
  · rw [if_pos q, if_pos q]; rfl
  · rw [if_neg q, if_neg q]
    by_cases q2 : v < 100
    · rw [if_pos q2, if_pos q2]; rfl
    · rw [if_neg q2, if_neg q2]; rfl
theorem neg_n : ∀ v, v < 101 → ((-nI v ≤ (-10 : Int32)) = decide (10 ≤ v)) ∧ ((-nI v ≤ (10 : Int32) * (-10 : Int32)) = decide (100 ≤ v)) ∧ (((-100 : Int32) < -nI v) = decide (v < 100)) ∧ (((-9 : Int32) ≤ -nI v) = decide (v ≤ 9)) ∧ -(-nI v) = nI v := by decide +kernel
theorem c_size {I : kgM} {v : Nat} (hv : v ≤ 100) : f_J6_stringSize_0f7a4 (nI v) I = some (nI (dgs v).length, I) := by
  have g := neg_n v (by omega)
  unfold f_J6_stringSize_0f7a4
  rw [if_neg (nI_pos (by omega)), bnd_s, f_J6_stringSize_0f7a4_L16b, if_neg (by decide), dgs_len]
  by_cases q : v < 10
  · rw [if_neg (show ¬ -nI v ≤ (-10 : Int32) by rw [g.1]; simp; omega), if_pos q]; rfl
  · rw [if_pos (show -nI v ≤ (-10 : Int32) by rw [g.1]; simp; omega), bnd_s, bnd_s, f_J6_stringSize_0f7a4_L16b, if_neg (by decide), if_neg q]
    by_cases q2 : v < 100
    · rw [if_neg (show ¬ -nI v ≤ (10 : Int32) * (-10 : Int32) by rw [g.2.1]; simp; omega), if_pos q2]; rfl
    · have : v = 100 := by omega
      subst this
      rw [if_pos (by decide), bnd_s, bnd_s, f_J6_stringSize_0f7a4_L16b, if_neg (by decide), if_neg (by decide), if_neg q2]; rfl
theorem nI_dec (k : Nat) : nI (k + 1) + (-1 : Int32) = nI k := by
  show nI (k + 1) + -(1 : Int32) = nI k
  rw [← Int32.sub_eq_add_neg]; exact nI_pred k
theorem kg_dg : ∀ v, v < 100 → vp_nar .byte (kg_ones v) = nI (48 + v % 10) ∧ vp_nar .byte (kg_tens v) = nI (48 + v / 10) := by decide +kernel
theorem c_chars2 {I : kgM} {v e : Nat} (hv : v ≤ 100) (he : (dgs v).length ≤ e) (h34 : e ≤ 34) : ∃ x J, f_J6_getChars_ba4f3 e (nI v) (nI e) I = some (x, J) ∧ (∀ c, c ≠ 176 → J c = I c) ∧ (∀ i, i < e - (dgs v).length → J 176 i = I 176 i) ∧ ∀ i, i < (dgs v).length → J 176 (e - (dgs v).length + i) = nI ((dgs v).getD i 0) := by
  have g := neg_n v (by omega)
  have dl := dgs_len v
  unfold f_J6_getChars_ba4f3
  rw [letJ_s, if_pos (nI_ge0 (by omega))]
  dsimp only
  rw [if_pos rfl, bnd_s, f_J6_getChars_ba4f3_L22b]
  by_cases q2 : v < 100
  · have kd := kg_dg v q2
    obtain ⟨e, rfl⟩ : ∃ e2, e = e2 + 1 := ⟨e - 1, by split at dl <;> omega⟩
    rw [if_pos (show (-100 : Int32) < -nI v by rw [g.2.2.1]; simp; omega), nI_dec, bnd_s, g.2.2.2.2, ck_inb q2 (by omega), ck_inb (Nat.lt_succ_self _) (by omega), nI_clamp (by omega), nI_clamp (by omega), kd.1, bnd_s, letJ_s]
    by_cases q : v < 10
    · rw [if_pos q] at dl
      rw [if_pos (show (-9 : Int32) ≤ -nI v by rw [g.2.2.2.1]; simp; omega)]
      dsimp only
      rw [if_pos rfl, dl]
      refine ⟨_, _, rfl, fun c hc => kgW_n _ _ _ hc, fun i hi => by rw [kgW_r, if_neg (by omega)], fun i hi => ?_⟩
      have : i = 0 := by omega
      subst this
      rw [kgW_r, if_pos ⟨rfl, by omega⟩]
      unfold dgs
      rw [if_pos q, show v % 10 = v by omega]; rfl
    · rw [if_neg q, if_pos q2] at dl
      obtain ⟨e, rfl⟩ : ∃ e2, e = e2 + 1 := ⟨e - 1, by omega⟩
      rw [if_neg (show ¬ (-9 : Int32) ≤ -nI v by rw [g.2.2.2.1]; simp; omega), nI_dec, bnd_s, ck_inb (k := v) q2 (by omega), ck_inb (k := e) (by omega) (by omega), nI_clamp (by omega), kd.2, bnd_s]
      dsimp only
      rw [if_pos rfl, dl]
      refine ⟨_, _, rfl, fun c hc => by rw [kgW_n _ _ _ hc, kgW_n _ _ _ hc], fun i hi => by rw [kgW_r, if_neg (by omega), kgW_r, if_neg (by omega)], fun i hi => ?_⟩
      unfold dgs
      rw [if_neg q, if_pos q2]
      have : i = 0 ∨ i = 1 := by omega
      rcases this with rfl | rfl
      · rw [kgW_r, if_pos ⟨rfl, by omega⟩]; rfl
      · rw [kgW_r, if_neg (by omega), kgW_r, if_pos ⟨rfl, by omega⟩]; rfl
  · have : v = 100 := by omega
    subst this
    have dl : (dgs 100).length = 3 := dl
    obtain ⟨e, rfl⟩ : ∃ e2, e = e2 + 3 := ⟨e - 3, by omega⟩
    have kd0 := kg_dg 0 (by omega)
    have kd1 := kg_dg 1 (by omega)
    have a1 : (-nI 100) / (100 : Int32) = -1 := by decide
    have a2 : ((-1 : Int32) * (100 : Int32)) - -nI 100 = nI 0 := by decide
    rw [if_neg (by decide), a1, bnd_s, a2, bnd_s, nI_dec, bnd_s, ck_inb (k := 0) (by omega) (by omega), ck_inb (k := e + 2) (by omega) (by omega), nI_clamp (n := e + 2) (by omega), nI_clamp (n := 0) (by omega), kd0.1, bnd_s, nI_dec, bnd_s, ck_inb (k := 0) (by omega) (by omega), ck_inb (k := e + 1) (by omega) (by omega), nI_clamp (n := e + 1) (by omega), kd0.2, bnd_s, f_J6_getChars_ba4f3_L22b, if_pos (by decide), nI_dec, bnd_s, show -(-1 : Int32) = nI 1 by decide, ck_inb (k := 1) (by omega) (by omega), ck_inb (k := e) (by omega) (by omega), nI_clamp (n := e) (by omega), nI_clamp (n := 1) (by omega), kd1.1, bnd_s, letJ_s, if_pos (by decide)]
    dsimp only
    rw [if_pos rfl, dl]
    refine ⟨_, _, rfl, fun c hc => by rw [kgW_n _ _ _ hc, kgW_n _ _ _ hc, kgW_n _ _ _ hc], fun i hi => by rw [kgW_r, if_neg (by omega), kgW_r, if_neg (by omega), kgW_r, if_neg (by omega)], fun i hi => ?_⟩
    have : i = 0 ∨ i = 1 ∨ i = 2 := by omega
    rcases this with rfl | rfl | rfl
    · rw [kgW_r, if_pos ⟨rfl, by omega⟩]; rfl
    · rw [kgW_r, if_neg (by omega), kgW_r, if_pos ⟨rfl, by omega⟩]; rfl
    · rw [kgW_r, if_neg (by omega), kgW_r, if_neg (by omega), kgW_r, if_pos ⟨rfl, by omega⟩]; rfl
theorem c_addI {I : kgM} {l : List Nat} {v : Nat} (h : LnC l I) (hv : v ≤ 100) (hl : l.length + (dgs v).length ≤ 34) : ∃ J, f_addI (nI v) I = some (0, J) ∧ LnC (l ++ dgs v) J ∧ lfC I J := by
  obtain ⟨x, J, j1, j2, j3, j4⟩ := c_chars2 (I := I) (v := v) (e := l.length + (dgs v).length) hv (by omega) hl
  unfold f_addI
  rw [c_size hv, bndC_s, h.2.1, nI_add, ck_inb (by omega) (by omega), ck_t (decide_eq_true h.1), nI_clamp (by omega), j1, bndC_s, bnd_s]
  rw [Nat.add_sub_cancel] at j3 j4
  refine ⟨_, rfl, h.app ?_ ?_ (fun i hi => ?_) (fun i hi => ?_), fun c a b => by rw [kgW_n _ _ _ a, j2 c b]⟩
  · rw [kgW_r, if_neg (by omega), j2 175 (by decide)]; exact h.1
  · rw [kgW_r, if_pos ⟨rfl, rfl⟩]
  · rw [kgW_n _ _ _ (by decide), j3 i hi]
  · rw [kgW_n _ _ _ (by decide), j4 i hi]
theorem wr_n : ∀ v, v < 101 → (48 : Int32) + (nI v - nI v / (10 : Int32) * (10 : Int32)) = nI (48 + v % 10) ∧ nI v / (10 : Int32) = nI (v / 10) ∧ ((nI v ≤ (9 : Int32)) = decide (v < 10)) ∧ (10 ≤ v → dgs v = dgs (v / 10) ++ [48 + v % 10]) ∧ (v < 10 → dgs v = [48 + v % 10]) := by decide +kernel
