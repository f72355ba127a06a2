/-! A MINUTE -/
def dr (s : kgS) (k : Nat) : Bool := bo s k && decide (s.1 8 k ≤ 1)
/-- a kettle boils on: water, or dry -/
def dryS (u : kgS) (k v : Nat) : kgS := kgSeb (kgSeb (kgSet (kgSet u 10 k 0) 11 k v) (u.1 6 k) (u.2 (u.1 6 k) - 2)) (4 + u.1 6 k) (u.2 (4 + u.1 6 k) + 1)
def watS (u : kgS) (k : Nat) : kgS := if 0 < u.1 8 k then kgSeb (kgSet u 8 k (u.1 8 k - 1)) 14 (u.2 14 + 1) else u
def st1 (s : kgS) (k : Nat) : kgS := if bo s k = true then (if s.1 8 k ≤ 1 then dryS (watS s k) k 7 else watS s k) else s
def tw (s : kgS) (k : Nat) : Nat := if s.1 10 k = 0 then (if s.1 9 k ≤ 5 then 4 else s.1 9 k - 1) else (if 20 ≤ s.1 9 k + hU s k then 20 else s.1 9 k + hU s k)
def st2 (s : kgS) (k : Nat) : kgS := kgSet (kgSet s 9 k (tw s k)) 11 k (s.1 11 k - 1)
theorem kgSet_id {s : kgS} {j p v : Nat} (h : s.1 j p = v) : kgSet s j p v = s := by
  refine Prod.ext (funext fun a => funext fun b => ?_) rfl
  show (if a = j ∧ b = p then v else s.1 a b) = s.1 a b
  by_cases q : a = j ∧ b = p
  · rw [if_pos q, q.1, q.2, h]
  · rw [if_neg q]
theorem tw_le {s : kgS} (w : kgWF s) {k : Nat} (hk : k < kgN s) : 4 ≤ tw s k ∧ tw s k ≤ 20 := by
  have b := w.2.2.2.1 k hk
  unfold tw
  split
  · split <;> omega
  · split <;> omega
theorem watS_n {u : kgS} {k : Nat} : kgN (watS u k) = kgN u := by
  unfold watS
  split
  · exact kgSet_ne (s := u) (j := 8) (p := k) (v := u.1 8 k - 1) (a := 0) (b := 0) (Or.inl (by decide))
  · rfl
theorem wf_watS {u : kgS} (w : kgWF u) {k : Nat} (hk : k < kgN u) : kgWF (watS u k) := by
  unfold watS
  have b := w.2.2.2.1 k hk
  by_cases q : 0 < u.1 8 k
  · rw [if_pos q]
    refine wf_wat w hk (by omega) (Or.inr ⟨rfl, ?_⟩)
    rw [Int32.add_assoc, show (1 : Int32) = nI 1 from rfl, nI_add, show 1 + (u.1 8 k - 1) = u.1 8 k by omega]
  · rw [if_neg q]; exact w
theorem watS_f {u : kgS} {k a : Nat} (h : a ≠ 8) (b : Nat) : (watS u k).1 a b = u.1 a b := by
  unfold watS
  split
  · exact kgSet_ne (s := u) (j := 8) (p := k) (v := u.1 8 k - 1) (a := a) (b := b) (Or.inl h)
  · rfl
theorem wf_dryS {u : kgS} (w : kgWF u) {k v : Nat} (hk : k < kgN u) (hv : v ≤ 7) : kgWF (dryS u k v) := by
  have b := w.2.2.2.1 k hk
  have h10 := wf_stv w hk (v := 0) (by omega) (Or.inl rfl)
  have h11 := wf_free h10 (j := 11) (k := k) (v := v) (Or.inr (Or.inl ⟨rfl, hv⟩))
  exact wf_seb (wf_seb h11 (i := u.1 6 k) (by omega)) (i := 4 + u.1 6 k) (by omega)
theorem dryS_n {u : kgS} {k v : Nat} : kgN (dryS u k v) = kgN u := by
  show (kgSet (kgSet u 10 k 0) 11 k v).1 0 0 = u.1 0 0
  rw [kgSet_ne (Or.inl (by decide)), kgSet_ne (Or.inl (by decide))]
theorem st1_n {s : kgS} {k : Nat} : kgN (st1 s k) = kgN s := by
  unfold st1
  split
  · split
    · rw [dryS_n, watS_n]
    · exact watS_n
  · rfl
theorem wf_st1 {s : kgS} (w : kgWF s) {k : Nat} (hk : k < kgN s) : kgWF (st1 s k) := by
  unfold st1
  split
  · split
    · exact wf_dryS (wf_watS w hk) (by rw [watS_n]; exact hk) (by omega)
    · exact wf_watS w hk
  · exact w
theorem st2_n {s : kgS} {k : Nat} : kgN (st2 s k) = kgN s := by
  show (kgSet (kgSet s 9 k (tw s k)) 11 k (s.1 11 k - 1)).1 0 0 = s.1 0 0
  rw [kgSet_ne (Or.inl (by decide)), kgSet_ne (Or.inl (by decide))]
theorem wf_st2 {s : kgS} (w : kgWF s) {k : Nat} (hk : k < kgN s) : kgWF (st2 s k) := by
  have b := w.2.2.2.1 k hk
  have t := tw_le w hk
  exact wf_free (wf_free w (j := 9) (k := k) (v := tw s k) (Or.inl ⟨rfl, t⟩)) (j := 11) (k := k) (v := s.1 11 k - 1) (Or.inr (Or.inl ⟨rfl, by omega⟩))
section CLMIN
variable {I : kgM} {s : kgS}
theorem c_change (hG : RepG I 1 s) (w : kgWF s) {k : Nat} (hk : k < kgN s) : f_X3_changeTemperature (nI k) I = some (0, kgW I 10 k (nI (5 * tw s k))) := by
  have hn := w.1
  have b := w.2.2.2.1 k hk
  have hh := hU_le w hk
  unfold f_X3_changeTemperature tw
  simp (disch := omega) only [ck_inb, nI_clamp, hG.stv hk, oc_m1, hG.tmp hk, bnd_s]
  by_cases q : s.1 10 k = 0
  · rw [if_pos q, if_pos q]
    have e : nI (5 * s.1 9 k) - 5 = nI (5 * (s.1 9 k - 1)) := by
      rw [show (5 : Int32) = nI 5 from rfl, nI_sub (by omega)]; congr 1; omega
    rw [e]
    unfold f_J9_max_7cf53
    simp (disch := omega) only [l20, nI_leE, nI_ltE]
    by_cases q2 : s.1 9 k ≤ 5
    · rw [if_pos q2]
      first | rw [if_pos (show 5 * (s.1 9 k - 1) ≤ 20 by omega)] | rw [if_neg (show ¬ 20 < 5 * (s.1 9 k - 1) by omega)] | skip
      rfl
    · rw [if_neg q2]
      first | rw [if_neg (show ¬ 5 * (s.1 9 k - 1) ≤ 20 by omega)] | rw [if_pos (show 20 < 5 * (s.1 9 k - 1) by omega)] | skip
      rfl
  · rw [if_neg q, if_neg q]
    rw [c_heat hG w hk, bndC_s]
    have e : nI (5 * s.1 9 k) + 5 * nI (hU s k) = nI (5 * (s.1 9 k + hU s k)) := by
      rw [show (5 : Int32) = nI 5 from rfl, nI_mul, nI_add]; congr 1; omega
    rw [e]
    unfold f_J9_min_7cf53
    simp (disch := omega) only [l100, nI_ltE]
    by_cases q2 : 20 ≤ s.1 9 k + hU s k
    · rw [if_pos q2, if_neg (show ¬ 5 * (s.1 9 k + hU s k) < 100 by omega)]
      rfl
    · rw [if_neg q2, if_pos (show 5 * (s.1 9 k + hU s k) < 100 by omega)]
      rfl
theorem c_boilDry (hG : RepG I 1 s) (w : kgWF s) {k : Nat} (hk : k < kgN s) : ∃ J, f_X3_boilDry (nI k) I = some (0, J) ∧ RepG J 1 (dryS s k 6) ∧ ∀ c, (c = 0 ∨ 16 ≤ c) → J c = I c := by
  have hn := w.1
  have b := w.2.2.2.1 k hk
  have e3 : I 3 (s.1 6 k) = s.2 (s.1 6 k) := (hG.2.2.1 _ b.1).1
  have e4 : I 4 (s.1 6 k) = s.2 (4 + s.1 6 k) := (hG.2.2.1 _ b.1).2.1
  unfold f_X3_boilDry
  simp (disch := omega) only [ck_inb, nI_clamp, hG.mem hk, bnd_s]
  refine ⟨_, rfl, ?_, fun c hc => ?_⟩
  · have h1 := hG.set (j := 10) (p := k) (v := 0) (Or.inr (by omega))
    have h2 := h1.set (j := 11) (p := k) (v := 6) (Or.inr (by omega))
    have h3 := h2.seb (i := s.1 6 k) (k := 3) (p := s.1 6 k) (s.2 (s.1 6 k) - 2) (Or.inl (by omega))
    have h4 := h3.seb (i := 4 + s.1 6 k) (k := 4) (p := s.1 6 k) (s.2 (4 + s.1 6 k) + 1) (Or.inr (Or.inl (by omega)))
    have e5 : kgW (kgW I 11 k (-1)) 12 k 6 3 (s.1 6 k) = s.2 (s.1 6 k) := by rw [kgW_n _ _ _ (by decide), kgW_n _ _ _ (by decide)]; exact e3
    have e6 : kgW (kgW (kgW I 11 k (-1)) 12 k 6) 3 (s.1 6 k) (s.2 (s.1 6 k) - 2) 4 (s.1 6 k) = s.2 (4 + s.1 6 k) := by rw [kgW_n _ _ _ (by decide), kgW_n _ _ _ (by decide), kgW_n _ _ _ (by decide)]; exact e4
    rw [e5, e6]
    exact h4
  · rw [kgW_n _ _ _ (by omega), kgW_n _ _ _ (by omega), kgW_n _ _ _ (by omega), kgW_n _ _ _ (by omega)]
end CLMIN
