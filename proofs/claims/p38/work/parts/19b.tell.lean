/-! TELL -/
def goodL (l : List Nat) : Prop := ∀ c, c ∈ l → 32 ≤ c ∧ c < 127
theorem goodL.nil : goodL [] := fun c h => by cases h
theorem goodL.one {c : Nat} (h1 : 32 ≤ c) (h2 : c < 127) : goodL [c] := fun d h => by
  rw [List.mem_singleton] at h; omega
theorem goodL.app {l ds : List Nat} (h1 : goodL l) (h2 : goodL ds) : goodL (l ++ ds) := fun c h => (List.mem_append.mp h).elim (h1 c) (h2 c)
theorem goodL.ite {P : Prop} {i : Decidable P} {l ds : List Nat} (h1 : goodL l) (h2 : goodL ds) : goodL (if P then l else ds) := by
  by_cases q : P
  · rw [if_pos q]; exact h1
  · rw [if_neg q]; exact h2
theorem dgs_good0 : ∀ v, v < 101 → (dgs v).all (fun c => decide (32 ≤ c ∧ c < 127)) = true := by decide +kernel
theorem dgs_good {v : Nat} (h : v ≤ 100) : goodL (dgs v) := fun c hc => by
  have := List.all_eq_true.mp (dgs_good0 v (by omega)) c hc
  exact of_decide_eq_true this
theorem dgs_1 {v : Nat} (h : v < 10) : (dgs v).length = 1 := by rw [dgs_len, if_pos h]
theorem dgs_2 {v : Nat} (h : v < 100) : (dgs v).length ≤ 2 := by rw [dgs_len, if_pos h]; split <;> omega
theorem dgs_3 (v : Nat) : (dgs v).length ≤ 3 := by rw [dgs_len]; split <;> (try split) <;> omega
theorem ite_len {P : Prop} {i : Decidable P} {l ds : List Nat} {n : Nat} (h1 : l.length ≤ n) (h2 : ds.length ≤ n) : (if P then l else ds).length ≤ n := by
  by_cases q : P
  · rw [if_pos q]; exact h1
  · rw [if_neg q]; exact h2
theorem line_inv {l : List Nat} {I : kgM} (h1 : LnC l I) (h2 : LnM l I) (g : goodL l) (hl : l.length ≤ 34) : InvL I :=
  ⟨l.length, hl, h1.2.1, h2.1, h1.1, fun i hi => ⟨l.getD i 0, by
    have : l.getD i 0 ∈ l := by
      rw [List.getD_eq_getElem?_getD, List.getElem?_eq_getElem hi]; exact List.getElem_mem hi
    have := g _ this
    exact this.1, by
    have : l.getD i 0 ∈ l := by
      rw [List.getD_eq_getElem?_getD, List.getElem?_eq_getElem hi]; exact List.getElem_mem hi
    have := g _ this
    exact this.2, h1.2.2 i hi, h2.2 i hi⟩⟩
section OPT
variable {P : Prop} {i : Decidable P} {I : kgM} {l : List Nat} {ch : Nat} {c : Int32}
theorem c_opt (h : LnC l I) (hl : l.length < 34) (hc : ch < 127) (e : c = nI ch) : ∃ J, (∀ R : kgM → Option (Int32 × kgM), letJ R (fun (j : kgM → Option (Int32 × kgM)) => if P then bndC (f_addC c I) (fun _ I8 => j I8) else j I) = R J) ∧ LnC (l ++ if P then [ch] else []) J ∧ lfC I J := by
  subst e
  by_cases q : P
  · obtain ⟨J, a, b, d⟩ := c_addC h hl hc
    exact ⟨J, fun R => by rw [letJ_s, if_pos q, a, bndC_s], by rw [if_pos q]; exact b, d⟩
  · exact ⟨I, fun R => by rw [letJ_s, if_neg q], by rw [if_neg q, List.append_nil]; exact h, lfC.rf⟩
theorem c_optN (h : LnC l I) (hl : l.length < 34) (hc : ch < 127) (e : c = nI ch) : ∃ J, (∀ R : kgM → Option (Int32 × kgM), letJ R (fun (j : kgM → Option (Int32 × kgM)) => if P then j I else bndC (f_addC c I) (fun _ I8 => j I8)) = R J) ∧ LnC (l ++ if P then [] else [ch]) J ∧ lfC I J := by
  subst e
  by_cases q : P
  · exact ⟨I, fun R => by rw [letJ_s, if_pos q], by rw [if_pos q, List.append_nil]; exact h, lfC.rf⟩
  · obtain ⟨J, a, b, d⟩ := c_addC h hl hc
    exact ⟨J, fun R => by rw [letJ_s, if_neg q, a, bndC_s], by rw [if_neg q]; exact b, d⟩
end OPT
def tlA (s : kgS) (k : Nat) : List Nat := [] ++ dgs k ++ [58] ++ dgs (s.1 6 k) ++ [112] ++ dgs (s.1 7 k) ++ [119] ++ dgs (s.1 8 k) ++ [116] ++ dgs (5 * s.1 9 k)
def tlS (s : kgS) (k : Nat) : List Nat := if s.1 10 k = 0 then [] else [64] ++ dgs (s.1 10 k - 1)
def tlX (s : kgS) (k : Nat) : List Nat := if nI (s.1 11 k) ≤ 0 then [] else [120] ++ dgs (s.1 11 k)
def tlB (s : kgS) (k : Nat) (l : List Nat) : List Nat := l ++ (if nI (s.1 12 k) = 0 then [95] else []) ++ (if nI (s.1 13 k) = (1 : Int32) then [35] else []) ++ tlS s k ++ (if b2i (wh s k) = 0 then [] else [33]) ++ tlX s k
section TELL
variable {I : kgM} {s : kgS} {k : Nat}
theorem tl_len (w : kgWF s) (hk : k < kgN s) : (tlA s k).length ≤ 13 ∧ (tlS s k).length ≤ 2 ∧ (tlX s k).length ≤ 2 ∧ ∀ l : List Nat, (tlB s k l).length ≤ l.length + 7 := by
  have hn := w.1
  have b := w.2.2.2.1 k hk
  have d1 := dgs_1 (v := k) (by omega)
  have d2 := dgs_1 (v := s.1 6 k) (by omega)
  have d3 := dgs_2 (v := s.1 7 k) (by omega)
  have d4 := dgs_2 (v := s.1 8 k) (by omega)
  have d5 := dgs_3 (5 * s.1 9 k)
  have d6 := dgs_1 (v := s.1 10 k - 1) (by omega)
  have d7 := dgs_1 (v := s.1 11 k) (by omega)
  have e1 : (tlS s k).length ≤ 2 := ite_len (Nat.zero_le _) (by rw [List.length_append, d6]; exact Nat.le_refl 2)
  have e2 : (tlX s k).length ≤ 2 := ite_len (Nat.zero_le _) (by rw [List.length_append, d7]; exact Nat.le_refl 2)
  refine ⟨?_, e1, e2, fun l => ?_⟩
  · unfold tlA
    simp only [List.length_append, List.length_cons, List.length_nil]
    omega
  · have e3 : (if nI (s.1 12 k) = 0 then [95] else ([] : List Nat)).length ≤ 1 := ite_len (Nat.le_refl _) (Nat.zero_le _)
    have e4 : (if nI (s.1 13 k) = (1 : Int32) then [35] else ([] : List Nat)).length ≤ 1 := ite_len (Nat.le_refl _) (Nat.zero_le _)
    have e5 : (if b2i (wh s k) = 0 then ([] : List Nat) else [33]).length ≤ 1 := ite_len (Nat.zero_le _) (Nat.le_refl _)
    unfold tlB
    simp only [List.length_append]
    omega
theorem tl_good (w : kgWF s) (hk : k < kgN s) : goodL (tlB s k (tlA s k)) := by
  have hn := w.1
  have b := w.2.2.2.1 k hk
  have o : ∀ c, 32 ≤ c → c < 127 → goodL [c] := fun c h1 h2 => goodL.one h1 h2
  have z := goodL.nil
  unfold tlB tlA tlS tlX
  exact (((((((((((((((z.app (dgs_good (by omega))).app (o 58 (by omega) (by omega))).app (dgs_good (by omega))).app (o 112 (by omega) (by omega))).app (dgs_good (by omega))).app (o 119 (by omega) (by omega))).app (dgs_good (by omega))).app (o 116 (by omega) (by omega))).app (dgs_good (by omega))).app (goodL.ite (o 95 (by omega) (by omega)) z)).app (goodL.ite (o 35 (by omega) (by omega)) z)).app (goodL.ite z ((o 64 (by omega) (by omega)).app (dgs_good (by omega))))).app (goodL.ite z (o 33 (by omega) (by omega)))).app (goodL.ite z ((o 120 (by omega) (by omega)).app (dgs_good (by omega))))))
theorem c_signs {l : List Nat} (hG : RepG I 1 s) (w : kgWF s) (hk : k < kgN s) (h : LnC l I) (hl : l.length ≤ 20) : ∃ J, f_X4_tellSigns (nI k) I = some (0, J) ∧ LnC (tlB s k l) J ∧ lfC I J := by
  have hn := w.1
  have b := w.2.2.2.1 k hk
  have tl := tl_len w hk
  unfold f_X4_tellSigns
  have e3 : (if nI (s.1 12 k) = 0 then [95] else ([] : List Nat)).length ≤ 1 := ite_len (Nat.le_refl _) (Nat.zero_le _)
  have e4 : (if nI (s.1 13 k) = (1 : Int32) then [35] else ([] : List Nat)).length ≤ 1 := ite_len (Nat.le_refl _) (Nat.zero_le _)
  have e5 : (if b2i (wh s k) = 0 then ([] : List Nat) else [33]).length ≤ 1 := ite_len (Nat.zero_le _) (Nat.le_refl _)
  rw [ck_inb (by omega) (by omega), nI_clamp (by omega), hG.lid hk]
  obtain ⟨J1, r1, l1, f1⟩ := c_opt (P := nI (s.1 12 k) = 0) (i := inferInstance) (c := 95) (ch := 95) h (by omega) (by omega) rfl
  rw [r1, ck_inb (by omega) (by omega), (f1.G hG).bar hk]
  obtain ⟨J2, r2, l2, f2⟩ := c_opt (P := nI (s.1 13 k) = (1 : Int32)) (i := inferInstance) (c := 35) (ch := 35) l1 (by simp only [List.length_append]; omega) (by omega) rfl
  have G2 := (f1.trans f2).G hG
  rw [r2, ck_inb (by omega) (by omega), G2.stv hk]
  have st : ∃ J, (∀ R : kgM → Option (Int32 × kgM), letJ R (fun (j : kgM → Option (Int32 × kgM)) => if nI (s.1 10 k) - 1 = (-1 : Int32) then j J2 else bndC (f_addC (64 : Int32) J2) (fun _ I5 => ck (inb (nI k) 10) (bndC (f_addI (I5 11 k) I5) (fun _ I6 => j I6)))) = R J) ∧ LnC ((l ++ (if nI (s.1 12 k) = 0 then [95] else []) ++ (if nI (s.1 13 k) = (1 : Int32) then [35] else [])) ++ tlS s k) J ∧ lfC J2 J := by
    unfold tlS
    by_cases q : s.1 10 k = 0
    · refine ⟨J2, fun R => ?_, by rw [if_pos q, List.append_nil]; exact l2, lfC.rf⟩
      rw [letJ_s, if_pos (by rw [oc_m1 (by omega)]; exact q)]
    · obtain ⟨K1, a1, b1, c1⟩ := c_addC (ch := 64) l2 (by simp only [List.length_append]; omega) (by omega)
      have a1 : f_addC (64 : Int32) J2 = some (0, K1) := a1
      have d6 := dgs_1 (v := s.1 10 k - 1) (by omega)
      obtain ⟨K2, a2, b2, c2⟩ := c_addI (v := s.1 10 k - 1) b1 (by omega) (by simp only [List.length_append, List.length_cons, List.length_nil]; omega)
      have v : K1 11 k = nI (s.1 10 k - 1) := by
        rw [(c1.G G2).stv hk]
        obtain ⟨o, ho⟩ : ∃ o, s.1 10 k = o + 1 := ⟨s.1 10 k - 1, by omega⟩
        rw [ho, nI_pred]; rfl
      refine ⟨K2, fun R => ?_, by rw [if_neg q, ← List.append_assoc]; exact b2, c1.trans c2⟩
      rw [letJ_s, if_neg (by rw [oc_m1 (by omega)]; exact q), a1, bndC_s, ck_inb (by omega) (by omega), v, a2, bndC_s]
  obtain ⟨J3, r3, l3, f3⟩ := st
  have G3 := f3.G G2
  rw [r3, c_whistles G3 w hk, bndC_s]
  obtain ⟨J4, r4, l4, f4⟩ := c_optN (P := b2i (wh s k) = 0) (i := inferInstance) (c := 33) (ch := 33) l3 (by simp only [List.length_append]; omega) (by omega) rfl
  have G4 := f4.G G3
  rw [r4, ck_inb (by omega) (by omega), G4.ban hk]
  have f04 : lfC I J4 := ((f1.trans f2).trans f3).trans f4
  unfold tlB tlX
  by_cases q : nI (s.1 11 k) ≤ 0
  · rw [if_pos q]
    exact ⟨J4, rfl, by rw [if_pos q, List.append_nil]; exact l4, f04⟩
  · rw [if_neg q]
    obtain ⟨K1, a1, b1, c1⟩ := c_addC (ch := 120) l4 (by simp only [List.length_append]; omega) (by omega)
    have a1 : f_addC (120 : Int32) J4 = some (0, K1) := a1
    have d7 := dgs_1 (v := s.1 11 k) (by omega)
    obtain ⟨K2, a2, b2, c2⟩ := c_addI (v := s.1 11 k) b1 (by omega) (by simp only [List.length_append, List.length_cons, List.length_nil]; omega)
    rw [a1, bndC_s, ck_inb (by omega) (by omega), (c1.G G4).ban hk, a2, bndC_s]
    exact ⟨K2, rfl, by rw [if_neg q, ← List.append_assoc]; exact b2, (f04.trans c1).trans c2⟩
theorem c_tell {n : Nat} (hG : RepG I 1 s) (w : kgWF s) (hk : k < kgN s) (h1 : I 175 1 = 0) (h3 : I 175 3 = nI n) (hn34 : n ≤ 34) : ∃ J, f_X4_tell (nI k) I = some (nI (tlB s k (tlA s k)).length, J) ∧ LnC (tlB s k (tlA s k)) J ∧ lfC I J := by
  have hn := w.1
  have b := w.2.2.2.1 k hk
  have tl := tl_len w hk
  have d1 := dgs_1 (v := k) (by omega)
  have d2 := dgs_1 (v := s.1 6 k) (by omega)
  have d3 := dgs_2 (v := s.1 7 k) (by omega)
  have d4 := dgs_2 (v := s.1 8 k) (by omega)
  have d5 := dgs_3 (5 * s.1 9 k)
  have rg : rgI 0 ((kgN s : Int) - 1) (nI k) = true := decide_eq_true (by rw [nI_toInt (by omega)]; omega)
  unfold f_X4_tell
  obtain ⟨I2, a2, l2, f2⟩ := c_setL h1 h3 hn34
  obtain ⟨I3, a3, l3, f3⟩ := c_addI (v := k) l2 (by omega) (by simp only [List.length_append, List.length_cons, List.length_nil]; omega)
  obtain ⟨I4, a4, l4, f4⟩ := c_addC (ch := 58) l3 (by simp only [List.length_append, List.length_cons, List.length_nil]; omega) (by omega)
  have a4 : f_addC (58 : Int32) I3 = some (0, I4) := a4
  have G4 := ((f2.trans f3).trans f4).G hG
  obtain ⟨I5, a5, l5, f5⟩ := c_addI (v := s.1 6 k) l4 (by omega) (by simp only [List.length_append, List.length_cons, List.length_nil]; omega)
  obtain ⟨I6, a6, l6, f6⟩ := c_addC (ch := 112) l5 (by simp only [List.length_append, List.length_cons, List.length_nil]; omega) (by omega)
  have a6 : f_addC (112 : Int32) I5 = some (0, I6) := a6
  have G6 := (f5.trans f6).G G4
  obtain ⟨I7, a7, l7, f7⟩ := c_addI (v := s.1 7 k) l6 (by omega) (by simp only [List.length_append, List.length_cons, List.length_nil]; omega)
  obtain ⟨I8, a8, l8, f8⟩ := c_addC (ch := 119) l7 (by simp only [List.length_append, List.length_cons, List.length_nil]; omega) (by omega)
  have a8 : f_addC (119 : Int32) I7 = some (0, I8) := a8
  have G8 := (f7.trans f8).G G6
  obtain ⟨I9, a9, l9, f9⟩ := c_addI (v := s.1 8 k) l8 (by omega) (by simp only [List.length_append, List.length_cons, List.length_nil]; omega)
  obtain ⟨I10, a10, l10, f10⟩ := c_addC (ch := 116) l9 (by simp only [List.length_append, List.length_cons, List.length_nil]; omega) (by omega)
  have a10 : f_addC (116 : Int32) I9 = some (0, I10) := a10
  have G10 := (f9.trans f10).G G8
  obtain ⟨I11, a11, l11, f11⟩ := c_addI (v := 5 * s.1 9 k) l10 (by omega) (by simp only [List.length_append, List.length_cons, List.length_nil]; omega)
  have G11 := f11.G G10
  obtain ⟨I12, a12, l12, f12⟩ := c_signs (l := tlA s k) G11 w hk l11 (by omega)
  have fA : lfC I I12 := (((((((((f2.trans f3).trans f4).trans f5).trans f6).trans f7).trans f8).trans f9).trans f10).trans f11).trans f12
  refine ⟨I12, ?_, l12, fA⟩
  rw [c_isKettle hG w, rg, bndC_s, if_neg (show ¬ b2i true = 0 by decide), a2, bndC_s, a3, bndC_s, a4, bndC_s, ck_inb (by omega) (by omega), nI_clamp (by omega), G4.mem hk, a5, bndC_s, a6, bndC_s, ck_inb (by omega) (by omega), G6.pit hk, a7, bndC_s, a8, bndC_s, ck_inb (by omega) (by omega), G8.wat hk, a9, bndC_s, a10, bndC_s, ck_inb (by omega) (by omega), G10.tmp hk, a11, bndC_s, a12, bndC_s]
  unfold f_J5_length_8abf5
  rw [bndC_s, l12.2.1]
end TELL
