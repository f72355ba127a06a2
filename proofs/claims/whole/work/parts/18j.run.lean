/-! RUN -/
theorem c_back {I : kgM} {b : Nat} (hb : b < 9) (h : I 31 1 = nI b) : f_X0_takeBackBegun I = some (0, cpJ I 1 (33 + 15 * b)) := by
  unfold f_X0_takeBackBegun
  rw [h, ck_inb (by omega) (by omega), nI_clamp (by omega), c_copy I (k1 := 1) (k2 := 33 + 15 * b) (by omega), bndC_s]
theorem run_fail {b k : Nat} {x : Int32} {JC JM : kgM} {s : kgS} (hb : b < 9) (h31 : JC 31 1 = nI b) (hG : RepG JC (33 + 15 * b) s) (hn : kgN s ≤ 10) (hx : x = -1011 ∨ x = -1012 ∨ (x = -1014 ∧ ∃ d, d ≤ 2 ∧ JC 168 2 = nI d)) (hq : RepQ JC JM) :
    ∃ KC KM, (bndC (f_X0_takeBackBegun JC) (fun _ I5 => bndC (f_X4_refuseOrder (nI k) x I5) (fun x7 I6 => some (x7, I6)))) = some (-1014, KC) ∧ (∀ (K : kgM → Option (Int32 × kgM)), letJ (fun y0j85 => bnd (kgW JM 177 5 y0j85) (fun I7 => bndC (f_X5_causes (16 : Int32) (nI (k + 1) - (1 : Int32)) I7) (fun _ I8 => K I8))) (fun (j85 : Int32 → Option (Int32 × kgM)) => (if x = (-1014 : Int32) then j85 (JM 177 5) else j85 (0 : Int32))) = K KM) ∧ RepG KC 1 s ∧ RepQ KC KM ∧ frC JC KC ∧ frP JM KM := by
  have hdis : 1 + 15 ≤ 33 + 15 * b ∨ 33 + 15 * b + 15 ≤ 1 := by omega
  have e5 : nI (k + 1) - (1 : Int32) = nI k := nI_pred k
  rw [c_back hb h31, bndC_s]
  generalize hJ5 : cpJ JC 1 (33 + 15 * b) = J5
  have j5 : ∀ c, (c < 1 ∨ 16 ≤ c) → J5 c = JC c := fun c hc => by rw [← hJ5]; exact cpJ_n hdis hc
  have G5 : RepG J5 1 s := by rw [← hJ5]; exact cpJ_G hdis hG hn
  obtain ⟨l, hl, lc, lm⟩ := hq.to
  by_cases z : x = -1014
  · subst z
    have hl2 : l.length ≤ 2 := by
      rcases hx with h | h | ⟨-, d, hd, h⟩
      · exact absurd h (by decide)
      · exact absurd h (by decide)
      · have := (nI_eq (a := l.length) (b := d) (by omega) (by omega)).mp (lc.1.symm.trans h)
        omega
    obtain ⟨KC, k1, k2, k3⟩ := c_putAhead (I := J5) (l := l) 16 (nI k) hl2 ⟨by rw [j5 168 (by omega)]; exact lc.1, fun i hi => by rw [j5 169 (by omega), j5 170 (by omega)]; exact lc.2 i hi⟩
    obtain ⟨KM, m1, m2, m3⟩ := m_causes (I := kgW JM 177 5 (JM 177 5)) (l := l) 16 (nI k) hl2 ⟨by rw [kgW_r, if_pos ⟨rfl, rfl⟩]; exact lm.1, fun i hi => by rw [kgW_n _ _ _ (by decide), kgW_n _ _ _ (by decide)]; exact lm.2 i hi⟩
    refine ⟨KC, KM, ?_, fun K => ?_, G5.same (fun j hj => k3 _ (by omega) (by omega) (by omega)), RepQ.of (l := (16, nI k) :: l) (by simp only [List.length_cons]; omega) k2 m2, fun c c1 c2 c3 c4 => by rw [k3 c c2 c3 c4, j5 c (by omega)], fun c c1 c2 c3 => by rw [m3.1 c c1 c2 c3, kgW_n _ _ _ c1], fun j hj => by rw [m3.2 j hj, kgW_r, if_neg (fun y => hj y.2)]⟩
    · unfold f_X4_refuseOrder
      rw [if_pos rfl, k1, bndC_s, bndC_s]
    · rw [letJ_s, if_pos rfl]; dsimp only; rw [bnd_s, e5, m1, bndC_s]
  · obtain ⟨KC, k1, k2, k3⟩ := c_putAhead (I := kgW J5 168 2 0) (l := []) 16 (nI k) (Nat.zero_le _) ⟨by rw [kgW_r, if_pos ⟨rfl, rfl⟩]; rfl, fun i hi => absurd hi (Nat.not_lt_zero _)⟩
    obtain ⟨KM, m1, m2, m3⟩ := m_causes (I := kgW JM 177 5 0) (l := []) 16 (nI k) (Nat.zero_le _) ⟨by rw [kgW_r, if_pos ⟨rfl, rfl⟩]; rfl, fun i hi => absurd hi (Nat.not_lt_zero _)⟩
    refine ⟨KC, KM, ?_, fun K => ?_, G5.same (fun j hj => by rw [k3 _ (by omega) (by omega) (by omega), kgW_n _ _ _ (by omega)]), RepQ.of (l := [(16, nI k)]) (show 1 ≤ 3 by omega) k2 m2, fun c c1 c2 c3 c4 => by rw [k3 c c2 c3 c4, kgW_n _ _ _ c2, j5 c (by omega)], fun c c1 c2 c3 => by rw [m3.1 c c1 c2 c3, kgW_n _ _ _ c1], fun j hj => by rw [m3.2 j hj, kgW_r, if_neg (fun y => hj y.2)]⟩
    · unfold f_X4_refuseOrder
      rw [if_neg z, bnd_s, k1, bndC_s, bndC_s]
    · rw [letJ_s, if_neg z]; dsimp only; rw [bnd_s, e5, m1, bndC_s]
def runF (I : kgM) : Option (Int32 × kgM) := f_X4_run_L39 (fun I7 => some (I7 171 5, I7)) 200 (0 : Int32) I
def runCF (I : kgM) : Option (Int32 × kgM) := f_X4_run_L39 (fun I7 => bndC (f_X4_settle (I7 171 5) I7) (fun x8 I8 => some (x8, I8))) 200 (0 : Int32) I
def runMK (x5 x6 : Int32) (I5 : kgM) : Option (Int32 × kgM) := (if (-1011 : Int32) < x5 then bndC (f_X5_ends (I5 177 11) I5) (fun x7 I6 => some (x7, I6)) else (letJ (fun y0j85 => bnd (kgW I5 177 5 y0j85) (fun I7 => bndC (f_X5_causes (16 : Int32) (x6 - (1 : Int32)) I7) (fun _ I8 => bndC (f_X5_ends (-1014 : Int32) I8) (fun x9 I9 => some (x9, I9))))) (fun (j85 : Int32 → Option (Int32 × kgM)) => (if x5 = (-1014 : Int32) then j85 (I5 177 5) else j85 (0 : Int32)))))
def runMF (I : kgM) : Option (Int32 × kgM) := f_X5_run_L33 (fun x5 x6 I5 => runMK x5 x6 I5) 200 (0 : Int32) (0 : Int32) I
def ResR (B' : Int) (s : kgS) (IC IM : kgM) : Prop := ∃ (s' : kgS) (x : Int32) (JC JM : kgM), runF IC = some (x, JC) ∧ runCF IC = bndC (f_X4_settle x JC) (fun x I => some (x, I)) ∧ runMF IM = bndC (f_X5_ends x JM) (fun x I => some (x, I)) ∧ RepG JC 1 s' ∧ kgWF s' ∧ kgPt B' s' ∧ RepQ JC JM ∧ frC IC JC ∧ frM IM JM ∧ ((0 ≤ x ∧ RepR (kgRow JM 0) s') ∨ (s' = s ∧ x = -1014))
section RUN2
variable {t : Nat → Nat} {L m : Nat}
theorem ok_run (w : TxW t L) (hm : m ≤ 10) (hps : ∀ k, k < m → ps t k ≤ L) {b : Nat} (hb : b < 9) {B : Int} (hB : 0 ≤ B ∧ B + 20000 < 400000000) {s : kgS} {IC IM : kgM} (hG : RepG IC 1 s) (hR : RepR (kgRow IM 0) s) (ws : kgWF s) (hp : kgPt B s) (hq : RepQ IC IM) (hc : RunC t m IC) (hM : RunM t m IM) (h31 : IC 31 1 = nI b) (hGb : RepG IC (33 + 15 * b) s) : ResR (B + 20000) s IC IM := by
  rcases run_loop w hm hps m 0 B s IC IM (by omega) hB.1 (by omega) hG hR ws hp hq hc hM 200 200 0 (by omega) (by omega) (Int32.le_refl _) with ⟨s', told', JC, JM, ht, k1, k2, k3, k4, k5, k6, k7, k8, k9⟩ | ⟨k, x, JC, JM, hk, hx, k1, k2, k3, k4, k5⟩
  · have c5 := (hc.fr k8).1
    have m5 := (hM.fr k9).1
    have h1 : (-1011 : Int32) < told' := by
      rw [lt_t]; rw [le_t] at ht
      have h0 : (0 : Int32).toInt = 0 := rfl
      have h1 : (-1011 : Int32).toInt = -1011 := by decide
      omega
    refine ⟨s', nI m, JC, JM, ?_, ?_, ?_, k3, k5, pt_mono k6 (by omega), k7, k8, k9, Or.inl ⟨nI_ge0 (by omega), k4⟩⟩
    · have := k1 (fun I7 => some (I7 171 5, I7))
      rw [c5] at this
      exact this
    · have := k1 (fun I7 => bndC (f_X4_settle (I7 171 5) I7) (fun x8 I8 => some (x8, I8)))
      rw [c5] at this
      exact this
    · refine (k2 (fun x5 x6 I5 => runMK x5 x6 I5)).trans ?_
      show runMK told' (nI m) JM = _
      unfold runMK
      rw [if_pos h1, m5]
  · have nx := neg_codes (x := x) (by rcases hx with h | h | h; exact Or.inl h; exact Or.inr (Or.inl h); exact Or.inr (Or.inr h.1))
    have gb : RepG JC (33 + 15 * b) s := hGb.same (fun j hj => k4 _ (by omega) (by omega) (by omega) (by omega))
    obtain ⟨KC, KM, f1, f2, f3, f4, f5, f6⟩ := run_fail (k := k) hb (by rw [k4 31 (by omega) (by omega) (by omega) (by omega)]; exact h31) gb ws.1 hx k3
    refine ⟨s, -1014, KC, KM, (k1 _).trans f1, ?_, ?_, f3, ws, pt_mono hp (by omega), f4, k4.trans f5, k5.trans ⟨fun c c1 c2 c3 c4 => f6.1 c c1 c3 c4, f6.2, fun j hj => by rw [f6.1 178 (by omega) (by omega) (by omega)]⟩, Or.inr ⟨rfl, rfl⟩⟩
    · refine ((k1 _).trans f1).trans ?_
      unfold f_X4_settle
      rw [if_pos (show (-1014 : Int32) < 0 by decide), bndC_s]
    · refine (k2 (fun x5 x6 I5 => runMK x5 x6 I5)).trans ?_
      show runMK x (nI (k + 1)) JM = _
      unfold runMK
      rw [if_neg nx.2.2]
      exact f2 (fun I8 => bndC (f_X5_ends (-1014 : Int32) I8) (fun x9 I9 => some (x9, I9)))
/-- a memory of the reference that would have read the same -/
def fkM (m : Nat) (J : kgM) : kgM := fun c j => if c = 182 then (if j % 4 = 0 then nI (wdL (J 173 (j / 4)).toNatClampNeg) else J 174 (3 * (j / 4) + (j % 4 - 1))) else if c = 177 ∧ j = 11 then nI m else J c j
theorem fk_run {J : kgM} (w : TxW t L) (hps : ∀ k, k < m → ps t k ≤ L) (hc : RunC t m J) : RunM t m (fkM m J) := by
  refine ⟨by show (if 177 = 182 then _ else if 177 = 177 ∧ 11 = 11 then nI m else _) = _; rw [if_neg (by decide), if_pos ⟨rfl, rfl⟩], fun k hk => ?_⟩
  obtain ⟨y, e, c1, c2⟩ := hc.2 k hk
  have b := (ordS_pos w (hps k hk)).2.2 y e
  have b3 := fm_len y.1 b.2.1
  refine ⟨y, e, ?_, fun i hi => ?_⟩
  · show (if 182 = 182 then (if 4 * k % 4 = 0 then nI (wdL (J 173 (4 * k / 4)).toNatClampNeg) else _) else _) = _
    rw [if_pos rfl, if_pos (by omega), show 4 * k / 4 = k by omega, c1, nI_clamp (by omega)]
  · show (if 182 = 182 then (if (4 * k + 1 + i) % 4 = 0 then _ else J 174 (3 * ((4 * k + 1 + i) / 4) + ((4 * k + 1 + i) % 4 - 1))) else _) = _
    rw [if_pos rfl, if_neg (by omega), show (4 * k + 1 + i) / 4 = k by omega, show (4 * k + 1 + i) % 4 - 1 = i by omega]
    exact c2 i hi
theorem fk_n {J : kgM} {c : Nat} (h1 : c ≠ 177) (h2 : c ≠ 182) : fkM m J c = J c := by
  funext j
  show (if c = 182 then _ else if c = 177 ∧ j = 11 then nI m else J c j) = _
  rw [if_neg h2, if_neg (fun z => h1 z.1)]
theorem fk_7 {J : kgM} {j : Nat} (h : j ≠ 11) : fkM m J 177 j = J 177 j := by
  show (if 177 = 182 then _ else if 177 = 177 ∧ j = 11 then nI m else J 177 j) = _
  rw [if_neg (by decide), if_neg (fun z => h z.2)]
set_option maxHeartbeats 1000000 in
theorem call_run {q : Nat} (hq5 : q < 512) {I : kgM} (hP : Pair (bnI q) I 1 0) (hq : RepQ I I) (hH : InvH (bnI q) I) (hS : InvS (bnI q) I) (hL : InvL I) (wt : TxW t L) (hm : m ≤ 10) (hps : ∀ k, k < m → ps t k ≤ L) (hc : RunC t m I) :
    ∃ x J3, bndC (f_X0_begin I) (fun _ I3 => runCF I3) = some (x, J3) ∧ J3 171 = I 171 ∧ J3 177 = I 177 ∧ J3 181 = I 181 ∧ ∀ J4 : kgM, (∀ c, c ≠ 177 → c ≠ 182 → J4 c = J3 c) → (∀ j, j = 1 ∨ j = 2 ∨ j = 5 ∨ j = 13 → J4 177 j = J3 177 j) → RunM t m J4 →
      ∃ M3, bndC (f_X5_begins J4) (fun _ I3 => runMF I3) = some (x, M3) ∧ Pair (bnI (q + 1)) M3 1 0 ∧ RepQ M3 M3 ∧ InvH (bnI (q + 1)) M3 ∧ InvS (bnI (q + 1)) M3 ∧ InvL M3 ∧ M3 171 = I 171 ∧ M3 177 7 = J4 177 7 := by
  obtain ⟨s, hG, hR, w, hp⟩ := hP
  obtain ⟨n, b, e1, e2, e3, e4, e5, e6⟩ := hH
  obtain ⟨z, f1, f2, f3⟩ := hS
  have hn := w.1
  have hmono : bnI q + 20000 ≤ bnI (q + 1) := by unfold bnI; omega
  have hmono2 : bnI q ≤ bnI (q + 1) := by unfold bnI; omega
  have hB : 0 ≤ bnI q ∧ bnI q + 20000 < 400000000 := by unfold bnI; omega
  have hdis : 33 + 15 * b + 15 ≤ 1 ∨ 1 + 15 ≤ 33 + 15 * b := by omega
  have hbeg := c_begin e2 e3
  generalize hJ1 : cpJ I (33 + 15 * b) 1 = J1 at hbeg
  have j1 : ∀ c, (c < 33 + 15 * b ∨ 33 + 15 * b + 15 ≤ c) → J1 c = I c := fun c hc => by rw [← hJ1]; exact cpJ_n hdis hc
  have hGb : RepG J1 (33 + 15 * b) s := by rw [← hJ1]; exact cpJ_G hdis hG hn
  have hG1 : RepG J1 1 s := hG.same (fun j hj => j1 _ (by omega))
  have hR1 : RepR (kgRow J1 0) s := row_of hn hR (fun x _ => by rw [j1 178 (by omega)])
  have hq1 : RepQ J1 J1 := hq.kept (fun k a c => j1 k (by omega)) (by rw [j1 177 (by omega)]) (j1 179 (by omega)) (j1 180 (by omega))
  have hc1 : RunC t m J1 := hc.same (by rw [j1 171 (by omega)]) (j1 173 (by omega)) (j1 174 (by omega))
  have h31 : J1 31 1 = nI b := by rw [j1 31 (by omega)]; exact e3
  obtain ⟨-, x, JC, -, hFC, hCF, -, -, -, -, -, hfC, -, -⟩ := ok_run wt hm hps e2 hB hG1 (IM := fkM m J1) (row_of hn hR1 (fun x _ => by rw [fk_n (by decide) (by decide)])) w hp (hq1.kept (fun k _ _ => rfl) (fk_7 (by decide)) (fk_n (by decide) (by decide)) (fk_n (by decide) (by decide))) hc1 (fk_run wt hps hc1) h31 hGb
  -- the second time: from whatever the class leaves
  have two : ∀ M1 : kgM, RepR (kgRow M1 0) s → M1 177 5 = I 177 5 → M1 179 = I 179 → M1 180 = I 180 → RunM t m M1 → ∃ (s' : kgS) (JM : kgM), runMF M1 = bndC (f_X5_ends x JM) (fun x I => some (x, I)) ∧ RepG JC 1 s' ∧ kgWF s' ∧ kgPt (bnI q + 20000) s' ∧ RepQ JC JM ∧ frM M1 JM ∧ ((0 ≤ x ∧ RepR (kgRow JM 0) s') ∨ (s' = s ∧ x = -1014)) := by
    intro M1 r1 r2 r3 r4 r5
    have hq2 : RepQ J1 M1 := hq1.kept (fun k a c => rfl) (by rw [r2, j1 177 (by omega)]) (by rw [r3, j1 179 (by omega)]) (by rw [r4, j1 180 (by omega)])
    obtain ⟨s', x', JC', JM, g1, g2, g3, g4, g5, g6, g7, g8, g9, g10⟩ := ok_run wt hm hps e2 hB hG1 r1 w hp hq2 hc1 r5 h31 hGb
    have := hFC.symm.trans g1
    cases this
    exact ⟨s', JM, g3, g4, g5, g6, g7, g9, g10⟩
  have jc : ∀ c, (c = 0 ∨ 16 ≤ c) → c ≠ 168 → c ≠ 169 → c ≠ 170 → JC c = J1 c := hfC
  have hidx : ∀ t, t ≤ 7 → (b + 8 - t) % 9 < 9 ∧ (b + 8 - t) % 9 ≠ b := fun t ht => by omega
  have c31 : ∀ j, JC 31 j = I 31 j := fun j => by rw [jc 31 (by omega) (by omega) (by omega) (by omega), j1 31 (by omega)]
  by_cases hx : 0 ≤ x
  · have hx1 : (-1011 : Int32) < x := by
      rw [lt_t]; rw [le_t] at hx
      have h0 : (0 : Int32).toInt = 0 := rfl
      have h1 : (-1011 : Int32).toInt = -1011 := by decide
      omega
    have hxn : ¬ x < 0 := by
      rw [lt_t]; rw [le_t] at hx; omega
    have hset : f_X4_settle x JC = some (x, kgW (kgW JC 31 1 (nI ((b + 1) % 9))) 31 2 (nI (if n = 8 then 8 else n + 1))) := by
      unfold f_X4_settle
      rw [if_neg hxn, c_keep e2 e1 (by rw [c31]; exact e3) (by rw [c31]; exact e4), bndC_s]
    generalize hJ3 : kgW (kgW JC 31 1 (nI ((b + 1) % 9))) 31 2 (nI (if n = 8 then 8 else n + 1)) = J3 at hset
    have j3 : ∀ c, c ≠ 31 → J3 c = JC c := fun c hc => by rw [← hJ3, kgW_n _ _ _ hc, kgW_n _ _ _ hc]
    have j31 : J3 31 1 = nI ((b + 1) % 9) ∧ J3 31 2 = nI (if n = 8 then 8 else n + 1) := by
      rw [← hJ3]
      refine ⟨?_, ?_⟩
      · rw [kgW_r, if_neg (by omega), kgW_r, if_pos ⟨rfl, rfl⟩]
      · rw [kgW_r, if_pos ⟨rfl, rfl⟩]
    have j3I : ∀ c, c ≠ 31 → (c = 0 ∨ 16 ≤ c) → c ≠ 168 → c ≠ 169 → c ≠ 170 → (c < 33 + 15 * b ∨ 33 + 15 * b + 15 ≤ c) → J3 c = I c := fun c h1 h2 h3 h4 h5 h6 => by rw [j3 c h1, jc c h2 h3 h4 h5, j1 c h6]
    refine ⟨x, J3, by rw [hbeg, bndC_s, hCF, hset, bndC_s], j3I 171 (by omega) (by omega) (by omega) (by omega) (by omega) (by omega), j3I 177 (by omega) (by omega) (by omega) (by omega) (by omega) (by omega), j3I 181 (by omega) (by omega) (by omega) (by omega) (by omega) (by omega), fun J4 q1 q2 q3 => ?_⟩
    have mv := cpR_mv (I := J4) (a := 0) (b := 10) (by omega)
    have hmb := m_begins (I := J4)
    generalize hM1 : cpR J4 0 10 125 = M1 at hmb mv
    have m1r : ∀ r j, j < 125 → M1 178 (125 * r + j) = if r = 10 then I 178 (125 * 0 + j) else I 178 (125 * r + j) := fun r j hj => by
      rw [mv.2 r j hj, q1 178 (by omega) (by omega), j3I 178 (by omega) (by omega) (by omega) (by omega) (by omega) (by omega)]
    have m1c : ∀ c, c ≠ 178 → c ≠ 177 → c ≠ 182 → M1 c = J3 c := fun c h1 h2 h3 => by rw [mv.1 c h1, q1 c h2 h3]
    have m1j : ∀ j, j = 1 ∨ j = 2 ∨ j = 5 ∨ j = 13 → M1 177 j = I 177 j := fun j hj => by rw [mv.1 177 (by omega), q2 j hj, j3I 177 (by omega) (by omega) (by omega) (by omega) (by omega) (by omega)]
    obtain ⟨s', JM, g2, g3, g5, g6, g7, g9, g10⟩ := two M1 (row_of hn hR (fun x hx => by rw [m1r 0 x hx, if_neg (by omega)])) (m1j 5 (by omega)) (by rw [m1c 179 (by omega) (by omega) (by omega), j3I 179 (by omega) (by omega) (by omega) (by omega) (by omega) (by omega)]) (by rw [m1c 180 (by omega) (by omega) (by omega), j3I 180 (by omega) (by omega) (by omega) (by omega) (by omega) (by omega)]) (q3.same (by rw [mv.1 177 (by omega)]) (mv.1 182 (by omega)))
    have g4 : RepR (kgRow JM 0) s' := by
      rcases g10 with h | h
      · exact h.2
      · exact absurd hx (by rw [h.2]; decide)
    have jm177 : ∀ j, j = 1 ∨ j = 2 ∨ j = 13 → JM 177 j = I 177 j := fun j hj => by rw [g9.2.1 j (by omega), m1j j (by omega)]
    have jmr : ∀ r j, 1 ≤ r → j < 125 → JM 178 (125 * r + j) = if r = 10 then I 178 (125 * 0 + j) else I 178 (125 * r + j) := fun r j hr hj => by rw [g9.2.2 _ (by omega), m1r r j hj]
    obtain ⟨M3, k1, k2, k3, k4, k5⟩ := m_ends_pos (I := JM) (x := x) (n := n) hx1 e1 (by rw [jm177 1 (by omega)]; exact e5)
    have m3 : ∀ c, c ≠ 177 → c ≠ 178 → c ≠ 179 → c ≠ 180 → c ≠ 182 → M3 c = J3 c := fun c h1 h2 h3 h4 h5 => by rw [k4 c h1 h2, g9.1 c h1 h2 h3 h4, m1c c h2 h1 h5]
    have hn' : (if n = 8 then 8 else n + 1) ≤ 8 ∧ 1 ≤ (if n = 8 then 8 else n + 1) := by split <;> omega
    refine ⟨M3, ?_, ⟨s', g3.same (fun j hj => by rw [m3 _ (by omega) (by omega) (by omega) (by omega) (by omega), j3 _ (by omega)]), row_of g5.1 g4 (fun y hy => ?_), g5, pt_mono g6 hmono⟩, ?_, ?_, ?_, ?_, ?_, ?_⟩
    · rw [hmb, bndC_s, g2, k1, bndC_s]
    · rw [k5 0 y hy, if_neg (by omega), if_neg (by omega)]
    · exact g7.kept (fun k h1 h2 => by rw [m3 k (by omega) (by omega) (by omega) (by omega) (by omega), j3 k (by omega)]) (k3 5 (by omega)) (k4 179 (by omega) (by omega)) (k4 180 (by omega) (by omega))
    · refine ⟨(if n = 8 then 8 else n + 1), (b + 1) % 9, hn'.1, by omega, by rw [m3 31 (by omega) (by omega) (by omega) (by omega) (by omega)]; exact j31.1, by rw [m3 31 (by omega) (by omega) (by omega) (by omega) (by omega)]; exact j31.2, k2, fun i hi1 hi2 => ?_⟩
      by_cases ei : i = (if n = 8 then 8 else n + 1)
      · have hb' : ((b + 1) % 9 + 8 - ((if n = 8 then 8 else n + 1) - i)) % 9 = b := by rw [← ei]; omega
        rw [hb']
        refine ⟨s, hGb.same (fun j hj => by rw [m3 _ (by omega) (by omega) (by omega) (by omega) (by omega), j3 _ (by omega), jc _ (by omega) (by omega) (by omega) (by omega)]), row_of hn hR (fun y hy => ?_), w, pt_mono hp hmono2⟩
        rw [k5 i y hy, if_pos ei, jmr 10 y (by omega) hy, if_pos rfl]
      · have hi3 : i < (if n = 8 then 8 else n + 1) := by omega
        obtain ⟨i0, hi0, hi1', hidx0, hrow⟩ : ∃ i0, i0 ≤ n ∧ 1 ≤ i0 ∧ ((b + 1) % 9 + 8 - ((if n = 8 then 8 else n + 1) - i)) % 9 = (b + 8 - (n - i0)) % 9 ∧ ∀ y, y < 125 → M3 178 (125 * i + y) = I 178 (125 * i0 + y) := by
          by_cases e8 : n = 8
          · rw [if_pos e8] at hi3 ei
            refine ⟨i + 1, by omega, by omega, by rw [if_pos e8]; omega, fun y hy => ?_⟩
            rw [k5 i y hy, if_pos e8, if_neg (by omega), if_pos ⟨e8, by omega, by omega⟩, jmr (i + 1) y (by omega) hy, if_neg (by omega)]
          · rw [if_neg e8] at hi3 ei
            refine ⟨i, by omega, by omega, by rw [if_neg e8]; omega, fun y hy => ?_⟩
            rw [k5 i y hy, if_neg e8, if_neg (by omega), if_neg (fun z => e8 z.1), jmr i y (by omega) hy, if_neg (by omega)]
        rw [hidx0]
        have hx0 := hidx (n - i0) (by omega)
        refine ((e6 i0 hi1' hi0).mono hmono2).kept (fun j hj => ?_) hrow
        rw [m3 _ (by omega) (by omega) (by omega) (by omega) (by omega), j3I _ (by omega) (by omega) (by omega) (by omega) (by omega) (by omega)]
    · refine ⟨z, by rw [m3 0 (by omega) (by omega) (by omega) (by omega) (by omega), j3I 0 (by omega) (by omega) (by omega) (by omega) (by omega) (by omega)]; exact f1, by rw [k3 2 (by omega), jm177 2 (by omega)]; exact f2, fun hz => ((f3 hz).mono hmono2).kept (fun j hj => ?_) (fun y hy => ?_)⟩
      · rw [m3 _ (by omega) (by omega) (by omega) (by omega) (by omega), j3I _ (by omega) (by omega) (by omega) (by omega) (by omega) (by omega)]
      · rw [k5 9 y hy, if_neg (by omega), if_neg (by omega), jmr 9 y (by omega) hy, if_neg (by omega)]
    · exact hL.kept (by rw [m3 175 (by omega) (by omega) (by omega) (by omega) (by omega), j3I 175 (by omega) (by omega) (by omega) (by omega) (by omega) (by omega)]) (by rw [m3 176 (by omega) (by omega) (by omega) (by omega) (by omega), j3I 176 (by omega) (by omega) (by omega) (by omega) (by omega) (by omega)]) (by rw [k3 13 (by omega), jm177 13 (by omega)]) (by rw [m3 183 (by omega) (by omega) (by omega) (by omega) (by omega), j3I 183 (by omega) (by omega) (by omega) (by omega) (by omega) (by omega)])
    · rw [m3 171 (by omega) (by omega) (by omega) (by omega) (by omega), j3I 171 (by omega) (by omega) (by omega) (by omega) (by omega) (by omega)]
    · rw [k3 7 (by omega), g9.2.1 7 (by omega), mv.1 177 (by omega)]
  · have hxn : x < 0 := by
      rw [lt_t]; rw [le_t] at hx; omega
    have hset : f_X4_settle x JC = some (x, JC) := by
      unfold f_X4_settle
      rw [if_pos hxn]
    have j3I : ∀ c, (c = 0 ∨ 16 ≤ c) → c ≠ 168 → c ≠ 169 → c ≠ 170 → (c < 33 + 15 * b ∨ 33 + 15 * b + 15 ≤ c) → JC c = I c := fun c h2 h3 h4 h5 h6 => by rw [jc c h2 h3 h4 h5, j1 c h6]
    refine ⟨x, JC, by rw [hbeg, bndC_s, hCF, hset, bndC_s], j3I 171 (by omega) (by omega) (by omega) (by omega) (by omega), j3I 177 (by omega) (by omega) (by omega) (by omega) (by omega), j3I 181 (by omega) (by omega) (by omega) (by omega) (by omega), fun J4 q1 q2 q3 => ?_⟩
    have mv := cpR_mv (I := J4) (a := 0) (b := 10) (by omega)
    have hmb := m_begins (I := J4)
    generalize hM1 : cpR J4 0 10 125 = M1 at hmb mv
    have m1r : ∀ r j, j < 125 → M1 178 (125 * r + j) = if r = 10 then I 178 (125 * 0 + j) else I 178 (125 * r + j) := fun r j hj => by
      rw [mv.2 r j hj, q1 178 (by omega) (by omega), j3I 178 (by omega) (by omega) (by omega) (by omega) (by omega)]
    have m1c : ∀ c, c ≠ 178 → c ≠ 177 → c ≠ 182 → M1 c = JC c := fun c h1 h2 h3 => by rw [mv.1 c h1, q1 c h2 h3]
    have m1j : ∀ j, j = 1 ∨ j = 2 ∨ j = 5 ∨ j = 13 → M1 177 j = I 177 j := fun j hj => by rw [mv.1 177 (by omega), q2 j hj, j3I 177 (by omega) (by omega) (by omega) (by omega) (by omega)]
    obtain ⟨s', JM, g2, g3, g5, g6, g7, g9, g10⟩ := two M1 (row_of hn hR (fun x hx => by rw [m1r 0 x hx, if_neg (by omega)])) (m1j 5 (by omega)) (by rw [m1c 179 (by omega) (by omega) (by omega), j3I 179 (by omega) (by omega) (by omega) (by omega) (by omega)]) (by rw [m1c 180 (by omega) (by omega) (by omega), j3I 180 (by omega) (by omega) (by omega) (by omega) (by omega)]) (q3.same (by rw [mv.1 177 (by omega)]) (mv.1 182 (by omega)))
    have hcode : s' = s ∧ ¬ (-1011 : Int32) < x := by
      rcases g10 with h | ⟨h1, rfl⟩
      · exact absurd h.1 hx
      · exact ⟨h1, by decide⟩
    obtain ⟨rfl, hcode⟩ := hcode
    have jm177 : ∀ j, j = 1 ∨ j = 2 ∨ j = 13 → JM 177 j = I 177 j := fun j hj => by rw [g9.2.1 j (by omega), m1j j (by omega)]
    have jmr : ∀ r j, 1 ≤ r → j < 125 → JM 178 (125 * r + j) = if r = 10 then I 178 (125 * 0 + j) else I 178 (125 * r + j) := fun r j hr hj => by rw [g9.2.2 _ (by omega), m1r r j hj]
    have k1 := m_ends_neg (I := JM) hcode
    have kv := cpR_mv (I := JM) (a := 10) (b := 0) (by omega)
    generalize hM3 : cpR JM 10 0 125 = M3 at k1 kv
    have k4 : ∀ c, c ≠ 178 → M3 c = JM c := kv.1
    have k5 : ∀ r j, j < 125 → M3 178 (125 * r + j) = if r = 0 ∨ r = 10 then I 178 (125 * 0 + j) else I 178 (125 * r + j) := fun r j hj => by
      rw [kv.2 r j hj]
      by_cases r0 : r = 0
      · rw [if_pos r0, if_pos (Or.inl r0), jmr 10 j (by omega) hj, if_pos rfl]
      · rw [if_neg r0, jmr r j (by omega) hj]
        by_cases r1 : r = 10
        · rw [if_pos r1, if_pos (Or.inr r1)]
        · rw [if_neg r1, if_neg (by omega)]
    have m3 : ∀ c, c ≠ 177 → c ≠ 178 → c ≠ 179 → c ≠ 180 → c ≠ 182 → M3 c = JC c := fun c h1 h2 h3 h4 h5 => by rw [k4 c h2, g9.1 c h1 h2 h3 h4, m1c c h2 h1 h5]
    refine ⟨M3, ?_, ⟨s', g3.same (fun j hj => by rw [m3 _ (by omega) (by omega) (by omega) (by omega) (by omega)]), row_of hn hR (fun y hy => ?_), w, pt_mono hp hmono2⟩, ?_, ?_, ?_, ?_, ?_, ?_⟩
    · rw [hmb, bndC_s, g2, k1, bndC_s]
    · rw [k5 0 y hy, if_pos (Or.inl rfl)]
    · exact g7.kept (fun k h1 h2 => by rw [m3 k (by omega) (by omega) (by omega) (by omega) (by omega)]) (by rw [k4 177 (by omega)]) (k4 179 (by omega)) (k4 180 (by omega))
    · refine ⟨n, b, e1, e2, by rw [m3 31 (by omega) (by omega) (by omega) (by omega) (by omega), c31]; exact e3, by rw [m3 31 (by omega) (by omega) (by omega) (by omega) (by omega), c31]; exact e4, by rw [k4 177 (by omega), jm177 1 (by omega)]; exact e5, fun i hi1 hi2 => ?_⟩
      have hx0 := hidx (n - i) (by omega)
      refine ((e6 i hi1 hi2).mono hmono2).kept (fun j hj => ?_) (fun y hy => by rw [k5 i y hy, if_neg (by omega)])
      rw [m3 _ (by omega) (by omega) (by omega) (by omega) (by omega), j3I _ (by omega) (by omega) (by omega) (by omega) (by omega)]
    · refine ⟨z, by rw [m3 0 (by omega) (by omega) (by omega) (by omega) (by omega), j3I 0 (by omega) (by omega) (by omega) (by omega) (by omega)]; exact f1, by rw [k4 177 (by omega), jm177 2 (by omega)]; exact f2, fun hz => ((f3 hz).mono hmono2).kept (fun j hj => ?_) (fun y hy => ?_)⟩
      · rw [m3 _ (by omega) (by omega) (by omega) (by omega) (by omega), j3I _ (by omega) (by omega) (by omega) (by omega) (by omega)]
      · rw [k5 9 y hy, if_neg (by omega)]
    · exact hL.kept (by rw [m3 175 (by omega) (by omega) (by omega) (by omega) (by omega), j3I 175 (by omega) (by omega) (by omega) (by omega) (by omega)]) (by rw [m3 176 (by omega) (by omega) (by omega) (by omega) (by omega), j3I 176 (by omega) (by omega) (by omega) (by omega) (by omega)]) (by rw [k4 177 (by omega), jm177 13 (by omega)]) (by rw [m3 183 (by omega) (by omega) (by omega) (by omega) (by omega), j3I 183 (by omega) (by omega) (by omega) (by omega) (by omega)])
    · rw [m3 171 (by omega) (by omega) (by omega) (by omega) (by omega), j3I 171 (by omega) (by omega) (by omega) (by omega) (by omega)]
    · rw [k4 177 (by omega), g9.2.1 7 (by omega), mv.1 177 (by omega)]
end RUN2
