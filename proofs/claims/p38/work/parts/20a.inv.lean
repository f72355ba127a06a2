/-! WHAT THE LAW'S ORDERS KEEP -/
def LnB (I : kgM) : Prop := I 175 1 = 0 ∧ ∃ n, n ≤ 34 ∧ I 175 3 = nI n
def InvC (B : Int) (s : kgS) (I : kgM) : Prop := (∃ M, RepR (kgRow M 0) s ∧ RepQ I M) ∧ RepG I 1 s ∧ kgWF s ∧ kgPt B s ∧ kgX2 s ∧ (∃ b n, n ≤ 8 ∧ b < 9 ∧ I 31 1 = nI b ∧ I 31 2 = nI n) ∧ LnB I
theorem InvC.mono {B B' : Int} {s : kgS} {I : kgM} (h : InvC B s I) (hB : B ≤ B') : InvC B' s I :=
  ⟨h.1, h.2.1, h.2.2.1, pt_mono h.2.2.2.1 hB, h.2.2.2.2⟩
theorem InvC.lf {B : Int} {s : kgS} {I J : kgM} (h : InvC B s I) (hl : lfC I J) (hn : LnB J) : InvC B s J := by
  obtain ⟨⟨M, hR, hq⟩, hG, w, hp, hx, ⟨b, n, e1, e2, e3, e4⟩, hL⟩ := h
  exact ⟨⟨M, hR, hq.kept (fun k a c => hl k (by omega) (by omega)) rfl rfl rfl⟩, hl.G hG, w, hp, hx, ⟨b, n, e1, e2, by rw [hl 31 (by decide) (by decide)]; exact e3, by rw [hl 31 (by decide) (by decide)]; exact e4⟩, hn⟩
theorem LnC.toB {l : List Nat} {I : kgM} (h : LnC l I) (hl : l.length ≤ 34) : LnB I := ⟨h.1, l.length, hl, h.2.1⟩
theorem cc_op {B B' : Int} {F G : kgM → Option (Int32 × kgM)} (hF : OpOK B B' F G) {s : kgS} {I : kgM} (hI : InvC B s I) : ∃ s' x J, kgCc F I = some (x, J) ∧ InvC B' s' J ∧ kgTr s s' ∧ ∃ J1 J2, RepG J1 1 s ∧ F J1 = some (x, J2) ∧ RepG J2 1 s' := by
  obtain ⟨⟨M, hR, hq⟩, hG, w, hp, hx2, ⟨b, n, e2, e1, e3, e4⟩, hL⟩ := hI
  have hdis : 33 + 15 * b + 15 ≤ 1 ∨ 1 + 15 ≤ 33 + 15 * b := by omega
  have hbeg := c_begin e1 e3
  generalize hJ1 : cpJ I (33 + 15 * b) 1 = J1 at hbeg
  have j1 : ∀ c, (c < 33 + 15 * b ∨ 33 + 15 * b + 15 ≤ c) → J1 c = I c := fun c hc => by rw [← hJ1]; exact cpJ_n hdis hc
  have hG1 : RepG J1 1 s := hG.same (fun j hj => j1 _ (by omega))
  have hq1 : RepQ J1 M := hq.kept (fun k a c => j1 k (by omega)) rfl rfl rfl
  obtain ⟨s', x, JC, JM, g1, g2, g3, g4, g5, g6, g7, g8, g9, g10, g11⟩ := hF s J1 M hG1 hR w hp hq1
  have jc : ∀ c, (c = 0 ∨ 16 ≤ c) → c ≠ 168 → c ≠ 169 → c ≠ 170 → JC c = J1 c := g8
  have c31 : JC 31 = I 31 := by rw [jc 31 (by omega) (by omega) (by omega) (by omega), j1 31 (by omega)]
  have c175 : JC 175 = I 175 := by rw [jc 175 (by omega) (by omega) (by omega) (by omega), j1 175 (by omega)]
  by_cases hx : x < 0
  · refine ⟨s', x, JC, ?_, ⟨⟨JM, g4, g7⟩, g3, g5, g6, g10.1 hx2, ⟨b, n, e2, e1, by rw [c31]; exact e3, by rw [c31]; exact e4⟩, ?_⟩, g10, J1, JC, hG1, g1, g3⟩
    · unfold kgCc; rw [hbeg, bndC_s, g1, bndC_s]; unfold f_X4_settle; rw [if_pos hx, bndC_s]
    · unfold LnB; rw [c175]; exact hL
  · have hset : f_X4_settle x JC = some (x, kgW (kgW JC 31 1 (nI ((b + 1) % 9))) 31 2 (nI (if n = 8 then 8 else n + 1))) := by
      unfold f_X4_settle
      rw [if_neg hx, c_keep e1 e2 (by rw [c31]; exact e3) (by rw [c31]; exact e4), bndC_s]
    generalize hJ3 : kgW (kgW JC 31 1 (nI ((b + 1) % 9))) 31 2 (nI (if n = 8 then 8 else n + 1)) = J3 at hset
    have j3 : ∀ c, c ≠ 31 → J3 c = JC c := fun c hc => by rw [← hJ3, kgW_n _ _ _ hc, kgW_n _ _ _ hc]
    have j31 : J3 31 1 = nI ((b + 1) % 9) ∧ J3 31 2 = nI (if n = 8 then 8 else n + 1) := by
      rw [← hJ3]
      refine ⟨?_, ?_⟩
      · rw [kgW_r, if_neg (by omega), kgW_r, if_pos ⟨rfl, rfl⟩]
      · rw [kgW_r, if_pos ⟨rfl, rfl⟩]
    have hn' : (if n = 8 then 8 else n + 1) ≤ 8 := by split <;> omega
    refine ⟨s', x, J3, ?_, ⟨⟨JM, g4, g7.kept (fun k a c => j3 k (by omega)) rfl rfl rfl⟩, g3.same (fun j hj => j3 _ (by omega)), g5, g6, g10.1 hx2, ⟨(b + 1) % 9, _, hn', by omega, j31.1, j31.2⟩, ?_⟩, g10, J1, JC, hG1, g1, g3⟩
    · unfold kgCc; rw [hbeg, bndC_s, g1, bndC_s, hset, bndC_s]
    · unfold LnB; rw [j3 175 (by decide), c175]; exact hL
/-- an order: it answers, and keeps what is kept -/
def cK (q : Nat) (F : kgM → Option (Int32 × kgM)) : Prop := ∀ s I, InvC (bnI q) s I → ∃ s' x J, F I = some (x, J) ∧ InvC (bnI (q + 1)) s' J ∧ kgTr s s'
theorem bnI_s (q : Nat) : bnI q + 2000 ≤ bnI (q + 1) := by unfold bnI; omega
theorem cK.of {q : Nat} {F F' G : kgM → Option (Int32 × kgM)} (hF : OpOK (bnI q) (bnI q + 2000) F' G) (e : ∀ I, F I = kgCc F' I) : cK q F := fun s I hI => by
  obtain ⟨s', x, J, h1, h2, h3, -⟩ := cc_op hF hI
  exact ⟨s', x, J, (e I).trans h1, h2.mono (bnI_s q), h3⟩
section ORD
variable {q : Nat}
theorem e_own (a c : Int32) (I : kgM) : f_X4_own a c I = kgCc (fun I => f_X4_takePitch a c I) I := by unfold f_X4_own kgCc; rfl
theorem e_kettle (a c d : Int32) (I : kgM) : f_X4_kettle a c d I = kgCc (fun I => f_X4_bringKettle a c d I) I := by unfold f_X4_kettle kgCc; rfl
theorem k_own (a c : Int32) : cK q (fun I => f_X4_own a c I) := cK.of ((ok_own a c).mono (by omega)) (e_own a c)
theorem k_kettle (a c d : Int32) : cK q (fun I => f_X4_kettle a c d I) := cK.of ((ok_kettle a c d).mono (by omega)) (e_kettle a c d)
theorem k_fill (a c : Int32) : cK q (fun I => f_X4_fill a c I) := cK.of ((ok_fill a c).mono (by omega)) (fun I => by unfold f_X4_fill kgCc; rfl)
theorem k_set (a c : Int32) : cK q (fun I => f_X4_set a c I) := cK.of ((ok_set a c).mono (by omega)) (fun I => by unfold f_X4_set kgCc; rfl)
theorem k_off (a : Int32) : cK q (fun I => f_X4_off a I) := cK.of ((ok_off a).mono (by omega)) (fun I => by unfold f_X4_off kgCc; rfl)
theorem k_heat (a c : Int32) : cK q (fun I => f_X4_heat a c I) := cK.of ((ok_heat a c).mono (by omega)) (fun I => by unfold f_X4_heat kgCc; rfl)
theorem k_lid (a c : Int32) : cK q (fun I => f_X4_lid a c I) := cK.of ((ok_lid a c).mono (by omega)) (fun I => by unfold f_X4_lid kgCc; rfl)
theorem k_appeal (a c : Int32) : cK q (fun I => f_X4_appeal a c I) := cK.of ((ok_appeal a c).mono (by omega)) (fun I => by unfold f_X4_appeal kgCc; rfl)
theorem k_minute (hq : q < 512) (a : Int32) : cK q (fun I => f_X4_minute a I) := cK.of (ok_minute (B := bnI q) (by unfold bnI; omega) a) (fun I => by unfold f_X4_minute kgCc; rfl)
end ORD
/-- the first kettle -/
theorem kettle_more {q : Nat} {s : kgS} {I : kgM} (hI : InvC (bnI q) s I) {m p v : Nat} (hm : m < 4) (hp : 1 ≤ p) (hp2 : p < 13) (hv : v ≤ 20) (ho : s.1 1 p = m + 1) : ∃ s' x J, f_X4_kettle (nI m) (nI p) (nI v) I = some (x, J) ∧ InvC (bnI (q + 1)) s' J ∧ kgTr s s' ∧ 0 < kgN s' := by
  obtain ⟨s', x, J, h1, h2, h3, J1, J2, h4, h5, h6⟩ := cc_op ((ok_kettle (B := bnI q) (nI m) (nI p) (nI v)).mono (show bnI q ≤ bnI q + 2000 by omega)) hI
  refine ⟨s', x, J, (e_kettle _ _ _ I).trans h1, h2.mono (bnI_s q), h3, ?_⟩
  by_cases z : 0 < kgN s
  · exact Nat.lt_of_lt_of_le z h3.2.2
  · have z0 : kgN s = 0 := by omega
    obtain ⟨JC, hC, eC⟩ := c_add h4 (show kgN s < 10 by omega) m p v
    have r1 : rgI 0 3 (nI m) = true := decide_eq_true (by rw [nI_toInt (by omega)]; omega)
    have r2 : rgI 1 12 (nI p) = true := decide_eq_true (by rw [nI_toInt (by omega)]; omega)
    have ec2 : J1 2 p = nI m := by rw [h4.own hp hp2, ho, nI_pred]
    have e5 : f_X4_bringKettle (nI m) (nI p) (nI v) J1 = some (nI (kgN s), JC) := by
      unfold f_X4_bringKettle
      rw [c_isMember, bndC_s, if_neg (b2i_n0 r1), c_isPitch, bndC_s, if_neg (b2i_n0 r2), if_neg (nI_pos (by omega)), if_pos (show nI v ≤ (20 : Int32) from nI_le (b := 20) (by omega) (by omega)), ck_inb (by omega) (by omega), nI_clamp (by omega), ec2, if_pos rfl, h4.2.1, if_pos (show nI (kgN s) < (10 : Int32) from nI_lt (b := 10) (by omega) (by omega)), hC, bndC_s]
    have e6 : some (x, J2) = some (nI (kgN s), JC) := h5.symm.trans e5
    have e7 : J2 = JC := by cases e6; rfl
    have e8 := h6.2.1
    rw [e7, eC, if_neg (by omega), if_pos ⟨rfl, rfl⟩, z0] at e8
    have hw := h2.2.2.1.1
    have := (nI_eq (a := 0 + 1) (b := kgN s') (by omega) (by omega)).mp e8
    omega
/-- the first pitch -/
theorem own_more {q : Nat} {s : kgS} {I : kgM} (hI : InvC (bnI q) s I) {m p : Nat} (hm : m < 4) (hp : 1 ≤ p) (hp2 : p < 13) (h4 : ∀ m, m < 4 → own s m < 4) : ∃ s' x J, f_X4_own (nI m) (nI p) I = some (x, J) ∧ InvC (bnI (q + 1)) s' J ∧ kgTr s s' ∧ s'.1 1 p ≠ 0 := by
  obtain ⟨s', x, J, h1, h2, h3, J1, J2, h5, h6, h7⟩ := cc_op ((ok_own (B := bnI q) (nI m) (nI p)).mono (show bnI q ≤ bnI q + 2000 by omega)) hI
  refine ⟨s', x, J, (e_own _ _ I).trans h1, h2.mono (bnI_s q), h3, ?_⟩
  by_cases z : s.1 1 p = 0
  · have r1 : rgI 0 3 (nI m) = true := decide_eq_true (by rw [nI_toInt (by omega)]; omega)
    have r2 : rgI 1 12 (nI p) = true := decide_eq_true (by rw [nI_toInt (by omega)]; omega)
    have w := hI.2.2.1
    have bo := w.2.1 p hp (by omega)
    have ec := h5.own (p := p) hp (by omega)
    have z4 := h4 m hm
    have e5 : f_X4_takePitch (nI m) (nI p) J1 = some (nI (own s m + 1), kgW J1 2 p (nI m)) := by
      unfold f_X4_takePitch
      simp (disch := omega) only [c_isMember, c_isPitch, bndC_s, b2i_0, r1, r2, Bool.true_eq_false, if_false, ck_inb, nI_clamp, ec, oc_m1, z, if_true, c_pitchesOf h5 w (show m < 4 by omega), l4, nI_ltE, if_pos z4, bnd_s, nI_1]
    have e6 : some (x, J2) = some (nI (own s m + 1), kgW J1 2 p (nI m)) := h6.symm.trans e5
    have e7 : J2 = kgW J1 2 p (nI m) := by cases e6; rfl
    have e8 := h7.own (p := p) hp hp2
    rw [e7, kgW_s, pk_us] at e8
    intro hz
    rw [hz] at e8
    exact absurd e8 (by
      have : m = 0 ∨ m = 1 ∨ m = 2 ∨ m = 3 := by omega
      rcases this with rfl | rfl | rfl | rfl <;> decide)
  · rw [h3.2.1 p z]; exact z
