theorem bit_t {a k : Nat} (h : a < 2147483648) (hk : k < 32) : (((nI a >>> (nI k &&& 31)) &&& (1 : Int32)) = 1) = (a.testBit k = true) := by
  rw [kl_shr h hk]
  have e : (nI (a / 2 ^ k) &&& 1 : Int32) = nI (a / 2 ^ k % 2) := by
    have := kl_and (a / 2 ^ k) 1
    rw [Nat.and_one_is_mod] at this
    exact this
  rw [e, Nat.testBit_eq_decide_div_mod_eq]
  have h2 : a / 2 ^ k % 2 < 2 := Nat.mod_lt _ (by decide)
  rw [decide_eq_true_eq]
  exact nI_eqE (b := 1) (by omega) (by omega)
theorem kgSet_comm {s : kgS} {j p v j' p' v' : Nat} (h : j ≠ j' ∨ p ≠ p') : kgSet (kgSet s j p v) j' p' v' = kgSet (kgSet s j' p' v') j p v := by
  refine Prod.ext (funext fun a => funext fun b => ?_) rfl
  show (if a = j' ∧ b = p' then v' else if a = j ∧ b = p then v else s.1 a b) = (if a = j ∧ b = p then v else if a = j' ∧ b = p' then v' else s.1 a b)
  by_cases q1 : a = j' ∧ b = p'
  · rw [if_pos q1, if_neg (by omega), if_pos q1]
  · rw [if_neg q1, if_neg q1]
theorem kgSet_same {s : kgS} {j p v v' : Nat} : kgSet (kgSet s j p v) j p v' = kgSet s j p v' := by
  refine Prod.ext (funext fun a => funext fun b => ?_) rfl
  show (if a = j ∧ b = p then v' else if a = j ∧ b = p then v else s.1 a b) = (if a = j ∧ b = p then v' else s.1 a b)
  by_cases q1 : a = j ∧ b = p
  · rw [if_pos q1, if_pos q1]
  · rw [if_neg q1, if_neg q1, if_neg q1]
theorem wf_seb {s : kgS} (w : kgWF s) {i : Nat} {x : Int32} (h : i ≠ 13 ∧ i ≠ 14) : kgWF (kgSeb s i x) :=
  ⟨w.1, w.2.1, w.2.2.1, w.2.2.2.1, w.2.2.2.2.1, w.2.2.2.2.2.1, by
    show (if 13 = i then x else s.2 13) = _ + (if 14 = i then x else s.2 14)
    rw [if_neg (Ne.symm h.1), if_neg (Ne.symm h.2)]; exact w.2.2.2.2.2.2⟩
theorem b2i_z {b : Bool} (h : ¬ b = true) : b2i b = 0 := by cases b with
  | true => exact absurd rfl h
  | false => rfl
theorem b2i_n0 {b : Bool} (h : b = true) : ¬ b2i b = 0 := by rw [h]; decide
section OPS
variable {B : Int} {s : kgS} {IC IM : kgM}
set_option maxHeartbeats 2000000 in
theorem ok_appeal (a b : Int32) : OpOK B B (fun I => f_X4_makeAppeal a b I) (fun I => f_X5_appeals a b I) := by
  intro s IC IM hG hR w hp hq
  have hn := w.1
  have t00 : (0 : Int32) = 0 := rfl
  have t10 : ¬ (1 : Int32) = 0 := by decide
  by_cases q1 : rgI 0 3 a = true
  · obtain ⟨m, rfl, -, hm⟩ := rg_nI (a := 0) (b := 3) q1
    by_cases q2 : rgI 0 ((kgN s : Int) - 1) b = true
    · obtain ⟨k, rfl, hk⟩ := rg_k q2
      have bo := w.2.2.2.1 k hk
      have ha : s.1 14 k < 16 := by omega
      have h1 := b2i_n0 q1
      have h2 := b2i_n0 q2
      have hle := smN_le (n := kgN s) (f := s.1 12) (b := 1) (fun i hi => (w.2.2.2.1 i hi).2.2.2.2.2.2.2.2.1)
      by_cases z : s.1 6 k = m
      · obtain ⟨JC, g1, g2, g3⟩ := c_refuse (I := IC) 13 (nI m)
        obtain ⟨JM, k1, k2, k3⟩ := m_refuse (I := IM) 13 (nI m)
        refine op_ref hG hR w hp (l := [(13, nI m)]) (show 1 ≤ 2 by omega) (JC := JC) (JM := JM) ?_ ?_ g2 g3 k2 k3
        · show f_X4_makeAppeal _ _ _ = _
          unfold f_X4_makeAppeal
          rw [c_isMember, bndC_s, if_neg h1, c_isKettle hG w, bndC_s, if_neg h2, ck_inb (by omega) (by omega), nI_clamp (by omega), hG.mem hk, if_pos (by rw [z]), g1, bndC_s]
        · show f_X5_appeals _ _ _ = _
          unfold f_X5_appeals
          rw [m_isMember, bndC_s, if_neg h1, m_isKettle hR w, bndC_s, if_neg h2, m_apl hR hn hk, bndC_s, m_of hR hn hk, bndC_s, letJ_s]
          dsimp only
          rw [if_pos (by rw [z]), k1, bndC_s, if_neg t10]
      · have z1 : ¬ nI (s.1 6 k) = nI m := fun h => z ((nI_eq (by omega) (by omega)).mp h)
        by_cases y : s.1 12 k = 0
        · obtain ⟨JC, g1, g2, g3⟩ := c_refuse (I := IC) 15 (nI (smN (kgN s) (s.1 12)))
          obtain ⟨JM, k1, k2, k3⟩ := m_refuse (I := IM) 15 (nI (smN (kgN s) (s.1 12)))
          refine op_ref hG hR w hp (l := [(15, nI (smN (kgN s) (s.1 12)))]) (show 1 ≤ 2 by omega) (JC := JC) (JM := JM) ?_ ?_ g2 g3 k2 k3
          · show f_X4_makeAppeal _ _ _ = _
            unfold f_X4_makeAppeal
            rw [c_isMember, bndC_s, if_neg h1, c_isKettle hG w, bndC_s, if_neg h2, ck_inb (by omega) (by omega), nI_clamp (by omega), hG.mem hk, if_neg z1, ck_inb (by omega) (by omega), hG.lid hk, if_pos (by rw [y]; rfl), c_lidsOn hG w, bndC_s, g1, bndC_s]
          · show f_X5_appeals _ _ _ = _
            unfold f_X5_appeals
            rw [m_isMember, bndC_s, if_neg h1, m_isKettle hR w, bndC_s, if_neg h2, m_apl hR hn hk, bndC_s, m_of hR hn hk, bndC_s, letJ_s]
            dsimp only
            rw [if_neg z1, m_refuse0, bndC_s, if_pos t00, m_lid hR hn hk, bndC_s, letJ_s]
            dsimp only
            rw [if_pos (by rw [y]; rfl), m_lidsOn hR w, bndC_s, k1, bndC_s, if_neg t10]
        · have y1 : ¬ nI (s.1 12 k) = 0 := fun h => y ((nI_eq (b := 0) (by omega) (by omega)).mp h)
          cases hb : (s.1 14 k).testBit m with
          | true =>
            have hbm : ((nI (s.1 14 k) >>> (nI m &&& 31)) &&& (1 : Int32)) = 1 := by rw [bit_t (by omega) (by omega)]; exact hb
            obtain ⟨JC, g1, g2, g3⟩ := c_refuse (I := IC) 14 (nI (pop (s.1 14 k)))
            obtain ⟨JM, k1, k2, k3⟩ := m_refuse (I := IM) 14 (nI (pop (s.1 14 k)))
            refine op_ref hG hR w hp (l := [(14, nI (pop (s.1 14 k)))]) (show 1 ≤ 2 by omega) (JC := JC) (JM := JM) ?_ ?_ g2 g3 k2 k3
            · show f_X4_makeAppeal _ _ _ = _
              unfold f_X4_makeAppeal
              rw [c_isMember, bndC_s, if_neg h1, c_isKettle hG w, bndC_s, if_neg h2, ck_inb (by omega) (by omega), nI_clamp (by omega), hG.mem hk, if_neg z1, ck_inb (by omega) (by omega), hG.lid hk, if_neg y1, ck_inb (by omega) (by omega), hG.apl hk, c_isIn (by omega) (by omega), bndC_s, if_neg (b2i_n0 hb), ck_inb (by omega) (by omega), hG.apl hk, c_bits (by omega), bndC_s, g1, bndC_s]
            · show f_X5_appeals _ _ _ = _
              unfold f_X5_appeals
              rw [m_isMember, bndC_s, if_neg h1, m_isKettle hR w, bndC_s, if_neg h2, m_apl hR hn hk, bndC_s, m_of hR hn hk, bndC_s, letJ_s]
              dsimp only
              rw [if_neg z1, m_refuse0, bndC_s, if_pos t00, m_lid hR hn hk, bndC_s, letJ_s]
              dsimp only
              rw [if_neg y1, m_lidsOn hR w, bndC_s, m_refuse0, bndC_s, if_pos t00, letJ_s]
              dsimp only
              rw [if_pos hbm, m_bits (by omega), bndC_s, k1, bndC_s, if_neg t10]
          | false =>
            have hbm : ¬ ((nI (s.1 14 k) >>> (nI m &&& 31)) &&& (1 : Int32)) = 1 := by rw [bit_t (by omega) (by omega), hb]; decide
            have hpop := pop_ap (m := m) (a := s.1 14 k) (by omega) bo.2.2.2.2.2.2.2.2.2.2 hb
            have e5 : ((5 : Int32) + ((3 : Int32) * nI m)) + 2 = nI (7 + 3 * m) := by
              rw [show (3 : Int32) = nI 3 from rfl, nI_mul, show (5 : Int32) = nI 5 from rfl, nI_add, show (2 : Int32) = nI 2 from rfl, nI_add, show 5 + 3 * m + 2 = 7 + 3 * m by omega]
            have em : IM 178 (7 + 3 * m) = s.2 (8 + m) := (RepR.low (I := IM) (7 + 3 * m)).symm.trans (hR.2.2.1 m (by omega)).2.2
            have ec : IC 5 m = s.2 (8 + m) := (hG.2.2.1 m (by omega)).2.2
            have G1 : RepG (kgW IC 5 m (s.2 (8 + m) + 1)) 1 (kgSeb s (8 + m) (s.2 (8 + m) + 1)) := hG.seb (i := 8 + m) (k := 5) (p := m) (s.2 (8 + m) + 1) (Or.inr (Or.inr (Or.inl (by omega))))
            have R1 : RepR (kgRow (kgW IM 178 (7 + 3 * m) (s.2 (8 + m) + 1)) 0) (kgSeb s (8 + m) (s.2 (8 + m) + 1)) := hR.seb hn (i := 8 + m) (x := 7 + 3 * m) (Or.inr (Or.inl (by omega))) (fun x => row_w IM (7 + 3 * m) (s.2 (8 + m) + 1) x)
            have w1 := wf_seb w (i := 8 + m) (x := s.2 (8 + m) + 1) (by omega)
            have hp1 : kgPt B (kgSeb s (8 + m) (s.2 (8 + m) + 1)) := pt_seb hp (by omega)
            generalize hs1 : kgSeb s (8 + m) (s.2 (8 + m) + 1) = s1 at G1 R1 w1 hp1
            have n1 : kgN s1 = kgN s := by rw [← hs1]; rfl
            generalize hC1 : kgW IC 5 m (s.2 (8 + m) + 1) = C1 at G1
            generalize hM1 : kgW IM 178 (7 + 3 * m) (s.2 (8 + m) + 1) = M1 at R1
            generalize hx : s.1 14 k ||| 2 ^ m = x at hpop
            have G2 : RepG (kgW C1 15 k (nI x)) 1 (kgSet s1 14 k x) := G1.set (j := 14) (p := k) (v := x) (Or.inr (by omega))
            have R2 : RepR (kgRow (kgW M1 178 (35 + 9 * k + 8) (nI x)) 0) (kgSet s1 14 k x) := rep_row R1 (by rw [n1]; exact hn) (j := 14) (a := 8) (v := x) (by rw [n1]; exact hk) (by omega) rfl
            have e15 : C1 15 k = nI (s.1 14 k) := by rw [← hC1, kgW_n _ _ _ (by decide)]; exact hG.apl hk
            have e15b : kgW C1 15 k (nI x) 15 k = nI x := by rw [kgW_r, if_pos ⟨rfl, rfl⟩]
            have or1 : nI (s.1 14 k) ||| ((1 : Int32) <<< (nI m &&& 31)) = nI x := by rw [kl_shl1 (by omega), kl_or, hx]
            have mp8 := m_puts (I := M1) (k := k) (a := 8) (v := nI x) (by omega) (by omega)
            rw [show nI 8 = (8 : Int32) from rfl] at mp8
            have fC : ∀ J : kgM, (∀ c, (c = 0 ∨ 16 ≤ c) → J c = C1 c) → ∀ c, (c = 0 ∨ 16 ≤ c) → J c = IC c := fun J h c hc => by rw [h c hc, ← hC1, kgW_n _ _ _ (by omega)]
            have fM : ∀ J : kgM, (∀ c, c ≠ 178 → J c = M1 c) → ∀ c, c ≠ 178 → J c = IM c := fun J h c hc => by rw [h c hc, ← hM1, kgW_n _ _ _ hc]
            have fN : ∀ J : kgM, (∀ j, 125 ≤ j → J 178 j = M1 178 j) → ∀ j, 125 ≤ j → J 178 j = IM 178 j := fun J h j hj => by rw [h j hj, ← hM1, kgW_r, if_neg (by omega)]
            have callC : f_X4_makeAppeal (nI m) (nI k) IC = if (2 : Int32) ≤ nI (pop x) then bndC (f_X3_barLid (nI k) (kgW C1 15 k (nI x))) (fun x5 I7 => some ((1 : Int32), I7)) else some ((0 : Int32), kgW C1 15 k (nI x)) := by
              unfold f_X4_makeAppeal
              rw [c_isMember, bndC_s, if_neg h1, c_isKettle hG w, bndC_s, if_neg h2, ck_inb (by omega) (by omega), nI_clamp (by omega), hG.mem hk, if_neg z1, ck_inb (by omega) (by omega), hG.lid hk, if_neg y1, ck_inb (by omega) (by omega), hG.apl hk, c_isIn (by omega) (by omega), bndC_s, hb, b2i_f, if_pos t00, ck_inb (by omega) (by omega), ck_inb (by omega) (by omega), nI_clamp (by omega), ec, hC1, bnd_s, ck_inb (by omega) (by omega), ck_inb (by omega) (by omega), e15, or1, bnd_s, ck_inb (by omega) (by omega), e15b, c_bits (by omega), bndC_s]
            have callM : f_X5_appeals (nI m) (nI k) IM = if (2 : Int32) ≤ nI (pop x) then bndC (f_X5_puts (nI k) (8 : Int32) (0 : Int32) (kgW M1 178 (35 + 9 * k + 8) (nI x))) (fun x13 I14 => bndC (f_X5_puts (nI k) (4 : Int32) (0 : Int32) I14) (fun x14 I15 => bndC (f_X5_puts (nI k) (7 : Int32) (1 : Int32) I15) (fun x15 I16 => some ((1 : Int32), I16)))) else some ((0 : Int32), kgW M1 178 (35 + 9 * k + 8) (nI x)) := by
              unfold f_X5_appeals
              rw [m_isMember, bndC_s, if_neg h1, m_isKettle hR w, bndC_s, if_neg h2, m_apl hR hn hk, bndC_s, m_of hR hn hk, bndC_s, letJ_s]
              dsimp only
              rw [if_neg z1, m_refuse0, bndC_s, if_pos t00, m_lid hR hn hk, bndC_s, letJ_s]
              dsimp only
              rw [if_neg y1, m_lidsOn hR w, bndC_s, m_refuse0, bndC_s, if_pos t00, letJ_s]
              dsimp only
              rw [if_neg hbm, m_bits (by omega), bndC_s, m_refuse0, bndC_s, if_pos t00, e5, ck_inb (by omega) (by omega), ck_inb (by omega) (by omega), nI_clamp (by omega), em, hM1, bnd_s, or1, mp8, bndC_s, m_bits (by omega), bndC_s]
            rcases hpop.2 with hp2 | ⟨hp2, hp3⟩
            · have l2 : (2 : Int32) ≤ nI (pop x) := by rw [hp2]; decide
              have w2 : kgWF (kgSet (kgSet (kgSet s1 12 k 0) 13 k 1) 14 k 0) := wf_free (wf_free (wf_free w1 (j := 12) (k := k) (v := 0) (by unfold kgOv; omega)) (j := 13) (k := k) (v := 1) (by unfold kgOv; omega)) (j := 14) (k := k) (v := 0) (by unfold kgOv; omega)
              have G5 : RepG (kgW (kgW (kgW (kgW C1 15 k (nI x)) 13 k 0) 14 k 1) 15 k 0) 1 (kgSet (kgSet (kgSet (kgSet s1 14 k x) 12 k 0) 13 k 1) 14 k 0) :=
                ((G2.set (j := 12) (p := k) (v := 0) (Or.inr (by omega))).set (j := 13) (p := k) (v := 1) (Or.inr (by omega))).set (j := 14) (p := k) (v := 0) (Or.inr (by omega))
              have nn : ∀ j p v, j ≠ 0 → kgN (kgSet s1 j p v) = kgN s := fun j p v hj => by rw [← n1]; exact kgSet_ne (Or.inl (Ne.symm hj))
              have R3 := rep_row R2 (by rw [nn _ _ _ (by decide)]; exact hn) (j := 14) (k := k) (a := 8) (v := 0) (by rw [nn _ _ _ (by decide)]; exact hk) (by omega) rfl
              have n3 : kgN (kgSet (kgSet s1 14 k x) 14 k 0) = kgN s := by rw [kgSet_same]; exact nn _ _ _ (by decide)
              have R4 := rep_row R3 (by rw [n3]; exact hn) (j := 12) (k := k) (a := 4) (v := 0) (by rw [n3]; exact hk) (by omega) rfl
              have n4 : kgN (kgSet (kgSet (kgSet s1 14 k x) 14 k 0) 12 k 0) = kgN s := by rw [← n3]; exact kgSet_ne (Or.inl (by decide))
              have R5 := rep_row R4 (by rw [n4]; exact hn) (j := 13) (k := k) (a := 7) (v := 1) (by rw [n4]; exact hk) (by omega) rfl
              have R5 : RepR (kgRow (kgW (kgW (kgW (kgW M1 178 (35 + 9 * k + 8) (nI x)) 178 (35 + 9 * k + 8) 0) 178 (35 + 9 * k + 4) 0) 178 (35 + 9 * k + 7) 1) 0) (kgSet (kgSet (kgSet (kgSet s1 14 k x) 14 k 0) 12 k 0) 13 k 1) := R5
              rw [kgSet_same, kgSet_comm (s := s1) (j := 14) (j' := 12) (Or.inl (by decide)), kgSet_comm (s := kgSet s1 12 k 0) (j := 14) (j' := 13) (Or.inl (by decide))] at R5
              rw [kgSet_comm (s := s1) (j := 14) (j' := 12) (Or.inl (by decide)), kgSet_comm (s := kgSet s1 12 k 0) (j := 14) (j' := 13) (Or.inl (by decide)), kgSet_same] at G5
              have p8 := m_puts (I := kgW M1 178 (35 + 9 * k + 8) (nI x)) (k := k) (a := 8) (v := 0) (by omega) (by omega)
              have p4 := m_puts (I := kgW (kgW M1 178 (35 + 9 * k + 8) (nI x)) 178 (35 + 9 * k + 8) 0) (k := k) (a := 4) (v := 0) (by omega) (by omega)
              have p7 := m_puts (I := kgW (kgW (kgW M1 178 (35 + 9 * k + 8) (nI x)) 178 (35 + 9 * k + 8) 0) 178 (35 + 9 * k + 4) 0) (k := k) (a := 7) (v := 1) (by omega) (by omega)
              rw [show nI 8 = (8 : Int32) from rfl] at p8
              rw [show nI 4 = (4 : Int32) from rfl] at p4
              rw [show nI 7 = (7 : Int32) from rfl] at p7
              refine op_done hq (x := 1) ?_ ?_ G5 R5 w2 hp1 (by decide) (fC _ (fun c hc => by rw [kgW_n _ _ _ (by omega), kgW_n _ _ _ (by omega), kgW_n _ _ _ (by omega), kgW_n _ _ _ (by omega)])) (fM _ (fun c hc => by rw [kgW_n _ _ _ hc, kgW_n _ _ _ hc, kgW_n _ _ _ hc, kgW_n _ _ _ hc])) (fN _ (fun j hj => by rw [kgW_r, if_neg (by omega), kgW_r, if_neg (by omega), kgW_r, if_neg (by omega), kgW_r, if_neg (by omega)])) (by rw [← hs1]; exact tr_bar)
              · show f_X4_makeAppeal _ _ _ = _
                rw [callC, if_pos l2]
                unfold f_X3_barLid
                rw [ck_inb (by omega) (by omega), nI_clamp (by omega), bnd_s, ck_inb (by omega) (by omega), bnd_s, ck_inb (by omega) (by omega), bnd_s, bndC_s]
              · show f_X5_appeals _ _ _ = _
                rw [callM, if_pos l2, p8, bndC_s, p4, bndC_s, p7, bndC_s]
            · have l2 : ¬ (2 : Int32) ≤ nI (pop x) := nI_ge (a := pop x) (b := 2) hp2 (by omega)
              have w2 := wf_free w1 (j := 14) (k := k) (v := x) (by unfold kgOv; omega)
              refine op_done hq (x := 0) ?_ ?_ G2 R2 w2 hp1 (by decide) (fC _ (fun c hc => by rw [kgW_n _ _ _ (by omega)])) (fM _ (fun c hc => by rw [kgW_n _ _ _ hc])) (fN _ (fun j hj => by rw [kgW_r, if_neg (by omega)])) (by rw [← hs1]; exact tr_apl)
              · show f_X4_makeAppeal _ _ _ = _
                rw [callC, if_neg l2]
              · show f_X5_appeals _ _ _ = _
                rw [callM, if_neg l2]
    · refine op_code hG hR w hp hq (x := -1011) (Or.inl rfl) ?_ ?_
      · show f_X4_makeAppeal _ _ _ = _
        unfold f_X4_makeAppeal
        simp only [c_isMember, c_isKettle hG w, bndC_s, b2i_0, q1, q2, Bool.true_eq_false, if_false, if_true]
      · show f_X5_appeals _ _ _ = _
        unfold f_X5_appeals
        rw [m_isMember, bndC_s, if_neg (b2i_n0 q1), m_isKettle hR w, bndC_s, if_pos (b2i_z q2)]
  · refine op_code hG hR w hp hq (x := -1011) (Or.inl rfl) ?_ ?_
    · show f_X4_makeAppeal _ _ _ = _
      unfold f_X4_makeAppeal
      simp only [c_isMember, bndC_s, b2i_0, q1, if_true]
    · show f_X5_appeals _ _ _ = _
      unfold f_X5_appeals
      rw [m_isMember, bndC_s, if_pos (b2i_z q1)]
end OPS
