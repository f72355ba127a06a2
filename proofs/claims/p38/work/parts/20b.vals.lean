/-! WHAT THE CLASS ANSWERS, IN NUMBERS -/
def owI (s : kgS) (p : Nat) : Int32 := if s.1 1 p = 0 then -1015 else nI (s.1 1 p - 1)
def stI (s : kgS) (k : Nat) : Int32 := if s.1 10 k = 0 then -1015 else nI (s.1 10 k - 1)
def onI (s : kgS) (t : Nat) : Int32 := onf (fnd (fun k => decide (s.1 10 k = t + 1)) (kgN s) 0) nI (-1015)
def drI (s : kgS) (k : Nat) : Int32 := if hU s k = 0 then -1015 else bmI (hU s k) (s.1 9 k) + (if s.1 8 k = 0 then 1 else nI (s.1 8 k))
section VALS
variable {I : kgM} {s : kgS}
theorem rgk {n k : Nat} (hn : n ≤ 10) (hk : k < n) : rgI 0 ((n : Int) - 1) (nI k) = true := decide_eq_true (by rw [nI_toInt (by omega)]; omega)
theorem rgs {k : Nat} (hk : k < 6) : rgI 0 5 (nI k) = true := decide_eq_true (by rw [nI_toInt (by omega)]; omega)
theorem r_owner (hG : RepG I 1 s) (w : kgWF s) {p : Nat} (h1 : 1 ≤ p) (h2 : p < 13) : f_X4_owner (nI p) I = some (owI s p, I) := by
  have q1 : rgI 1 12 (nI p) = true := decide_eq_true (by rw [nI_toInt (by omega)]; omega)
  have bo := w.2.1 p h1 (by omega)
  have ec := hG.own (p := p) h1 (by omega)
  unfold f_X4_owner owI
  rw [c_isPitch, bndC_s, if_neg (b2i_n0 q1), ck_inb (by omega) (by omega), nI_clamp (by omega), ec]
  by_cases z : s.1 1 p = 0
  · rw [if_pos z, z, show nI 0 - 1 = (-1 : Int32) from rfl, oN_m1, bndC_s]
  · obtain ⟨o, ho⟩ : ∃ o, s.1 1 p = o + 1 := ⟨s.1 1 p - 1, by omega⟩
    rw [if_neg z, ho, nI_pred, Nat.add_sub_cancel, oN_nI (by omega), bndC_s]
section KT
variable {k : Nat}
theorem r_k0 (hG : RepG I 1 s) (w : kgWF s) (hk : k < kgN s) : f_X4_kettleOf (nI k) 0 I = some (nI (s.1 6 k), I) := by
  have hn := w.1
  unfold f_X4_kettleOf; rw [c_isKettle hG w, bndC_s, if_neg (b2i_n0 (rgk hn hk)), if_pos (by decide), ck_inb (by omega) (by omega), nI_clamp (by omega), hG.mem hk]
theorem r_k1 (hG : RepG I 1 s) (w : kgWF s) (hk : k < kgN s) : f_X4_kettleOf (nI k) 1 I = some (nI (s.1 7 k), I) := by
  have hn := w.1
  unfold f_X4_kettleOf; rw [c_isKettle hG w, bndC_s, if_neg (b2i_n0 (rgk hn hk)), if_neg (by decide), if_pos (by decide), ck_inb (by omega) (by omega), nI_clamp (by omega), hG.pit hk]
theorem r_k2 (hG : RepG I 1 s) (w : kgWF s) (hk : k < kgN s) : f_X4_kettleOf (nI k) 2 I = some (nI (s.1 8 k), I) := by
  have hn := w.1
  unfold f_X4_kettleOf; rw [c_isKettle hG w, bndC_s, if_neg (b2i_n0 (rgk hn hk)), if_neg (by decide), if_neg (by decide), if_pos (by decide), ck_inb (by omega) (by omega), nI_clamp (by omega), hG.wat hk]
theorem r_k3 (hG : RepG I 1 s) (w : kgWF s) (hk : k < kgN s) : f_X4_kettleOf (nI k) 3 I = some (nI (5 * s.1 9 k), I) := by
  have hn := w.1
  unfold f_X4_kettleOf; rw [c_isKettle hG w, bndC_s, if_neg (b2i_n0 (rgk hn hk)), if_neg (by decide), if_neg (by decide), if_neg (by decide), if_pos (by decide), ck_inb (by omega) (by omega), nI_clamp (by omega), hG.tmp hk]
theorem r_k4 (hG : RepG I 1 s) (w : kgWF s) (hk : k < kgN s) : f_X4_kettleOf (nI k) 4 I = some (nI (s.1 12 k), I) := by
  have hn := w.1
  unfold f_X4_kettleOf; rw [c_isKettle hG w, bndC_s, if_neg (b2i_n0 (rgk hn hk)), if_neg (by decide), if_neg (by decide), if_neg (by decide), if_neg (by decide), if_pos (by decide), ck_inb (by omega) (by omega), nI_clamp (by omega), hG.lid hk]
theorem r_k5 (hG : RepG I 1 s) (w : kgWF s) (hk : k < kgN s) : f_X4_kettleOf (nI k) 5 I = some (stI s k, I) := by
  have hn := w.1
  have b := w.2.2.2.1 k hk
  unfold f_X4_kettleOf stI; rw [c_isKettle hG w, bndC_s, if_neg (b2i_n0 (rgk hn hk)), if_neg (by decide), if_neg (by decide), if_neg (by decide), if_neg (by decide), if_neg (by decide), if_pos (by decide), ck_inb (by omega) (by omega), nI_clamp (by omega), hG.stv hk]
  by_cases z : s.1 10 k = 0
  · rw [if_pos z, z, show nI 0 - 1 = (-1 : Int32) from rfl, oN_m1, bndC_s]
  · obtain ⟨o, ho⟩ : ∃ o, s.1 10 k = o + 1 := ⟨s.1 10 k - 1, by omega⟩
    rw [if_neg z, ho, nI_pred, Nat.add_sub_cancel, oN_nI (by omega), bndC_s]
theorem r_k6 (hG : RepG I 1 s) (w : kgWF s) (hk : k < kgN s) : f_X4_kettleOf (nI k) 6 I = some (b2i (bo s k), I) := by
  have hn := w.1
  unfold f_X4_kettleOf; rw [c_isKettle hG w, bndC_s, if_neg (b2i_n0 (rgk hn hk)), if_neg (by decide), if_neg (by decide), if_neg (by decide), if_neg (by decide), if_neg (by decide), if_neg (by decide), if_pos (by decide), c_boils hG w hk, bndC_s, b2i_sel]
theorem r_k7 (hG : RepG I 1 s) (w : kgWF s) (hk : k < kgN s) : f_X4_kettleOf (nI k) 7 I = some (b2i (wh s k), I) := by
  have hn := w.1
  unfold f_X4_kettleOf; rw [c_isKettle hG w, bndC_s, if_neg (b2i_n0 (rgk hn hk)), if_neg (by decide), if_neg (by decide), if_neg (by decide), if_neg (by decide), if_neg (by decide), if_neg (by decide), if_neg (by decide), if_pos (by decide), c_whistles hG w hk, bndC_s, b2i_sel]
theorem r_k8 (hG : RepG I 1 s) (w : kgWF s) (hk : k < kgN s) : f_X4_kettleOf (nI k) 8 I = some (nI (s.1 11 k), I) := by
  have hn := w.1
  unfold f_X4_kettleOf; rw [c_isKettle hG w, bndC_s, if_neg (b2i_n0 (rgk hn hk)), if_neg (by decide), if_neg (by decide), if_neg (by decide), if_neg (by decide), if_neg (by decide), if_neg (by decide), if_neg (by decide), if_neg (by decide), if_pos (by decide), ck_inb (by omega) (by omega), nI_clamp (by omega), hG.ban hk]
theorem r_k9 (hG : RepG I 1 s) (w : kgWF s) (hk : k < kgN s) : f_X4_kettleOf (nI k) 9 I = some (nI (pop (s.1 14 k)), I) := by
  have hn := w.1
  have b := w.2.2.2.1 k hk
  unfold f_X4_kettleOf; rw [c_isKettle hG w, bndC_s, if_neg (b2i_n0 (rgk hn hk)), if_neg (by decide), if_neg (by decide), if_neg (by decide), if_neg (by decide), if_neg (by decide), if_neg (by decide), if_neg (by decide), if_neg (by decide), if_neg (by decide), if_pos (by decide), ck_inb (by omega) (by omega), nI_clamp (by omega), hG.apl hk, c_bits (by omega), bndC_s]
theorem r_heat (hG : RepG I 1 s) (w : kgWF s) (hk : k < kgN s) : f_L_heatUnder (nI k) I = some (nI (hU s k), I) := by
  have hn := w.1
  have b := w.2.2.2.1 k hk
  unfold f_L_heatUnder hU
  rw [r_k5 hG w hk, bndC_s]
  unfold stI
  by_cases z : s.1 10 k = 0
  · rw [if_pos z, if_pos z, if_neg (by decide)]; rfl
  · rw [if_neg z, if_neg z, if_pos (nI_pos' (by omega))]
    unfold f_X4_stoveOf
    rw [c_isStove, bndC_s, if_neg (b2i_n0 (rgs (by omega))), if_neg (by decide), ck_inb (by omega) (by omega), nI_clamp (by omega), hG.hea (by omega), bndC_s]
theorem r_dry (hG : RepG I 1 s) (w : kgWF s) (hk : k < kgN s) : f_X4_dryIn (nI k) I = some (drI s k, I) := by
  have hn := w.1
  have b := w.2.2.2.1 k hk
  have hh := hU_le w hk
  unfold f_X4_dryIn drI
  rw [c_boilsIn hG w hk, bndC_s]
  by_cases z : hU s k = 0
  · rw [if_pos z, show bmI (hU s k) (s.1 9 k) = -1015 from if_pos z, if_pos (by decide)]
  · obtain ⟨h, eh⟩ : ∃ h, hU s k = h + 1 := ⟨hU s k - 1, by omega⟩
    have a1 := bm_all h (by omega) (s.1 9 k - 4) (by omega)
    rw [show s.1 9 k - 4 + 4 = s.1 9 k by omega, ← eh] at a1
    unfold f_J9_max_7cf53
    rw [if_neg z, if_neg a1.1, c_isKettle hG w, bndC_s, if_neg (b2i_n0 (rgk hn hk)), ck_inb (by omega) (by omega), nI_clamp (by omega), hG.wat hk]
    by_cases c : s.1 8 k = 0
    · rw [if_pos c, c, if_neg (by decide), bndC_s]
    · rw [if_neg c]
      by_cases c2 : s.1 8 k = 1
      · rw [c2, if_neg (by decide), bndC_s]; rfl
      · rw [if_pos (show (1 : Int32) < nI (s.1 8 k) from nI_lt (a := 1) (by omega) (by omega)), bndC_s]
end KT
theorem r_stF (hG : RepG I 1 s) (w : kgWF s) {t : Nat} (ht : t < 6) : f_X4_stoveOf (nI t) 0 I = some (onI s t, I) := by
  have hn := w.1
  have c1 := c_kettleOn hG w ht
  unfold f_X4_stoveOf onI
  rw [c_isStove, bndC_s, if_neg (b2i_n0 (rgs (by omega))), if_pos rfl, c1, bndC_s]
  cases e1 : fnd (fun k => decide (s.1 10 k = t + 1)) (kgN s) 0 with
  | some j =>
    have hj := fnd_some e1
    show bndC (f_X4_orNothing (nI j) I) _ = _
    rw [oN_nI (by omega), bndC_s]; rfl
  | none =>
    show bndC (f_X4_orNothing (-1) I) _ = _
    rw [oN_m1, bndC_s]; rfl
theorem r_stT (hG : RepG I 1 s) {t : Nat} (ht : t < 6) : f_X4_stoveOf (nI t) 1 I = some (nI (s.1 5 t), I) := by
  unfold f_X4_stoveOf
  rw [c_isStove, bndC_s, if_neg (b2i_n0 (rgs (by omega))), if_neg (by decide), ck_inb (by omega) (by omega), nI_clamp (by omega), hG.hea (by omega)]
section MB
variable {m : Nat}
theorem rgm (hm : m < 4) : rgI 0 3 (nI m) = true := decide_eq_true (by rw [nI_toInt (by omega)]; omega)
theorem r_m0 (hG : RepG I 1 s) (hm : m < 4) : f_X4_memberOf (nI m) 0 I = some (s.2 m, I) := by
  have e3 : I 3 m = s.2 m := (hG.2.2.1 m hm).1
  unfold f_X4_memberOf; rw [c_isMember, bndC_s, if_neg (b2i_n0 (rgm hm)), if_pos (by decide), ck_inb (by omega) (by omega), nI_clamp (by omega), e3]
theorem r_m1 (hG : RepG I 1 s) (w : kgWF s) (hm : m < 4) : f_X4_memberOf (nI m) 1 I = some (nI (own s m), I) := by
  unfold f_X4_memberOf; rw [c_isMember, bndC_s, if_neg (b2i_n0 (rgm hm)), if_neg (by decide), if_pos (by decide), c_pitchesOf hG w hm, bndC_s]
theorem r_m2 (hG : RepG I 1 s) (w : kgWF s) (hm : m < 4) : f_X4_memberOf (nI m) 2 I = some (nI (cnt (kgN s) (fun k => decide (s.1 6 k = m))), I) := by
  unfold f_X4_memberOf; rw [c_isMember, bndC_s, if_neg (b2i_n0 (rgm hm)), if_neg (by decide), if_neg (by decide), if_pos (by decide), c_kettlesOf hG w hm, bndC_s]
theorem r_m3 (hG : RepG I 1 s) (w : kgWF s) (hm : m < 4) : f_X4_memberOf (nI m) 3 I = some (nI (cnt (kgN s) (fun k => decide (s.1 6 k = m) && wh s k)), I) := by
  unfold f_X4_memberOf; rw [c_isMember, bndC_s, if_neg (b2i_n0 (rgm hm)), if_neg (by decide), if_neg (by decide), if_neg (by decide), if_pos (by decide), c_whistlersOf hG w hm, bndC_s]
theorem r_m4 (hG : RepG I 1 s) (hm : m < 4) : f_X4_memberOf (nI m) 4 I = some (s.2 (4 + m), I) := by
  have e4 : I 4 m = s.2 (4 + m) := (hG.2.2.1 m hm).2.1
  unfold f_X4_memberOf; rw [c_isMember, bndC_s, if_neg (b2i_n0 (rgm hm)), if_neg (by decide), if_neg (by decide), if_neg (by decide), if_neg (by decide), if_pos (by decide), ck_inb (by omega) (by omega), nI_clamp (by omega), e4]
end MB
theorem r_a0 (hG : RepG I 1 s) : f_X4_account 0 I = some (nI (kgN s), I) := by unfold f_X4_account; rw [if_pos (by decide), hG.2.1]
theorem r_a1 (hG : RepG I 1 s) (w : kgWF s) : f_X4_account 1 I = some (nI (cnt (kgN s) (fun k => decide (s.1 10 k ≠ 0))), I) := by unfold f_X4_account; rw [if_neg (by decide), if_pos (by decide), c_onStoves hG w, bndC_s]
theorem r_a2 (hG : RepG I 1 s) (w : kgWF s) : f_X4_account 2 I = some (nI (cnt (kgN s) (bo s)), I) := by unfold f_X4_account; rw [if_neg (by decide), if_neg (by decide), if_pos (by decide), c_countBoiling hG w, bndC_s]
theorem r_a3 (hG : RepG I 1 s) (w : kgWF s) : f_X4_account 3 I = some (nI (smN (kgN s) (s.1 12)), I) := by unfold f_X4_account; rw [if_neg (by decide), if_neg (by decide), if_neg (by decide), if_pos (by decide), c_lidsOn hG w, bndC_s]
theorem r_a4 (hG : RepG I 1 s) (w : kgWF s) : f_X4_account 4 I = some (nI (smN (kgN s) (s.1 13)), I) := by unfold f_X4_account; rw [if_neg (by decide), if_neg (by decide), if_neg (by decide), if_neg (by decide), if_pos (by decide), c_barred hG w, bndC_s]
theorem r_a6 (hG : RepG I 1 s) (w : kgWF s) : f_X4_account 6 I = some (nI (smN (kgN s) (s.1 8)), I) := by unfold f_X4_account; rw [if_neg (by decide), if_neg (by decide), if_neg (by decide), if_neg (by decide), if_neg (by decide), if_neg (by decide), if_pos (by decide), c_sumWater hG w, bndC_s]
theorem r_a7 (hG : RepG I 1 s) : f_X4_account 7 I = some (s.2 13, I) := by unfold f_X4_account; rw [if_neg (by decide), if_neg (by decide), if_neg (by decide), if_neg (by decide), if_neg (by decide), if_neg (by decide), if_neg (by decide), if_pos (by decide), show I 1 16 = s.2 13 from hG.2.2.2.2.1]
theorem r_a8 (hG : RepG I 1 s) : f_X4_account 8 I = some (s.2 14, I) := by unfold f_X4_account; rw [if_neg (by decide), if_neg (by decide), if_neg (by decide), if_neg (by decide), if_neg (by decide), if_neg (by decide), if_neg (by decide), if_neg (by decide), if_pos (by decide), show I 1 17 = s.2 14 from hG.2.2.2.2.2]
theorem r_a9 (hG : RepG I 1 s) : f_X4_account 9 I = some (smI 4 (fun k => s.2 (4 + k)), I) := by unfold f_X4_account; rw [if_neg (by decide), if_neg (by decide), if_neg (by decide), if_neg (by decide), if_neg (by decide), if_neg (by decide), if_neg (by decide), if_neg (by decide), if_neg (by decide), if_pos (by decide), c_sumOf4 hG, bndC_s]
theorem r_a10 (hG : RepG I 1 s) : f_X4_account 10 I = some (smI 4 s.2, I) := by unfold f_X4_account; rw [if_neg (by decide), if_neg (by decide), if_neg (by decide), if_neg (by decide), if_neg (by decide), if_neg (by decide), if_neg (by decide), if_neg (by decide), if_neg (by decide), if_neg (by decide), if_pos (by decide), c_sumOf3 hG, bndC_s]
theorem r_whistling (hG : RepG I 1 s) (w : kgWF s) : f_X4_whistling I = some (nI (wK s), I) := by
  unfold f_X4_whistling
  rw [c_whistlers hG w, bndC_s]
theorem fpm (s : kgS) (w : kgWF s) (hn0 : 0 < kgN s) : kn64 (FP.ddiv (FP.i2d (nI (smN (kgN s) (s.1 8)))) (FP.i2d (nI (kgN s)))) = true ∧ Op.cmpValue (FP.dcmp (FP.ddiv (FP.i2d (nI (smN (kgN s) (s.1 8)))) (FP.i2d (nI (kgN s)))) (FP.ddiv (FP.i2d (nI (smN (kgN s) (s.1 8)))) (FP.i2d (nI (kgN s))))) .l = 0 := by
  have hn := w.1
  have hs := smN_le (n := kgN s) (f := s.1 8) (b := 20) (fun k hk => (w.2.2.2.1 k hk).2.2.2.1)
  obtain ⟨n, en⟩ : ∃ n, kgN s = n + 1 := ⟨kgN s - 1, by omega⟩
  have f := fp_mean (smN (kgN s) (s.1 8) / 10) (by omega) (smN (kgN s) (s.1 8) % 10) (Nat.mod_lt _ (by decide)) n (by omega)
  rw [show 10 * (smN (kgN s) (s.1 8) / 10) + smN (kgN s) (s.1 8) % 10 = smN (kgN s) (s.1 8) by omega, ← en] at f
  exact f
theorem r_mean (hG : RepG I 1 s) (w : kgWF s) (hn0 : 0 < kgN s) : f_X4_meanWater I = some (FP.ddiv (FP.i2d (nI (smN (kgN s) (s.1 8)))) (FP.i2d (nI (kgN s))), I) := by
  have hn := w.1
  unfold f_X4_meanWater
  rw [hG.2.1, if_neg (nI_ne0 (by omega) (by omega)), c_sumWater hG w, bndC_s, hG.2.1, ck_t (fpm s w hn0).1]
def shF (s : kgS) : UInt32 := if cnt (kgN s) (fun k => decide (s.1 10 k ≠ 0)) = 0 then FP.fconst0 else FP.fdiv (FP.i2f (nI (pop (wK s)))) (FP.i2f (nI (cnt (kgN s) (fun k => decide (s.1 10 k ≠ 0)))))
theorem fps (s : kgS) (w : kgWF s) (z : cnt (kgN s) (fun k => decide (s.1 10 k ≠ 0)) ≠ 0) : kn32 (FP.fdiv (FP.i2f (nI (pop (wK s)))) (FP.i2f (nI (cnt (kgN s) (fun k => decide (s.1 10 k ≠ 0)))))) = true := by
  have hn := w.1
  have hc := cnt_le (kgN s) (fun k => decide (s.1 10 k ≠ 0))
  obtain ⟨n, en⟩ : ∃ n, cnt (kgN s) (fun k => decide (s.1 10 k ≠ 0)) = n + 1 := ⟨cnt (kgN s) (fun k => decide (s.1 10 k ≠ 0)) - 1, by omega⟩
  have hpop : pop (wK s) ≤ 13 := cnt_le 13 _
  rw [en]
  exact (fp_share (pop (wK s)) (by omega) n (by omega)).1
theorem shF_eq (s : kgS) (w : kgWF s) : (FP.f2d (shF s)) &&& 0x7fffffffffffffff ≤ 0x7ff0000000000000 ∧ Op.cmpValue (FP.dcmp (FP.f2d (shF s)) (FP.f2d (shF s))) .l = 0 := by
  have hn := w.1
  have hc := cnt_le (kgN s) (fun k => decide (s.1 10 k ≠ 0))
  unfold shF
  by_cases z : cnt (kgN s) (fun k => decide (s.1 10 k ≠ 0)) = 0
  · rw [if_pos z]; exact fp_c0.2
  · obtain ⟨n, en⟩ : ∃ n, cnt (kgN s) (fun k => decide (s.1 10 k ≠ 0)) = n + 1 := ⟨cnt (kgN s) (fun k => decide (s.1 10 k ≠ 0)) - 1, by omega⟩
    have hpop : pop (wK s) ≤ 13 := cnt_le 13 _
    rw [if_neg z, en]
    exact (fp_share (pop (wK s)) (by omega) n (by omega)).2
theorem r_share (hG : RepG I 1 s) (w : kgWF s) : f_X4_whistleShare I = some (shF s, I) := by
  have hn := w.1
  have hc := cnt_le (kgN s) (fun k => decide (s.1 10 k ≠ 0))
  have hl := wK_lt w
  unfold f_X4_whistleShare shF
  rw [c_onStoves hG w, bndC_s]
  by_cases z : cnt (kgN s) (fun k => decide (s.1 10 k ≠ 0)) = 0
  · rw [if_pos z, z, if_pos (show nI 0 = (0 : Int32) from rfl)]
  · rw [if_neg z, if_neg (nI_ne0 (by omega) (by omega)), c_whistlers hG w, bndC_s, c_bits (by omega), bndC_s, ck_t (fps s w z)]
end VALS
/-! the numbers of a script -/
theorem nI_all (x : Int32) : ∃ n, n < 2 ^ 32 ∧ x = nI n := ⟨x.toBitVec.toNat, x.toBitVec.isLt, Int32.toBitVec_inj.mp (by
  show x.toBitVec = BitVec.ofNat 32 x.toBitVec.toNat
  rw [BitVec.ofNat_toNat, BitVec.setWidth_eq])⟩
theorem cell_v {N : Nat} (hN : N ≤ 260) (sc : Nat → Int32) {k : Nat} (hk : k < 1000) (I : kgM) : ∃ x, f_L_cell N sc (nI k) I = some (x, I) := by
  unfold f_L_cell
  by_cases h : N ≤ k
  · rw [if_pos (show Int32.ofNat N ≤ nI k from (nI_leI (by omega) (by omega)).mpr h)]; exact ⟨_, rfl⟩
  · rw [if_neg (show ¬ Int32.ofNat N ≤ nI k from nI_ge (b := N) (by omega) (by omega)), ck_inb (by omega) (by omega)]; exact ⟨_, rfl⟩
theorem some_v {N : Nat} (hN : N ≤ 260) (sc : Nat → Int32) {k n : Nat} (hk : k < 1000) (h0 : 0 < n) (h1 : n < 1000) (I : kgM) : ∃ j, j < n ∧ f_L_some N sc (nI k) (nI n) I = some (nI j, I) := by
  obtain ⟨x, hx⟩ := cell_v hN sc hk I
  obtain ⟨u, hu, rfl⟩ := nI_all x
  refine ⟨u / 2 ^ 3 % n, Nat.mod_lt _ h0, ?_⟩
  unfold f_L_some
  rw [hx, bndC_s, ck_t (decide_eq_true (nI_ne0 (by omega) (by omega))), pk_ushrN hu (3 : Int32) 3 (by decide), pk_rem (by omega) h0 (by omega)]
