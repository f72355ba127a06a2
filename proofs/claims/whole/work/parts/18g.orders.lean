/-! THE REFERENCE'S ORDERS -/
def wdW (k : Nat) : List Nat := ([[119, 110], [101, 116, 116, 108, 101], [101, 116], [102, 102], [101, 97, 116], [105, 108, 108], [105, 100], [112, 112, 101, 97, 108], [105, 110, 117, 116, 101]] : List (List Nat)).getD k []
def wdC (k : Nat) : Nat := ([111, 107, 115, 111, 104, 102, 108, 97, 109] : List Nat).getD k 0
def wdL (k : Nat) : Nat := ([110, 107, 115, 116, 104, 102, 108, 97, 109] : List Nat).getD k 0
def wdK (k : Nat) : List (List Nat) := ([[[32, 35], [32, 37]], [[32, 35], [32, 37], [32, 37]], [[32, 35], [32, 35]], [[32, 35]], [[32, 35], [32, 35]], [[32, 35], [32, 37]], [[32, 35], [63]], [[32, 35], [32, 35]], [[32, 35]]] : List (List (List Nat))).getD k []
theorem wd_form : ∀ k, k < 9 → fmN k = wdC k :: (wdW k ++ (wdK k).flatten) ∧ isN (wdC k) = false ∧ nmC (wdW k) = 0 ∧ wdC k ≠ 0 ∧ (wdK k).length ≤ 3 ∧ (∀ c, c ∈ wdW k → c ≠ 0) ∧ ∀ l, l ∈ wdK k → nmC l = 1 ∧ ∀ c, c ∈ l → c ≠ 0 := by decide +kernel
def rdL (t : Nat → Nat) : List (List Nat) → Bool × Nat → (Bool × Nat) × List Nat
  | [], e => (e, [])
  | l :: ls, e => ((rdL t ls (nx t l e).1).1, (nx t l e).2 :: (rdL t ls (nx t l e).1).2)
theorem rdL_f {t : Nat → Nat} {f : Nat} : ∀ ls, (rdL t ls (false, f)).1 = (false, f) := by
  intro ls
  induction ls with
  | nil => rfl
  | cons l ls ih => exact ih
theorem rdL_rdF {t : Nat → Nat} {L : Nat} (w : TxW t L) : ∀ (ls : List (List Nat)) (h : Nat) (a : List Nat), (∀ l, l ∈ ls → nmC l = 1 ∧ ∀ c, c ∈ l → c ≠ 0) → h ≤ L → rdF t ls.flatten h a = ((rdL t ls (true, h)).1.2, if (rdL t ls (true, h)).1.1 = true then some (a ++ (rdL t ls (true, h)).2) else none) := by
  intro ls
  induction ls with
  | nil =>
    intro h a _ _
    show (h, some a) = (h, if true = true then some (a ++ []) else none)
    rw [if_pos rfl, List.append_nil]
  | cons l ls ih =>
    intro h a hl hh
    have hl0 := hl l (List.mem_cons_self ..)
    have po := rdF_pos w l h [] hl0.2 hh
    have e0 : rdL t (l :: ls) (true, h) = ((rdL t ls (nx t l (true, h)).1).1, (nx t l (true, h)).2 :: (rdL t ls (nx t l (true, h)).1).2) := rfl
    have e1 : nx t l (true, h) = match (rdF t l h []).2 with | none => ((false, (rdF t l h []).1), 0) | some a => ((true, (rdF t l h []).1), a.getD 0 0) := rfl
    rw [List.flatten_cons, rdF_app, rdF_acc l h a, e0]
    match q : rdF t l h [] with
    | (h2, none) =>
      rw [q] at e1
      rw [e1]
      show (h2, none) = ((rdL t ls (false, h2)).1.2, if (rdL t ls (false, h2)).1.1 = true then _ else none)
      rw [rdL_f, if_neg (show ¬ (false, h2).1 = true from Bool.false_ne_true)]
    | (h2, some b) =>
      rw [q] at e1 po
      rw [e1]
      have hb := (po.2.2 b rfl).2.1
      rw [hl0.1] at hb
      match b, hb with
      | [b0], _ =>
        show rdF t ls.flatten h2 (a ++ [b0]) = ((rdL t ls (true, h2)).1.2, if (rdL t ls (true, h2)).1.1 = true then some (a ++ (b0 :: (rdL t ls (true, h2)).2)) else none)
        rw [ih h2 (a ++ [b0]) (fun l hm => hl l (List.mem_cons_of_mem _ hm)) po.2.1, List.append_assoc]
        rfl
/-- what the reference comes to over the k'th kind's form, behind its first sign -/
def wdE (t : Nat → Nat) (k h : Nat) : (Bool × Nat) × List Nat := rdL t (wdK k) (nx t (wdW k) (true, h + 1)).1
theorem wd_rdF {t : Nat → Nat} {L : Nat} (w : TxW t L) {k h : Nat} (hk : k < 9) (hh : h ≤ L) (hc : t h = wdC k) : rdF t (fmN k) h [] = ((wdE t k h).1.2, if (wdE t k h).1.1 = true then some (wdE t k h).2 else none) := by
  have f := wd_form k hk
  have hlt := ne_lt w f.2.2.2.1 hc
  have po := rdF_pos w (wdW k) (h + 1) [] f.2.2.2.2.2.1 (by omega)
  have e1 : nx t (wdW k) (true, h + 1) = match (rdF t (wdW k) (h + 1) []).2 with | none => ((false, (rdF t (wdW k) (h + 1) []).1), 0) | some a => ((true, (rdF t (wdW k) (h + 1) []).1), a.getD 0 0) := rfl
  rw [f.1, rdF_1 f.2.1, if_pos hc, rdF_app]
  unfold wdE
  match q : rdF t (wdW k) (h + 1) [] with
  | (h2, none) =>
    rw [q] at e1
    rw [e1]
    show (h2, none) = ((rdL t (wdK k) (false, h2)).1.2, if (rdL t (wdK k) (false, h2)).1.1 = true then _ else none)
    rw [rdL_f, if_neg (show ¬ (false, h2).1 = true from Bool.false_ne_true)]
  | (h2, some b) =>
    rw [q] at e1 po
    rw [e1]
    have hb := (po.2.2 b rfl).2.1
    rw [f.2.2.1] at hb
    match b, hb with
    | [], _ => exact rdL_rdF w (wdK k) h2 [] f.2.2.2.2.2.2 po.2.1
theorem kgW_n1 (I : kgM) {k a : Nat} (j : Nat) (x : Int32) {b : Nat} (h : a ≠ k) : kgW I k j x a b = I a b := by rw [kgW_n _ _ _ h]
/-- while the n'th order is read: frame, text, state, and what is written -/
def orM (t : Nat → Nat) (L : Nat) (I : kgM) (n : Nat) (e : Bool × Nat) (vs : List Int32) (J : kgM) : Prop :=
  (∀ c, c ≠ 177 → c ≠ 182 → J c = I c) ∧ (∀ x, x ≠ 8 → x ≠ 9 → x ≠ 11 → J 177 x = I 177 x) ∧ (∀ x, (x < 4 * n ∨ 4 * n + 4 ≤ x) → J 182 x = I 182 x) ∧ TxM t L J ∧ Sta e J ∧ e.2 ≤ L ∧ J 177 11 = nI (n + 1) ∧ ∀ i, i < vs.length → J 182 (4 * n + i) = vs.getD i 0
theorem Sta.same {e : Bool × Nat} {J K : kgM} (h : Sta e J) (h1 : K 177 8 = J 177 8) (h2 : K 177 9 = J 177 9) : Sta e K := by
  match e, h with
  | (true, h0), h => exact ⟨h1.trans h.1, h2.trans h.2⟩
  | (false, f), h => exact h2.trans h
theorem orM.nm {t : Nat → Nat} {L : Nat} {I J K : kgM} {n : Nat} {e e2 : Bool × Nat} {vs : List Int32} (h : orM t L I n e vs J) (g : nmM J K) (s : Sta e2 K) (hl : e2.2 ≤ L) : orM t L I n e2 vs K :=
  ⟨fun c a b => by rw [g.1 c a]; exact h.1 c a b, fun x a b c => by rw [g.2 x a b]; exact h.2.1 x a b c, fun x a => by rw [g.1 182 (by omega)]; exact h.2.2.1 x a, g.tx h.2.2.2.1, s, hl, by rw [g.2 11 (by omega) (by omega)]; exact h.2.2.2.2.2.2.1, fun i hi => by rw [g.1 182 (by omega)]; exact h.2.2.2.2.2.2.2 i hi⟩
theorem orM.put {t : Nat → Nat} {L : Nat} {I J : kgM} {n m : Nat} {e : Bool × Nat} {vs : List Int32} (h : orM t L I n e vs J) (v : Int32) (hm : vs.length = m) (hm2 : m < 4) : orM t L I n e (vs ++ [v]) (kgW J 182 (4 * n + m) v) :=
  ⟨fun c a b => by rw [kgW_n _ _ _ b]; exact h.1 c a b, fun x a b c => by rw [kgW_n _ _ _ (by decide)]; exact h.2.1 x a b c, fun x a => by rw [kgW_r, if_neg (by omega)]; exact h.2.2.1 x a, ⟨by rw [kgW_n _ _ _ (by decide)]; exact h.2.2.2.1.1, fun i hi => by rw [kgW_n _ _ _ (by decide)]; exact h.2.2.2.1.2 i hi⟩, h.2.2.2.2.1.same (kgW_n1 _ _ _ (by decide)) (kgW_n1 _ _ _ (by decide)), h.2.2.2.2.2.1, by rw [kgW_n _ _ _ (by decide)]; exact h.2.2.2.2.2.2.1, fun i hi => by
    rw [List.length_append] at hi
    simp only [List.length_singleton] at hi
    rw [kgW_r]
    by_cases z : i = m
    · rw [if_pos ⟨rfl, by omega⟩, z, ← hm]; simp
    · rw [if_neg (by omega), h.2.2.2.2.2.2.2 i (by omega)]
      simp [List.getElem?_append_left (show i < vs.length by omega)]⟩
theorem or_step {t : Nat → Nat} {L : Nat} (w : TxW t L) {l : List Nat} {N : kgM → Option (Int32 × kgM)} (o : OpL t L l N) (hl : ∀ c, c ∈ l → c ≠ 0) {I J : kgM} {n m : Nat} {e : Bool × Nat} {vs : List Int32} (h : orM t L I n e vs J) (hm : vs.length = m) (hm2 : m < 4) : ∃ K, N J = some (nI (nx t l e).2, K) ∧ orM t L I n (nx t l e).1 (vs ++ [nI (nx t l e).2]) (kgW K 182 (4 * n + m) (nI (nx t l e).2)) := by
  obtain ⟨K, a, b, c⟩ := o J e h.2.2.2.1 h.2.2.2.2.2.1 h.2.2.2.2.1
  exact ⟨K, a, (h.nm c b (nx_le w hl h.2.2.2.2.2.1)).put _ hm hm2⟩
theorem m_zero4 {I : kgM} {n : Nat} (hn : n ≤ 10) (a2 : Int32) (K : kgM → Option (Int32 × kgM)) : f_X5_order_L24 (nI (4 * n)) a2 K 200 0 I = K (kgW (kgW (kgW (kgW I 182 (4 * n) 0) 182 (4 * n + 1) 0) 182 (4 * n + 2) 0) 182 (4 * n + 3) 0) := by
  have e0 : nI (4 * n) + 0 = nI (4 * n) := nI_add (4 * n) 0
  have e1 : nI (4 * n) + ((0 : Int32) + 1) = nI (4 * n + 1) := nI_add (4 * n) 1
  have e2 : nI (4 * n) + ((0 : Int32) + 1 + 1) = nI (4 * n + 2) := nI_add (4 * n) 2
  have e3 : nI (4 * n) + ((0 : Int32) + 1 + 1 + 1) = nI (4 * n + 3) := nI_add (4 * n) 3
  rw [f_X5_order_L24, if_neg (by decide), e0, ck_inb (by omega) (by omega), nI_clamp (by omega), bnd_s, bnd_s, f_X5_order_L24, if_neg (by decide), e1, ck_inb (by omega) (by omega), nI_clamp (by omega), bnd_s, bnd_s, f_X5_order_L24, if_neg (by decide), e2, ck_inb (by omega) (by omega), nI_clamp (by omega), bnd_s, bnd_s, f_X5_order_L24, if_neg (by decide), e3, ck_inb (by omega) (by omega), nI_clamp (by omega), bnd_s, bnd_s, f_X5_order_L24, if_pos (by decide)]
theorem or_begin {t : Nat → Nat} {L h n : Nat} {I : kgM} (x : TxM t L I) (hs : atM I h) (hh : h ≤ L) : orM t L I n (true, h) [] (kgW I 177 11 (nI (n + 1))) :=
  ⟨fun c a _ => kgW_n _ _ _ a, fun x a b c => by rw [kgW_r, if_neg (fun z => c z.2)], fun x _ => by rw [kgW_n _ _ _ (by decide)], ⟨by rw [kgW_r, if_neg (by omega)]; exact x.1, fun i hi => by rw [kgW_n _ _ _ (by decide)]; exact x.2 i hi⟩, ⟨by rw [kgW_r, if_neg (by omega)]; exact hs.1, by rw [kgW_r, if_neg (by omega)]; exact hs.2⟩, hh, by rw [kgW_r, if_pos ⟨rfl, rfl⟩], fun i hi => absurd hi (Nat.not_lt_zero _)⟩
theorem or_put0 {t : Nat → Nat} {L : Nat} {I J : kgM} {n m : Nat} {e : Bool × Nat} (h : orM t L I n e [] J) (v : Int32) (hm2 : m < 4) : orM t L I n e [] (kgW J 182 (4 * n + m) v) :=
  ⟨fun c a b => by rw [kgW_n _ _ _ b]; exact h.1 c a b, fun x a b c => by rw [kgW_n _ _ _ (by decide)]; exact h.2.1 x a b c, fun x a => by rw [kgW_r, if_neg (by omega)]; exact h.2.2.1 x a, ⟨by rw [kgW_n _ _ _ (by decide)]; exact h.2.2.2.1.1, fun i hi => by rw [kgW_n _ _ _ (by decide)]; exact h.2.2.2.1.2 i hi⟩, h.2.2.2.2.1.same (kgW_n1 _ _ _ (by decide)) (kgW_n1 _ _ _ (by decide)), h.2.2.2.2.2.1, by rw [kgW_n _ _ _ (by decide)]; exact h.2.2.2.2.2.2.1, fun i hi => absurd hi (Nat.not_lt_zero _)⟩
theorem or_zero {t : Nat → Nat} {L : Nat} {I J : kgM} {n : Nat} {e : Bool × Nat} (h : orM t L I n e [] J) : orM t L I n e [] (kgW (kgW (kgW (kgW J 182 (4 * n) 0) 182 (4 * n + 1) 0) 182 (4 * n + 2) 0) 182 (4 * n + 3) 0) :=
  or_put0 (or_put0 (or_put0 (or_put0 (m := 0) h 0 (by omega)) (m := 1) 0 (by omega)) (m := 2) 0 (by omega)) (m := 3) 0 (by omega)
section MKI
variable {t : Nat → Nat} {L h : Nat} {I : kgM}
theorem w_seq (w : TxW t L) {l1 l2 : List Nat} {N1 N2 : kgM → Option (Int32 × kgM)} (o1 : OpL t L l1 N1) (o2 : OpL t L l2 N2) (h1 : ∀ c, c ∈ l1 → c ≠ 0) {J : kgM} {e : Bool × Nat} (x : TxM t L J) (he : e.2 ≤ L) (s : Sta e J) : ∃ K1 K2 v1 v2, N1 J = some (v1, K1) ∧ N2 K1 = some (v2, K2) ∧ Sta (nx t (l1 ++ l2) e).1 K2 ∧ nmM J K2 := by
  obtain ⟨K1, a1, a2, a3⟩ := o1 J e x he s
  obtain ⟨K2, b1, b2, b3⟩ := o2 K1 (nx t l1 e).1 (a3.tx x) (nx_le w h1 he) a2
  exact ⟨K1, K2, _, _, a1, b1, by rw [nx_app]; exact b2, a3.trans b3⟩

theorem m_word0 (w : TxW t L) (x : TxM t L I) (he : h ≤ L) (hs : atM I h) (hq : ¬ t h = 102) : ∃ J, f_X5_word (nI 111) I = some (nI 110, J) ∧ Sta (nx t (wdW 0) (true, h)).1 J ∧ nmM I J := by
  have h60 := w.1
  obtain ⟨J, a1, a2, a3⟩ := (op_signs2 w (a := 119) (b := 110) (by decide) (by decide)) I (true, h) x he hs
  have a1 : f_X5_signs (119 : Int32) (110 : Int32) (0 : Int32) I = _ := a1
  refine ⟨J, ?_, a2, a3⟩
  unfold f_X5_word
  have sgc : ((if h < L then nI (t h) else -1) = (102 : Int32)) = (t h = 102) := sg_eq w (c := 102) (by omega) (by omega)
  rw [m_signAt w x hs.1 (by omega), bndC_s, if_neg (show ¬ (nI 111).toInt = 97 by decide), if_neg (show ¬ (nI 111).toInt = 102 by decide), if_neg (show ¬ (nI 111).toInt = 104 by decide), if_neg (show ¬ (nI 111).toInt = 107 by decide), if_neg (show ¬ (nI 111).toInt = 108 by decide), if_neg (show ¬ (nI 111).toInt = 109 by decide), if_neg (show ¬ (nI 111).toInt = 115 by decide), if_neg (fun z => hq (sgc.mp z)), a1, bndC_s]
  rfl
theorem m_word1 (w : TxW t L) (x : TxM t L I) (he : h ≤ L) (hs : atM I h) : ∃ J, f_X5_word (nI 107) I = some (nI 107, J) ∧ Sta (nx t (wdW 1) (true, h)).1 J ∧ nmM I J := by
  have h60 := w.1
  obtain ⟨K1, K2, v1, v2, a1, b1, a2, a3⟩ := w_seq w (op_signs3 w (a := 101) (b := 116) (c := 116) (by decide) (by decide) (by decide)) (op_signs2 w (a := 108) (b := 101) (by decide) (by decide)) (by decide) x he (e := (true, h)) hs
  have a1 : f_X5_signs (101 : Int32) (116 : Int32) (116 : Int32) I = _ := a1
  have b1 : f_X5_signs (108 : Int32) (101 : Int32) (0 : Int32) K1 = _ := b1
  refine ⟨K2, ?_, a2, a3⟩
  unfold f_X5_word
  rw [m_signAt w x hs.1 (by omega), bndC_s, if_neg (show ¬ (nI 107).toInt = 97 by decide), if_neg (show ¬ (nI 107).toInt = 102 by decide), if_neg (show ¬ (nI 107).toInt = 104 by decide), if_pos (show (nI 107).toInt = 107 by decide), a1, bndC_s, b1, bndC_s]
  rfl
theorem m_word2 (w : TxW t L) (x : TxM t L I) (he : h ≤ L) (hs : atM I h) : ∃ J, f_X5_word (nI 115) I = some (nI 115, J) ∧ Sta (nx t (wdW 2) (true, h)).1 J ∧ nmM I J := by
  have h60 := w.1
  obtain ⟨J, a1, a2, a3⟩ := (op_signs2 w (a := 101) (b := 116) (by decide) (by decide)) I (true, h) x he hs
  have a1 : f_X5_signs (101 : Int32) (116 : Int32) (0 : Int32) I = _ := a1
  refine ⟨J, ?_, a2, a3⟩
  unfold f_X5_word
  rw [m_signAt w x hs.1 (by omega), bndC_s, if_neg (show ¬ (nI 115).toInt = 97 by decide), if_neg (show ¬ (nI 115).toInt = 102 by decide), if_neg (show ¬ (nI 115).toInt = 104 by decide), if_neg (show ¬ (nI 115).toInt = 107 by decide), if_neg (show ¬ (nI 115).toInt = 108 by decide), if_neg (show ¬ (nI 115).toInt = 109 by decide), if_pos (show (nI 115).toInt = 115 by decide), a1, bndC_s]
  rfl
theorem m_word3 (w : TxW t L) (x : TxM t L I) (he : h ≤ L) (hs : atM I h) (hq : t h = 102) : ∃ J, f_X5_word (nI 111) I = some (nI 116, J) ∧ Sta (nx t (wdW 3) (true, h)).1 J ∧ nmM I J := by
  have h60 := w.1
  obtain ⟨J, a1, a2, a3⟩ := (op_signs2 w (a := 102) (b := 102) (by decide) (by decide)) I (true, h) x he hs
  have a1 : f_X5_signs (102 : Int32) (102 : Int32) (0 : Int32) I = _ := a1
  refine ⟨J, ?_, a2, a3⟩
  unfold f_X5_word
  have sgc : ((if h < L then nI (t h) else -1) = (102 : Int32)) = (t h = 102) := sg_eq w (c := 102) (by omega) (by omega)
  rw [m_signAt w x hs.1 (by omega), bndC_s, if_neg (show ¬ (nI 111).toInt = 97 by decide), if_neg (show ¬ (nI 111).toInt = 102 by decide), if_neg (show ¬ (nI 111).toInt = 104 by decide), if_neg (show ¬ (nI 111).toInt = 107 by decide), if_neg (show ¬ (nI 111).toInt = 108 by decide), if_neg (show ¬ (nI 111).toInt = 109 by decide), if_neg (show ¬ (nI 111).toInt = 115 by decide), if_pos (sgc.mpr hq), a1, bndC_s]
  rfl
theorem m_word4 (w : TxW t L) (x : TxM t L I) (he : h ≤ L) (hs : atM I h) : ∃ J, f_X5_word (nI 104) I = some (nI 104, J) ∧ Sta (nx t (wdW 4) (true, h)).1 J ∧ nmM I J := by
  have h60 := w.1
  obtain ⟨J, a1, a2, a3⟩ := (op_signs3 w (a := 101) (b := 97) (c := 116) (by decide) (by decide) (by decide)) I (true, h) x he hs
  have a1 : f_X5_signs (101 : Int32) (97 : Int32) (116 : Int32) I = _ := a1
  refine ⟨J, ?_, a2, a3⟩
  unfold f_X5_word
  rw [m_signAt w x hs.1 (by omega), bndC_s, if_neg (show ¬ (nI 104).toInt = 97 by decide), if_neg (show ¬ (nI 104).toInt = 102 by decide), if_pos (show (nI 104).toInt = 104 by decide), a1, bndC_s]
  rfl
theorem m_word5 (w : TxW t L) (x : TxM t L I) (he : h ≤ L) (hs : atM I h) : ∃ J, f_X5_word (nI 102) I = some (nI 102, J) ∧ Sta (nx t (wdW 5) (true, h)).1 J ∧ nmM I J := by
  have h60 := w.1
  obtain ⟨J, a1, a2, a3⟩ := (op_signs3 w (a := 105) (b := 108) (c := 108) (by decide) (by decide) (by decide)) I (true, h) x he hs
  have a1 : f_X5_signs (105 : Int32) (108 : Int32) (108 : Int32) I = _ := a1
  refine ⟨J, ?_, a2, a3⟩
  unfold f_X5_word
  rw [m_signAt w x hs.1 (by omega), bndC_s, if_neg (show ¬ (nI 102).toInt = 97 by decide), if_pos (show (nI 102).toInt = 102 by decide), a1, bndC_s]
  rfl
theorem m_word6 (w : TxW t L) (x : TxM t L I) (he : h ≤ L) (hs : atM I h) : ∃ J, f_X5_word (nI 108) I = some (nI 108, J) ∧ Sta (nx t (wdW 6) (true, h)).1 J ∧ nmM I J := by
  have h60 := w.1
  obtain ⟨J, a1, a2, a3⟩ := (op_signs2 w (a := 105) (b := 100) (by decide) (by decide)) I (true, h) x he hs
  have a1 : f_X5_signs (105 : Int32) (100 : Int32) (0 : Int32) I = _ := a1
  refine ⟨J, ?_, a2, a3⟩
  unfold f_X5_word
  rw [m_signAt w x hs.1 (by omega), bndC_s, if_neg (show ¬ (nI 108).toInt = 97 by decide), if_neg (show ¬ (nI 108).toInt = 102 by decide), if_neg (show ¬ (nI 108).toInt = 104 by decide), if_neg (show ¬ (nI 108).toInt = 107 by decide), if_pos (show (nI 108).toInt = 108 by decide), a1, bndC_s]
  rfl
theorem m_word7 (w : TxW t L) (x : TxM t L I) (he : h ≤ L) (hs : atM I h) : ∃ J, f_X5_word (nI 97) I = some (nI 97, J) ∧ Sta (nx t (wdW 7) (true, h)).1 J ∧ nmM I J := by
  have h60 := w.1
  obtain ⟨K1, K2, v1, v2, a1, b1, a2, a3⟩ := w_seq w (op_signs3 w (a := 112) (b := 112) (c := 101) (by decide) (by decide) (by decide)) (op_signs2 w (a := 97) (b := 108) (by decide) (by decide)) (by decide) x he (e := (true, h)) hs
  have a1 : f_X5_signs (112 : Int32) (112 : Int32) (101 : Int32) I = _ := a1
  have b1 : f_X5_signs (97 : Int32) (108 : Int32) (0 : Int32) K1 = _ := b1
  refine ⟨K2, ?_, a2, a3⟩
  unfold f_X5_word
  rw [m_signAt w x hs.1 (by omega), bndC_s, if_pos (show (nI 97).toInt = 97 by decide), a1, bndC_s, b1, bndC_s]
  rfl
theorem m_word8 (w : TxW t L) (x : TxM t L I) (he : h ≤ L) (hs : atM I h) : ∃ J, f_X5_word (nI 109) I = some (nI 109, J) ∧ Sta (nx t (wdW 8) (true, h)).1 J ∧ nmM I J := by
  have h60 := w.1
  obtain ⟨K1, K2, v1, v2, a1, b1, a2, a3⟩ := w_seq w (op_signs3 w (a := 105) (b := 110) (c := 117) (by decide) (by decide) (by decide)) (op_signs2 w (a := 116) (b := 101) (by decide) (by decide)) (by decide) x he (e := (true, h)) hs
  have a1 : f_X5_signs (105 : Int32) (110 : Int32) (117 : Int32) I = _ := a1
  have b1 : f_X5_signs (116 : Int32) (101 : Int32) (0 : Int32) K1 = _ := b1
  refine ⟨K2, ?_, a2, a3⟩
  unfold f_X5_word
  rw [m_signAt w x hs.1 (by omega), bndC_s, if_neg (show ¬ (nI 109).toInt = 97 by decide), if_neg (show ¬ (nI 109).toInt = 102 by decide), if_neg (show ¬ (nI 109).toInt = 104 by decide), if_neg (show ¬ (nI 109).toInt = 107 by decide), if_neg (show ¬ (nI 109).toInt = 108 by decide), if_pos (show (nI 109).toInt = 109 by decide), a1, bndC_s, b1, bndC_s]
  rfl
theorem m_kind0 (w : TxW t L) {n : Nat} (hn : n ≤ 10) (x : TxM t L I) (h11 : I 177 11 = nI n) (hs : atM I h) (hh : h ≤ L) (hc : t h = 111) (hq : ¬ t (h + 1) = 102) : ∃ J, f_X5_order I = some (0, J) ∧ orM t L I n (wdE t 0 h).1 (nI (wdL 0) :: (wdE t 0 h).2.map nI) J := by
  have h60 := w.1
  have hlt := ne_lt w (by omega) hc
  have e4 : (4 : Int32) * nI n = nI (4 * n) := nI_mul 4 n
  unfold f_X5_order
  rw [h11, e4, bnd_s, nI_1, bnd_s]
  have o1 : orM t L I n (true, h) [] (kgW I 177 11 (nI (n + 1))) := or_begin x hs hh
  generalize kgW I 177 11 (nI (n + 1)) = I1 at o1
  rw [m_signAt w o1.2.2.2.1 o1.2.2.2.2.1.1 (by omega), bndC_s, if_pos hlt, hc, m_zero4 hn]
  have o4 := or_zero o1
  generalize kgW (kgW (kgW (kgW I1 182 (4 * n) 0) 182 (4 * n + 1) 0) 182 (4 * n + 2) 0) 182 (4 * n + 3) 0 = I4 at o4
  have s4 : atM I4 h := o4.2.2.2.2.1
  rw [letJ_s, if_pos (show nI 111 = (111 : Int32) from rfl), s4.1, nI_1, bnd_s]
  have o5 : orM t L I n (true, h + 1) [] (kgW I4 177 8 (nI (h + 1))) := o4.nm (nmM.w8 _) s4.w8 (by show h + 1 ≤ L; omega)
  generalize kgW I4 177 8 (nI (h + 1)) = I5 at o5
  obtain ⟨J6, a1, a2, a3⟩ := m_word0 w o5.2.2.2.1 o5.2.2.2.2.2.1 o5.2.2.2.2.1 hq
  have o6 := (o5.nm a3 a2 (nx_le w (wd_form 0 (by omega)).2.2.2.2.2.1 o5.2.2.2.2.2.1)).put (nI 110) (m := 0) rfl (by omega)
  rw [a1, bndC_s, ck_inb (by omega) (by omega), nI_clamp (by omega), bnd_s]
  generalize kgW J6 182 (4 * n + 0) (nI 110) = I7 at o6
  obtain ⟨K1, b1, o7⟩ := or_step w (op_number w (p := 1) (Or.inl rfl)) (l := [32, 35]) (by decide) o6 (m := 1) rfl (by omega)
  have b1 : f_X5_number (1 : Int32) _ = _ := b1
  rw [b1, bndC_s, show nI (4 * n) + (1 : Int32) = nI (4 * n + 1) from nI_add (4 * n) 1, ck_inb (by omega) (by omega), nI_clamp (by omega), bnd_s]
  generalize kgW K1 182 (4 * n + 1) _ = I9 at o7
  obtain ⟨K2, b2, o8⟩ := or_step w (op_number w (p := 2) (Or.inr rfl)) (l := [32, 37]) (by decide) o7 (m := 2) rfl (by omega)
  have b2 : f_X5_number (2 : Int32) _ = _ := b2
  rw [if_neg (show ¬ nI 110 = (116 : Int32) by decide), if_neg (show ¬ nI 110 = (109 : Int32) by decide), letJ_s, if_neg (show ¬ nI 110 = (108 : Int32) by decide), if_pos (show nI 110 = (110 : Int32) from rfl), b2, bndC_s]
  dsimp only
  rw [show nI (4 * n) + (2 : Int32) = nI (4 * n + 2) from nI_add (4 * n) 2, ck_inb (by omega) (by omega), nI_clamp (by omega), bnd_s]
  generalize kgW K2 182 (4 * n + 2) _ = I10 at o8
  rw [if_neg (show ¬ nI 110 = (107 : Int32) by decide)]
  exact ⟨I10, rfl, o8⟩
theorem m_kind1 (w : TxW t L) {n : Nat} (hn : n ≤ 10) (x : TxM t L I) (h11 : I 177 11 = nI n) (hs : atM I h) (hh : h ≤ L) (hc : t h = 107) : ∃ J, f_X5_order I = some (0, J) ∧ orM t L I n (wdE t 1 h).1 (nI (wdL 1) :: (wdE t 1 h).2.map nI) J := by
  have h60 := w.1
  have hlt := ne_lt w (by omega) hc
  have e4 : (4 : Int32) * nI n = nI (4 * n) := nI_mul 4 n
  unfold f_X5_order
  rw [h11, e4, bnd_s, nI_1, bnd_s]
  have o1 : orM t L I n (true, h) [] (kgW I 177 11 (nI (n + 1))) := or_begin x hs hh
  generalize kgW I 177 11 (nI (n + 1)) = I1 at o1
  rw [m_signAt w o1.2.2.2.1 o1.2.2.2.2.1.1 (by omega), bndC_s, if_pos hlt, hc, m_zero4 hn]
  have o4 := or_zero o1
  generalize kgW (kgW (kgW (kgW I1 182 (4 * n) 0) 182 (4 * n + 1) 0) 182 (4 * n + 2) 0) 182 (4 * n + 3) 0 = I4 at o4
  have s4 : atM I4 h := o4.2.2.2.2.1
  rw [letJ_s, if_neg (show ¬ nI 107 = (111 : Int32) by decide), if_pos (show nI 107 = (107 : Int32) from rfl), s4.1, nI_1, bnd_s]
  have o5 : orM t L I n (true, h + 1) [] (kgW I4 177 8 (nI (h + 1))) := o4.nm (nmM.w8 _) s4.w8 (by show h + 1 ≤ L; omega)
  generalize kgW I4 177 8 (nI (h + 1)) = I5 at o5
  obtain ⟨J6, a1, a2, a3⟩ := m_word1 w o5.2.2.2.1 o5.2.2.2.2.2.1 o5.2.2.2.2.1
  have o6 := (o5.nm a3 a2 (nx_le w (wd_form 1 (by omega)).2.2.2.2.2.1 o5.2.2.2.2.2.1)).put (nI 107) (m := 0) rfl (by omega)
  rw [a1, bndC_s, ck_inb (by omega) (by omega), nI_clamp (by omega), bnd_s]
  generalize kgW J6 182 (4 * n + 0) (nI 107) = I7 at o6
  obtain ⟨K1, b1, o7⟩ := or_step w (op_number w (p := 1) (Or.inl rfl)) (l := [32, 35]) (by decide) o6 (m := 1) rfl (by omega)
  have b1 : f_X5_number (1 : Int32) _ = _ := b1
  rw [b1, bndC_s, show nI (4 * n) + (1 : Int32) = nI (4 * n + 1) from nI_add (4 * n) 1, ck_inb (by omega) (by omega), nI_clamp (by omega), bnd_s]
  generalize kgW K1 182 (4 * n + 1) _ = I9 at o7
  obtain ⟨K2, b2, o8⟩ := or_step w (op_number w (p := 2) (Or.inr rfl)) (l := [32, 37]) (by decide) o7 (m := 2) rfl (by omega)
  have b2 : f_X5_number (2 : Int32) _ = _ := b2
  rw [if_neg (show ¬ nI 107 = (116 : Int32) by decide), if_neg (show ¬ nI 107 = (109 : Int32) by decide), letJ_s, if_neg (show ¬ nI 107 = (108 : Int32) by decide), if_neg (show ¬ nI 107 = (110 : Int32) by decide), if_pos (show nI 107 = (107 : Int32) from rfl), b2, bndC_s]
  dsimp only
  rw [show nI (4 * n) + (2 : Int32) = nI (4 * n + 2) from nI_add (4 * n) 2, ck_inb (by omega) (by omega), nI_clamp (by omega), bnd_s]
  generalize kgW K2 182 (4 * n + 2) _ = I10 at o8
  obtain ⟨K3, b3, o9⟩ := or_step w (op_number w (p := 2) (Or.inr rfl)) (l := [32, 37]) (by decide) o8 (m := 3) rfl (by omega)
  have b3 : f_X5_number (2 : Int32) _ = _ := b3
  rw [if_pos (show nI 107 = (107 : Int32) from rfl), b3, bndC_s, show nI (4 * n) + (3 : Int32) = nI (4 * n + 3) from nI_add (4 * n) 3, ck_inb (by omega) (by omega), nI_clamp (by omega), bnd_s]
  exact ⟨_, rfl, o9⟩
theorem m_kind2 (w : TxW t L) {n : Nat} (hn : n ≤ 10) (x : TxM t L I) (h11 : I 177 11 = nI n) (hs : atM I h) (hh : h ≤ L) (hc : t h = 115) : ∃ J, f_X5_order I = some (0, J) ∧ orM t L I n (wdE t 2 h).1 (nI (wdL 2) :: (wdE t 2 h).2.map nI) J := by
  have h60 := w.1
  have hlt := ne_lt w (by omega) hc
  have e4 : (4 : Int32) * nI n = nI (4 * n) := nI_mul 4 n
  unfold f_X5_order
  rw [h11, e4, bnd_s, nI_1, bnd_s]
  have o1 : orM t L I n (true, h) [] (kgW I 177 11 (nI (n + 1))) := or_begin x hs hh
  generalize kgW I 177 11 (nI (n + 1)) = I1 at o1
  rw [m_signAt w o1.2.2.2.1 o1.2.2.2.2.1.1 (by omega), bndC_s, if_pos hlt, hc, m_zero4 hn]
  have o4 := or_zero o1
  generalize kgW (kgW (kgW (kgW I1 182 (4 * n) 0) 182 (4 * n + 1) 0) 182 (4 * n + 2) 0) 182 (4 * n + 3) 0 = I4 at o4
  have s4 : atM I4 h := o4.2.2.2.2.1
  rw [letJ_s, if_neg (show ¬ nI 115 = (111 : Int32) by decide), if_neg (show ¬ nI 115 = (107 : Int32) by decide), if_pos (show nI 115 = (115 : Int32) from rfl), s4.1, nI_1, bnd_s]
  have o5 : orM t L I n (true, h + 1) [] (kgW I4 177 8 (nI (h + 1))) := o4.nm (nmM.w8 _) s4.w8 (by show h + 1 ≤ L; omega)
  generalize kgW I4 177 8 (nI (h + 1)) = I5 at o5
  obtain ⟨J6, a1, a2, a3⟩ := m_word2 w o5.2.2.2.1 o5.2.2.2.2.2.1 o5.2.2.2.2.1
  have o6 := (o5.nm a3 a2 (nx_le w (wd_form 2 (by omega)).2.2.2.2.2.1 o5.2.2.2.2.2.1)).put (nI 115) (m := 0) rfl (by omega)
  rw [a1, bndC_s, ck_inb (by omega) (by omega), nI_clamp (by omega), bnd_s]
  generalize kgW J6 182 (4 * n + 0) (nI 115) = I7 at o6
  obtain ⟨K1, b1, o7⟩ := or_step w (op_number w (p := 1) (Or.inl rfl)) (l := [32, 35]) (by decide) o6 (m := 1) rfl (by omega)
  have b1 : f_X5_number (1 : Int32) _ = _ := b1
  rw [b1, bndC_s, show nI (4 * n) + (1 : Int32) = nI (4 * n + 1) from nI_add (4 * n) 1, ck_inb (by omega) (by omega), nI_clamp (by omega), bnd_s]
  generalize kgW K1 182 (4 * n + 1) _ = I9 at o7
  obtain ⟨K2, b2, o8⟩ := or_step w (op_number w (p := 1) (Or.inl rfl)) (l := [32, 35]) (by decide) o7 (m := 2) rfl (by omega)
  have b2 : f_X5_number (1 : Int32) _ = _ := b2
  rw [if_neg (show ¬ nI 115 = (116 : Int32) by decide), if_neg (show ¬ nI 115 = (109 : Int32) by decide), letJ_s, if_neg (show ¬ nI 115 = (108 : Int32) by decide), if_neg (show ¬ nI 115 = (110 : Int32) by decide), if_neg (show ¬ nI 115 = (107 : Int32) by decide), if_neg (show ¬ nI 115 = (102 : Int32) by decide), b2, bndC_s]
  dsimp only
  rw [show nI (4 * n) + (2 : Int32) = nI (4 * n + 2) from nI_add (4 * n) 2, ck_inb (by omega) (by omega), nI_clamp (by omega), bnd_s]
  generalize kgW K2 182 (4 * n + 2) _ = I10 at o8
  rw [if_neg (show ¬ nI 115 = (107 : Int32) by decide)]
  exact ⟨I10, rfl, o8⟩
theorem m_kind3 (w : TxW t L) {n : Nat} (hn : n ≤ 10) (x : TxM t L I) (h11 : I 177 11 = nI n) (hs : atM I h) (hh : h ≤ L) (hc : t h = 111) (hq : t (h + 1) = 102) : ∃ J, f_X5_order I = some (0, J) ∧ orM t L I n (wdE t 3 h).1 (nI (wdL 3) :: (wdE t 3 h).2.map nI) J := by
  have h60 := w.1
  have hlt := ne_lt w (by omega) hc
  have e4 : (4 : Int32) * nI n = nI (4 * n) := nI_mul 4 n
  unfold f_X5_order
  rw [h11, e4, bnd_s, nI_1, bnd_s]
  have o1 : orM t L I n (true, h) [] (kgW I 177 11 (nI (n + 1))) := or_begin x hs hh
  generalize kgW I 177 11 (nI (n + 1)) = I1 at o1
  rw [m_signAt w o1.2.2.2.1 o1.2.2.2.2.1.1 (by omega), bndC_s, if_pos hlt, hc, m_zero4 hn]
  have o4 := or_zero o1
  generalize kgW (kgW (kgW (kgW I1 182 (4 * n) 0) 182 (4 * n + 1) 0) 182 (4 * n + 2) 0) 182 (4 * n + 3) 0 = I4 at o4
  have s4 : atM I4 h := o4.2.2.2.2.1
  rw [letJ_s, if_pos (show nI 111 = (111 : Int32) from rfl), s4.1, nI_1, bnd_s]
  have o5 : orM t L I n (true, h + 1) [] (kgW I4 177 8 (nI (h + 1))) := o4.nm (nmM.w8 _) s4.w8 (by show h + 1 ≤ L; omega)
  generalize kgW I4 177 8 (nI (h + 1)) = I5 at o5
  obtain ⟨J6, a1, a2, a3⟩ := m_word3 w o5.2.2.2.1 o5.2.2.2.2.2.1 o5.2.2.2.2.1 hq
  have o6 := (o5.nm a3 a2 (nx_le w (wd_form 3 (by omega)).2.2.2.2.2.1 o5.2.2.2.2.2.1)).put (nI 116) (m := 0) rfl (by omega)
  rw [a1, bndC_s, ck_inb (by omega) (by omega), nI_clamp (by omega), bnd_s]
  generalize kgW J6 182 (4 * n + 0) (nI 116) = I7 at o6
  obtain ⟨K1, b1, o7⟩ := or_step w (op_number w (p := 1) (Or.inl rfl)) (l := [32, 35]) (by decide) o6 (m := 1) rfl (by omega)
  have b1 : f_X5_number (1 : Int32) _ = _ := b1
  rw [b1, bndC_s, show nI (4 * n) + (1 : Int32) = nI (4 * n + 1) from nI_add (4 * n) 1, ck_inb (by omega) (by omega), nI_clamp (by omega), bnd_s]
  generalize kgW K1 182 (4 * n + 1) _ = I9 at o7
  rw [if_pos (show nI 116 = (116 : Int32) from rfl)]
  exact ⟨I9, rfl, o7⟩
theorem m_kind4 (w : TxW t L) {n : Nat} (hn : n ≤ 10) (x : TxM t L I) (h11 : I 177 11 = nI n) (hs : atM I h) (hh : h ≤ L) (hc : t h = 104) : ∃ J, f_X5_order I = some (0, J) ∧ orM t L I n (wdE t 4 h).1 (nI (wdL 4) :: (wdE t 4 h).2.map nI) J := by
  have h60 := w.1
  have hlt := ne_lt w (by omega) hc
  have e4 : (4 : Int32) * nI n = nI (4 * n) := nI_mul 4 n
  unfold f_X5_order
  rw [h11, e4, bnd_s, nI_1, bnd_s]
  have o1 : orM t L I n (true, h) [] (kgW I 177 11 (nI (n + 1))) := or_begin x hs hh
  generalize kgW I 177 11 (nI (n + 1)) = I1 at o1
  rw [m_signAt w o1.2.2.2.1 o1.2.2.2.2.1.1 (by omega), bndC_s, if_pos hlt, hc, m_zero4 hn]
  have o4 := or_zero o1
  generalize kgW (kgW (kgW (kgW I1 182 (4 * n) 0) 182 (4 * n + 1) 0) 182 (4 * n + 2) 0) 182 (4 * n + 3) 0 = I4 at o4
  have s4 : atM I4 h := o4.2.2.2.2.1
  rw [letJ_s, if_neg (show ¬ nI 104 = (111 : Int32) by decide), if_neg (show ¬ nI 104 = (107 : Int32) by decide), if_neg (show ¬ nI 104 = (115 : Int32) by decide), if_pos (show nI 104 = (104 : Int32) from rfl), s4.1, nI_1, bnd_s]
  have o5 : orM t L I n (true, h + 1) [] (kgW I4 177 8 (nI (h + 1))) := o4.nm (nmM.w8 _) s4.w8 (by show h + 1 ≤ L; omega)
  generalize kgW I4 177 8 (nI (h + 1)) = I5 at o5
  obtain ⟨J6, a1, a2, a3⟩ := m_word4 w o5.2.2.2.1 o5.2.2.2.2.2.1 o5.2.2.2.2.1
  have o6 := (o5.nm a3 a2 (nx_le w (wd_form 4 (by omega)).2.2.2.2.2.1 o5.2.2.2.2.2.1)).put (nI 104) (m := 0) rfl (by omega)
  rw [a1, bndC_s, ck_inb (by omega) (by omega), nI_clamp (by omega), bnd_s]
  generalize kgW J6 182 (4 * n + 0) (nI 104) = I7 at o6
  obtain ⟨K1, b1, o7⟩ := or_step w (op_number w (p := 1) (Or.inl rfl)) (l := [32, 35]) (by decide) o6 (m := 1) rfl (by omega)
  have b1 : f_X5_number (1 : Int32) _ = _ := b1
  rw [b1, bndC_s, show nI (4 * n) + (1 : Int32) = nI (4 * n + 1) from nI_add (4 * n) 1, ck_inb (by omega) (by omega), nI_clamp (by omega), bnd_s]
  generalize kgW K1 182 (4 * n + 1) _ = I9 at o7
  obtain ⟨K2, b2, o8⟩ := or_step w (op_number w (p := 1) (Or.inl rfl)) (l := [32, 35]) (by decide) o7 (m := 2) rfl (by omega)
  have b2 : f_X5_number (1 : Int32) _ = _ := b2
  rw [if_neg (show ¬ nI 104 = (116 : Int32) by decide), if_neg (show ¬ nI 104 = (109 : Int32) by decide), letJ_s, if_neg (show ¬ nI 104 = (108 : Int32) by decide), if_neg (show ¬ nI 104 = (110 : Int32) by decide), if_neg (show ¬ nI 104 = (107 : Int32) by decide), if_neg (show ¬ nI 104 = (102 : Int32) by decide), b2, bndC_s]
  dsimp only
  rw [show nI (4 * n) + (2 : Int32) = nI (4 * n + 2) from nI_add (4 * n) 2, ck_inb (by omega) (by omega), nI_clamp (by omega), bnd_s]
  generalize kgW K2 182 (4 * n + 2) _ = I10 at o8
  rw [if_neg (show ¬ nI 104 = (107 : Int32) by decide)]
  exact ⟨I10, rfl, o8⟩
theorem m_kind5 (w : TxW t L) {n : Nat} (hn : n ≤ 10) (x : TxM t L I) (h11 : I 177 11 = nI n) (hs : atM I h) (hh : h ≤ L) (hc : t h = 102) : ∃ J, f_X5_order I = some (0, J) ∧ orM t L I n (wdE t 5 h).1 (nI (wdL 5) :: (wdE t 5 h).2.map nI) J := by
  have h60 := w.1
  have hlt := ne_lt w (by omega) hc
  have e4 : (4 : Int32) * nI n = nI (4 * n) := nI_mul 4 n
  unfold f_X5_order
  rw [h11, e4, bnd_s, nI_1, bnd_s]
  have o1 : orM t L I n (true, h) [] (kgW I 177 11 (nI (n + 1))) := or_begin x hs hh
  generalize kgW I 177 11 (nI (n + 1)) = I1 at o1
  rw [m_signAt w o1.2.2.2.1 o1.2.2.2.2.1.1 (by omega), bndC_s, if_pos hlt, hc, m_zero4 hn]
  have o4 := or_zero o1
  generalize kgW (kgW (kgW (kgW I1 182 (4 * n) 0) 182 (4 * n + 1) 0) 182 (4 * n + 2) 0) 182 (4 * n + 3) 0 = I4 at o4
  have s4 : atM I4 h := o4.2.2.2.2.1
  rw [letJ_s, if_neg (show ¬ nI 102 = (111 : Int32) by decide), if_neg (show ¬ nI 102 = (107 : Int32) by decide), if_neg (show ¬ nI 102 = (115 : Int32) by decide), if_neg (show ¬ nI 102 = (104 : Int32) by decide), if_pos (show nI 102 = (102 : Int32) from rfl), s4.1, nI_1, bnd_s]
  have o5 : orM t L I n (true, h + 1) [] (kgW I4 177 8 (nI (h + 1))) := o4.nm (nmM.w8 _) s4.w8 (by show h + 1 ≤ L; omega)
  generalize kgW I4 177 8 (nI (h + 1)) = I5 at o5
  obtain ⟨J6, a1, a2, a3⟩ := m_word5 w o5.2.2.2.1 o5.2.2.2.2.2.1 o5.2.2.2.2.1
  have o6 := (o5.nm a3 a2 (nx_le w (wd_form 5 (by omega)).2.2.2.2.2.1 o5.2.2.2.2.2.1)).put (nI 102) (m := 0) rfl (by omega)
  rw [a1, bndC_s, ck_inb (by omega) (by omega), nI_clamp (by omega), bnd_s]
  generalize kgW J6 182 (4 * n + 0) (nI 102) = I7 at o6
  obtain ⟨K1, b1, o7⟩ := or_step w (op_number w (p := 1) (Or.inl rfl)) (l := [32, 35]) (by decide) o6 (m := 1) rfl (by omega)
  have b1 : f_X5_number (1 : Int32) _ = _ := b1
  rw [b1, bndC_s, show nI (4 * n) + (1 : Int32) = nI (4 * n + 1) from nI_add (4 * n) 1, ck_inb (by omega) (by omega), nI_clamp (by omega), bnd_s]
  generalize kgW K1 182 (4 * n + 1) _ = I9 at o7
  obtain ⟨K2, b2, o8⟩ := or_step w (op_number w (p := 2) (Or.inr rfl)) (l := [32, 37]) (by decide) o7 (m := 2) rfl (by omega)
  have b2 : f_X5_number (2 : Int32) _ = _ := b2
  rw [if_neg (show ¬ nI 102 = (116 : Int32) by decide), if_neg (show ¬ nI 102 = (109 : Int32) by decide), letJ_s, if_neg (show ¬ nI 102 = (108 : Int32) by decide), if_neg (show ¬ nI 102 = (110 : Int32) by decide), if_neg (show ¬ nI 102 = (107 : Int32) by decide), if_pos (show nI 102 = (102 : Int32) from rfl), b2, bndC_s]
  dsimp only
  rw [show nI (4 * n) + (2 : Int32) = nI (4 * n + 2) from nI_add (4 * n) 2, ck_inb (by omega) (by omega), nI_clamp (by omega), bnd_s]
  generalize kgW K2 182 (4 * n + 2) _ = I10 at o8
  rw [if_neg (show ¬ nI 102 = (107 : Int32) by decide)]
  exact ⟨I10, rfl, o8⟩
theorem m_kind6 (w : TxW t L) {n : Nat} (hn : n ≤ 10) (x : TxM t L I) (h11 : I 177 11 = nI n) (hs : atM I h) (hh : h ≤ L) (hc : t h = 108) : ∃ J, f_X5_order I = some (0, J) ∧ orM t L I n (wdE t 6 h).1 (nI (wdL 6) :: (wdE t 6 h).2.map nI) J := by
  have h60 := w.1
  have hlt := ne_lt w (by omega) hc
  have e4 : (4 : Int32) * nI n = nI (4 * n) := nI_mul 4 n
  unfold f_X5_order
  rw [h11, e4, bnd_s, nI_1, bnd_s]
  have o1 : orM t L I n (true, h) [] (kgW I 177 11 (nI (n + 1))) := or_begin x hs hh
  generalize kgW I 177 11 (nI (n + 1)) = I1 at o1
  rw [m_signAt w o1.2.2.2.1 o1.2.2.2.2.1.1 (by omega), bndC_s, if_pos hlt, hc, m_zero4 hn]
  have o4 := or_zero o1
  generalize kgW (kgW (kgW (kgW I1 182 (4 * n) 0) 182 (4 * n + 1) 0) 182 (4 * n + 2) 0) 182 (4 * n + 3) 0 = I4 at o4
  have s4 : atM I4 h := o4.2.2.2.2.1
  rw [letJ_s, if_neg (show ¬ nI 108 = (111 : Int32) by decide), if_neg (show ¬ nI 108 = (107 : Int32) by decide), if_neg (show ¬ nI 108 = (115 : Int32) by decide), if_neg (show ¬ nI 108 = (104 : Int32) by decide), if_neg (show ¬ nI 108 = (102 : Int32) by decide), if_pos (show nI 108 = (108 : Int32) from rfl), s4.1, nI_1, bnd_s]
  have o5 : orM t L I n (true, h + 1) [] (kgW I4 177 8 (nI (h + 1))) := o4.nm (nmM.w8 _) s4.w8 (by show h + 1 ≤ L; omega)
  generalize kgW I4 177 8 (nI (h + 1)) = I5 at o5
  obtain ⟨J6, a1, a2, a3⟩ := m_word6 w o5.2.2.2.1 o5.2.2.2.2.2.1 o5.2.2.2.2.1
  have o6 := (o5.nm a3 a2 (nx_le w (wd_form 6 (by omega)).2.2.2.2.2.1 o5.2.2.2.2.2.1)).put (nI 108) (m := 0) rfl (by omega)
  rw [a1, bndC_s, ck_inb (by omega) (by omega), nI_clamp (by omega), bnd_s]
  generalize kgW J6 182 (4 * n + 0) (nI 108) = I7 at o6
  obtain ⟨K1, b1, o7⟩ := or_step w (op_number w (p := 1) (Or.inl rfl)) (l := [32, 35]) (by decide) o6 (m := 1) rfl (by omega)
  have b1 : f_X5_number (1 : Int32) _ = _ := b1
  rw [b1, bndC_s, show nI (4 * n) + (1 : Int32) = nI (4 * n + 1) from nI_add (4 * n) 1, ck_inb (by omega) (by omega), nI_clamp (by omega), bnd_s]
  generalize kgW K1 182 (4 * n + 1) _ = I9 at o7
  obtain ⟨K2, b2, o8⟩ := or_step w (op_pm w) (l := [63]) (by decide) o7 (m := 2) rfl (by omega)
  have b2 : f_X5_plusOrMinus _ = _ := b2
  rw [if_neg (show ¬ nI 108 = (116 : Int32) by decide), if_neg (show ¬ nI 108 = (109 : Int32) by decide), letJ_s, if_pos (show nI 108 = (108 : Int32) from rfl), b2, bndC_s]
  dsimp only
  rw [show nI (4 * n) + (2 : Int32) = nI (4 * n + 2) from nI_add (4 * n) 2, ck_inb (by omega) (by omega), nI_clamp (by omega), bnd_s]
  generalize kgW K2 182 (4 * n + 2) _ = I10 at o8
  rw [if_neg (show ¬ nI 108 = (107 : Int32) by decide)]
  exact ⟨I10, rfl, o8⟩
theorem m_kind7 (w : TxW t L) {n : Nat} (hn : n ≤ 10) (x : TxM t L I) (h11 : I 177 11 = nI n) (hs : atM I h) (hh : h ≤ L) (hc : t h = 97) : ∃ J, f_X5_order I = some (0, J) ∧ orM t L I n (wdE t 7 h).1 (nI (wdL 7) :: (wdE t 7 h).2.map nI) J := by
  have h60 := w.1
  have hlt := ne_lt w (by omega) hc
  have e4 : (4 : Int32) * nI n = nI (4 * n) := nI_mul 4 n
  unfold f_X5_order
  rw [h11, e4, bnd_s, nI_1, bnd_s]
  have o1 : orM t L I n (true, h) [] (kgW I 177 11 (nI (n + 1))) := or_begin x hs hh
  generalize kgW I 177 11 (nI (n + 1)) = I1 at o1
  rw [m_signAt w o1.2.2.2.1 o1.2.2.2.2.1.1 (by omega), bndC_s, if_pos hlt, hc, m_zero4 hn]
  have o4 := or_zero o1
  generalize kgW (kgW (kgW (kgW I1 182 (4 * n) 0) 182 (4 * n + 1) 0) 182 (4 * n + 2) 0) 182 (4 * n + 3) 0 = I4 at o4
  have s4 : atM I4 h := o4.2.2.2.2.1
  rw [letJ_s, if_neg (show ¬ nI 97 = (111 : Int32) by decide), if_neg (show ¬ nI 97 = (107 : Int32) by decide), if_neg (show ¬ nI 97 = (115 : Int32) by decide), if_neg (show ¬ nI 97 = (104 : Int32) by decide), if_neg (show ¬ nI 97 = (102 : Int32) by decide), if_neg (show ¬ nI 97 = (108 : Int32) by decide), if_pos (show nI 97 = (97 : Int32) from rfl), s4.1, nI_1, bnd_s]
  have o5 : orM t L I n (true, h + 1) [] (kgW I4 177 8 (nI (h + 1))) := o4.nm (nmM.w8 _) s4.w8 (by show h + 1 ≤ L; omega)
  generalize kgW I4 177 8 (nI (h + 1)) = I5 at o5
  obtain ⟨J6, a1, a2, a3⟩ := m_word7 w o5.2.2.2.1 o5.2.2.2.2.2.1 o5.2.2.2.2.1
  have o6 := (o5.nm a3 a2 (nx_le w (wd_form 7 (by omega)).2.2.2.2.2.1 o5.2.2.2.2.2.1)).put (nI 97) (m := 0) rfl (by omega)
  rw [a1, bndC_s, ck_inb (by omega) (by omega), nI_clamp (by omega), bnd_s]
  generalize kgW J6 182 (4 * n + 0) (nI 97) = I7 at o6
  obtain ⟨K1, b1, o7⟩ := or_step w (op_number w (p := 1) (Or.inl rfl)) (l := [32, 35]) (by decide) o6 (m := 1) rfl (by omega)
  have b1 : f_X5_number (1 : Int32) _ = _ := b1
  rw [b1, bndC_s, show nI (4 * n) + (1 : Int32) = nI (4 * n + 1) from nI_add (4 * n) 1, ck_inb (by omega) (by omega), nI_clamp (by omega), bnd_s]
  generalize kgW K1 182 (4 * n + 1) _ = I9 at o7
  obtain ⟨K2, b2, o8⟩ := or_step w (op_number w (p := 1) (Or.inl rfl)) (l := [32, 35]) (by decide) o7 (m := 2) rfl (by omega)
  have b2 : f_X5_number (1 : Int32) _ = _ := b2
  rw [if_neg (show ¬ nI 97 = (116 : Int32) by decide), if_neg (show ¬ nI 97 = (109 : Int32) by decide), letJ_s, if_neg (show ¬ nI 97 = (108 : Int32) by decide), if_neg (show ¬ nI 97 = (110 : Int32) by decide), if_neg (show ¬ nI 97 = (107 : Int32) by decide), if_neg (show ¬ nI 97 = (102 : Int32) by decide), b2, bndC_s]
  dsimp only
  rw [show nI (4 * n) + (2 : Int32) = nI (4 * n + 2) from nI_add (4 * n) 2, ck_inb (by omega) (by omega), nI_clamp (by omega), bnd_s]
  generalize kgW K2 182 (4 * n + 2) _ = I10 at o8
  rw [if_neg (show ¬ nI 97 = (107 : Int32) by decide)]
  exact ⟨I10, rfl, o8⟩
theorem m_kind8 (w : TxW t L) {n : Nat} (hn : n ≤ 10) (x : TxM t L I) (h11 : I 177 11 = nI n) (hs : atM I h) (hh : h ≤ L) (hc : t h = 109) : ∃ J, f_X5_order I = some (0, J) ∧ orM t L I n (wdE t 8 h).1 (nI (wdL 8) :: (wdE t 8 h).2.map nI) J := by
  have h60 := w.1
  have hlt := ne_lt w (by omega) hc
  have e4 : (4 : Int32) * nI n = nI (4 * n) := nI_mul 4 n
  unfold f_X5_order
  rw [h11, e4, bnd_s, nI_1, bnd_s]
  have o1 : orM t L I n (true, h) [] (kgW I 177 11 (nI (n + 1))) := or_begin x hs hh
  generalize kgW I 177 11 (nI (n + 1)) = I1 at o1
  rw [m_signAt w o1.2.2.2.1 o1.2.2.2.2.1.1 (by omega), bndC_s, if_pos hlt, hc, m_zero4 hn]
  have o4 := or_zero o1
  generalize kgW (kgW (kgW (kgW I1 182 (4 * n) 0) 182 (4 * n + 1) 0) 182 (4 * n + 2) 0) 182 (4 * n + 3) 0 = I4 at o4
  have s4 : atM I4 h := o4.2.2.2.2.1
  rw [letJ_s, if_neg (show ¬ nI 109 = (111 : Int32) by decide), if_neg (show ¬ nI 109 = (107 : Int32) by decide), if_neg (show ¬ nI 109 = (115 : Int32) by decide), if_neg (show ¬ nI 109 = (104 : Int32) by decide), if_neg (show ¬ nI 109 = (102 : Int32) by decide), if_neg (show ¬ nI 109 = (108 : Int32) by decide), if_neg (show ¬ nI 109 = (97 : Int32) by decide), if_pos (show nI 109 = (109 : Int32) from rfl), s4.1, nI_1, bnd_s]
  have o5 : orM t L I n (true, h + 1) [] (kgW I4 177 8 (nI (h + 1))) := o4.nm (nmM.w8 _) s4.w8 (by show h + 1 ≤ L; omega)
  generalize kgW I4 177 8 (nI (h + 1)) = I5 at o5
  obtain ⟨J6, a1, a2, a3⟩ := m_word8 w o5.2.2.2.1 o5.2.2.2.2.2.1 o5.2.2.2.2.1
  have o6 := (o5.nm a3 a2 (nx_le w (wd_form 8 (by omega)).2.2.2.2.2.1 o5.2.2.2.2.2.1)).put (nI 109) (m := 0) rfl (by omega)
  rw [a1, bndC_s, ck_inb (by omega) (by omega), nI_clamp (by omega), bnd_s]
  generalize kgW J6 182 (4 * n + 0) (nI 109) = I7 at o6
  obtain ⟨K1, b1, o7⟩ := or_step w (op_number w (p := 1) (Or.inl rfl)) (l := [32, 35]) (by decide) o6 (m := 1) rfl (by omega)
  have b1 : f_X5_number (1 : Int32) _ = _ := b1
  rw [b1, bndC_s, show nI (4 * n) + (1 : Int32) = nI (4 * n + 1) from nI_add (4 * n) 1, ck_inb (by omega) (by omega), nI_clamp (by omega), bnd_s]
  generalize kgW K1 182 (4 * n + 1) _ = I9 at o7
  rw [if_neg (show ¬ nI 109 = (116 : Int32) by decide), if_pos (show nI 109 = (109 : Int32) from rfl)]
  exact ⟨I9, rfl, o7⟩
end MKI
