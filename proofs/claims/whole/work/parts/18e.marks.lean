/-! THE REFERENCE READS -/
def atM (J : kgM) (h : Nat) : Prop := J 177 8 = nI h ∧ J 177 9 = -1
/-- reading stands at a place (true), or has failed at one -/
def Sta (e : Bool × Nat) (J : kgM) : Prop := match e with
  | (true, h) => atM J h
  | (false, f) => J 177 9 = nI f
def nx (t : Nat → Nat) (l : List Nat) (e : Bool × Nat) : (Bool × Nat) × Nat := match e with
  | (false, f) => ((false, f), 0)
  | (true, h) => match (rdF t l h []).2 with
    | none => ((false, (rdF t l h []).1), 0)
    | some a => ((true, (rdF t l h []).1), a.getD 0 0)
def nmM (I J : kgM) : Prop := (∀ c, c ≠ 177 → J c = I c) ∧ ∀ x, x ≠ 8 → x ≠ 9 → J 177 x = I 177 x
theorem nmM.rf {I : kgM} : nmM I I := ⟨fun _ _ => rfl, fun _ _ _ => rfl⟩
theorem nmM.trans {I J K : kgM} (h1 : nmM I J) (h2 : nmM J K) : nmM I K := ⟨fun c a => (h2.1 c a).trans (h1.1 c a), fun x a b => (h2.2 x a b).trans (h1.2 x a b)⟩
theorem nmM.tx {I J : kgM} (p : nmM I J) {t : Nat → Nat} {L : Nat} (x : TxM t L I) : TxM t L J := ⟨by rw [p.2 7 (by omega) (by omega)]; exact x.1, fun i hi => by rw [p.1 181 (by omega)]; exact x.2 i hi⟩
theorem nmM.w8 {I : kgM} (v : Int32) : nmM I (kgW I 177 8 v) := ⟨fun c hc => kgW_n _ _ _ hc, fun x h1 h2 => by rw [kgW_r, if_neg (fun z => h1 z.2)]⟩
theorem nmM.w9 {I : kgM} (v : Int32) : nmM I (kgW I 177 9 v) := ⟨fun c hc => kgW_n _ _ _ hc, fun x h1 h2 => by rw [kgW_r, if_neg (fun z => h2 z.2)]⟩
theorem atM.w8 {I : kgM} {h : Nat} (h1 : atM I h) : atM (kgW I 177 8 (nI (h + 1))) (h + 1) := ⟨by rw [kgW_r, if_pos ⟨rfl, rfl⟩], by rw [kgW_r, if_neg (by omega)]; exact h1.2⟩
theorem w9s {I : kgM} {v : Int32} : kgW I 177 9 v 177 9 = v := by rw [kgW_r, if_pos ⟨rfl, rfl⟩]
theorem rdF_1 {t : Nat → Nat} {c h : Nat} {l a : List Nat} (hc : isN c = false) : rdF t (c :: l) h a = if t h = c then rdF t l (h + 1) a else (h, none) := by
  have n3 : ¬ c = 35 ∧ ¬ c = 37 ∧ ¬ c = 63 := by
    unfold isN at hc
    simp at hc
    exact ⟨hc.1.1, hc.1.2, hc.2⟩
  have e1 : rd1 t c h = if t h = c then some (h + 1, []) else none := by
    unfold rd1; rw [if_neg n3.1, if_neg n3.2.1, if_neg n3.2.2]
  show (match rd1 t c h with | none => (h, none) | some y => rdF t l y.1 (a ++ y.2)) = _
  rw [e1]
  by_cases d : t h = c
  · rw [if_pos d, if_pos d]
    show rdF t l (h + 1) (a ++ []) = _
    rw [List.append_nil]
  · rw [if_neg d, if_neg d]
theorem rdF_acc {t : Nat → Nat} : ∀ (l : List Nat) (h : Nat) (a : List Nat), rdF t l h a = ((rdF t l h []).1, (rdF t l h []).2.map (fun b => a ++ b)) := by
  intro l
  induction l with
  | nil => intro h a; show (h, some a) = (h, some (a ++ [])); rw [List.append_nil]
  | cons c cs ih =>
    intro h a
    show (match rd1 t c h with | none => (h, none) | some y => rdF t cs y.1 (a ++ y.2)) = ((match rd1 t c h with | none => (h, none) | some y => rdF t cs y.1 ([] ++ y.2)).1, (match rd1 t c h with | none => (h, none) | some y => rdF t cs y.1 ([] ++ y.2)).2.map (fun b => a ++ b))
    cases rd1 t c h with
    | none => rfl
    | some y =>
      show rdF t cs y.1 (a ++ y.2) = ((rdF t cs y.1 ([] ++ y.2)).1, (rdF t cs y.1 ([] ++ y.2)).2.map (fun b => a ++ b))
      rw [ih y.1 (a ++ y.2), ih y.1 ([] ++ y.2), List.nil_append]
      dsimp only
      cases (rdF t cs y.1 []).2 with
      | none => rfl
      | some b => show (_, some (a ++ y.2 ++ b)) = (_, some (a ++ (y.2 ++ b))); rw [List.append_assoc]
theorem nx_app {t : Nat → Nat} {l1 l2 : List Nat} {e : Bool × Nat} : (nx t (l1 ++ l2) e).1 = (nx t l2 (nx t l1 e).1).1 := by
  match e with
  | (false, f) => rfl
  | (true, h) =>
    have e1 := rdF_app (t := t) (l2 := l2) l1 h []
    unfold nx
    dsimp only
    rw [e1]
    match q : rdF t l1 h [] with
    | (h2, none) => rfl
    | (h2, some b) =>
      dsimp only
      rw [rdF_acc l2 h2 b]
      dsimp only
      cases (rdF t l2 h2 []).2 with
      | none => rfl
      | some b2 => rfl
theorem nmC_app {l2 : List Nat} : ∀ l1 : List Nat, nmC (l1 ++ l2) = nmC l1 + nmC l2 := by
  intro l1
  induction l1 with
  | nil => exact (Nat.zero_add _).symm
  | cons c cs ih =>
    show nmC (cs ++ l2) + (if isN c = true then 1 else 0) = nmC cs + (if isN c = true then 1 else 0) + nmC l2
    omega
section MRD
variable {t : Nat → Nat} {L h : Nat} {I : kgM} {e : Bool × Nat}
theorem nx_le (w : TxW t L) {l : List Nat} (hl : ∀ c, c ∈ l → c ≠ 0) (he : e.2 ≤ L) : (nx t l e).1.2 ≤ L := by
  match e, he with
  | (false, f), he => exact he
  | (true, h), he =>
    have p := rdF_pos w l h [] hl he
    unfold nx
    dsimp only
    cases (rdF t l h []).2 with
    | none => exact p.2.1
    | some a => exact p.2.1
theorem m_signAt (w : TxW t L) (x : TxM t L I) (hh : I 177 8 = nI h) (hl : h ≤ 60) : f_X5_sign I = some (if h < L then nI (t h) else -1, I) := by
  have h60 := w.1
  unfold f_X5_sign
  rw [x.1, hh]
  by_cases q : h < L
  · rw [if_neg (nI_ge q (by omega)), ck_inb (by omega) (by omega), nI_clamp (by omega), x.2 h q, if_pos q]
  · rw [if_pos ((nI_leI (by omega) (by omega)).mpr (by omega)), if_neg q]
theorem sg_eq (w : TxW t L) {c : Nat} (hc : c ≠ 0) (hc2 : c < 127) : ((if h < L then nI (t h) else -1) = nI c) = (t h = c) := by
  by_cases q : h < L
  · have := (w.2 h).1 q
    rw [if_pos q, nI_eqE (by omega) (by omega)]
  · rw [if_neg q]
    have := (w.2 h).2 (by omega)
    exact (eq_false' (fun z => absurd z.symm (of_eq_false (nI_m1 (k := c) (by omega))))).trans (eq_false (by omega)).symm
/-- one part of a form: the reference's step over it -/
def OpL (t : Nat → Nat) (L : Nat) (l : List Nat) (N : kgM → Option (Int32 × kgM)) : Prop := ∀ (I : kgM) (e : Bool × Nat), TxM t L I → e.2 ≤ L → Sta e I → ∃ J, N I = some (nI (nx t l e).2, J) ∧ Sta (nx t l e).1 J ∧ nmM I J
theorem op_needs (w : TxW t L) {c : Nat} (hc : c ≠ 0) (hc2 : c < 127) (hn : isN c = false) : OpL t L [c] (fun I => f_X5_needs (nI c) I) := by
  intro I e x he hs
  have h60 := w.1
  show ∃ J, f_X5_needs (nI c) I = _ ∧ _
  unfold f_X5_needs
  match e, he, hs with
  | (false, f), he, hs =>
    have hs : I 177 9 = nI f := hs
    have he : f ≤ L := he
    exact ⟨I, by rw [hs, if_neg (nI_pos (by omega))]; rfl, hs, nmM.rf⟩
  | (true, h), he, hs =>
    have hs : atM I h := hs
    have he : h ≤ L := he
    have e1 : rdF t [c] h [] = if t h = c then (h + 1, some []) else (h, none) := rdF_1 hn
    rw [hs.2, if_pos (by decide), m_signAt w x hs.1 (by omega), bndC_s]
    unfold nx
    dsimp only
    rw [e1]
    by_cases d : t h = c
    · rw [if_pos ((sg_eq w hc hc2).mpr d), hs.1, nI_1, bnd_s, if_pos d]
      exact ⟨_, rfl, hs.w8, nmM.w8 _⟩
    · rw [if_neg (fun z => d ((sg_eq w hc hc2).mp z)), hs.1, bnd_s, if_neg d]
      exact ⟨_, rfl, w9s, nmM.w9 _⟩
theorem nx_val {l : List Nat} (w : TxW t L) (hl : ∀ c, c ∈ l → c ≠ 0) (h0 : nmC l = 0) (he : e.2 ≤ L) : (nx t l e).2 = 0 := by
  match e, he with
  | (false, f), he => rfl
  | (true, h), he =>
    have p := rdF_pos w l h [] hl he
    unfold nx
    dsimp only
    cases q : (rdF t l h []).2 with
    | none => rfl
    | some a =>
      have := (p.2.2 a q).2.1
      rw [h0] at this
      show a.getD 0 0 = 0
      match a, this with
      | [], _ => rfl
theorem op_seq (w : TxW t L) {l1 l2 : List Nat} {N1 N2 : kgM → Option (Int32 × kgM)} (h1 : OpL t L l1 N1) (h2 : OpL t L l2 N2) (hl1 : ∀ c, c ∈ l1 → c ≠ 0) (hl2 : ∀ c, c ∈ l2 → c ≠ 0) (z1 : nmC l1 = 0) (z2 : nmC l2 = 0) : OpL t L (l1 ++ l2) (fun I => bndC (N1 I) (fun _ I1 => bndC (N2 I1) (fun _ I2 => some ((0 : Int32), I2)))) := by
  intro I e x he hs
  obtain ⟨J, a1, a2, a3⟩ := h1 I e x he hs
  obtain ⟨J2, b1, b2, b3⟩ := h2 J (nx t l1 e).1 (a3.tx x) (nx_le w hl1 he) a2
  have z : nmC (l1 ++ l2) = 0 := by rw [nmC_app, z1, z2]
  refine ⟨J2, ?_, by rw [nx_app]; exact b2, a3.trans b3⟩
  dsimp only
  rw [a1, bndC_s, b1, bndC_s, nx_val w (fun c hc => (List.mem_append.mp hc).elim (hl1 c) (hl2 c)) z he]
  rfl
theorem op_signs2 (w : TxW t L) {a b : Nat} (ha : a ≠ 0 ∧ a < 127 ∧ isN a = false) (hb : b ≠ 0 ∧ b < 127 ∧ isN b = false) : OpL t L [a, b] (fun I => f_X5_signs (nI a) (nI b) 0 I) := by
  have := op_seq w (op_needs w ha.1 ha.2.1 ha.2.2) (op_needs w hb.1 hb.2.1 hb.2.2) (fun c hc => by rw [List.mem_singleton.mp hc]; exact ha.1) (fun c hc => by rw [List.mem_singleton.mp hc]; exact hb.1) (by show 0 + _ = 0; rw [ha.2.2]; rfl) (by show 0 + _ = 0; rw [hb.2.2]; rfl)
  intro I e x he hs
  obtain ⟨J, h1, h2, h3⟩ := this I e x he hs
  refine ⟨J, Eq.trans ?_ h1, h2, h3⟩
  show f_X5_signs (nI a) (nI b) 0 I = bndC (f_X5_needs (nI a) I) (fun _ I1 => bndC (f_X5_needs (nI b) I1) (fun _ I2 => some ((0 : Int32), I2)))
  unfold f_X5_signs
  simp only [reduceIte]
theorem op_signs3 (w : TxW t L) {a b c : Nat} (ha : a ≠ 0 ∧ a < 127 ∧ isN a = false) (hb : b ≠ 0 ∧ b < 127 ∧ isN b = false) (hc : c ≠ 0 ∧ c < 127 ∧ isN c = false) : OpL t L [a, b, c] (fun I => f_X5_signs (nI a) (nI b) (nI c) I) := by
  have o2 := op_seq w (op_needs w hb.1 hb.2.1 hb.2.2) (op_needs w hc.1 hc.2.1 hc.2.2) (fun c hc => by rw [List.mem_singleton.mp hc]; exact hb.1) (fun d hd => by rw [List.mem_singleton.mp hd]; exact hc.1) (by show 0 + _ = 0; rw [hb.2.2]; rfl) (by show 0 + _ = 0; rw [hc.2.2]; rfl)
  have o1 := op_needs (L := L) w ha.1 ha.2.1 ha.2.2
  intro I e x he hs
  obtain ⟨J, a1, a2, a3⟩ := o1 I e x he hs
  obtain ⟨J2, b1, b2, b3⟩ := o2 J (nx t [a] e).1 (a3.tx x) (nx_le w (fun c hc => by rw [List.mem_singleton.mp hc]; exact ha.1) he) a2
  have hz : ∀ d, d ∈ [a, b, c] → d ≠ 0 := by
    intro d hd
    simp only [List.mem_cons, List.not_mem_nil, or_false] at hd
    rcases hd with rfl | rfl | rfl
    · exact ha.1
    · exact hb.1
    · exact hc.1
  refine ⟨J2, ?_, by rw [show [a, b, c] = [a] ++ [b, c] from rfl, nx_app]; exact b2, a3.trans b3⟩
  show f_X5_signs (nI a) (nI b) (nI c) I = _
  rw [nx_val w hz (by show 0 + _ + _ + _ = 0; rw [ha.2.2, hb.2.2, hc.2.2]; rfl) he]
  have b1' : bndC (f_X5_needs (nI b) J) (fun _ I1 => bndC (f_X5_needs (nI c) I1) (fun _ I2 => some ((0 : Int32), I2))) = some (0, J2) := by
    refine b1.trans ?_
    show some (nI (nx t [b, c] (nx t [a] e).1).2, J2) = _
    rw [nx_val w (fun d hd => hz d (List.mem_cons_of_mem _ hd)) (by show 0 + _ + _ = 0; rw [hb.2.2, hc.2.2]; rfl) (nx_le w (fun c hc => by rw [List.mem_singleton.mp hc]; exact ha.1) he)]
    rfl
  have a1' : f_X5_needs (nI a) I = some (nI (nx t [a] e).2, J) := a1
  have c0 : nI c ≠ 0 := nI_ne0 (by omega) (by omega)
  unfold f_X5_signs
  simp only [a1', bndC_s, if_neg c0]
  exact b1'
theorem op_pm (w : TxW t L) : OpL t L [63] (fun I => f_X5_plusOrMinus I) := by
  intro I e x he hs
  have h60 := w.1
  show ∃ J, f_X5_plusOrMinus I = _ ∧ _
  unfold f_X5_plusOrMinus
  match e, he, hs with
  | (false, f), he, hs =>
    have hs : I 177 9 = nI f := hs
    have he : f ≤ L := he
    exact ⟨I, by rw [hs, if_neg (nI_pos (by omega))]; rfl, hs, nmM.rf⟩
  | (true, h), he, hs =>
    have hs : atM I h := hs
    have he : h ≤ L := he
    have e1 : rdF t [63] h [] = if t h = 43 then (h + 1, some [1]) else if t h = 45 then (h + 1, some [0]) else (h, none) := by
      show (match (if t h = 43 then some (h + 1, [1]) else if t h = 45 then some (h + 1, [0]) else none) with | none => (h, none) | some y => rdF t [] y.1 ([] ++ y.2)) = _
      by_cases d : t h = 43
      · rw [if_pos d, if_pos d]; rfl
      · rw [if_neg d, if_neg d]
        by_cases d2 : t h = 45
        · rw [if_pos d2, if_pos d2]; rfl
        · rw [if_neg d2, if_neg d2]
    rw [hs.2, if_pos (by decide), m_signAt w x hs.1 (by omega), bndC_s, letJ_s]
    unfold nx
    dsimp only
    rw [e1]
    have q1 : ((if h < L then nI (t h) else -1) = (43 : Int32)) = (t h = 43) := sg_eq w (c := 43) (by omega) (by omega)
    have q2 : ((if h < L then nI (t h) else -1) = (45 : Int32)) = (t h = 45) := sg_eq w (c := 45) (by omega) (by omega)
    by_cases d : t h = 43
    · rw [if_pos (q1.mpr d), if_pos d, hs.1, nI_1, bnd_s, if_pos (q1.mpr d)]
      exact ⟨_, rfl, hs.w8, nmM.w8 _⟩
    · rw [if_neg (fun z => d (q1.mp z)), if_neg d]
      by_cases d2 : t h = 45
      · rw [if_pos (q2.mpr d2), if_pos d2, hs.1, nI_1, bnd_s, if_neg (fun z => d (q1.mp z))]
        exact ⟨_, rfl, hs.w8, nmM.w8 _⟩
      · rw [if_neg (fun z => d2 (q2.mp z)), if_neg d2, hs.1, bnd_s]
        exact ⟨_, rfl, w9s, nmM.w9 _⟩
theorem sg_dg (w : TxW t L) : f_X5_in (if h < L then nI (t h) else -1) (48 : Int32) (57 : Int32) I = some (b2i (dg (t h)), I) := by
  unfold f_X5_in
  by_cases q : h < L
  · have := (w.2 h).1 q
    rw [if_pos q]
    by_cases c1 : t h < 48
    · rw [if_pos (show nI (t h) < (48 : Int32) from nI_lt (b := 48) c1 (by omega)), show dg (t h) = false from decide_eq_false (by omega)]; rfl
    · rw [if_neg (show ¬ nI (t h) < (48 : Int32) from fun z => c1 ((nI_ltI (b := 48) (by omega) (by omega)).mp z))]
      by_cases c2 : 57 < t h
      · rw [if_pos (show (57 : Int32) < nI (t h) from nI_lt (a := 57) c2 (by omega)), show dg (t h) = false from decide_eq_false (by omega)]; rfl
      · rw [if_neg (show ¬ (57 : Int32) < nI (t h) from fun z => c2 ((nI_ltI (a := 57) (by omega) (by omega)).mp z)), show dg (t h) = true from decide_eq_true (by omega)]; rfl
  · have := (w.2 h).2 (by omega)
    rw [if_neg q, if_pos (by decide), show dg (t h) = false from decide_eq_false (by omega)]; rfl
end MRD
