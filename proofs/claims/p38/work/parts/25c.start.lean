/-! THE CLAIM OUT OF ONE WALK OF THE LAW'S BODY. Your part is whole_start (and what it stands on); all else here is the same for every law, but numbers. -/
def R_law : String := "KettleGuildLaw"
def lw_P (b : Addr) (xs : List Int32) (args : Array Value) (s : State) : Prop := args = #[.ref b] ∧ s.IntsAt b xs ∧ xs.length ≤ 260 ∧ (Jvm.Cond.and given_1 narrow_1).before args s = true
/-- what a walk over the start with the record d0 says of its end, said of the start itself -/
theorem lw_closed {s t : State} {o : Outcome} {d0 : Drawn} {L : List Loc} {k n : Nat} (hd0 : s.drawn.sameBut d0 lw_cs) (hv : ∃ v, o = .returned v) (hW : (s.setDrawn d0).WarmedH t.vm) (hs : (s.setDrawn d0).sameButNew ({ t with vm := s.vm } : State) L k n) : State.butDraws s t lw_cs (fun t1 => Framed s o t1 L k n) := by
  have h2 : t.drawn = d0 := congrArg State.drawn hs.1
  refine ⟨⟨hv, hW, State.sameButNew.setDrawn hs s.drawn⟩, ?_, by decide⟩
  rw [h2]
  exact hd0
def lw_Q (_ : Array Value) (s : State) (o : Outcome) (t : State) : Prop := o = .returned (some (.int 1)) ∧ State.butDraws s t lw_cs (fun t1 => Framed s o t1 [] 929218 6314595)
def lw_Z (below : List Frame) (a : Array Value) (s : State) : State → Prop := fun t => ∃ o, t.status = .running ∧ Ended t below o ∧ lw_Q a s o t
/-- the law's own end, with 1 on the stack, nothing written that was there before, its room as the claim has it; d0: the record of draws at this point (at the entry s.drawn: begin with 'refine W.base ?_' and 'have hd0 := Drawn.sameBut.refl s.drawn lw_cs') -/
theorem lw_ret {p : Program} {l : Launch} {e : Env} {s : State} {m : MethodId} {below : List Frame} {meth : Method} {c : Code} {b : Nat} {d0 : Drawn} (hd0 : s.drawn.sameBut d0 lw_cs) (hx : p.tables.exec = Jvm.exec) (hb : c.code = code) (hr : meth.sig.returnType = ret) (hlocks : meth.locks = false) {pc : Nat} {H : Heap} {ls : Array Slot} (hdg : decode code pc = .ok (.ireturn, 1)) : W p l e room_1 (s.setDrawn d0) m #[Value.ref b] below meth c H [] 929218 6314595 (lw_Z below #[Value.ref b] s) (F0 m pc ls [.int 1]) := by
  intro T hT X
  obtain ⟨fs, hret, hrun, hended, hW, hframe⟩ := X.leave (v := some (.int 1)) (hlocks := hlocks) (fun h => by rw [hr] at h; cases h)
  have hmeth' : T.vm.method? m = some meth := X.method'
  refine ⟨T.setFrames fs, ?_, .returned (some (.int 1)), hrun, hended, rfl, lw_closed hd0 ⟨_, rfl⟩ hW hframe⟩
  jvm_step X.here [X.here.top, hx, hb, hdg, hmeth', hr, ret, narrow_b1]
  (try refine ⟨rfl, ?_⟩); (try refine ⟨rfl, ?_⟩)
  first | (intro acts; rw [hret _ acts rfl rfl rfl]) | rw [hret _ _ rfl rfl rfl]
  exact Steps.refl _
/-- what holds at the law's entry: the machine, the code, the tables' words (any of lw_tbl by 'hts w (by decide +kernel)'), the script of L ints xs at the cell b, what the Statement gives of the start (any of its parts by flat_of_before) -/
def lw_At (p : Program) (s : State) (m : MethodId) (meth : Method) (c : Code) (b L : Nat) (xs : Nat → Int32) : Prop :=
  p.tables.exec = Jvm.exec ∧ c.code = code ∧ meth.sig.returnType = ret ∧ c.maxLocals = 31 ∧ s.vm.findClass R_law = some m.cls ∧ (∀ w ∈ lw_tbl, w.before #[Value.ref b] s = true) ∧ va_X b L xs s s.heap ∧ b < s.heap.size ∧ meth.locks = false ∧ (Jvm.Cond.and given_1 narrow_1).before #[Value.ref b] s = true
set_option maxRecDepth 100000 in
set_option maxHeartbeats 4000000 in
theorem whole_start {p : Program} {e : Env} {s : State} {m : MethodId} {below : List Frame} {meth : Method} {c : Code} (l : Launch) (hflags : l.flags = flags0) {b L : Nat} {xs : Nat → Int32} (hL : L ≤ 260) (C0 : lw_At p s m meth c b L xs) : W p l e room_1 s m #[Value.ref b] below meth c s.heap [] 0 0 (lw_Z below #[Value.ref b] s) (entryFrame m ([Value.ref b] : List Value).toArray 31) := by
  refine W.base ?_
  have hd0 := Drawn.sameBut.refl s.drawn lw_cs
  obtain ⟨hx, hb, hr, hml, hown, hts, hX, hbl, hlocks, hgv⟩ := id C0
  obtain ⟨c0, i0, k0⟩ := u_known (C := RJ4) (T := TJ4) (N := 4) (n := 4) hts (fun w hw => tw_t (cl_J4.2.1 w hw)) (hts _ (tw_t tw_193))
  obtain ⟨c1, i1, k1⟩ := u_known (C := RX0) (T := TX0) (N := 3) (n := 3) hts (fun w hw => tw_t (cl_X0.2.1 w hw)) (hts _ (tw_t tw_132))
  obtain ⟨c2, i2, k2⟩ := u_known (C := RX1) (T := TX1) (N := 6) (n := 6) hts (fun w hw => tw_t (cl_X1.2.1 w hw)) (hts _ (tw_t tw_169))
  obtain ⟨c3, i3, k3⟩ := u_known (C := RX2) (T := TX2) (N := 3) (n := 3) hts (fun w hw => tw_t (cl_X2.2.1 w hw)) (hts _ (tw_t tw_152))
  obtain ⟨c4, i4, k4⟩ := u_known (C := RX3) (T := TX3) (N := 18) (n := 18) hts (fun w hw => tw_t (cl_X3.2.1 w hw)) (hts _ (tw_t tw_49))
  obtain ⟨c5, i5, k5⟩ := u_known (C := RX4) (T := TX4) (N := 7) (n := 7) hts (fun w hw => tw_t (cl_X4.2.1 w hw)) (hts _ (tw_t tw_41))
  obtain ⟨c6, i6, k6⟩ := u_known (C := RJ0) (T := TJ0) (N := 4) (n := 4) hts (fun w hw => tw_t (cl_J0.2.1 w hw)) (hts _ (tw_t tw_864))
  obtain ⟨a10, g10, r10⟩ := kg_arr (ty := .int) (hts _ (tw_t tw_130)) (fun _ _ => rfl)
  obtain ⟨a11, g11, r11⟩ := kg_arr (ty := .char) (hts _ (tw_t tw_191)) (fun _ _ => rfl)
  obtain ⟨a12, g12, r12⟩ := kg_arr (ty := .byte) (hts _ (tw_t tw_224)) (fun _ _ => rfl)
  obtain ⟨a13, g13, r13⟩ := kg_arrO (C := "KettleGuild$State") (hts _ (List.mem_of_getElem? (i := 138) rfl))
  obtain ⟨xa, xo, xt, K, V, hE⟩ := kgE_start hts hgv (A := fun q => s.heap.size ≤ q) (fun a h => Nat.not_le.mpr h)
  obtain ⟨hs, hhs⟩ : ∃ hs : kgH, hs = ((fun k => [c0, c1, c2, c3, c4, c5, c6].getD k 0, fun k => [i0, i1, i2, i3, i4, i5, i6].getD k id), s.heap.size, fun k => [a10, a11, a12, a13].getD (k - 10) 0, fun k => if k < 5 then [xa, xo, xt, b, L].getD k 0 else (xs (k - 5)).toBitVec.toNat, K, V, id, []) := ⟨_, rfl⟩
  have hB : kgB hs = s.heap.size := by rw [hhs]
  have x3 : kgX hs 3 = b := by rw [hhs]; rfl
  have x4 : kgX hs 4 = L := by rw [hhs]; rfl
  have x5 : ∀ j, nI (kgX hs (5 + j)) = xs j := fun j => by
    rw [hhs]
    show nI (if 5 + j < 5 then [xa, xo, xt, b, L].getD (5 + j) 0 else (xs (5 + j - 5)).toBitVec.toNat) = xs j
    rw [if_neg (by omega), Nat.add_sub_cancel_left]
    refine Int32.toBitVec_inj.mp ?_
    show BitVec.ofNat 32 (xs j).toBitVec.toNat = (xs j).toBitVec
    rw [BitVec.ofNat_toNat, BitVec.setWidth_eq]
  have hK : kgKX hs s := by
    rw [hhs]
    refine ⟨fun k q hq => ?_, fun k q hq => ?_⟩
    · match k, hq with
      | 0, hq => cases hq; exact k0
      | 1, hq => cases hq; exact k1
      | 2, hq => cases hq; exact k2
      | 3, hq => cases hq; exact k3
      | 4, hq => cases hq; exact k4
      | 5, hq => cases hq; exact k5
      | 6, hq => cases hq; exact k6
      | k + 7, hq => cases hq
    · match k, hq with
      | 0, hq => cases hq; exact ⟨g10, r10⟩
      | 1, hq => cases hq; exact ⟨g11, r11⟩
      | 2, hq => cases hq; exact ⟨g12, r12⟩
      | 3, hq => cases hq; exact ⟨g13, r13⟩
      | k + 4, hq => cases hq
  have hscr : va_T .int (kgX hs 3) (kgX hs 4) (fun j => .int (nI (kgX hs (5 + j)))) (kgA hs) s s.heap := by
    obtain ⟨scr, y1, y2, y3, y4, y5⟩ := hX
    rw [x3, x4]
    refine ⟨scr, y1, y2, y3, Nat.le_of_eq y4.symm, by rw [y4], fun j hj => (y5 j hj).trans (congrArg (fun z => some (Value.int z)) (x5 j).symm), ?_⟩
    show ¬ kgB hs ≤ b
    rw [hB]
    exact Nat.not_le.mpr hbl
  have h30 : kgX hs 4 < 2 ^ 30 := by rw [x4]; omega
  have hE : kgE hs s s.heap := by
    obtain ⟨e1, ⟨e2, e3⟩, e4⟩ := hE
    have hA : kgA hs = fun q => s.heap.size ≤ q := by funext q; show (kgB hs ≤ q) = _; rw [hB]
    refine ⟨?_, ⟨?_, ?_, hscr, h30⟩, ?_⟩
    · rw [hA, hhs]; exact e1
    · rw [hA]; exact e2
    · rw [hA]; exact e3
    · rw [hA, hhs]; exact e4
  have hC0 : ScOK hs L xs := ⟨x4, x5⟩
  clear hhs
  let Q : Unit → State → Prop := fun _ => lw_Z below #[Value.ref b] s
  let X : kgCX Unit := (p, l, e, room_1, s, m, #[Value.ref b], below, meth, c, hs, Q)
  have S : Cx X cL_law RL 31 12 446 929218 6314595 := ⟨⟨hx, hb, hml, hown, fun w hw => hts w (tw_t hw)⟩, rfl, hK, hE, hlocks⟩
  have hNx : kgB (kgHs X) ≤ X.2.2.2.2.1.heap.size := Nat.le_of_eq hB
  have hl := lv_entry ([.ref b]) (n := 31) (Nat.le_of_ble_eq_true rfl)
  rw [lg_entry_eq]
  generalize (lg_sl ([.ref b]) ++ List.replicate (31 - (lg_sl ([.ref b])).length) Slot.unset).toArray = ls at hl ⊢
  have hl : lv_has ls 31 [(0, .ref b)] := hl
  have hstart : kgCW hs [] s.heap := ⟨fun k q h => by simp at h, fun i j p q h => by simp at h, fun k q h => by simp at h⟩
  suffices hW : BW X 31 0 0 0 [(0, .ref b)] [] [] from hW s.heap [] ls hstart va_S.rf hl
  refine bw_new (ce2 := 1) (sl2 := 7) S hNx cl_X4 tyX4_ok tw_40 tw_41 tw_23 (fs := kg_zX4) (by decide +kernel) rfl rfl (Nat.le_of_ble_eq_true rfl) (Nat.le_of_ble_eq_true rfl) dL_law_0 (fun q0 => ?_)
  refine bw_dup S dL_law_3 ?_
  refine bw_ctor (ce2 := 177) (sl2 := 1687) S hNx [] vi_X4 tw_42 (s_X4_init _ _ q0 _) (by decide) rfl rfl (Nat.le_of_ble_eq_true rfl) rfl rfl (Nat.le_of_ble_eq_true rfl) (Nat.le_of_ble_eq_true rfl) dL_law_4 (fun o0 => ?_)
  refine bw_astore_n (L2 := [(0, .ref b), (1, .ref q0)]) S [1, 0] dL_law_7 rfl (by decide) rfl ?_
  intro H locs ls a b2 hl
  let hs' := kgHx hs (kgAd (kgCons q0 o0)) []
  let X' : kgCX Unit := (p, l, e, room_1, s, m, #[Value.ref b], below, meth, c, hs', Q)
  have S' : Cx X' cL_law RL 31 12 446 929218 6314595 := ⟨⟨hx, hb, hml, hown, fun w hw => hts w (tw_t hw)⟩, rfl, hK, hE, hlocks⟩
  have hend : ∀ (I : kgM) (Lv : List (Nat × Value)), AW (kgXs X' []) 31 929218 6314595 none (some ()) 1623 Lv [] I := by
    intro I Lv
    refine aw_iconst S'.xo dL_law_1623 (v := 1) (by decide) ?_
    intro r hr2 H locs ls a b3 hl
    refine va_forget (fun q hq => ?_) (lw_ret hd0 hx hb hr hlocks dL_law_1624)
    have : kgB hs ≤ q.base := b3.2.2 q hq
    rw [hB] at this
    exact this
  have hl2 : lv_has ls 31 [(0, .ref (kgX (kgHs X') 3)), (1, .ref (kgO (kgHs X') 0))] := by
    show lv_has ls 31 [(0, .ref (kgX hs 3)), (1, .ref q0)]
    rw [x3]; exact hl
  exact tn_11 S' hNx rfl hL hC0 (by decide) (by decide) hend invC0 own0 () rfl H locs ls (kg_begin a) b2 hl2
