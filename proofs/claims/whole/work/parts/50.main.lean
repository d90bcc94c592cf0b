/-! THE CLAIM OUT OF ONE WALK OF THE LAW'S BODY. Your part is whole_start (and what it stands on); all else here is the same for every law, but numbers. -/
def R_law : String := "FoleyMixerLaw"
def lw_P (b : Addr) (xs : List Int32) (args : Array Value) (s : State) : Prop := args = #[.ref b] ∧ s.IntsAt b xs ∧ xs.length ≤ 2560 ∧ (Jvm.Cond.and given_1 narrow_1).before args s = true
/-- what a walk over the start with the record d0 says of its end, said of the start itself -/
theorem lw_closed {s t : State} {o : Outcome} {d0 : Drawn} {L : List Loc} {k n : Nat} (hd0 : s.drawn.sameBut d0 lw_cs) (hv : ∃ v, o = .returned v) (hW : (s.setDrawn d0).WarmedH t.vm) (hs : (s.setDrawn d0).sameButNew ({ t with vm := s.vm } : State) L k n) : State.butDraws s t lw_cs (fun t1 => Framed s o t1 L k n) := by
  have h2 : t.drawn = d0 := congrArg State.drawn hs.1
  refine ⟨⟨hv, hW, State.sameButNew.setDrawn hs s.drawn⟩, ?_, by decide⟩
  rw [h2]
  exact hd0
def lw_Q (_ : Array Value) (s : State) (o : Outcome) (t : State) : Prop := o = .returned (some (.int 1)) ∧ State.butDraws s t lw_cs (fun t1 => Framed s o t1 [] 601024 7293034)
def lw_Z (below : List Frame) (a : Array Value) (s : State) : State → Prop := fun t => ∃ o, t.status = .running ∧ Ended t below o ∧ lw_Q a s o t
/-- the law's own end, with 1 on the stack, nothing written that was there before, its room as the claim has it; d0: the record of draws at this point (at the entry s.drawn: begin with 'refine W.base ?_' and 'have hd0 := Drawn.sameBut.refl s.drawn lw_cs') -/
theorem lw_ret {p : Program} {l : Launch} {e : Env} {s : State} {m : MethodId} {below : List Frame} {meth : Method} {c : Code} {b : Nat} {d0 : Drawn} (hd0 : s.drawn.sameBut d0 lw_cs) (hx : p.tables.exec = Jvm.exec) (hb : c.code = code) (hr : meth.sig.returnType = ret) (hlocks : meth.locks = false) {pc : Nat} {H : Heap} {ls : Array Slot} (hdg : decode code pc = .ok (.ireturn, 1)) : W p l e room_1 (s.setDrawn d0) m #[Value.ref b] below meth c H [] 601024 7293034 (lw_Z below #[Value.ref b] s) (F0 m pc ls [.int 1]) := by
  intro T hT X
  obtain ⟨fs, hret, hrun, hended, hW, hframe⟩ := X.leave (v := some (.int 1)) (hlocks := hlocks) (fun h => by rw [hr] at h; cases h)
  have hmeth' : T.vm.method? m = some meth := X.method'
  refine ⟨T.setFrames fs, ?_, .returned (some (.int 1)), hrun, hended, rfl, lw_closed hd0 ⟨_, rfl⟩ hW hframe⟩
  jvm_step X.here [X.here.top, hx, hb, hdg, hmeth', hr, ret, narrow_b1]
  (try refine ⟨rfl, ?_⟩); (try refine ⟨rfl, ?_⟩)
  first | (intro acts; rw [hret _ acts rfl rfl rfl]) | rw [hret _ _ rfl rfl rfl]
  exact Steps.refl _
/-- what holds at the law's entry: the machine, the code, the tables' words (any of lw_tbl by 'hts w (by decide +kernel)'), the script of L ints xs at the cell b, what the Statement gives of the start (any of its parts by flat_of_before) -/
def lw_At (p : Program) (s : State) (m : MethodId) (meth : Method) (c : Code) (b L : Nat) (xs : Nat → Int32) : Prop :=
  p.tables.exec = Jvm.exec ∧ c.code = code ∧ meth.sig.returnType = ret ∧ c.maxLocals = 9 ∧ s.vm.findClass R_law = some m.cls ∧ (∀ w ∈ lw_tbl, w.before #[Value.ref b] s = true) ∧ va_X b L xs s s.heap ∧ b < s.heap.size ∧ meth.locks = false ∧ (Jvm.Cond.and given_1 narrow_1).before #[Value.ref b] s = true

theorem and31 (x : Int32) : ∃ j : Nat, j < 32 ∧ x &&& nI 31 = nI j := by
  refine ⟨x.toBitVec.toNat % 32, Nat.mod_lt _ (by decide), ?_⟩
  apply Int32.toBitVec_inj.mp
  show x.toBitVec &&& BitVec.ofNat 32 31 = BitVec.ofNat 32 (x.toBitVec.toNat % 32)
  apply BitVec.eq_of_toNat_eq
  rw [BitVec.toNat_and, BitVec.toNat_ofNat, BitVec.toNat_ofNat, show 31 % 2 ^ 32 = 2 ^ 5 - 1 from rfl, Nat.and_two_pow_sub_one_eq_mod]
  have : x.toBitVec.toNat % 2 ^ 5 < 2 ^ 5 := Nat.mod_lt _ (by decide)
  rw [Nat.mod_eq_of_lt (a := x.toBitVec.toNat % 32) (by omega)]
theorem end_lt {L i : Nat} (hL : L ≤ 2560) (hi : i < 2 ^ 30) : nI L - nI 5 < nI i ↔ L < i + 5 := by
  have e : (nI L - nI 5).toInt = (L : Int) - 5 := by
    rw [Int32.toInt_sub, nI_toInt (by omega), nI_toInt (by omega)]
    apply Int.bmod_eq_of_le <;> omega
  rw [Int32.lt_iff_toInt_lt, e, nI_toInt (by omega)]
  omega
theorem q_slen {p : Program} {l : Launch} {e : Env} {R : Room} {s : State} {m : MethodId} {args : Array Value} {below : List Frame} {meth : Method} {c : Code} {H : Heap} {locs : List Loc} {cells slots : Nat} {Q : State → Prop} {cc : ByteArray} {pc : Nat} {ls : Array Slot} {rest : List Value} {b : Nat} (hx : p.tables.exec = Jvm.exec) (hb : c.code = cc) {b0 L : Nat} {xs : Nat → Int32} (hX : va_X b0 L xs s s.heap) (hbl : b0 < s.heap.size) (hb0 : b0 < b) (hS : va_S (Fb b) s.heap H locs) (hdg : decode cc pc = .ok (.arraylength, 1))
    (kk : W p l e R s m args below meth c H locs cells slots Q (F0 m (pc + 1) ls (.int (nI L) :: rest))) : W p l e R s m args below meth c H locs cells slots Q (F0 m pc ls (.ref b0 :: rest)) := va_slen hx hb hX hbl (Nat.not_le.mpr hb0) hS hdg kk

set_option maxHeartbeats 4000000 in
set_option maxRecDepth 100000 in
/-- the law's loop -/
theorem law_loop {p : Program} {l : Launch} {e : Env} {s : State} {m : MethodId} {below : List Frame} {meth : Method} {c : Code} {b0 L : Nat} {xs : Nat → Int32} {D : va_G} {dA : Nat → Nat} {b : Nat} (F9 : LWF p l s m #[Value.ref b0] c b0 L xs D dA b) (hbs : b = s.heap.size) (hr : meth.sig.returnType = ret) (hlocks : meth.locks = false) {lo : Nat} : ∀ (n9 : Nat) (i : Nat), L + 1 - i < n9 → i ≤ L → ∀ (w : Wd) (A : Sy) (H : Heap) (locs : List Loc) (cells slots : Nat) (ls : Array Slot), cells ≤ 60 + 7 * i → slots ≤ 4000 + 116 * i → LWV D dA b s w H locs lo A → LWL b b0 ls (nI i) → W p l e room_1 s m #[Value.ref b0] below meth c H locs cells slots (lw_Z below #[Value.ref b0] s) (F0 m 23 ls []) := by
  obtain ⟨hl0, hx, hb, hml, hown, hts, hX, hbl, hb0, hG, hL⟩ := id F9
  intro n9
  induction n9 with
  | zero => intro i h9; exact absurd h9 (Nat.not_lt_zero _)
  | succ n9 ih =>
    intro i h9 hiL w A H locs cells slots ls hcc hss V hl
    have hS := V.2.2.2.2
    have hl : lv_has ls 9 [(0, .ref b0), (1, .ref (b + 0)), (2, .ref (b + 36)), (3, .ref (b + 45)), (4, .int (nI i))] := hl
    refine lv_iload hx hb dL_law_23 (lv_at hl 4 rfl) ?_
    refine lv_aload_n hx hb dL_law_25 rfl (lv_at hl 0 rfl) ?_
    refine q_slen hx hb hX hbl hb0 hS dL_law_26 ?_
    refine lv_iconst (v := nI 5) hx hb dL_law_27 (by decide) ?_
    refine lv_isub hx hb dL_law_28 ?_
    refine lv_icmp_gt (tgt := 1603) hx hb dL_law_29 (by decide) (fun c_29 => ?_) (fun c_29 => ?_)
    · refine va_forget (fun q hq => by rw [← hbs]; exact hS.2.2 q hq) ?_
      refine lv_iconst (v := 1) hx hb dL_law_1603 (by decide) ?_
      refine W.widen (k := 601024) (n := 7293034) (by omega) (by omega) ?_
      exact W.base (lw_ret (Drawn.sameBut.refl s.drawn lw_cs) hx hb hr hlocks dL_law_1604)
    · have hi5 : i + 5 ≤ L := by
        have h8 : ¬ L < i + 5 := fun q9 => c_29 ((end_lt hL (by omega)).mpr q9)
        omega
      have K : ∀ (w1 : Wd) (H1 : Heap) (locs1 : List Loc) (A1 : Sy) (ls1 : Array Slot), LWV D dA b s w1 H1 locs1 lo A1 → LWL b b0 ls1 (nI i) → W p l e room_1 s m #[Value.ref b0] below meth c H1 locs1 (cells + 7) (slots + 116) (lw_Z below #[Value.ref b0] s) (F0 m 1597 ls1 []) := by
        intro w1 H1 locs1 A1 ls1 V1 hl1
        have hl1 : lv_has ls1 9 [(0, .ref b0), (1, .ref (b + 0)), (2, .ref (b + 36)), (3, .ref (b + 45)), (4, .int (nI i))] := hl1
        refine lv_iinc (v := nI (i + 5)) (lv' := [(4, .int (nI (i + 5))), (0, .ref b0), (1, .ref (b + 0)), (2, .ref (b + 36)), (3, .ref (b + 45))]) hx hb dL_law_1597 hl1 (k := 4) rfl (nI_add _ 5) (by decide) rfl (fun ls2 hl2 => ?_)
        refine lv_goto (tgt := 23) hx hb dL_law_1600 (by decide) ?_
        exact ih (i + 5) (by omega) (by omega) w1 A1 H1 locs1 (cells + 7) (slots + 116) ls2 (by omega) (by omega) V1 (lv_sub hl2 [1, 2, 3, 4, 0] rfl)
      refine lv_aload_n hx hb dL_law_32 rfl (lv_at hl 0 rfl) ?_
      refine lv_iload hx hb dL_law_33 (lv_at hl 4 rfl) ?_
      refine q_sld hx hb hX hbl hb0 hS rfl (by omega) hL dL_law_35 ?_
      refine lv_bipush (v := nI 31) hx hb dL_law_36 (by decide) ?_
      refine lv_iand hx hb dL_law_38 ?_
      obtain ⟨j, hj, ej⟩ := and31 (xs i)
      refine q_top (y := nI j) ej ?_
      have hcc2 : cells ≤ 600000 := by omega
      have hss2 : slots ≤ 7000000 := by omega
      have hd : j < 25 ∨ 25 ≤ j := by omega
      rcases hd with hd | hd
      · rcases (show j = 0 ∨ j = 1 ∨ j = 2 ∨ j = 3 ∨ j = 4 ∨ j = 5 ∨ j = 6 ∨ j = 7 ∨ j = 8 ∨ j = 9 ∨ j = 10 ∨ j = 11 ∨ j = 12 ∨ j = 13 ∨ j = 14 ∨ j = 15 ∨ j = 16 ∨ j = 17 ∨ j = 18 ∨ j = 19 ∨ j = 20 ∨ j = 21 ∨ j = 22 ∨ j = 23 ∨ j = 24 by omega) with rfl | rfl | rfl | rfl | rfl | rfl | rfl | rfl | rfl | rfl | rfl | rfl | rfl | rfl | rfl | rfl | rfl | rfl | rfl | rfl | rfl | rfl | rfl | rfl | rfl
        · exact lv_tableIn (tgt := 152) (off := 113) hx hb dL_law_39 (by decide) (by decide) rfl (by decide) (law_0 F9 V hcc2 hss2 hi5 hl K)
        · exact lv_tableIn (tgt := 232) (off := 193) hx hb dL_law_39 (by decide) (by decide) rfl (by decide) (law_1 F9 V hcc2 hss2 hi5 hl K)
        · exact lv_tableIn (tgt := 340) (off := 301) hx hb dL_law_39 (by decide) (by decide) rfl (by decide) (law_2 F9 V hcc2 hss2 hi5 hl K)
        · exact lv_tableIn (tgt := 424) (off := 385) hx hb dL_law_39 (by decide) (by decide) rfl (by decide) (law_3 F9 V hcc2 hss2 hi5 hl K)
        · exact lv_tableIn (tgt := 520) (off := 481) hx hb dL_law_39 (by decide) (by decide) rfl (by decide) (law_4 F9 V hcc2 hss2 hi5 hl K)
        · exact lv_tableIn (tgt := 616) (off := 577) hx hb dL_law_39 (by decide) (by decide) rfl (by decide) (law_5 F9 V hcc2 hss2 hi5 hl K)
        · exact lv_tableIn (tgt := 684) (off := 645) hx hb dL_law_39 (by decide) (by decide) rfl (by decide) (law_6 F9 V hcc2 hss2 hi5 hl K)
        · exact lv_tableIn (tgt := 740) (off := 701) hx hb dL_law_39 (by decide) (by decide) rfl (by decide) (law_7 F9 V hcc2 hss2 hi5 hl K)
        · exact lv_tableIn (tgt := 753) (off := 714) hx hb dL_law_39 (by decide) (by decide) rfl (by decide) (law_8 F9 V hcc2 hss2 hi5 hl K)
        · exact lv_tableIn (tgt := 766) (off := 727) hx hb dL_law_39 (by decide) (by decide) rfl (by decide) (law_9 F9 V hcc2 hss2 hi5 hl K)
        · exact lv_tableIn (tgt := 810) (off := 771) hx hb dL_law_39 (by decide) (by decide) rfl (by decide) (law_10 F9 V hcc2 hss2 hi5 hl K)
        · exact lv_tableIn (tgt := 823) (off := 784) hx hb dL_law_39 (by decide) (by decide) rfl (by decide) (law_11 F9 V hcc2 hss2 hi5 hl K)
        · exact lv_tableIn (tgt := 879) (off := 840) hx hb dL_law_39 (by decide) (by decide) rfl (by decide) (law_12 F9 V hcc2 hss2 hi5 hl K)
        · exact lv_tableIn (tgt := 923) (off := 884) hx hb dL_law_39 (by decide) (by decide) rfl (by decide) (law_13 F9 V hcc2 hss2 hi5 hl K)
        · exact lv_tableIn (tgt := 979) (off := 940) hx hb dL_law_39 (by decide) (by decide) rfl (by decide) (law_14 F9 V hcc2 hss2 hi5 hl K)
        · exact lv_tableIn (tgt := 1035) (off := 996) hx hb dL_law_39 (by decide) (by decide) rfl (by decide) (law_15 F9 V hcc2 hss2 hi5 hl K)
        · exact lv_tableIn (tgt := 1103) (off := 1064) hx hb dL_law_39 (by decide) (by decide) rfl (by decide) (law_16 F9 V hcc2 hss2 hi5 hl K)
        · exact lv_tableIn (tgt := 1171) (off := 1132) hx hb dL_law_39 (by decide) (by decide) rfl (by decide) (law_17 F9 V hcc2 hss2 hi5 hl K)
        · exact lv_tableIn (tgt := 1239) (off := 1200) hx hb dL_law_39 (by decide) (by decide) rfl (by decide) (law_18 F9 V hcc2 hss2 hi5 hl K)
        · exact lv_tableIn (tgt := 1295) (off := 1256) hx hb dL_law_39 (by decide) (by decide) rfl (by decide) (law_19 F9 V hcc2 hss2 hi5 hl K)
        · exact lv_tableIn (tgt := 1351) (off := 1312) hx hb dL_law_39 (by decide) (by decide) rfl (by decide) (law_20 F9 V hcc2 hss2 hi5 hl K)
        · exact lv_tableIn (tgt := 1364) (off := 1325) hx hb dL_law_39 (by decide) (by decide) rfl (by decide) (law_21 F9 V hcc2 hss2 hi5 hl K)
        · exact lv_tableIn (tgt := 1444) (off := 1405) hx hb dL_law_39 (by decide) (by decide) rfl (by decide) (law_22 F9 V hcc2 hss2 hi5 hl K)
        · exact lv_tableIn (tgt := 1500) (off := 1461) hx hb dL_law_39 (by decide) (by decide) rfl (by decide) (law_23 F9 V hcc2 hss2 hi5 hl K)
        · exact lv_tableIn (tgt := 1556) (off := 1517) hx hb dL_law_39 (by decide) (by decide) rfl (by decide) (law_24 F9 V hcc2 hss2 hi5 hl K)
      · refine lv_tableOut (tgt := 1597) hx hb dL_law_39 (Or.inr (by rw [nI_toInt (by omega)]; omega)) (by decide) ?_
        exact W.widen (by omega) (by omega) (K w H locs A ls V hl)

set_option maxHeartbeats 4000000 in
set_option maxRecDepth 100000 in
/-- YOUR PART: from the entry, for every script of at most 2560 ints, the law comes to its end with true ('hflags': the launch's flags, for a law that throws: no stack traces) -/
theorem whole_start {p : Program} {e : Env} {s : State} {m : MethodId} {below : List Frame} {meth : Method} {c : Code} (l : Launch) (hflags : l.flags = flags0) {b L : Nat} {xs : Nat → Int32} (hL : L ≤ 2560) (C0 : lw_At p s m meth c b L xs) : W p l e room_1 s m #[Value.ref b] below meth c s.heap [] 0 0 (lw_Z below #[Value.ref b] s) (entryFrame m ([Value.ref b] : List Value).toArray 9) := by
  obtain ⟨hx, hb, hr, hml, hown, hts, hX, hbl, hlocks, hgv⟩ := id C0
  obtain ⟨D, dA, hG⟩ := gx_start hts hgv
  have hl0 : l.stackTraces = false := by
    unfold Launch.stackTraces
    rw [hflags]
    decide
  obtain ⟨b0, hbb⟩ : ∃ b0 : Nat, b0 = b := ⟨_, rfl⟩
  subst hbb
  generalize hbz : s.heap.size = b at hG
  have hb0 : b0 < b := by omega
  have F9 : LWF p l s m #[Value.ref b0] c b0 L xs D dA b := ⟨hl0, hx, hb, hml, hown, hts, hX, hbl, hb0, hG, hL⟩
  obtain ⟨w, hw0⟩ : ∃ w : Wd, w = fun _ => none := ⟨_, rfl⟩
  have hW : WP D b w s.heap := by rw [hw0]; exact fun k e he => nomatch (show (none : Option va_E) = some e from he)
  have hS : va_S (Fb b) s.heap s.heap [] := va_S.rf
  have hz : s.heap.size = b + 0 := hbz
  have hb : c.code = cL_law := hb
  have hl := lv_entry ([.ref b0]) (n := 9) (Nat.le_of_ble_eq_true rfl)
  rw [lg_entry_eq]
  generalize (lg_sl ([.ref b0]) ++ List.replicate (9 - (lg_sl ([.ref b0])).length) Slot.unset).toArray = ls at hl ⊢
  have hl : lv_has ls 9 [(0, .ref b0)] := hl
  refine q_new (ci := 6) (fs := [.null, .null, .null, .null, .null, .null, .null, .null]) hx hb hts inX6 tyX6_ok hown (hts (.classLink RL 8 RX6) (List.mem_of_getElem? (i := 115) (by decide +kernel))) (hts (.instantiable RX6 8) (List.mem_of_getElem? (i := 116) (by decide +kernel))) (hts (.initialized RX6) (List.mem_of_getElem? (i := 99) (by decide +kernel))) hG hW hS hz rfl (fun j hj => by rcases (show j = 0 ∨ j = 1 ∨ j = 2 ∨ j = 3 ∨ j = 4 ∨ j = 5 ∨ j = 6 ∨ j = 7 by omega) with rfl | rfl | rfl | rfl | rfl | rfl | rfl | rfl <;> rfl) (Nat.le_of_ble_eq_true rfl) (Nat.le_of_ble_eq_true rfl) dL_law_0 (fun H hW hS hz => ?_)
  obtain ⟨w1, ew1⟩ : ∃ wq__ : Wd, wq__ = va_up w 0 (some (.inr (6, [.null, .null, .null, .null, .null, .null, .null, .null]))) := ⟨_, rfl⟩
  rw [← ew1] at hW
  have frw1 : ∀ id : Nat, id ≠ 0 → w1 id = w id := fun id h9 => by rw [ew1, up_ne h9]
  have hn0_1 : w1 0 = some (.inr (6, [.null, .null, .null, .null, .null, .null, .null, .null])) := by rw [ew1]; exact up_eq
  refine lv_dup hx hb dL_law_3 rfl ?_
  refine q_call (va_runI (As := []) (rest := [.ref (b + 0)]) ⟨hx, hb, hml, hown, hts⟩ (c_X6_init l hn0_1) (cwI 0 hts lg_X6_init rfl rfl rfl (hts (.initialized RX6) (List.mem_of_getElem? (i := 99) (by decide +kernel))) (hts (.methodLink RL 82 yX6_init) (List.mem_of_getElem? (i := 117) (by decide +kernel))) (hts (.instanceMethod yX6_init) (List.mem_of_getElem? (i := 118) (by decide +kernel))) rfl (by decide +kernel) ⟨Nat.le_of_ble_eq_true rfl, Nat.le_of_ble_eq_true rfl⟩) (q_preI hG hW hS (by omega)) rfl rfl hl.1 rfl (lv_room (Nat.le_of_ble_eq_true rfl)) dL_law_4 ⟨Nat.le_of_ble_eq_true rfl, Nat.le_of_ble_eq_true rfl⟩) hS (fun w_4 H locs hp4 hW hS hz => ?_)
  obtain ⟨hsy, fr4⟩ := hp4
  refine lv_astore_n (lv' := [(1, .ref (b + 0)), (0, .ref (b0))]) hx hb dL_law_7 rfl hl (by decide) rfl (fun ls hl => ?_)
  refine q_new (ci := 7) (fs := [.null, .null, .int (nI 0), .null, .null, .null, .int (nI 0), .int (nI 0), .null, .null, .int (nI 0), .int (nI 0), .null, .int (nI 0)]) hx hb hts inX7 tyX7_ok hown (hts (.classLink RL 83 RX7) (List.mem_of_getElem? (i := 889) (by decide +kernel))) (hts (.instantiable RX7 14) (List.mem_of_getElem? (i := 890) (by decide +kernel))) (hts (.initialized RX7) (List.mem_of_getElem? (i := 106) (by decide +kernel))) hG hW hS hz rfl (fun j hj => by rcases (show j = 0 ∨ j = 1 ∨ j = 2 ∨ j = 3 ∨ j = 4 ∨ j = 5 ∨ j = 6 ∨ j = 7 ∨ j = 8 ∨ j = 9 ∨ j = 10 ∨ j = 11 ∨ j = 12 ∨ j = 13 by omega) with rfl | rfl | rfl | rfl | rfl | rfl | rfl | rfl | rfl | rfl | rfl | rfl | rfl | rfl <;> rfl) (Nat.le_of_ble_eq_true rfl) (Nat.le_of_ble_eq_true rfl) dL_law_8 (fun H hW hS hz => ?_)
  obtain ⟨w2, ew2⟩ : ∃ wq__ : Wd, wq__ = va_up w_4 36 (some (.inr (7, [.null, .null, .int (nI 0), .null, .null, .null, .int (nI 0), .int (nI 0), .null, .null, .int (nI 0), .int (nI 0), .null, .int (nI 0)]))) := ⟨_, rfl⟩
  rw [← ew2] at hW
  have frw2 : ∀ id : Nat, id ≠ 36 → w2 id = w_4 id := fun id h9 => by rw [ew2, up_ne h9]
  have hn8_2 : w2 36 = some (.inr (7, [.null, .null, .int (nI 0), .null, .null, .null, .int (nI 0), .int (nI 0), .null, .null, .int (nI 0), .int (nI 0), .null, .int (nI 0)])) := by rw [ew2]; exact up_eq
  refine lv_dup hx hb dL_law_11 rfl ?_
  refine q_call (va_runI (As := []) (rest := [.ref (b + 36)]) ⟨hx, hb, hml, hown, hts⟩ (c_X7_init l hn8_2) (cwI 0 hts lg_X7_init rfl rfl rfl (hts (.initialized RX7) (List.mem_of_getElem? (i := 106) (by decide +kernel))) (hts (.methodLink RL 85 yX7_init) (List.mem_of_getElem? (i := 891) (by decide +kernel))) (hts (.instanceMethod yX7_init) (List.mem_of_getElem? (i := 892) (by decide +kernel))) rfl (by decide +kernel) ⟨Nat.le_of_ble_eq_true rfl, Nat.le_of_ble_eq_true rfl⟩) (q_preI hG hW hS (by omega)) rfl rfl hl.1 rfl (lv_room (Nat.le_of_ble_eq_true rfl)) dL_law_12 ⟨Nat.le_of_ble_eq_true rfl, Nat.le_of_ble_eq_true rfl⟩) hS (fun w_12 H locs hp12 hW hS hz => ?_)
  obtain ⟨hmd, fr12⟩ := hp12
  refine lv_astore_n (lv' := [(2, .ref (b + 36)), (1, .ref (b + 0)), (0, .ref (b0))]) hx hb dL_law_15 rfl hl (by decide) rfl (fun ls hl => ?_)
  refine lv_iconst (v := nI 1) hx hb dL_law_16 (by decide) ?_
  refine q_newL hx hb (hts (.arrayClass .long) (List.mem_of_getElem? (i := 1198) (by decide +kernel))) hG hW hS hz (by decide) (Nat.le_of_ble_eq_true rfl) (Nat.le_of_ble_eq_true rfl) dL_law_17 (fun H hW hS hz => ?_)
  obtain ⟨w3, ew3⟩ : ∃ wq__ : Wd, wq__ = va_up w_12 45 (some (eL dA 1 (fun _ => 0))) := ⟨_, rfl⟩
  rw [← ew3] at hW
  have frw3 : ∀ id : Nat, id ≠ 45 → w3 id = w_12 id := fun id h9 => by rw [ew3, up_ne h9]
  have hn17_3 : w3 45 = some (eL dA 1 (fun _ => 0)) := by rw [ew3]; exact up_eq
  replace hmd := hmd.fr (fun id h8 h9 => frw3 id (by omega))
  refine lv_astore_n (lv' := [(3, .ref (b + 45)), (2, .ref (b + 36)), (1, .ref (b + 0)), (0, .ref (b0))]) hx hb dL_law_19 rfl hl (by decide) rfl (fun ls hl => ?_)
  refine lv_iconst (v := nI 0) hx hb dL_law_20 (by decide) ?_
  refine lv_istore (lv' := [(4, .int (nI 0)), (3, .ref (b + 45)), (2, .ref (b + 36)), (1, .ref (b + 0)), (0, .ref (b0))]) hx hb dL_law_21 hl (by decide) rfl (fun ls hl => ?_)
  exact law_loop F9 hbz.symm hr hlocks (lo := 46) (L + 1 - 0 + 1) 0 (by omega) (Nat.zero_le _) _ _ _ _ _ _ _ (by decide) (by decide) ⟨isSys_new hsy (fun id h => (frw3 id (by omega)).trans ((fr12 id (by omega)).trans ((frw2 id (by omega))))) (Nat.le_refl _) ⟨_, hn17_3⟩, ⟨_, hmd⟩, ⟨_, hn17_3⟩, hW, hS⟩ (lv_sub hl [4, 3, 2, 1, 0] rfl)

-- ===== YOUR PART ENDS =====
set_option maxHeartbeats 4000000 in
theorem lw_walk (l : Launch) (hflags : l.flags = flags0) (b : Addr) (xs : List Int32) : MetFree l x (headSpec (Jvm.Cond.code x code maxLocals ret :: tables_1) room_1) (lw_P b xs) (fun _ _ _ _ _ => True) lw_Q := by
  refine MetFree.of_bodyS (code := code) (maxLocals := maxLocals) (ret := ret) (by decide) ?_ ?_
  · intro args s m h hn
    obtain ⟨meth, c, h1, h2, h3, h4, h5, h6, -, -⟩ := Cond.code_spec hn (atoms_spec (ws := Jvm.Cond.code x code maxLocals ret :: tables_1) h _ List.mem_cons_self)
    exact ⟨meth, c, h1, h2, h3, h4, h5, h6⟩
  · intro p e s m args below meth c s₁ B hml0 hP _
    obtain ⟨rfl, hx, hbd, hgv⟩ := hP
    obtain ⟨scr, harrAt, hlist, hof, hsmall⟩ := hx
    obtain ⟨hcb, hkn, -, -⟩ := State.arrayAt?_spec harrAt
    have hown : s.vm.findClass R_law = some m.cls := findClass_of_methodNamed B.named
    have hts0 : ∀ c ∈ (Jvm.Cond.code x code maxLocals ret :: tables_1), c.before #[Value.ref b] s = true := atoms_spec (ws := Jvm.Cond.code x code maxLocals ret :: tables_1) B.pre
    have hts : ∀ w ∈ lw_tbl, w.before #[Value.ref b] s = true := k2_hts_sels lw_privs (fun w hw => hts0 w (List.mem_cons_of_mem _ hw)) lw_privs_ok
    have hml : c.maxLocals = 9 := B.maxLocals_eq (hts0 _ List.mem_cons_self)
    have X₀ : Stand p l e room_1 s m #[Value.ref b] below meth c s₁ [] 0 0 := Stand.of_body B
    have hh0 : s₁.heap = s.heap := by rw [B.state]; rfl
    have hsz : scr.slots.size = xs.length := by rw [← Array.length_toList, hlist, List.length_map]
    have hval : ∀ j : Nat, j < xs.length → scr.slots[j]? = some (.int (xs.getD j 0)) := fun j hj => by
      rw [← Array.getElem?_toList, hlist]
      simp [hj]
    have hbl : b < s.heap.size := (Array.getElem?_eq_some_iff.mp hcb).1
    have hX : va_X b xs.length (fun j => xs.getD j 0) s s.heap := ⟨scr, hcb, hof, hkn, hsz, hval⟩
    have K : W p l e room_1 s m #[Value.ref b] below meth c s₁.heap [] 0 0 (lw_Z below #[Value.ref b] s) (entryFrame m ([Value.ref b] : List Value).toArray 9) := by
      rw [hh0]
      exact whole_start l hflags hbd ⟨B.exec, B.bytes, B.returns, hml, hown, hts, hX, hbl, B.notSynchronized, hgv⟩
    obtain ⟨t, a1, o, b1, b2, b3⟩ := K s₁ rfl X₀
    exact ⟨t, o, a1, b1, b2, b3⟩
theorem lw_pre_spec {args : Array Value} {s : State} (h : (Jvm.Cond.and given_1 narrow_1).before args s = true) (hr : rest_1_c.before args s = true) : ∃ (b : Addr) (xs : List Int32), lw_P b xs args s := by
  have hs := flat_of_before _ h
  have hq := flat_of_before _ hr
  have hc : (Cond.count 1).before args s = true := hs _ (by decide +kernel)
  have harr : (Cond.arrayOf (.arg 0) .int).before args s = true := hs _ (by decide +kernel)
  have hle : (Cond.le (.length (.arg 0)) (.int 2560)).before args s = true := hs _ (by decide +kernel)
  have hlen : (Cond.isInt (.length (.arg 0))).before args s = true := hq _ (by decide +kernel)
  have hall : (Cond.all (.arg 0) (.isInt (.elem (.arg 0) (.index 0)))).before args s = true := hq _ (by decide +kernel)
  obtain ⟨b, xs, hb, hx⟩ := State.ints_of_pre rfl harr hlen hall
  have hsm : xs.length < 2 ^ 31 := hx.choose_spec.2.2.2
  have hev : (Term.length (.arg 0)).eval args s none [] s = some (.int xs.length.toInt32) := hx.length_eval hb
  have hv := Cond.le_ints hev (show (Term.int 2560).eval args s none [] s = some (.int 2560) from rfl)
  have hd : xs.length.toInt32 ≤ 2560 := by
    simpa [Cond.before, Cond.holds, hv] using hle
  have hN : xs.length ≤ 2560 := (Int32.ofNat_le_ofNat hsm (by decide)).mp (show Int32.ofNat xs.length ≤ Int32.ofNat 2560 from hd)
  exact ⟨b, xs, Cond.one_arg hc (show args[0]? = some (.ref b) from hb), hx, hN, h⟩
theorem lw_comes (l : Launch) (hflags : l.flags = flags0) : Comes l x (Jvm.Cond.code x code maxLocals ret :: tables_1) room_1 (fun tb e args s => Calls_1 tb e args s ∧ rest_1 tb e args s ∧ Pre_1 tb e args s)
    (fun _ _ args s o t => lw_Q args s o t) := by
  intro p e ha hc hk s m args below hf hfit hheap happ hpre
  obtain ⟨b, xs, hP⟩ := lw_pre_spec hpre.2.2 hpre.2.1
  obtain ⟨k, o, h1, h2, h3, hQ⟩ := lw_walk l hflags b xs p e ha hc hk s m args below hf ((Spec.applies_iff_loose hf).mp happ).1 hP trivial
  exact ⟨k, o, h1, h2, h3, hQ⟩
theorem lw_frame {s t : State} {o : Outcome} {args : Array Value} (h : State.butDraws s t lw_cs (fun t1 => Framed s o t1 [] 601024 7293034)) :
    State.butDraws s t [Jvm.Choice.named "NaN.bits"] (fun t1 => Framed s o t1 (fieldLocs frame_1_writes args s ++ arrayLocs frame_1_arrays args s ++ staticLocs frame_1_statics s) 601024 7293034) := h
theorem lw_limb (L : Cond) (hL : ∀ (args : Array Value) (s t : State), L.after args s (.returned (some (.int 1))) t = true) :
    ArmFor flags0 classFile x code maxLocals ret World_1 tables_1 room_1 Calls_1 rest_1 Pre_1
      (fun tb e a s o t => postC L tb e a s o t ∧ State.butDraws s t [Jvm.Choice.named "NaN.bits"] (fun t1 => Framed s o t1 (fieldLocs frame_1_writes a s ++ arrayLocs frame_1_arrays a s ++ staticLocs frame_1_statics s) 601024 7293034)) := by
  intro l hflags _ _ p e ha hc hk s m args below hf hfit hheap happ hpre
  obtain ⟨k, o, h1, h2, h3, rfl, hF⟩ := lw_comes l hflags p e ha hc hk s m args below hf hfit hheap happ hpre
  exact ⟨k, _, h1, h2, h3, hL args s _, lw_frame hF⟩
theorem i_vc : Claimed_1_1 ∧ Claimed_1_2 := ⟨lw_limb limb_1_1 (fun args s t => by simp [limb_1_1, Cond.after, Cond.holds, Cond.value]), lw_limb limb_1_2 (fun args s t => Cond.after_iff.mpr (by
  first | (rw [show limb_1_2 = Cond.eq .result (.int 1) from rfl, Cond.eq_ints (x := 1) (y := 1) rfl rfl]; simp; done) | (simp [limb_1_2, Cond.value, Term.eval]; done)))⟩

