theorem isSys.out {dA : Nat → Nat} {b : Nat} {w w1 : Wd} {lo : Nat} {A : Sy} {e : va_E} (h : isSys dA b w lo A) (h45 : w1 45 = some e) (f : ∀ id : Nat, id ≠ 45 → w1 id = w id) : isSys dA b w1 lo A := by
  obtain ⟨h0, h1, h2, h3, h4, h5, h6, h7⟩ := h
  refine ⟨(f _ (by omega)).trans h0, h1.fr (fun id a c => f id (by omega)), h2.fr (fun id a c => f id (by omega)), ?_, h4.fr (f _ (by omega)) (f _ (by omega)), rdr_fr h5 (fun id a c => f id (by omega)), h6, ?_⟩
  · by_cases e9 : lo = 46 ∨ True
    · refine h3.fr (fun id c => f id ?_)
      omega
    · exact absurd (Or.inr trivial) e9
  · by_cases e9 : lo - 1 = 45
    · rw [e9]; exact ⟨e, h45⟩
    · exact exw_fr h7 (f _ e9)
theorem isSys.mod {dA : Nat → Nat} {b : Nat} {w w1 : Wd} {lo : Nat} {A : Sy} (h : isSys dA b w lo A) (f : ∀ id : Nat, (id < 36 ∨ 45 ≤ id) → w1 id = w id) : isSys dA b w1 lo A := by
  obtain ⟨h0, h1, h2, h3, h4, h5, h6, h7⟩ := h
  exact ⟨(f _ (by omega)).trans h0, h1.fr (fun id a c => f id (by omega)), h2.fr (fun id a c => f id (by omega)), h3.fr (fun id c => f id (by omega)), h4.fr (f _ (by omega)) (f _ (by omega)), rdr_fr h5 (fun id a c => f id (by omega)), h6, exw_fr h7 (f _ (by omega))⟩
theorem isMod.fr {dA : Nat → Nat} {b : Nat} {w w1 : Wd} {A : Sy} {tt : Int32} (h : isMod dA b w A tt) (f : ∀ id : Nat, 36 ≤ id → id < 45 → w1 id = w id) : isMod dA b w1 A tt := by
  obtain ⟨pl, lt, dn, F, G, GS, Zt, D0, M0, TD, h0, h1, h2, h3, h4, h5, h6, h7, h8, h9, h10, h11, h12⟩ := h
  exact ⟨pl, lt, dn, F, G, GS, Zt, D0, M0, TD, (f _ (by omega) (by omega)).trans h0, (f _ (by omega) (by omega)).trans h1, h2, (f _ (by omega) (by omega)).trans h3, h4, (f _ (by omega) (by omega)).trans h5, (f _ (by omega) (by omega)).trans h6, h7, (f _ (by omega) (by omega)).trans h8, h9, (f _ (by omega) (by omega)).trans h10, (f _ (by omega) (by omega)).trans h11, (f _ (by omega) (by omega)).trans h12⟩
section QH
variable {D : va_G} {dA : Nat → Nat} {b : Nat} {w : Wd} {mc ms : Nat} {cc : ByteArray}
/-- the body of a method with handlers -/
theorem q_ofH {l : Launch} {y : MethodName} {ws ws' : List Cond} {rm : Room} {Qc : Array Value → State → Outcome → State → Prop} {XC : String → State → State → Prop} {maxL : Nat} {ret : Option FieldType} {hh : List (Nat × Nat × Nat × Nat)} {av : List Value} (hy : plainName y.cls = true) (hw : ws = Cond.codeWith y cc maxL ret hh :: ws') (hL : Nat.ble (lg_sl av).length maxL = true)
    (body : ∀ (p : Program) (e : Env) (s : State) (m : MethodId) (args : Array Value) (below : List Frame) (meth : Method) (c : Code) (ls : Array Slot), p.tables.exec = Jvm.exec → c.code = cc → meth.sig.returnType = ret → c.maxLocals = maxL → (∀ w ∈ ws, w.before args s = true) → s.vm.findClass y.cls = some m.cls → meth.locks = false → c.exceptionTable.toList = tableOf hh → GX D dA b s → WP D b w s.heap → va_S (Fb b) s.heap s.heap [] → lv_has ls maxL (lv_args 0 av) →
      W p l e rm s m args below meth c s.heap [] 0 0 (vx_MQ below Qc XC args s mc ms (Fb b)) (F0 m 0 ls [])) : vx_Met l y ws rm (PC D dA b w av) Qc XC mc ms (Fb b) := by
  refine vx_ofWH (cc := cc) (maxL := maxL) (ret := ret) (hh := hh) hy hw ?_
  intro p e s m args below meth c s₁ B hml hv
  obtain ⟨rfl, hG, hW⟩ := hv
  have hl := lv_entry av (n := maxL) (Nat.le_of_ble_eq_true hL)
  have hts : ∀ w ∈ ws, w.before (av.toArray) s = true := atoms_spec (ws := ws) B.pre
  rw [lg_entry_eq]
  exact body p e s m _ below meth c _ B.exec B.bytes B.returns hml hts (findClass_of_methodNamed B.named) B.notSynchronized (vx_table (x := y) B (hts _ (by rw [hw]; exact List.mem_cons_self))) hG hW va_S.rf hl
end QH

set_option maxHeartbeats 300000 in
set_option maxRecDepth 100000 in
/-- the wrapper of word -/
theorem c_L_word (l : Launch) (hl0 : l.stackTraces = false) {D : va_G} {dA : Nat → Nat} {b : Nat} {w : Wd} {lo n nc : Nat} {P : Pl} {Hs : Nat → Pl} {SL : Nat → Option Pl} {C : Nat → Nat} (hs : isSys dA b w lo (P, (n, Hs), SL, (nc, C))) {O9 : Nat → Int64} (h45 : w 45 = some (eL dA 1 O9)) (x y z : Int32) : vx_Met l yL_word wsL_word ({ frames := 8, cells := 7, slots := 116, locals := 134 } : Room) (PC D dA b w [.ref (b + 0), .int (x), .int (y), .int (z), .ref (b + 45)]) (QE D b (fun r w' => ((r = 0 ∧ (okC x y z ∧ P.w < 10) ∧ isSys dA b w' lo ((P.w + 1, addV P.W P.w (i32n x) (i32n y) (i32n z) 0, P.n, P.N, P.S), (pshN n, psh n Hs P), SL, (nc, C)) ∧ w' 45 = some (eL dA 1 (va_up O9 0 (nI P.w).toInt64))) ∨ (r = 1 ∧ (¬ okC x y z) ∧ isSys dA b w' lo (P, (n, Hs), SL, (nc, C)) ∧ w' 45 = some (eL dA 1 O9)) ∨ (r = 2 ∧ (okC x y z ∧ 10 ≤ P.w) ∧ isSys dA b w' lo (P, (n, Hs), SL, (nc, C)) ∧ w' 45 = some (eL dA 1 O9))) ∧ ∀ id : Nat, 36 ≤ id → id < 45 → w' id = w id)) (XW D b (fun _ _ => False)) 7 116 (Fb b) := by
  refine q_ofH (cc := cL_word) (maxL := 6) (ret := (some .int)) (by decide) rfl rfl ?_
  intro p e s m args below meth c ls hx hb hr hml hts hown hlocks hxt hG hW hS hl
  have hown : s.vm.findClass RL = some m.cls := hown
  have hl : lv_has ls 6 [(0, .ref (b + 0)), (1, .int (x)), (2, .int (y)), (3, .int (z)), (4, .ref (b + 45))] := hl
  have hlo : 46 ≤ lo := hs.2.2.2.2.2.2.1
  refine lv_aload hx hb dL_word_0 (lv_at hl 4 rfl) ?_
  refine lv_iconst (v := nI 0) hx hb dL_word_2 (by decide) ?_
  refine lv_aload_n hx hb dL_word_3 rfl (lv_at hl 0 rfl) ?_
  refine lv_iload_n hx hb dL_word_4 rfl (lv_at hl 1 rfl) ?_
  refine lv_iload_n hx hb dL_word_5 rfl (lv_at hl 2 rfl) ?_
  refine lv_iload_n hx hb dL_word_6 rfl (lv_at hl 3 rfl) ?_
  refine q_X1 (vx_runV (As := [.int (x), .int (y), .int (z)]) (rest := [.int (nI 0), .ref (b + 45)]) ⟨hx, hb, hml, hown, hts⟩ (c_X6_word l hl0 hs (x) (y) (z)) (cwV 3 hts gL_word_X6_word rfl rfl rfl (by decide +kernel) ⟨Nat.le_of_ble_eq_true rfl, Nat.le_of_ble_eq_true rfl⟩) (q_preV hG hW hS hs.1 rfl) rfl rfl hl.1 rfl (lv_room (Nat.le_of_ble_eq_true rfl)) dL_word_7 ⟨Nat.le_of_ble_eq_true rfl, Nat.le_of_ble_eq_true rfl⟩) hS (fun E9 w9 H locs q9 ce9 hpx hW hS hce hcv hcl => ?_) (fun w_7 H locs hp7 hW hS => ?_)
  · skip
    rcases hpx with ⟨⟨rfl, hcx⟩ | ⟨hca, rfl, hcx⟩, hwx⟩
    · skip
      replace hwx := hwx.symm
      subst hwx
      refine vx_catch (own := RL) (name := IAE) hown [] ⟨0, 12, 15, 13⟩ [⟨0, 12, 19, 15⟩] (hxt.trans rfl) (fun z hz => nomatch hz) rfl (by decide) (hts (.classLink RL 13 "java/lang/IllegalArgumentException") (List.mem_of_getElem? (i := 1) rfl)) (va_Nw.use rfl (hG.nest 0 rfl)) hce hcv hcl ?_
      refine lv_astore (lv' := [(5, .ref (q9)), (0, .ref (b + 0)), (1, .int (x)), (2, .int (y)), (3, .int (z)), (4, .ref (b + 45))]) hx hb dL_word_15 hl (by decide) rfl (fun ls hl => ?_)
      refine lv_iconst (v := nI 1) hx hb dL_word_17 (by decide) ?_
      exact vx_ret (q_ei hx hb hr hlocks hW hS dL_word_18 (by exact ⟨Or.inr (Or.inl ⟨rfl, hcx, hs, h45⟩), fun id h8 h9 => rfl⟩) (by decide) (by decide))
    · skip
      replace hwx := hwx.symm
      subst hwx
      refine vx_catch (own := RL) (name := ISE) hown [⟨0, 12, 15, 13⟩] ⟨0, 12, 19, 15⟩ [] (hxt.trans rfl) (fun z hz => by rw [List.mem_singleton] at hz; subst hz; exact Or.inr ⟨by decide, IAE, (hts (.classLink RL 13 "java/lang/IllegalArgumentException") (List.mem_of_getElem? (i := 1) rfl)), hG.2.2.2.2.2.2.1⟩) rfl (by decide) (hts (.classLink RL 15 "java/lang/IllegalStateException") (List.mem_of_getElem? (i := 2) rfl)) (va_Nw.use rfl (hG.nest 1 rfl)) hce hcv hcl ?_
      refine lv_astore (lv' := [(5, .ref (q9)), (0, .ref (b + 0)), (1, .int (x)), (2, .int (y)), (3, .int (z)), (4, .ref (b + 45))]) hx hb dL_word_19 hl (by decide) rfl (fun ls hl => ?_)
      refine lv_iconst (v := nI 2) hx hb dL_word_21 (by decide) ?_
      exact vx_ret (q_ei hx hb hr hlocks hW hS dL_word_22 (by exact ⟨Or.inr (Or.inr ⟨rfl, ⟨hca, hcx⟩, hs, h45⟩), fun id h8 h9 => rfl⟩) (by decide) (by decide))
  · skip
    obtain ⟨a1, a2, hs9, hf9⟩ := hp7
    replace h45 : w_7 45 = some (eL dA 1 O9) := (hf9 45 (by omega) (by omega)).trans h45
    refine lv_i2l hx hb dL_word_10 rfl ?_
    refine q_last hx hb hG hW hS h45 (by omega) (by omega) dL_word_11 (fun H locs hW hS hz11 => ?_)
    obtain ⟨w1, ew1⟩ : ∃ wq__ : Wd, wq__ = va_up w_7 45 (some (eL dA 1 (va_up O9 0 ((nI P.w).toInt64)))) := ⟨_, rfl⟩
    replace hW : WP D b w1 H := by rw [ew1]; exact hW
    have frw1 : ∀ id : Nat, id ≠ 45 → w1 id = w_7 id := fun id h9 => by rw [ew1, up_ne h9]
    replace h45 : w1 45 = some (eL dA 1 (va_up O9 0 ((nI P.w).toInt64))) := by rw [ew1]; exact up_eq
    refine lv_goto (tgt := 23) hx hb dL_word_12 (by decide) ?_
    refine lv_iconst (v := nI 0) hx hb dL_word_23 (by decide) ?_
    exact vx_ret (q_ei hx hb hr hlocks hW hS dL_word_24 (by exact ⟨Or.inl ⟨rfl, ⟨a1, a2⟩, hs9.out h45 frw1, h45⟩, fun id h8 h9 => (frw1 id (by omega)).trans (hf9 id (by omega) (by omega))⟩) (by decide) (by decide))

set_option maxHeartbeats 300000 in
set_option maxRecDepth 100000 in
/-- the wrapper of noise -/
theorem c_L_noise (l : Launch) (hl0 : l.stackTraces = false) {D : va_G} {dA : Nat → Nat} {b : Nat} {w : Wd} {lo n nc : Nat} {P : Pl} {Hs : Nat → Pl} {SL : Nat → Option Pl} {C : Nat → Nat} (hs : isSys dA b w lo (P, (n, Hs), SL, (nc, C))) {O9 : Nat → Int64} (h45 : w 45 = some (eL dA 1 O9)) (x y z : Int32) (g9 : Nat) (h4 : g9 ≤ 1) : vx_Met l yL_noise wsL_noise ({ frames := 8, cells := 7, slots := 116, locals := 135 } : Room) (PC D dA b w [.ref (b + 0), .int (x), .int (y), .int (z), .int (nI g9), .ref (b + 45)]) (QE D b (fun r w' => ((r = 0 ∧ (okC x y z ∧ P.n < 12) ∧ isSys dA b w' lo ((P.w, P.W, P.n + 1, addV P.N P.n (i32n x) (i32n y) (i32n z) g9, P.S), (pshN n, psh n Hs P), SL, (nc, C)) ∧ w' 45 = some (eL dA 1 (va_up O9 0 (nI P.n).toInt64))) ∨ (r = 1 ∧ (¬ okC x y z) ∧ isSys dA b w' lo (P, (n, Hs), SL, (nc, C)) ∧ w' 45 = some (eL dA 1 O9)) ∨ (r = 2 ∧ (okC x y z ∧ 12 ≤ P.n) ∧ isSys dA b w' lo (P, (n, Hs), SL, (nc, C)) ∧ w' 45 = some (eL dA 1 O9))) ∧ ∀ id : Nat, 36 ≤ id → id < 45 → w' id = w id)) (XW D b (fun _ _ => False)) 7 116 (Fb b) := by
  refine q_ofH (cc := cL_noise) (maxL := 7) (ret := (some .int)) (by decide) rfl rfl ?_
  intro p e s m args below meth c ls hx hb hr hml hts hown hlocks hxt hG hW hS hl
  have hown : s.vm.findClass RL = some m.cls := hown
  have hl : lv_has ls 7 [(0, .ref (b + 0)), (1, .int (x)), (2, .int (y)), (3, .int (z)), (4, .int (nI g9)), (5, .ref (b + 45))] := hl
  have hlo : 46 ≤ lo := hs.2.2.2.2.2.2.1
  refine lv_aload hx hb dL_noise_0 (lv_at hl 5 rfl) ?_
  refine lv_iconst (v := nI 0) hx hb dL_noise_2 (by decide) ?_
  refine lv_aload_n hx hb dL_noise_3 rfl (lv_at hl 0 rfl) ?_
  refine lv_iload_n hx hb dL_noise_4 rfl (lv_at hl 1 rfl) ?_
  refine lv_iload_n hx hb dL_noise_5 rfl (lv_at hl 2 rfl) ?_
  refine lv_iload_n hx hb dL_noise_6 rfl (lv_at hl 3 rfl) ?_
  refine lv_iload hx hb dL_noise_7 (lv_at hl 4 rfl) ?_
  refine q_X1 (vx_runV (As := [.int (x), .int (y), .int (z), .int (nI g9)]) (rest := [.int (nI 0), .ref (b + 45)]) ⟨hx, hb, hml, hown, hts⟩ (c_X6_noise l hl0 hs (x) (y) (z) (g9) (by omega)) (cwV 4 hts gL_noise_X6_noise rfl rfl rfl (by decide +kernel) ⟨Nat.le_of_ble_eq_true rfl, Nat.le_of_ble_eq_true rfl⟩) (q_preV hG hW hS hs.1 rfl) rfl rfl hl.1 rfl (lv_room (Nat.le_of_ble_eq_true rfl)) dL_noise_9 ⟨Nat.le_of_ble_eq_true rfl, Nat.le_of_ble_eq_true rfl⟩) hS (fun E9 w9 H locs q9 ce9 hpx hW hS hce hcv hcl => ?_) (fun w_9 H locs hp9 hW hS => ?_)
  · skip
    rcases hpx with ⟨⟨rfl, hcx⟩ | ⟨hca, rfl, hcx⟩, hwx⟩
    · skip
      replace hwx := hwx.symm
      subst hwx
      refine vx_catch (own := RL) (name := IAE) hown [] ⟨0, 14, 17, 13⟩ [⟨0, 14, 21, 15⟩] (hxt.trans rfl) (fun z hz => nomatch hz) rfl (by decide) (hts (.classLink RL 13 "java/lang/IllegalArgumentException") (List.mem_of_getElem? (i := 1) rfl)) (va_Nw.use rfl (hG.nest 0 rfl)) hce hcv hcl ?_
      refine lv_astore (lv' := [(6, .ref (q9)), (0, .ref (b + 0)), (1, .int (x)), (2, .int (y)), (3, .int (z)), (4, .int (nI g9)), (5, .ref (b + 45))]) hx hb dL_noise_17 hl (by decide) rfl (fun ls hl => ?_)
      refine lv_iconst (v := nI 1) hx hb dL_noise_19 (by decide) ?_
      exact vx_ret (q_ei hx hb hr hlocks hW hS dL_noise_20 (by exact ⟨Or.inr (Or.inl ⟨rfl, hcx, hs, h45⟩), fun id h8 h9 => rfl⟩) (by decide) (by decide))
    · skip
      replace hwx := hwx.symm
      subst hwx
      refine vx_catch (own := RL) (name := ISE) hown [⟨0, 14, 17, 13⟩] ⟨0, 14, 21, 15⟩ [] (hxt.trans rfl) (fun z hz => by rw [List.mem_singleton] at hz; subst hz; exact Or.inr ⟨by decide, IAE, (hts (.classLink RL 13 "java/lang/IllegalArgumentException") (List.mem_of_getElem? (i := 1) rfl)), hG.2.2.2.2.2.2.1⟩) rfl (by decide) (hts (.classLink RL 15 "java/lang/IllegalStateException") (List.mem_of_getElem? (i := 2) rfl)) (va_Nw.use rfl (hG.nest 1 rfl)) hce hcv hcl ?_
      refine lv_astore (lv' := [(6, .ref (q9)), (0, .ref (b + 0)), (1, .int (x)), (2, .int (y)), (3, .int (z)), (4, .int (nI g9)), (5, .ref (b + 45))]) hx hb dL_noise_21 hl (by decide) rfl (fun ls hl => ?_)
      refine lv_iconst (v := nI 2) hx hb dL_noise_23 (by decide) ?_
      exact vx_ret (q_ei hx hb hr hlocks hW hS dL_noise_24 (by exact ⟨Or.inr (Or.inr ⟨rfl, ⟨hca, hcx⟩, hs, h45⟩), fun id h8 h9 => rfl⟩) (by decide) (by decide))
  · skip
    obtain ⟨a1, a2, hs9, hf9⟩ := hp9
    replace h45 : w_9 45 = some (eL dA 1 O9) := (hf9 45 (by omega) (by omega)).trans h45
    refine lv_i2l hx hb dL_noise_12 rfl ?_
    refine q_last hx hb hG hW hS h45 (by omega) (by omega) dL_noise_13 (fun H locs hW hS hz13 => ?_)
    obtain ⟨w1, ew1⟩ : ∃ wq__ : Wd, wq__ = va_up w_9 45 (some (eL dA 1 (va_up O9 0 ((nI P.n).toInt64)))) := ⟨_, rfl⟩
    replace hW : WP D b w1 H := by rw [ew1]; exact hW
    have frw1 : ∀ id : Nat, id ≠ 45 → w1 id = w_9 id := fun id h9 => by rw [ew1, up_ne h9]
    replace h45 : w1 45 = some (eL dA 1 (va_up O9 0 ((nI P.n).toInt64))) := by rw [ew1]; exact up_eq
    refine lv_goto (tgt := 25) hx hb dL_noise_14 (by decide) ?_
    refine lv_iconst (v := nI 0) hx hb dL_noise_25 (by decide) ?_
    exact vx_ret (q_ei hx hb hr hlocks hW hS dL_noise_26 (by exact ⟨Or.inl ⟨rfl, ⟨a1, a2⟩, hs9.out h45 frw1, h45⟩, fun id h8 h9 => (frw1 id (by omega)).trans (hf9 id (by omega) (by omega))⟩) (by decide) (by decide))

set_option maxHeartbeats 300000 in
set_option maxRecDepth 100000 in
/-- the wrapper of remove -/
theorem c_L_remove_t (l : Launch) (hl0 : l.stackTraces = false) {D : va_G} {dA : Nat → Nat} {b : Nat} {w : Wd} {lo n nc : Nat} {P : Pl} {Hs : Nat → Pl} {SL : Nat → Option Pl} {C : Nat → Nat} (hs : isSys dA b w lo (P, (n, Hs), SL, (nc, C))) {O9 : Nat → Int64} (h45 : w 45 = some (eL dA 1 O9)) (x : Int32) : vx_Met l yL_remove wsL_remove ({ frames := 8, cells := 7, slots := 116, locals := 126 } : Room) (PC D dA b w [.ref (b + 0), .int (nI 1), .int (x), .ref (b + 45)]) (QE D b (fun r w' => ((r = 0 ∧ (0 ≤ x ∧ x < nI P.w) ∧ isSys dA b w' lo ((P.w - 1, delV P.W (i32n x), P.n, P.N, P.S), (pshN n, psh n Hs P), SL, (nc, C)) ∧ w' 45 = some (eL dA 1 (va_up O9 0 (nI (P.w - 1)).toInt64))) ∨ (r = 1 ∧ (¬ (0 ≤ x ∧ x < nI P.w)) ∧ isSys dA b w' lo (P, (n, Hs), SL, (nc, C)) ∧ w' 45 = some (eL dA 1 O9))) ∧ ∀ id : Nat, 36 ≤ id → id < 45 → w' id = w id)) (XW D b (fun _ _ => False)) 7 116 (Fb b) := by
  refine q_ofH (cc := cL_remove) (maxL := 5) (ret := (some .int)) (by decide) rfl rfl ?_
  intro p e s m args below meth c ls hx hb hr hml hts hown hlocks hxt hG hW hS hl
  have hown : s.vm.findClass RL = some m.cls := hown
  have hl : lv_has ls 5 [(0, .ref (b + 0)), (1, .int (nI 1)), (2, .int (x)), (3, .ref (b + 45))] := hl
  have hlo : 46 ≤ lo := hs.2.2.2.2.2.2.1
  refine lv_aload_n hx hb dL_remove_0 rfl (lv_at hl 3 rfl) ?_
  refine lv_iconst (v := nI 0) hx hb dL_remove_1 (by decide) ?_
  refine lv_aload_n hx hb dL_remove_2 rfl (lv_at hl 0 rfl) ?_
  refine lv_iload_n hx hb dL_remove_3 rfl (lv_at hl 1 rfl) ?_
  refine lv_iload_n hx hb dL_remove_4 rfl (lv_at hl 2 rfl) ?_
  refine q_X1 (vx_runV (As := [.int (nI 1), .int (x)]) (rest := [.int (nI 0), .ref (b + 45)]) ⟨hx, hb, hml, hown, hts⟩ (c_X6_remove_t l hl0 hs (x)) (cwV 2 hts gL_remove_X6_remove rfl rfl rfl (by decide +kernel) ⟨Nat.le_of_ble_eq_true rfl, Nat.le_of_ble_eq_true rfl⟩) (q_preV hG hW hS hs.1 rfl) rfl rfl hl.1 rfl (lv_room (Nat.le_of_ble_eq_true rfl)) dL_remove_5 ⟨Nat.le_of_ble_eq_true rfl, Nat.le_of_ble_eq_true rfl⟩) hS (fun E9 w9 H locs q9 ce9 hpx hW hS hce hcv hcl => ?_) (fun w_5 H locs hp5 hW hS => ?_)
  · skip
    rcases hpx with ⟨⟨rfl, hcx⟩, hwx⟩
    · skip
      replace hwx := hwx.symm
      subst hwx
      refine vx_catch (own := RL) (name := IOE) hown [] ⟨0, 10, 13, 25⟩ [] (hxt.trans rfl) (fun z hz => nomatch hz) rfl (by decide) (hts (.classLink RL 25 "java/lang/IndexOutOfBoundsException") (List.mem_of_getElem? (i := 1) rfl)) (va_Nw.use rfl (hG.nest 2 rfl)) hce hcv hcl ?_
      refine lv_astore (lv' := [(4, .ref (q9)), (0, .ref (b + 0)), (1, .int (nI 1)), (2, .int (x)), (3, .ref (b + 45))]) hx hb dL_remove_13 hl (by decide) rfl (fun ls hl => ?_)
      refine lv_iconst (v := nI 1) hx hb dL_remove_15 (by decide) ?_
      exact vx_ret (q_ei hx hb hr hlocks hW hS dL_remove_16 (by exact ⟨Or.inr ⟨rfl, hcx, hs, h45⟩, fun id h8 h9 => rfl⟩) (by decide) (by decide))
  · skip
    obtain ⟨a1, hs9, hf9⟩ := hp5
    replace h45 : w_5 45 = some (eL dA 1 O9) := (hf9 45 (by omega) (by omega)).trans h45
    refine lv_i2l hx hb dL_remove_8 rfl ?_
    refine q_last hx hb hG hW hS h45 (by omega) (by omega) dL_remove_9 (fun H locs hW hS hz9 => ?_)
    obtain ⟨w1, ew1⟩ : ∃ wq__ : Wd, wq__ = va_up w_5 45 (some (eL dA 1 (va_up O9 0 ((nI (P.w - 1)).toInt64)))) := ⟨_, rfl⟩
    replace hW : WP D b w1 H := by rw [ew1]; exact hW
    have frw1 : ∀ id : Nat, id ≠ 45 → w1 id = w_5 id := fun id h9 => by rw [ew1, up_ne h9]
    replace h45 : w1 45 = some (eL dA 1 (va_up O9 0 ((nI (P.w - 1)).toInt64))) := by rw [ew1]; exact up_eq
    refine lv_goto (tgt := 17) hx hb dL_remove_10 (by decide) ?_
    refine lv_iconst (v := nI 0) hx hb dL_remove_17 (by decide) ?_
    exact vx_ret (q_ei hx hb hr hlocks hW hS dL_remove_18 (by exact ⟨Or.inl ⟨rfl, a1, hs9.out h45 frw1, h45⟩, fun id h8 h9 => (frw1 id (by omega)).trans (hf9 id (by omega) (by omega))⟩) (by decide) (by decide))

set_option maxHeartbeats 300000 in
set_option maxRecDepth 100000 in
/-- the wrapper of shift -/
theorem c_L_shift_t (l : Launch) (hl0 : l.stackTraces = false) {D : va_G} {dA : Nat → Nat} {b : Nat} {w : Wd} {lo n nc : Nat} {P : Pl} {Hs : Nat → Pl} {SL : Nat → Option Pl} {C : Nat → Nat} (hs : isSys dA b w lo (P, (n, Hs), SL, (nc, C))) {O9 : Nat → Int64} (h45 : w 45 = some (eL dA 1 O9)) (x y : Int32) : vx_Met l yL_shift wsL_shift ({ frames := 8, cells := 7, slots := 116, locals := 128 } : Room) (PC D dA b w [.ref (b + 0), .int (nI 1), .int (x), .int (y), .ref (b + 45)]) (QE D b (fun r w' => ((r = 0 ∧ ((0 ≤ x ∧ x < nI P.w) ∧ (-99 ≤ y ∧ y ≤ 99) ∧ fitI 0 (nI (P.W (i32n x) 0) + y)) ∧ isSys dA b w' lo ((P.w, setV P.W (i32n x) 0 (i32n (nI (P.W (i32n x) 0) + y)), P.n, P.N, P.S), (pshN n, psh n Hs P), SL, (nc, C)) ∧ w' 45 = some (eL dA 1 (va_up O9 0 (nI (P.W (i32n x) 0) + y).toInt64))) ∨ (r = 1 ∧ (¬ (0 ≤ x ∧ x < nI P.w)) ∧ isSys dA b w' lo (P, (n, Hs), SL, (nc, C)) ∧ w' 45 = some (eL dA 1 O9)) ∨ (r = 2 ∧ ((0 ≤ x ∧ x < nI P.w) ∧ ¬ ((-99 ≤ y ∧ y ≤ 99) ∧ fitI 0 (nI (P.W (i32n x) 0) + y))) ∧ isSys dA b w' lo (P, (n, Hs), SL, (nc, C)) ∧ w' 45 = some (eL dA 1 O9))) ∧ ∀ id : Nat, 36 ≤ id → id < 45 → w' id = w id)) (XW D b (fun _ _ => False)) 7 116 (Fb b) := by
  refine q_ofH (cc := cL_shift) (maxL := 6) (ret := (some .int)) (by decide) rfl rfl ?_
  intro p e s m args below meth c ls hx hb hr hml hts hown hlocks hxt hG hW hS hl
  have hown : s.vm.findClass RL = some m.cls := hown
  have hl : lv_has ls 6 [(0, .ref (b + 0)), (1, .int (nI 1)), (2, .int (x)), (3, .int (y)), (4, .ref (b + 45))] := hl
  have hlo : 46 ≤ lo := hs.2.2.2.2.2.2.1
  refine lv_aload hx hb dL_shift_0 (lv_at hl 4 rfl) ?_
  refine lv_iconst (v := nI 0) hx hb dL_shift_2 (by decide) ?_
  refine lv_aload_n hx hb dL_shift_3 rfl (lv_at hl 0 rfl) ?_
  refine lv_iload_n hx hb dL_shift_4 rfl (lv_at hl 1 rfl) ?_
  refine lv_iload_n hx hb dL_shift_5 rfl (lv_at hl 2 rfl) ?_
  refine lv_iload_n hx hb dL_shift_6 rfl (lv_at hl 3 rfl) ?_
  refine q_X1 (vx_runV (As := [.int (nI 1), .int (x), .int (y)]) (rest := [.int (nI 0), .ref (b + 45)]) ⟨hx, hb, hml, hown, hts⟩ (c_X6_shift_t l hl0 hs (x) (y)) (cwV 3 hts gL_shift_X6_shift rfl rfl rfl (by decide +kernel) ⟨Nat.le_of_ble_eq_true rfl, Nat.le_of_ble_eq_true rfl⟩) (q_preV hG hW hS hs.1 rfl) rfl rfl hl.1 rfl (lv_room (Nat.le_of_ble_eq_true rfl)) dL_shift_7 ⟨Nat.le_of_ble_eq_true rfl, Nat.le_of_ble_eq_true rfl⟩) hS (fun E9 w9 H locs q9 ce9 hpx hW hS hce hcv hcl => ?_) (fun w_7 H locs hp7 hW hS => ?_)
  · skip
    rcases hpx with ⟨⟨rfl, hcx⟩ | ⟨hca, rfl, hcx⟩, hwx⟩
    · skip
      replace hwx := hwx.symm
      subst hwx
      refine vx_catch (own := RL) (name := IOE) hown [] ⟨0, 12, 15, 25⟩ [⟨0, 12, 19, 13⟩] (hxt.trans rfl) (fun z hz => nomatch hz) rfl (by decide) (hts (.classLink RL 25 "java/lang/IndexOutOfBoundsException") (List.mem_of_getElem? (i := 1) rfl)) (va_Nw.use rfl (hG.nest 2 rfl)) hce hcv hcl ?_
      refine lv_astore (lv' := [(5, .ref (q9)), (0, .ref (b + 0)), (1, .int (nI 1)), (2, .int (x)), (3, .int (y)), (4, .ref (b + 45))]) hx hb dL_shift_15 hl (by decide) rfl (fun ls hl => ?_)
      refine lv_iconst (v := nI 1) hx hb dL_shift_17 (by decide) ?_
      exact vx_ret (q_ei hx hb hr hlocks hW hS dL_shift_18 (by exact ⟨Or.inr (Or.inl ⟨rfl, hcx, hs, h45⟩), fun id h8 h9 => rfl⟩) (by decide) (by decide))
    · skip
      replace hwx := hwx.symm
      subst hwx
      refine vx_catch (own := RL) (name := IAE) hown [⟨0, 12, 15, 25⟩] ⟨0, 12, 19, 13⟩ [] (hxt.trans rfl) (fun z hz => by rw [List.mem_singleton] at hz; subst hz; exact Or.inr ⟨by decide, IOE, (hts (.classLink RL 25 "java/lang/IndexOutOfBoundsException") (List.mem_of_getElem? (i := 1) rfl)), hG.2.2.2.2.2.2.2.1⟩) rfl (by decide) (hts (.classLink RL 13 "java/lang/IllegalArgumentException") (List.mem_of_getElem? (i := 2) rfl)) (va_Nw.use rfl (hG.nest 0 rfl)) hce hcv hcl ?_
      refine lv_astore (lv' := [(5, .ref (q9)), (0, .ref (b + 0)), (1, .int (nI 1)), (2, .int (x)), (3, .int (y)), (4, .ref (b + 45))]) hx hb dL_shift_19 hl (by decide) rfl (fun ls hl => ?_)
      refine lv_iconst (v := nI 2) hx hb dL_shift_21 (by decide) ?_
      exact vx_ret (q_ei hx hb hr hlocks hW hS dL_shift_22 (by exact ⟨Or.inr (Or.inr ⟨rfl, ⟨hca, hcx⟩, hs, h45⟩), fun id h8 h9 => rfl⟩) (by decide) (by decide))
  · skip
    obtain ⟨a1, hs9, hf9⟩ := hp7
    replace h45 : w_7 45 = some (eL dA 1 O9) := (hf9 45 (by omega) (by omega)).trans h45
    refine lv_i2l hx hb dL_shift_10 rfl ?_
    refine q_last hx hb hG hW hS h45 (by omega) (by omega) dL_shift_11 (fun H locs hW hS hz11 => ?_)
    obtain ⟨w1, ew1⟩ : ∃ wq__ : Wd, wq__ = va_up w_7 45 (some (eL dA 1 (va_up O9 0 ((nI (P.W (i32n x) 0) + y).toInt64)))) := ⟨_, rfl⟩
    replace hW : WP D b w1 H := by rw [ew1]; exact hW
    have frw1 : ∀ id : Nat, id ≠ 45 → w1 id = w_7 id := fun id h9 => by rw [ew1, up_ne h9]
    replace h45 : w1 45 = some (eL dA 1 (va_up O9 0 ((nI (P.W (i32n x) 0) + y).toInt64))) := by rw [ew1]; exact up_eq
    refine lv_goto (tgt := 23) hx hb dL_shift_12 (by decide) ?_
    refine lv_iconst (v := nI 0) hx hb dL_shift_23 (by decide) ?_
    exact vx_ret (q_ei hx hb hr hlocks hW hS dL_shift_24 (by exact ⟨Or.inl ⟨rfl, a1, hs9.out h45 frw1, h45⟩, fun id h8 h9 => (frw1 id (by omega)).trans (hf9 id (by omega) (by omega))⟩) (by decide) (by decide))

set_option maxHeartbeats 300000 in
set_option maxRecDepth 100000 in
/-- the wrapper of loud -/
theorem c_L_loud_t (l : Launch) (hl0 : l.stackTraces = false) {D : va_G} {dA : Nat → Nat} {b : Nat} {w : Wd} {lo n nc : Nat} {P : Pl} {Hs : Nat → Pl} {SL : Nat → Option Pl} {C : Nat → Nat} (hs : isSys dA b w lo (P, (n, Hs), SL, (nc, C))) {O9 : Nat → Int64} (h45 : w 45 = some (eL dA 1 O9)) (x y : Int32) : vx_Met l yL_loud wsL_loud ({ frames := 8, cells := 7, slots := 116, locals := 128 } : Room) (PC D dA b w [.ref (b + 0), .int (nI 1), .int (x), .int (y), .ref (b + 45)]) (QE D b (fun r w' => ((r = 0 ∧ ((0 ≤ x ∧ x < nI P.w) ∧ fitI 2 y) ∧ isSys dA b w' lo ((P.w, setV P.W (i32n x) 2 (i32n y), P.n, P.N, P.S), (pshN n, psh n Hs P), SL, (nc, C)) ∧ w' 45 = some (eL dA 1 (va_up O9 0 (nI (P.W (i32n x) 2)).toInt64))) ∨ (r = 1 ∧ (¬ (0 ≤ x ∧ x < nI P.w)) ∧ isSys dA b w' lo (P, (n, Hs), SL, (nc, C)) ∧ w' 45 = some (eL dA 1 O9)) ∨ (r = 2 ∧ ((0 ≤ x ∧ x < nI P.w) ∧ ¬ fitI 2 y) ∧ isSys dA b w' lo (P, (n, Hs), SL, (nc, C)) ∧ w' 45 = some (eL dA 1 O9))) ∧ ∀ id : Nat, 36 ≤ id → id < 45 → w' id = w id)) (XW D b (fun _ _ => False)) 7 116 (Fb b) := by
  refine q_ofH (cc := cL_loud) (maxL := 6) (ret := (some .int)) (by decide) rfl rfl ?_
  intro p e s m args below meth c ls hx hb hr hml hts hown hlocks hxt hG hW hS hl
  have hown : s.vm.findClass RL = some m.cls := hown
  have hl : lv_has ls 6 [(0, .ref (b + 0)), (1, .int (nI 1)), (2, .int (x)), (3, .int (y)), (4, .ref (b + 45))] := hl
  have hlo : 46 ≤ lo := hs.2.2.2.2.2.2.1
  refine lv_aload hx hb dL_loud_0 (lv_at hl 4 rfl) ?_
  refine lv_iconst (v := nI 0) hx hb dL_loud_2 (by decide) ?_
  refine lv_aload_n hx hb dL_loud_3 rfl (lv_at hl 0 rfl) ?_
  refine lv_iload_n hx hb dL_loud_4 rfl (lv_at hl 1 rfl) ?_
  refine lv_iload_n hx hb dL_loud_5 rfl (lv_at hl 2 rfl) ?_
  refine lv_iload_n hx hb dL_loud_6 rfl (lv_at hl 3 rfl) ?_
  refine q_X1 (vx_runV (As := [.int (nI 1), .int (x), .int (y)]) (rest := [.int (nI 0), .ref (b + 45)]) ⟨hx, hb, hml, hown, hts⟩ (c_X6_loud_t l hl0 hs (x) (y)) (cwV 3 hts gL_loud_X6_loud rfl rfl rfl (by decide +kernel) ⟨Nat.le_of_ble_eq_true rfl, Nat.le_of_ble_eq_true rfl⟩) (q_preV hG hW hS hs.1 rfl) rfl rfl hl.1 rfl (lv_room (Nat.le_of_ble_eq_true rfl)) dL_loud_7 ⟨Nat.le_of_ble_eq_true rfl, Nat.le_of_ble_eq_true rfl⟩) hS (fun E9 w9 H locs q9 ce9 hpx hW hS hce hcv hcl => ?_) (fun w_7 H locs hp7 hW hS => ?_)
  · skip
    rcases hpx with ⟨⟨rfl, hcx⟩ | ⟨hca, rfl, hcx⟩, hwx⟩
    · skip
      replace hwx := hwx.symm
      subst hwx
      refine vx_catch (own := RL) (name := IOE) hown [] ⟨0, 12, 15, 25⟩ [⟨0, 12, 19, 13⟩] (hxt.trans rfl) (fun z hz => nomatch hz) rfl (by decide) (hts (.classLink RL 25 "java/lang/IndexOutOfBoundsException") (List.mem_of_getElem? (i := 1) rfl)) (va_Nw.use rfl (hG.nest 2 rfl)) hce hcv hcl ?_
      refine lv_astore (lv' := [(5, .ref (q9)), (0, .ref (b + 0)), (1, .int (nI 1)), (2, .int (x)), (3, .int (y)), (4, .ref (b + 45))]) hx hb dL_loud_15 hl (by decide) rfl (fun ls hl => ?_)
      refine lv_iconst (v := nI 1) hx hb dL_loud_17 (by decide) ?_
      exact vx_ret (q_ei hx hb hr hlocks hW hS dL_loud_18 (by exact ⟨Or.inr (Or.inl ⟨rfl, hcx, hs, h45⟩), fun id h8 h9 => rfl⟩) (by decide) (by decide))
    · skip
      replace hwx := hwx.symm
      subst hwx
      refine vx_catch (own := RL) (name := IAE) hown [⟨0, 12, 15, 25⟩] ⟨0, 12, 19, 13⟩ [] (hxt.trans rfl) (fun z hz => by rw [List.mem_singleton] at hz; subst hz; exact Or.inr ⟨by decide, IOE, (hts (.classLink RL 25 "java/lang/IndexOutOfBoundsException") (List.mem_of_getElem? (i := 1) rfl)), hG.2.2.2.2.2.2.2.1⟩) rfl (by decide) (hts (.classLink RL 13 "java/lang/IllegalArgumentException") (List.mem_of_getElem? (i := 2) rfl)) (va_Nw.use rfl (hG.nest 0 rfl)) hce hcv hcl ?_
      refine lv_astore (lv' := [(5, .ref (q9)), (0, .ref (b + 0)), (1, .int (nI 1)), (2, .int (x)), (3, .int (y)), (4, .ref (b + 45))]) hx hb dL_loud_19 hl (by decide) rfl (fun ls hl => ?_)
      refine lv_iconst (v := nI 2) hx hb dL_loud_21 (by decide) ?_
      exact vx_ret (q_ei hx hb hr hlocks hW hS dL_loud_22 (by exact ⟨Or.inr (Or.inr ⟨rfl, ⟨hca, hcx⟩, hs, h45⟩), fun id h8 h9 => rfl⟩) (by decide) (by decide))
  · skip
    obtain ⟨a1, hs9, hf9⟩ := hp7
    replace h45 : w_7 45 = some (eL dA 1 O9) := (hf9 45 (by omega) (by omega)).trans h45
    refine lv_i2l hx hb dL_loud_10 rfl ?_
    refine q_last hx hb hG hW hS h45 (by omega) (by omega) dL_loud_11 (fun H locs hW hS hz11 => ?_)
    obtain ⟨w1, ew1⟩ : ∃ wq__ : Wd, wq__ = va_up w_7 45 (some (eL dA 1 (va_up O9 0 ((nI (P.W (i32n x) 2)).toInt64)))) := ⟨_, rfl⟩
    replace hW : WP D b w1 H := by rw [ew1]; exact hW
    have frw1 : ∀ id : Nat, id ≠ 45 → w1 id = w_7 id := fun id h9 => by rw [ew1, up_ne h9]
    replace h45 : w1 45 = some (eL dA 1 (va_up O9 0 ((nI (P.W (i32n x) 2)).toInt64))) := by rw [ew1]; exact up_eq
    refine lv_goto (tgt := 23) hx hb dL_loud_12 (by decide) ?_
    refine lv_iconst (v := nI 0) hx hb dL_loud_23 (by decide) ?_
    exact vx_ret (q_ei hx hb hr hlocks hW hS dL_loud_24 (by exact ⟨Or.inl ⟨rfl, a1, hs9.out h45 frw1, h45⟩, fun id h8 h9 => (frw1 id (by omega)).trans (hf9 id (by omega) (by omega))⟩) (by decide) (by decide))

set_option maxHeartbeats 300000 in
set_option maxRecDepth 100000 in
/-- the wrapper of remove -/
theorem c_L_remove_f (l : Launch) (hl0 : l.stackTraces = false) {D : va_G} {dA : Nat → Nat} {b : Nat} {w : Wd} {lo n nc : Nat} {P : Pl} {Hs : Nat → Pl} {SL : Nat → Option Pl} {C : Nat → Nat} (hs : isSys dA b w lo (P, (n, Hs), SL, (nc, C))) {O9 : Nat → Int64} (h45 : w 45 = some (eL dA 1 O9)) (x : Int32) : vx_Met l yL_remove wsL_remove ({ frames := 8, cells := 7, slots := 116, locals := 126 } : Room) (PC D dA b w [.ref (b + 0), .int (nI 0), .int (x), .ref (b + 45)]) (QE D b (fun r w' => ((r = 0 ∧ (0 ≤ x ∧ x < nI P.n) ∧ isSys dA b w' lo ((P.w, P.W, P.n - 1, delV P.N (i32n x), P.S), (pshN n, psh n Hs P), SL, (nc, C)) ∧ w' 45 = some (eL dA 1 (va_up O9 0 (nI (P.n - 1)).toInt64))) ∨ (r = 1 ∧ (¬ (0 ≤ x ∧ x < nI P.n)) ∧ isSys dA b w' lo (P, (n, Hs), SL, (nc, C)) ∧ w' 45 = some (eL dA 1 O9))) ∧ ∀ id : Nat, 36 ≤ id → id < 45 → w' id = w id)) (XW D b (fun _ _ => False)) 7 116 (Fb b) := by
  refine q_ofH (cc := cL_remove) (maxL := 5) (ret := (some .int)) (by decide) rfl rfl ?_
  intro p e s m args below meth c ls hx hb hr hml hts hown hlocks hxt hG hW hS hl
  have hown : s.vm.findClass RL = some m.cls := hown
  have hl : lv_has ls 5 [(0, .ref (b + 0)), (1, .int (nI 0)), (2, .int (x)), (3, .ref (b + 45))] := hl
  have hlo : 46 ≤ lo := hs.2.2.2.2.2.2.1
  refine lv_aload_n hx hb dL_remove_0 rfl (lv_at hl 3 rfl) ?_
  refine lv_iconst (v := nI 0) hx hb dL_remove_1 (by decide) ?_
  refine lv_aload_n hx hb dL_remove_2 rfl (lv_at hl 0 rfl) ?_
  refine lv_iload_n hx hb dL_remove_3 rfl (lv_at hl 1 rfl) ?_
  refine lv_iload_n hx hb dL_remove_4 rfl (lv_at hl 2 rfl) ?_
  refine q_X1 (vx_runV (As := [.int (nI 0), .int (x)]) (rest := [.int (nI 0), .ref (b + 45)]) ⟨hx, hb, hml, hown, hts⟩ (c_X6_remove_f l hl0 hs (x)) (cwV 2 hts gL_remove_X6_remove rfl rfl rfl (by decide +kernel) ⟨Nat.le_of_ble_eq_true rfl, Nat.le_of_ble_eq_true rfl⟩) (q_preV hG hW hS hs.1 rfl) rfl rfl hl.1 rfl (lv_room (Nat.le_of_ble_eq_true rfl)) dL_remove_5 ⟨Nat.le_of_ble_eq_true rfl, Nat.le_of_ble_eq_true rfl⟩) hS (fun E9 w9 H locs q9 ce9 hpx hW hS hce hcv hcl => ?_) (fun w_5 H locs hp5 hW hS => ?_)
  · skip
    rcases hpx with ⟨⟨rfl, hcx⟩, hwx⟩
    · skip
      replace hwx := hwx.symm
      subst hwx
      refine vx_catch (own := RL) (name := IOE) hown [] ⟨0, 10, 13, 25⟩ [] (hxt.trans rfl) (fun z hz => nomatch hz) rfl (by decide) (hts (.classLink RL 25 "java/lang/IndexOutOfBoundsException") (List.mem_of_getElem? (i := 1) rfl)) (va_Nw.use rfl (hG.nest 2 rfl)) hce hcv hcl ?_
      refine lv_astore (lv' := [(4, .ref (q9)), (0, .ref (b + 0)), (1, .int (nI 0)), (2, .int (x)), (3, .ref (b + 45))]) hx hb dL_remove_13 hl (by decide) rfl (fun ls hl => ?_)
      refine lv_iconst (v := nI 1) hx hb dL_remove_15 (by decide) ?_
      exact vx_ret (q_ei hx hb hr hlocks hW hS dL_remove_16 (by exact ⟨Or.inr ⟨rfl, hcx, hs, h45⟩, fun id h8 h9 => rfl⟩) (by decide) (by decide))
  · skip
    obtain ⟨a1, hs9, hf9⟩ := hp5
    replace h45 : w_5 45 = some (eL dA 1 O9) := (hf9 45 (by omega) (by omega)).trans h45
    refine lv_i2l hx hb dL_remove_8 rfl ?_
    refine q_last hx hb hG hW hS h45 (by omega) (by omega) dL_remove_9 (fun H locs hW hS hz9 => ?_)
    obtain ⟨w1, ew1⟩ : ∃ wq__ : Wd, wq__ = va_up w_5 45 (some (eL dA 1 (va_up O9 0 ((nI (P.n - 1)).toInt64)))) := ⟨_, rfl⟩
    replace hW : WP D b w1 H := by rw [ew1]; exact hW
    have frw1 : ∀ id : Nat, id ≠ 45 → w1 id = w_5 id := fun id h9 => by rw [ew1, up_ne h9]
    replace h45 : w1 45 = some (eL dA 1 (va_up O9 0 ((nI (P.n - 1)).toInt64))) := by rw [ew1]; exact up_eq
    refine lv_goto (tgt := 17) hx hb dL_remove_10 (by decide) ?_
    refine lv_iconst (v := nI 0) hx hb dL_remove_17 (by decide) ?_
    exact vx_ret (q_ei hx hb hr hlocks hW hS dL_remove_18 (by exact ⟨Or.inl ⟨rfl, a1, hs9.out h45 frw1, h45⟩, fun id h8 h9 => (frw1 id (by omega)).trans (hf9 id (by omega) (by omega))⟩) (by decide) (by decide))

set_option maxHeartbeats 300000 in
set_option maxRecDepth 100000 in
/-- the wrapper of shift -/
theorem c_L_shift_f (l : Launch) (hl0 : l.stackTraces = false) {D : va_G} {dA : Nat → Nat} {b : Nat} {w : Wd} {lo n nc : Nat} {P : Pl} {Hs : Nat → Pl} {SL : Nat → Option Pl} {C : Nat → Nat} (hs : isSys dA b w lo (P, (n, Hs), SL, (nc, C))) {O9 : Nat → Int64} (h45 : w 45 = some (eL dA 1 O9)) (x y : Int32) : vx_Met l yL_shift wsL_shift ({ frames := 8, cells := 7, slots := 116, locals := 128 } : Room) (PC D dA b w [.ref (b + 0), .int (nI 0), .int (x), .int (y), .ref (b + 45)]) (QE D b (fun r w' => ((r = 0 ∧ ((0 ≤ x ∧ x < nI P.n) ∧ (-99 ≤ y ∧ y ≤ 99) ∧ fitI 0 (nI (P.N (i32n x) 0) + y)) ∧ isSys dA b w' lo ((P.w, P.W, P.n, setV P.N (i32n x) 0 (i32n (nI (P.N (i32n x) 0) + y)), P.S), (pshN n, psh n Hs P), SL, (nc, C)) ∧ w' 45 = some (eL dA 1 (va_up O9 0 (nI (P.N (i32n x) 0) + y).toInt64))) ∨ (r = 1 ∧ (¬ (0 ≤ x ∧ x < nI P.n)) ∧ isSys dA b w' lo (P, (n, Hs), SL, (nc, C)) ∧ w' 45 = some (eL dA 1 O9)) ∨ (r = 2 ∧ ((0 ≤ x ∧ x < nI P.n) ∧ ¬ ((-99 ≤ y ∧ y ≤ 99) ∧ fitI 0 (nI (P.N (i32n x) 0) + y))) ∧ isSys dA b w' lo (P, (n, Hs), SL, (nc, C)) ∧ w' 45 = some (eL dA 1 O9))) ∧ ∀ id : Nat, 36 ≤ id → id < 45 → w' id = w id)) (XW D b (fun _ _ => False)) 7 116 (Fb b) := by
  refine q_ofH (cc := cL_shift) (maxL := 6) (ret := (some .int)) (by decide) rfl rfl ?_
  intro p e s m args below meth c ls hx hb hr hml hts hown hlocks hxt hG hW hS hl
  have hown : s.vm.findClass RL = some m.cls := hown
  have hl : lv_has ls 6 [(0, .ref (b + 0)), (1, .int (nI 0)), (2, .int (x)), (3, .int (y)), (4, .ref (b + 45))] := hl
  have hlo : 46 ≤ lo := hs.2.2.2.2.2.2.1
  refine lv_aload hx hb dL_shift_0 (lv_at hl 4 rfl) ?_
  refine lv_iconst (v := nI 0) hx hb dL_shift_2 (by decide) ?_
  refine lv_aload_n hx hb dL_shift_3 rfl (lv_at hl 0 rfl) ?_
  refine lv_iload_n hx hb dL_shift_4 rfl (lv_at hl 1 rfl) ?_
  refine lv_iload_n hx hb dL_shift_5 rfl (lv_at hl 2 rfl) ?_
  refine lv_iload_n hx hb dL_shift_6 rfl (lv_at hl 3 rfl) ?_
  refine q_X1 (vx_runV (As := [.int (nI 0), .int (x), .int (y)]) (rest := [.int (nI 0), .ref (b + 45)]) ⟨hx, hb, hml, hown, hts⟩ (c_X6_shift_f l hl0 hs (x) (y)) (cwV 3 hts gL_shift_X6_shift rfl rfl rfl (by decide +kernel) ⟨Nat.le_of_ble_eq_true rfl, Nat.le_of_ble_eq_true rfl⟩) (q_preV hG hW hS hs.1 rfl) rfl rfl hl.1 rfl (lv_room (Nat.le_of_ble_eq_true rfl)) dL_shift_7 ⟨Nat.le_of_ble_eq_true rfl, Nat.le_of_ble_eq_true rfl⟩) hS (fun E9 w9 H locs q9 ce9 hpx hW hS hce hcv hcl => ?_) (fun w_7 H locs hp7 hW hS => ?_)
  · skip
    rcases hpx with ⟨⟨rfl, hcx⟩ | ⟨hca, rfl, hcx⟩, hwx⟩
    · skip
      replace hwx := hwx.symm
      subst hwx
      refine vx_catch (own := RL) (name := IOE) hown [] ⟨0, 12, 15, 25⟩ [⟨0, 12, 19, 13⟩] (hxt.trans rfl) (fun z hz => nomatch hz) rfl (by decide) (hts (.classLink RL 25 "java/lang/IndexOutOfBoundsException") (List.mem_of_getElem? (i := 1) rfl)) (va_Nw.use rfl (hG.nest 2 rfl)) hce hcv hcl ?_
      refine lv_astore (lv' := [(5, .ref (q9)), (0, .ref (b + 0)), (1, .int (nI 0)), (2, .int (x)), (3, .int (y)), (4, .ref (b + 45))]) hx hb dL_shift_15 hl (by decide) rfl (fun ls hl => ?_)
      refine lv_iconst (v := nI 1) hx hb dL_shift_17 (by decide) ?_
      exact vx_ret (q_ei hx hb hr hlocks hW hS dL_shift_18 (by exact ⟨Or.inr (Or.inl ⟨rfl, hcx, hs, h45⟩), fun id h8 h9 => rfl⟩) (by decide) (by decide))
    · skip
      replace hwx := hwx.symm
      subst hwx
      refine vx_catch (own := RL) (name := IAE) hown [⟨0, 12, 15, 25⟩] ⟨0, 12, 19, 13⟩ [] (hxt.trans rfl) (fun z hz => by rw [List.mem_singleton] at hz; subst hz; exact Or.inr ⟨by decide, IOE, (hts (.classLink RL 25 "java/lang/IndexOutOfBoundsException") (List.mem_of_getElem? (i := 1) rfl)), hG.2.2.2.2.2.2.2.1⟩) rfl (by decide) (hts (.classLink RL 13 "java/lang/IllegalArgumentException") (List.mem_of_getElem? (i := 2) rfl)) (va_Nw.use rfl (hG.nest 0 rfl)) hce hcv hcl ?_
      refine lv_astore (lv' := [(5, .ref (q9)), (0, .ref (b + 0)), (1, .int (nI 0)), (2, .int (x)), (3, .int (y)), (4, .ref (b + 45))]) hx hb dL_shift_19 hl (by decide) rfl (fun ls hl => ?_)
      refine lv_iconst (v := nI 2) hx hb dL_shift_21 (by decide) ?_
      exact vx_ret (q_ei hx hb hr hlocks hW hS dL_shift_22 (by exact ⟨Or.inr (Or.inr ⟨rfl, ⟨hca, hcx⟩, hs, h45⟩), fun id h8 h9 => rfl⟩) (by decide) (by decide))
  · skip
    obtain ⟨a1, hs9, hf9⟩ := hp7
    replace h45 : w_7 45 = some (eL dA 1 O9) := (hf9 45 (by omega) (by omega)).trans h45
    refine lv_i2l hx hb dL_shift_10 rfl ?_
    refine q_last hx hb hG hW hS h45 (by omega) (by omega) dL_shift_11 (fun H locs hW hS hz11 => ?_)
    obtain ⟨w1, ew1⟩ : ∃ wq__ : Wd, wq__ = va_up w_7 45 (some (eL dA 1 (va_up O9 0 ((nI (P.N (i32n x) 0) + y).toInt64)))) := ⟨_, rfl⟩
    replace hW : WP D b w1 H := by rw [ew1]; exact hW
    have frw1 : ∀ id : Nat, id ≠ 45 → w1 id = w_7 id := fun id h9 => by rw [ew1, up_ne h9]
    replace h45 : w1 45 = some (eL dA 1 (va_up O9 0 ((nI (P.N (i32n x) 0) + y).toInt64))) := by rw [ew1]; exact up_eq
    refine lv_goto (tgt := 23) hx hb dL_shift_12 (by decide) ?_
    refine lv_iconst (v := nI 0) hx hb dL_shift_23 (by decide) ?_
    exact vx_ret (q_ei hx hb hr hlocks hW hS dL_shift_24 (by exact ⟨Or.inl ⟨rfl, a1, hs9.out h45 frw1, h45⟩, fun id h8 h9 => (frw1 id (by omega)).trans (hf9 id (by omega) (by omega))⟩) (by decide) (by decide))

set_option maxHeartbeats 300000 in
set_option maxRecDepth 100000 in
/-- the wrapper of loud -/
theorem c_L_loud_f (l : Launch) (hl0 : l.stackTraces = false) {D : va_G} {dA : Nat → Nat} {b : Nat} {w : Wd} {lo n nc : Nat} {P : Pl} {Hs : Nat → Pl} {SL : Nat → Option Pl} {C : Nat → Nat} (hs : isSys dA b w lo (P, (n, Hs), SL, (nc, C))) {O9 : Nat → Int64} (h45 : w 45 = some (eL dA 1 O9)) (x y : Int32) : vx_Met l yL_loud wsL_loud ({ frames := 8, cells := 7, slots := 116, locals := 128 } : Room) (PC D dA b w [.ref (b + 0), .int (nI 0), .int (x), .int (y), .ref (b + 45)]) (QE D b (fun r w' => ((r = 0 ∧ ((0 ≤ x ∧ x < nI P.n) ∧ fitI 2 y) ∧ isSys dA b w' lo ((P.w, P.W, P.n, setV P.N (i32n x) 2 (i32n y), P.S), (pshN n, psh n Hs P), SL, (nc, C)) ∧ w' 45 = some (eL dA 1 (va_up O9 0 (nI (P.N (i32n x) 2)).toInt64))) ∨ (r = 1 ∧ (¬ (0 ≤ x ∧ x < nI P.n)) ∧ isSys dA b w' lo (P, (n, Hs), SL, (nc, C)) ∧ w' 45 = some (eL dA 1 O9)) ∨ (r = 2 ∧ ((0 ≤ x ∧ x < nI P.n) ∧ ¬ fitI 2 y) ∧ isSys dA b w' lo (P, (n, Hs), SL, (nc, C)) ∧ w' 45 = some (eL dA 1 O9))) ∧ ∀ id : Nat, 36 ≤ id → id < 45 → w' id = w id)) (XW D b (fun _ _ => False)) 7 116 (Fb b) := by
  refine q_ofH (cc := cL_loud) (maxL := 6) (ret := (some .int)) (by decide) rfl rfl ?_
  intro p e s m args below meth c ls hx hb hr hml hts hown hlocks hxt hG hW hS hl
  have hown : s.vm.findClass RL = some m.cls := hown
  have hl : lv_has ls 6 [(0, .ref (b + 0)), (1, .int (nI 0)), (2, .int (x)), (3, .int (y)), (4, .ref (b + 45))] := hl
  have hlo : 46 ≤ lo := hs.2.2.2.2.2.2.1
  refine lv_aload hx hb dL_loud_0 (lv_at hl 4 rfl) ?_
  refine lv_iconst (v := nI 0) hx hb dL_loud_2 (by decide) ?_
  refine lv_aload_n hx hb dL_loud_3 rfl (lv_at hl 0 rfl) ?_
  refine lv_iload_n hx hb dL_loud_4 rfl (lv_at hl 1 rfl) ?_
  refine lv_iload_n hx hb dL_loud_5 rfl (lv_at hl 2 rfl) ?_
  refine lv_iload_n hx hb dL_loud_6 rfl (lv_at hl 3 rfl) ?_
  refine q_X1 (vx_runV (As := [.int (nI 0), .int (x), .int (y)]) (rest := [.int (nI 0), .ref (b + 45)]) ⟨hx, hb, hml, hown, hts⟩ (c_X6_loud_f l hl0 hs (x) (y)) (cwV 3 hts gL_loud_X6_loud rfl rfl rfl (by decide +kernel) ⟨Nat.le_of_ble_eq_true rfl, Nat.le_of_ble_eq_true rfl⟩) (q_preV hG hW hS hs.1 rfl) rfl rfl hl.1 rfl (lv_room (Nat.le_of_ble_eq_true rfl)) dL_loud_7 ⟨Nat.le_of_ble_eq_true rfl, Nat.le_of_ble_eq_true rfl⟩) hS (fun E9 w9 H locs q9 ce9 hpx hW hS hce hcv hcl => ?_) (fun w_7 H locs hp7 hW hS => ?_)
  · skip
    rcases hpx with ⟨⟨rfl, hcx⟩ | ⟨hca, rfl, hcx⟩, hwx⟩
    · skip
      replace hwx := hwx.symm
      subst hwx
      refine vx_catch (own := RL) (name := IOE) hown [] ⟨0, 12, 15, 25⟩ [⟨0, 12, 19, 13⟩] (hxt.trans rfl) (fun z hz => nomatch hz) rfl (by decide) (hts (.classLink RL 25 "java/lang/IndexOutOfBoundsException") (List.mem_of_getElem? (i := 1) rfl)) (va_Nw.use rfl (hG.nest 2 rfl)) hce hcv hcl ?_
      refine lv_astore (lv' := [(5, .ref (q9)), (0, .ref (b + 0)), (1, .int (nI 0)), (2, .int (x)), (3, .int (y)), (4, .ref (b + 45))]) hx hb dL_loud_15 hl (by decide) rfl (fun ls hl => ?_)
      refine lv_iconst (v := nI 1) hx hb dL_loud_17 (by decide) ?_
      exact vx_ret (q_ei hx hb hr hlocks hW hS dL_loud_18 (by exact ⟨Or.inr (Or.inl ⟨rfl, hcx, hs, h45⟩), fun id h8 h9 => rfl⟩) (by decide) (by decide))
    · skip
      replace hwx := hwx.symm
      subst hwx
      refine vx_catch (own := RL) (name := IAE) hown [⟨0, 12, 15, 25⟩] ⟨0, 12, 19, 13⟩ [] (hxt.trans rfl) (fun z hz => by rw [List.mem_singleton] at hz; subst hz; exact Or.inr ⟨by decide, IOE, (hts (.classLink RL 25 "java/lang/IndexOutOfBoundsException") (List.mem_of_getElem? (i := 1) rfl)), hG.2.2.2.2.2.2.2.1⟩) rfl (by decide) (hts (.classLink RL 13 "java/lang/IllegalArgumentException") (List.mem_of_getElem? (i := 2) rfl)) (va_Nw.use rfl (hG.nest 0 rfl)) hce hcv hcl ?_
      refine lv_astore (lv' := [(5, .ref (q9)), (0, .ref (b + 0)), (1, .int (nI 0)), (2, .int (x)), (3, .int (y)), (4, .ref (b + 45))]) hx hb dL_loud_19 hl (by decide) rfl (fun ls hl => ?_)
      refine lv_iconst (v := nI 2) hx hb dL_loud_21 (by decide) ?_
      exact vx_ret (q_ei hx hb hr hlocks hW hS dL_loud_22 (by exact ⟨Or.inr (Or.inr ⟨rfl, ⟨hca, hcx⟩, hs, h45⟩), fun id h8 h9 => rfl⟩) (by decide) (by decide))
  · skip
    obtain ⟨a1, hs9, hf9⟩ := hp7
    replace h45 : w_7 45 = some (eL dA 1 O9) := (hf9 45 (by omega) (by omega)).trans h45
    refine lv_i2l hx hb dL_loud_10 rfl ?_
    refine q_last hx hb hG hW hS h45 (by omega) (by omega) dL_loud_11 (fun H locs hW hS hz11 => ?_)
    obtain ⟨w1, ew1⟩ : ∃ wq__ : Wd, wq__ = va_up w_7 45 (some (eL dA 1 (va_up O9 0 ((nI (P.N (i32n x) 2)).toInt64)))) := ⟨_, rfl⟩
    replace hW : WP D b w1 H := by rw [ew1]; exact hW
    have frw1 : ∀ id : Nat, id ≠ 45 → w1 id = w_7 id := fun id h9 => by rw [ew1, up_ne h9]
    replace h45 : w1 45 = some (eL dA 1 (va_up O9 0 ((nI (P.N (i32n x) 2)).toInt64))) := by rw [ew1]; exact up_eq
    refine lv_goto (tgt := 23) hx hb dL_loud_12 (by decide) ?_
    refine lv_iconst (v := nI 0) hx hb dL_loud_23 (by decide) ?_
    exact vx_ret (q_ei hx hb hr hlocks hW hS dL_loud_24 (by exact ⟨Or.inl ⟨rfl, a1, hs9.out h45 frw1, h45⟩, fun id h8 h9 => (frw1 id (by omega)).trans (hf9 id (by omega) (by omega))⟩) (by decide) (by decide))

set_option maxHeartbeats 300000 in
set_option maxRecDepth 100000 in
/-- the wrapper of set -/
theorem c_L_set (l : Launch) (hl0 : l.stackTraces = false) {D : va_G} {dA : Nat → Nat} {b : Nat} {w : Wd} {lo n nc : Nat} {P : Pl} {Hs : Nat → Pl} {SL : Nat → Option Pl} {C : Nat → Nat} (hs : isSys dA b w lo (P, (n, Hs), SL, (nc, C))) {O9 : Nat → Int64} (h45 : w 45 = some (eL dA 1 O9)) (x y : Int32) : vx_Met l yL_set wsL_set ({ frames := 8, cells := 7, slots := 116, locals := 126 } : Room) (PC D dA b w [.ref (b + 0), .int (x), .int (y), .ref (b + 45)]) (QE D b (fun r w' => ((r = 0 ∧ ((0 ≤ x ∧ x < nI 5) ∧ fitS (i32n x) y) ∧ isSys dA b w' lo (setS P (i32n x) (i32n y), (pshN n, psh n Hs P), SL, (nc, C)) ∧ w' 45 = some (eL dA 1 (va_up O9 0 (nI (P.S (i32n x))).toInt64))) ∨ (r = 1 ∧ (¬ (0 ≤ x ∧ x < nI 5)) ∧ isSys dA b w' lo (P, (n, Hs), SL, (nc, C)) ∧ w' 45 = some (eL dA 1 O9)) ∨ (r = 2 ∧ ((0 ≤ x ∧ x < nI 5) ∧ ¬ fitS (i32n x) y) ∧ isSys dA b w' lo (P, (n, Hs), SL, (nc, C)) ∧ w' 45 = some (eL dA 1 O9))) ∧ ∀ id : Nat, 36 ≤ id → id < 45 → w' id = w id)) (XW D b (fun _ _ => False)) 7 116 (Fb b) := by
  refine q_ofH (cc := cL_set) (maxL := 5) (ret := (some .int)) (by decide) rfl rfl ?_
  intro p e s m args below meth c ls hx hb hr hml hts hown hlocks hxt hG hW hS hl
  have hown : s.vm.findClass RL = some m.cls := hown
  have hl : lv_has ls 5 [(0, .ref (b + 0)), (1, .int (x)), (2, .int (y)), (3, .ref (b + 45))] := hl
  have hlo : 46 ≤ lo := hs.2.2.2.2.2.2.1
  refine lv_aload_n hx hb dL_set_0 rfl (lv_at hl 3 rfl) ?_
  refine lv_iconst (v := nI 0) hx hb dL_set_1 (by decide) ?_
  refine lv_aload_n hx hb dL_set_2 rfl (lv_at hl 0 rfl) ?_
  refine lv_iload_n hx hb dL_set_3 rfl (lv_at hl 1 rfl) ?_
  refine lv_iload_n hx hb dL_set_4 rfl (lv_at hl 2 rfl) ?_
  refine q_X1 (vx_runV (As := [.int (x), .int (y)]) (rest := [.int (nI 0), .ref (b + 45)]) ⟨hx, hb, hml, hown, hts⟩ (c_X6_set l hl0 hs (x) (y)) (cwV 2 hts gL_set_X6_set rfl rfl rfl (by decide +kernel) ⟨Nat.le_of_ble_eq_true rfl, Nat.le_of_ble_eq_true rfl⟩) (q_preV hG hW hS hs.1 rfl) rfl rfl hl.1 rfl (lv_room (Nat.le_of_ble_eq_true rfl)) dL_set_5 ⟨Nat.le_of_ble_eq_true rfl, Nat.le_of_ble_eq_true rfl⟩) hS (fun E9 w9 H locs q9 ce9 hpx hW hS hce hcv hcl => ?_) (fun w_5 H locs hp5 hW hS => ?_)
  · skip
    rcases hpx with ⟨⟨rfl, hcx⟩ | ⟨hca, rfl, hcx⟩, hwx⟩
    · skip
      replace hwx := hwx.symm
      subst hwx
      refine vx_catch (own := RL) (name := IOE) hown [] ⟨0, 10, 13, 25⟩ [⟨0, 10, 17, 13⟩] (hxt.trans rfl) (fun z hz => nomatch hz) rfl (by decide) (hts (.classLink RL 25 "java/lang/IndexOutOfBoundsException") (List.mem_of_getElem? (i := 1) rfl)) (va_Nw.use rfl (hG.nest 2 rfl)) hce hcv hcl ?_
      refine lv_astore (lv' := [(4, .ref (q9)), (0, .ref (b + 0)), (1, .int (x)), (2, .int (y)), (3, .ref (b + 45))]) hx hb dL_set_13 hl (by decide) rfl (fun ls hl => ?_)
      refine lv_iconst (v := nI 1) hx hb dL_set_15 (by decide) ?_
      exact vx_ret (q_ei hx hb hr hlocks hW hS dL_set_16 (by exact ⟨Or.inr (Or.inl ⟨rfl, hcx, hs, h45⟩), fun id h8 h9 => rfl⟩) (by decide) (by decide))
    · skip
      replace hwx := hwx.symm
      subst hwx
      refine vx_catch (own := RL) (name := IAE) hown [⟨0, 10, 13, 25⟩] ⟨0, 10, 17, 13⟩ [] (hxt.trans rfl) (fun z hz => by rw [List.mem_singleton] at hz; subst hz; exact Or.inr ⟨by decide, IOE, (hts (.classLink RL 25 "java/lang/IndexOutOfBoundsException") (List.mem_of_getElem? (i := 1) rfl)), hG.2.2.2.2.2.2.2.1⟩) rfl (by decide) (hts (.classLink RL 13 "java/lang/IllegalArgumentException") (List.mem_of_getElem? (i := 2) rfl)) (va_Nw.use rfl (hG.nest 0 rfl)) hce hcv hcl ?_
      refine lv_astore (lv' := [(4, .ref (q9)), (0, .ref (b + 0)), (1, .int (x)), (2, .int (y)), (3, .ref (b + 45))]) hx hb dL_set_17 hl (by decide) rfl (fun ls hl => ?_)
      refine lv_iconst (v := nI 2) hx hb dL_set_19 (by decide) ?_
      exact vx_ret (q_ei hx hb hr hlocks hW hS dL_set_20 (by exact ⟨Or.inr (Or.inr ⟨rfl, ⟨hca, hcx⟩, hs, h45⟩), fun id h8 h9 => rfl⟩) (by decide) (by decide))
  · skip
    obtain ⟨a1, hs9, hf9⟩ := hp5
    replace h45 : w_5 45 = some (eL dA 1 O9) := (hf9 45 (by omega) (by omega)).trans h45
    refine lv_i2l hx hb dL_set_8 rfl ?_
    refine q_last hx hb hG hW hS h45 (by omega) (by omega) dL_set_9 (fun H locs hW hS hz9 => ?_)
    obtain ⟨w1, ew1⟩ : ∃ wq__ : Wd, wq__ = va_up w_5 45 (some (eL dA 1 (va_up O9 0 ((nI (P.S (i32n x))).toInt64)))) := ⟨_, rfl⟩
    replace hW : WP D b w1 H := by rw [ew1]; exact hW
    have frw1 : ∀ id : Nat, id ≠ 45 → w1 id = w_5 id := fun id h9 => by rw [ew1, up_ne h9]
    replace h45 : w1 45 = some (eL dA 1 (va_up O9 0 ((nI (P.S (i32n x))).toInt64))) := by rw [ew1]; exact up_eq
    refine lv_goto (tgt := 21) hx hb dL_set_10 (by decide) ?_
    refine lv_iconst (v := nI 0) hx hb dL_set_21 (by decide) ?_
    exact vx_ret (q_ei hx hb hr hlocks hW hS dL_set_22 (by exact ⟨Or.inl ⟨rfl, a1, hs9.out h45 frw1, h45⟩, fun id h8 h9 => (frw1 id (by omega)).trans (hf9 id (by omega) (by omega))⟩) (by decide) (by decide))

set_option maxHeartbeats 300000 in
set_option maxRecDepth 100000 in
/-- the wrapper of append -/
theorem c_L_append (l : Launch) (hl0 : l.stackTraces = false) {D : va_G} {dA : Nat → Nat} {b : Nat} {w : Wd} {lo n nc : Nat} {P : Pl} {Hs : Nat → Pl} {SL : Nat → Option Pl} {C : Nat → Nat} (hs : isSys dA b w lo (P, (n, Hs), SL, (nc, C))) {O9 : Nat → Int64} (h45 : w 45 = some (eL dA 1 O9)) (x : Int32) : vx_Met l yL_append wsL_append ({ frames := 7, cells := 1, slots := 6, locals := 103 } : Room) (PC D dA b w [.ref (b + 0), .int (x), .ref (b + 45)]) (QE D b (fun r w' => ((r = 0 ∧ ((33 ≤ x ∧ x ≤ 126) ∧ nc < 80) ∧ isSys dA b w' lo (P, (n, Hs), SL, (nc + 1, va_up C nc (i32n x))) ∧ w' 45 = some (eL dA 1 (va_up O9 0 (nI (nc + 1)).toInt64))) ∨ (r = 1 ∧ (¬ (33 ≤ x ∧ x ≤ 126)) ∧ isSys dA b w' lo (P, (n, Hs), SL, (nc, C)) ∧ w' 45 = some (eL dA 1 O9)) ∨ (r = 2 ∧ ((33 ≤ x ∧ x ≤ 126) ∧ 80 ≤ nc) ∧ isSys dA b w' lo (P, (n, Hs), SL, (nc, C)) ∧ w' 45 = some (eL dA 1 O9))) ∧ ∀ id : Nat, 36 ≤ id → id < 45 → w' id = w id)) (XW D b (fun _ _ => False)) 1 6 (Fb b) := by
  refine q_ofH (cc := cL_append) (maxL := 4) (ret := (some .int)) (by decide) rfl rfl ?_
  intro p e s m args below meth c ls hx hb hr hml hts hown hlocks hxt hG hW hS hl
  have hown : s.vm.findClass RL = some m.cls := hown
  have hl : lv_has ls 4 [(0, .ref (b + 0)), (1, .int (x)), (2, .ref (b + 45))] := hl
  have hlo : 46 ≤ lo := hs.2.2.2.2.2.2.1
  refine lv_aload_n hx hb dL_append_0 rfl (lv_at hl 2 rfl) ?_
  refine lv_iconst (v := nI 0) hx hb dL_append_1 (by decide) ?_
  refine lv_aload_n hx hb dL_append_2 rfl (lv_at hl 0 rfl) ?_
  refine lv_iload_n hx hb dL_append_3 rfl (lv_at hl 1 rfl) ?_
  refine q_X1 (vx_runV (As := [.int (x)]) (rest := [.int (nI 0), .ref (b + 45)]) ⟨hx, hb, hml, hown, hts⟩ (c_X6_append l hl0 hs (x)) (cwV 1 hts gL_append_X6_append rfl rfl rfl (by decide +kernel) ⟨Nat.le_of_ble_eq_true rfl, Nat.le_of_ble_eq_true rfl⟩) (q_preV hG hW hS hs.1 rfl) rfl rfl hl.1 rfl (lv_room (Nat.le_of_ble_eq_true rfl)) dL_append_4 ⟨Nat.le_of_ble_eq_true rfl, Nat.le_of_ble_eq_true rfl⟩) hS (fun E9 w9 H locs q9 ce9 hpx hW hS hce hcv hcl => ?_) (fun w_4 H locs hp4 hW hS => ?_)
  · skip
    rcases hpx with ⟨⟨rfl, hcx⟩ | ⟨hca, rfl, hcx⟩, hwx⟩
    · skip
      replace hwx := hwx.symm
      subst hwx
      refine vx_catch (own := RL) (name := IAE) hown [] ⟨0, 9, 12, 13⟩ [⟨0, 9, 15, 15⟩] (hxt.trans rfl) (fun z hz => nomatch hz) rfl (by decide) (hts (.classLink RL 13 "java/lang/IllegalArgumentException") (List.mem_of_getElem? (i := 1) rfl)) (va_Nw.use rfl (hG.nest 0 rfl)) hce hcv hcl ?_
      refine lv_astore_n (lv' := [(3, .ref (q9)), (0, .ref (b + 0)), (1, .int (x)), (2, .ref (b + 45))]) hx hb dL_append_12 rfl hl (by decide) rfl (fun ls hl => ?_)
      refine lv_iconst (v := nI 1) hx hb dL_append_13 (by decide) ?_
      exact vx_ret (q_ei hx hb hr hlocks hW hS dL_append_14 (by exact ⟨Or.inr (Or.inl ⟨rfl, hcx, hs, h45⟩), fun id h8 h9 => rfl⟩) (by decide) (by decide))
    · skip
      replace hwx := hwx.symm
      subst hwx
      refine vx_catch (own := RL) (name := ISE) hown [⟨0, 9, 12, 13⟩] ⟨0, 9, 15, 15⟩ [] (hxt.trans rfl) (fun z hz => by rw [List.mem_singleton] at hz; subst hz; exact Or.inr ⟨by decide, IAE, (hts (.classLink RL 13 "java/lang/IllegalArgumentException") (List.mem_of_getElem? (i := 1) rfl)), hG.2.2.2.2.2.2.1⟩) rfl (by decide) (hts (.classLink RL 15 "java/lang/IllegalStateException") (List.mem_of_getElem? (i := 2) rfl)) (va_Nw.use rfl (hG.nest 1 rfl)) hce hcv hcl ?_
      refine lv_astore_n (lv' := [(3, .ref (q9)), (0, .ref (b + 0)), (1, .int (x)), (2, .ref (b + 45))]) hx hb dL_append_15 rfl hl (by decide) rfl (fun ls hl => ?_)
      refine lv_iconst (v := nI 2) hx hb dL_append_16 (by decide) ?_
      exact vx_ret (q_ei hx hb hr hlocks hW hS dL_append_17 (by exact ⟨Or.inr (Or.inr ⟨rfl, ⟨hca, hcx⟩, hs, h45⟩), fun id h8 h9 => rfl⟩) (by decide) (by decide))
  · skip
    obtain ⟨a1, hs9, hf9⟩ := hp4
    replace h45 : w_4 45 = some (eL dA 1 O9) := (hf9 45 (by omega) (by omega)).trans h45
    refine lv_i2l hx hb dL_append_7 rfl ?_
    refine q_last hx hb hG hW hS h45 (by omega) (by omega) dL_append_8 (fun H locs hW hS hz8 => ?_)
    obtain ⟨w1, ew1⟩ : ∃ wq__ : Wd, wq__ = va_up w_4 45 (some (eL dA 1 (va_up O9 0 ((nI (nc + 1)).toInt64)))) := ⟨_, rfl⟩
    replace hW : WP D b w1 H := by rw [ew1]; exact hW
    have frw1 : ∀ id : Nat, id ≠ 45 → w1 id = w_4 id := fun id h9 => by rw [ew1, up_ne h9]
    replace h45 : w1 45 = some (eL dA 1 (va_up O9 0 ((nI (nc + 1)).toInt64))) := by rw [ew1]; exact up_eq
    refine lv_goto (tgt := 18) hx hb dL_append_9 (by decide) ?_
    refine lv_iconst (v := nI 0) hx hb dL_append_18 (by decide) ?_
    exact vx_ret (q_ei hx hb hr hlocks hW hS dL_append_19 (by exact ⟨Or.inl ⟨rfl, a1, hs9.out h45 frw1, h45⟩, fun id h8 h9 => (frw1 id (by omega)).trans (hf9 id (by omega) (by omega))⟩) (by decide) (by decide))

set_option maxHeartbeats 300000 in
set_option maxRecDepth 100000 in
/-- the wrapper of read -/
theorem c_L_read (l : Launch) (hl0 : l.stackTraces = false) {D : va_G} {dA : Nat → Nat} {b : Nat} {w : Wd} {lo n nc : Nat} {P : Pl} {Hs : Nat → Pl} {SL : Nat → Option Pl} {C : Nat → Nat} (hs : isSys dA b w lo (P, (n, Hs), SL, (nc, C))) {O9 : Nat → Int64} (h45 : w 45 = some (eL dA 1 O9))  : vx_Met l yL_read wsL_read ({ frames := 7, cells := 6, slots := 110, locals := 131 } : Room) (PC D dA b w [.ref (b + 0), .ref (b + 45)]) (QE D b (fun r w' => ((r = 0 ∧ (whl nc C R0) ∧ isSys dA b w' lo ((rgo nc C R0 (nc + 1) P 0).1, (pshN n, psh n Hs P), SL, (0, C)) ∧ w' 45 = some (eL dA 1 (va_up O9 0 (nI (rgo nc C R0 (nc + 1) P 0).2).toInt64))) ∨ (r = 1 ∧ (¬ whl nc C R0) ∧ isSys dA b w' lo (P, (n, Hs), SL, (nc, C)) ∧ w' 45 = some (eL dA 1 O9))) ∧ ∀ id : Nat, 36 ≤ id → id < 45 → w' id = w id)) (XW D b (fun _ _ => False)) 6 110 (Fb b) := by
  refine q_ofH (cc := cL_read) (maxL := 3) (ret := (some .int)) (by decide) rfl rfl ?_
  intro p e s m args below meth c ls hx hb hr hml hts hown hlocks hxt hG hW hS hl
  have hown : s.vm.findClass RL = some m.cls := hown
  have hl : lv_has ls 3 [(0, .ref (b + 0)), (1, .ref (b + 45))] := hl
  have hlo : 46 ≤ lo := hs.2.2.2.2.2.2.1
  refine lv_aload_n hx hb dL_read_0 rfl (lv_at hl 1 rfl) ?_
  refine lv_iconst (v := nI 0) hx hb dL_read_1 (by decide) ?_
  refine lv_aload_n hx hb dL_read_2 rfl (lv_at hl 0 rfl) ?_
  refine q_X1 (vx_runV (As := []) (rest := [.int (nI 0), .ref (b + 45)]) ⟨hx, hb, hml, hown, hts⟩ (c_X6_read l hl0 hs ) (cwV 0 hts gL_read_X6_read rfl rfl rfl (by decide +kernel) ⟨Nat.le_of_ble_eq_true rfl, Nat.le_of_ble_eq_true rfl⟩) (q_preV hG hW hS hs.1 rfl) rfl rfl hl.1 rfl (lv_room (Nat.le_of_ble_eq_true rfl)) dL_read_3 ⟨Nat.le_of_ble_eq_true rfl, Nat.le_of_ble_eq_true rfl⟩) hS (fun E9 w9 H locs q9 ce9 hpx hW hS hce hcv hcl => ?_) (fun w_3 H locs hp3 hW hS => ?_)
  · skip
    rcases hpx with ⟨⟨rfl, hcx⟩, hwx⟩
    · skip
      obtain ⟨hs9, hf9⟩ := hwx
      refine vx_catch (own := RL) (name := IAE) hown [] ⟨0, 8, 11, 13⟩ [] (hxt.trans rfl) (fun z hz => nomatch hz) rfl (by decide) (hts (.classLink RL 13 "java/lang/IllegalArgumentException") (List.mem_of_getElem? (i := 1) rfl)) (va_Nw.use rfl (hG.nest 0 rfl)) hce hcv hcl ?_
      refine lv_astore_n (lv' := [(2, .ref (q9)), (0, .ref (b + 0)), (1, .ref (b + 45))]) hx hb dL_read_11 rfl hl (by decide) rfl (fun ls hl => ?_)
      refine lv_iconst (v := nI 1) hx hb dL_read_12 (by decide) ?_
      exact vx_ret (q_ei hx hb hr hlocks hW hS dL_read_13 (by exact ⟨Or.inr ⟨rfl, hcx, hs9, (hf9 45 (by omega) (by omega)).trans h45⟩, fun id h8 h9 => hf9 id (by omega) (by omega)⟩) (by decide) (by decide))
  · skip
    obtain ⟨a1, hs9, hf9⟩ := hp3
    replace h45 : w_3 45 = some (eL dA 1 O9) := (hf9 45 (by omega) (by omega)).trans h45
    refine lv_i2l hx hb dL_read_6 rfl ?_
    refine q_last hx hb hG hW hS h45 (by omega) (by omega) dL_read_7 (fun H locs hW hS hz7 => ?_)
    obtain ⟨w1, ew1⟩ : ∃ wq__ : Wd, wq__ = va_up w_3 45 (some (eL dA 1 (va_up O9 0 ((nI (rgo nc C R0 (nc + 1) P 0).2).toInt64)))) := ⟨_, rfl⟩
    replace hW : WP D b w1 H := by rw [ew1]; exact hW
    have frw1 : ∀ id : Nat, id ≠ 45 → w1 id = w_3 id := fun id h9 => by rw [ew1, up_ne h9]
    replace h45 : w1 45 = some (eL dA 1 (va_up O9 0 ((nI (rgo nc C R0 (nc + 1) P 0).2).toInt64))) := by rw [ew1]; exact up_eq
    refine lv_goto (tgt := 14) hx hb dL_read_8 (by decide) ?_
    refine lv_iconst (v := nI 0) hx hb dL_read_14 (by decide) ?_
    exact vx_ret (q_ei hx hb hr hlocks hW hS dL_read_15 (by exact ⟨Or.inl ⟨rfl, a1, hs9.out h45 frw1, h45⟩, fun id h8 h9 => (frw1 id (by omega)).trans (hf9 id (by omega) (by omega))⟩) (by decide) (by decide))

set_option maxHeartbeats 300000 in
set_option maxRecDepth 100000 in
/-- the wrapper of charAt -/
theorem c_L_charAt (l : Launch) (hl0 : l.stackTraces = false) {D : va_G} {dA : Nat → Nat} {b : Nat} {w : Wd} {lo n nc : Nat} {P : Pl} {Hs : Nat → Pl} {SL : Nat → Option Pl} {C : Nat → Nat} (hs : isSys dA b w lo (P, (n, Hs), SL, (nc, C))) {O9 : Nat → Int64} (h45 : w 45 = some (eL dA 1 O9)) (x : Int32) : vx_Met l yL_charAt wsL_charAt ({ frames := 7, cells := 1, slots := 6, locals := 103 } : Room) (PC D dA b w [.ref (b + 0), .int (x), .ref (b + 45)]) (QE D b (fun r w' => ((r = 0 ∧ (0 ≤ x) ∧ isSys dA b w' lo (P, (n, Hs), SL, (nc, C)) ∧ w' 45 = some (eL dA 1 (va_up O9 0 (oI (cAt nc C (i32n x))).toInt64))) ∨ (r = 1 ∧ (¬ 0 ≤ x) ∧ isSys dA b w' lo (P, (n, Hs), SL, (nc, C)) ∧ w' 45 = some (eL dA 1 O9))) ∧ ∀ id : Nat, 36 ≤ id → id < 45 → w' id = w id)) (XW D b (fun _ _ => False)) 1 6 (Fb b) := by
  refine q_ofH (cc := cL_charAt) (maxL := 4) (ret := (some .int)) (by decide) rfl rfl ?_
  intro p e s m args below meth c ls hx hb hr hml hts hown hlocks hxt hG hW hS hl
  have hown : s.vm.findClass RL = some m.cls := hown
  have hl : lv_has ls 4 [(0, .ref (b + 0)), (1, .int (x)), (2, .ref (b + 45))] := hl
  have hlo : 46 ≤ lo := hs.2.2.2.2.2.2.1
  refine lv_aload_n hx hb dL_charAt_0 rfl (lv_at hl 2 rfl) ?_
  refine lv_iconst (v := nI 0) hx hb dL_charAt_1 (by decide) ?_
  refine lv_aload_n hx hb dL_charAt_2 rfl (lv_at hl 0 rfl) ?_
  refine lv_iload_n hx hb dL_charAt_3 rfl (lv_at hl 1 rfl) ?_
  refine q_X1 (vx_runV (As := [.int (x)]) (rest := [.int (nI 0), .ref (b + 45)]) ⟨hx, hb, hml, hown, hts⟩ (c_X6_charAt l hl0 hs (x)) (cwV 1 hts gL_charAt_X6_charAt rfl rfl rfl (by decide +kernel) ⟨Nat.le_of_ble_eq_true rfl, Nat.le_of_ble_eq_true rfl⟩) (q_preV hG hW hS hs.1 rfl) rfl rfl hl.1 rfl (lv_room (Nat.le_of_ble_eq_true rfl)) dL_charAt_4 ⟨Nat.le_of_ble_eq_true rfl, Nat.le_of_ble_eq_true rfl⟩) hS (fun E9 w9 H locs q9 ce9 hpx hW hS hce hcv hcl => ?_) (fun w_4 H locs hp4 hW hS => ?_)
  · skip
    rcases hpx with ⟨⟨rfl, hcx⟩, hwx⟩
    · skip
      replace hwx := hwx.symm
      subst hwx
      refine vx_catch (own := RL) (name := IAE) hown [] ⟨0, 9, 12, 13⟩ [] (hxt.trans rfl) (fun z hz => nomatch hz) rfl (by decide) (hts (.classLink RL 13 "java/lang/IllegalArgumentException") (List.mem_of_getElem? (i := 1) rfl)) (va_Nw.use rfl (hG.nest 0 rfl)) hce hcv hcl ?_
      refine lv_astore_n (lv' := [(3, .ref (q9)), (0, .ref (b + 0)), (1, .int (x)), (2, .ref (b + 45))]) hx hb dL_charAt_12 rfl hl (by decide) rfl (fun ls hl => ?_)
      refine lv_iconst (v := nI 1) hx hb dL_charAt_13 (by decide) ?_
      exact vx_ret (q_ei hx hb hr hlocks hW hS dL_charAt_14 (by exact ⟨Or.inr ⟨rfl, hcx, hs, h45⟩, fun id h8 h9 => rfl⟩) (by decide) (by decide))
  · skip
    obtain ⟨a1, hw9⟩ := hp4
    replace hw9 := hw9.symm
    subst hw9
    have hs9 := hs
    refine lv_i2l hx hb dL_charAt_7 rfl ?_
    refine q_last hx hb hG hW hS h45 (by omega) (by omega) dL_charAt_8 (fun H locs hW hS hz8 => ?_)
    obtain ⟨w1, ew1⟩ : ∃ wq__ : Wd, wq__ = va_up w 45 (some (eL dA 1 (va_up O9 0 ((oI (cAt nc C (i32n x))).toInt64)))) := ⟨_, rfl⟩
    replace hW : WP D b w1 H := by rw [ew1]; exact hW
    have frw1 : ∀ id : Nat, id ≠ 45 → w1 id = w id := fun id h9 => by rw [ew1, up_ne h9]
    replace h45 : w1 45 = some (eL dA 1 (va_up O9 0 ((oI (cAt nc C (i32n x))).toInt64))) := by rw [ew1]; exact up_eq
    refine lv_goto (tgt := 15) hx hb dL_charAt_9 (by decide) ?_
    refine lv_iconst (v := nI 0) hx hb dL_charAt_15 (by decide) ?_
    exact vx_ret (q_ei hx hb hr hlocks hW hS dL_charAt_16 (by exact ⟨Or.inl ⟨rfl, a1, hs9.out h45 frw1, h45⟩, fun id h8 h9 => (frw1 id (by omega))⟩) (by decide) (by decide))

set_option maxHeartbeats 300000 in
set_option maxRecDepth 100000 in
/-- the wrapper of undo -/
theorem c_L_undo (l : Launch) (hl0 : l.stackTraces = false) {D : va_G} {dA : Nat → Nat} {b : Nat} {w : Wd} {lo n nc : Nat} {P : Pl} {Hs : Nat → Pl} {SL : Nat → Option Pl} {C : Nat → Nat} (hs : isSys dA b w lo (P, (n, Hs), SL, (nc, C))) {O9 : Nat → Int64} (h45 : w 45 = some (eL dA 1 O9))  : vx_Met l yL_undo wsL_undo ({ frames := 7, cells := 1, slots := 6, locals := 107 } : Room) (PC D dA b w [.ref (b + 0), .ref (b + 45)]) (QE D b (fun r w' => ((r = 0 ∧ (0 < n) ∧ isSys dA b w' lo (Hs (n - 1), (n - 1, Hs), SL, (nc, C)) ∧ w' 45 = some (eL dA 1 (va_up O9 0 (nI (n - 1)).toInt64))) ∨ (r = 1 ∧ (n = 0) ∧ isSys dA b w' lo (P, (n, Hs), SL, (nc, C)) ∧ w' 45 = some (eL dA 1 O9))) ∧ ∀ id : Nat, 36 ≤ id → id < 45 → w' id = w id)) (XW D b (fun _ _ => False)) 1 6 (Fb b) := by
  refine q_ofH (cc := cL_undo) (maxL := 3) (ret := (some .int)) (by decide) rfl rfl ?_
  intro p e s m args below meth c ls hx hb hr hml hts hown hlocks hxt hG hW hS hl
  have hown : s.vm.findClass RL = some m.cls := hown
  have hl : lv_has ls 3 [(0, .ref (b + 0)), (1, .ref (b + 45))] := hl
  have hlo : 46 ≤ lo := hs.2.2.2.2.2.2.1
  refine lv_aload_n hx hb dL_undo_0 rfl (lv_at hl 1 rfl) ?_
  refine lv_iconst (v := nI 0) hx hb dL_undo_1 (by decide) ?_
  refine lv_aload_n hx hb dL_undo_2 rfl (lv_at hl 0 rfl) ?_
  refine q_X1 (vx_runV (As := []) (rest := [.int (nI 0), .ref (b + 45)]) ⟨hx, hb, hml, hown, hts⟩ (c_X6_undo l hl0 hs ) (cwV 0 hts gL_undo_X6_undo rfl rfl rfl (by decide +kernel) ⟨Nat.le_of_ble_eq_true rfl, Nat.le_of_ble_eq_true rfl⟩) (q_preV hG hW hS hs.1 rfl) rfl rfl hl.1 rfl (lv_room (Nat.le_of_ble_eq_true rfl)) dL_undo_3 ⟨Nat.le_of_ble_eq_true rfl, Nat.le_of_ble_eq_true rfl⟩) hS (fun E9 w9 H locs q9 ce9 hpx hW hS hce hcv hcl => ?_) (fun w_3 H locs hp3 hW hS => ?_)
  · skip
    rcases hpx with ⟨⟨rfl, hcx⟩, hwx⟩
    · skip
      replace hwx := hwx.symm
      subst hwx
      refine vx_catch (own := RL) (name := ISE) hown [] ⟨0, 8, 11, 15⟩ [] (hxt.trans rfl) (fun z hz => nomatch hz) rfl (by decide) (hts (.classLink RL 15 "java/lang/IllegalStateException") (List.mem_of_getElem? (i := 1) rfl)) (va_Nw.use rfl (hG.nest 1 rfl)) hce hcv hcl ?_
      refine lv_astore_n (lv' := [(2, .ref (q9)), (0, .ref (b + 0)), (1, .ref (b + 45))]) hx hb dL_undo_11 rfl hl (by decide) rfl (fun ls hl => ?_)
      refine lv_iconst (v := nI 1) hx hb dL_undo_12 (by decide) ?_
      exact vx_ret (q_ei hx hb hr hlocks hW hS dL_undo_13 (by exact ⟨Or.inr ⟨rfl, hcx, hs, h45⟩, fun id h8 h9 => rfl⟩) (by decide) (by decide))
  · skip
    obtain ⟨a1, hs9, hf9⟩ := hp3
    replace h45 : w_3 45 = some (eL dA 1 O9) := (hf9 45 (by omega) (by omega)).trans h45
    refine lv_i2l hx hb dL_undo_6 rfl ?_
    refine q_last hx hb hG hW hS h45 (by omega) (by omega) dL_undo_7 (fun H locs hW hS hz7 => ?_)
    obtain ⟨w1, ew1⟩ : ∃ wq__ : Wd, wq__ = va_up w_3 45 (some (eL dA 1 (va_up O9 0 ((nI (n - 1)).toInt64)))) := ⟨_, rfl⟩
    replace hW : WP D b w1 H := by rw [ew1]; exact hW
    have frw1 : ∀ id : Nat, id ≠ 45 → w1 id = w_3 id := fun id h9 => by rw [ew1, up_ne h9]
    replace h45 : w1 45 = some (eL dA 1 (va_up O9 0 ((nI (n - 1)).toInt64))) := by rw [ew1]; exact up_eq
    refine lv_goto (tgt := 14) hx hb dL_undo_8 (by decide) ?_
    refine lv_iconst (v := nI 0) hx hb dL_undo_14 (by decide) ?_
    exact vx_ret (q_ei hx hb hr hlocks hW hS dL_undo_15 (by exact ⟨Or.inl ⟨rfl, a1, hs9.out h45 frw1, h45⟩, fun id h8 h9 => (frw1 id (by omega)).trans (hf9 id (by omega) (by omega))⟩) (by decide) (by decide))

set_option maxHeartbeats 300000 in
set_option maxRecDepth 100000 in
/-- the wrapper of keep -/
theorem c_L_keep (l : Launch) (hl0 : l.stackTraces = false) {D : va_G} {dA : Nat → Nat} {b : Nat} {w : Wd} {lo n nc : Nat} {P : Pl} {Hs : Nat → Pl} {SL : Nat → Option Pl} {C : Nat → Nat} (hs : isSys dA b w lo (P, (n, Hs), SL, (nc, C))) {O9 : Nat → Int64} (h45 : w 45 = some (eL dA 1 O9)) (x : Int32) : vx_Met l yL_keep wsL_keep ({ frames := 7, cells := 6, slots := 110, locals := 104 } : Room) (PC D dA b w [.ref (b + 0), .int (x), .ref (b + 45)]) (QE D b (fun r w' => ((r = 0 ∧ (0 ≤ x ∧ x < nI 2) ∧ isSys dA b w' lo (P, (n, Hs), va_up SL (i32n x) (some P), (nc, C)) ∧ w' 45 = some (eL dA 1 (va_up O9 0 (nI P.w).toInt64))) ∨ (r = 1 ∧ (¬ (0 ≤ x ∧ x < nI 2)) ∧ isSys dA b w' lo (P, (n, Hs), SL, (nc, C)) ∧ w' 45 = some (eL dA 1 O9))) ∧ ∀ id : Nat, 36 ≤ id → id < 45 → w' id = w id)) (XW D b (fun _ _ => False)) 6 110 (Fb b) := by
  refine q_ofH (cc := cL_keep) (maxL := 4) (ret := (some .int)) (by decide) rfl rfl ?_
  intro p e s m args below meth c ls hx hb hr hml hts hown hlocks hxt hG hW hS hl
  have hown : s.vm.findClass RL = some m.cls := hown
  have hl : lv_has ls 4 [(0, .ref (b + 0)), (1, .int (x)), (2, .ref (b + 45))] := hl
  have hlo : 46 ≤ lo := hs.2.2.2.2.2.2.1
  refine lv_aload_n hx hb dL_keep_0 rfl (lv_at hl 2 rfl) ?_
  refine lv_iconst (v := nI 0) hx hb dL_keep_1 (by decide) ?_
  refine lv_aload_n hx hb dL_keep_2 rfl (lv_at hl 0 rfl) ?_
  refine lv_iload_n hx hb dL_keep_3 rfl (lv_at hl 1 rfl) ?_
  refine q_X1 (vx_runV (As := [.int (x)]) (rest := [.int (nI 0), .ref (b + 45)]) ⟨hx, hb, hml, hown, hts⟩ (c_X6_keep l hl0 hs (x)) (cwV 1 hts gL_keep_X6_keep rfl rfl rfl (by decide +kernel) ⟨Nat.le_of_ble_eq_true rfl, Nat.le_of_ble_eq_true rfl⟩) (q_preV hG hW hS hs.1 rfl) rfl rfl hl.1 rfl (lv_room (Nat.le_of_ble_eq_true rfl)) dL_keep_4 ⟨Nat.le_of_ble_eq_true rfl, Nat.le_of_ble_eq_true rfl⟩) hS (fun E9 w9 H locs q9 ce9 hpx hW hS hce hcv hcl => ?_) (fun w_4 H locs hp4 hW hS => ?_)
  · skip
    rcases hpx with ⟨⟨rfl, hcx⟩, hwx⟩
    · skip
      replace hwx := hwx.symm
      subst hwx
      refine vx_catch (own := RL) (name := IAE) hown [] ⟨0, 9, 12, 13⟩ [] (hxt.trans rfl) (fun z hz => nomatch hz) rfl (by decide) (hts (.classLink RL 13 "java/lang/IllegalArgumentException") (List.mem_of_getElem? (i := 1) rfl)) (va_Nw.use rfl (hG.nest 0 rfl)) hce hcv hcl ?_
      refine lv_astore_n (lv' := [(3, .ref (q9)), (0, .ref (b + 0)), (1, .int (x)), (2, .ref (b + 45))]) hx hb dL_keep_12 rfl hl (by decide) rfl (fun ls hl => ?_)
      refine lv_iconst (v := nI 1) hx hb dL_keep_13 (by decide) ?_
      exact vx_ret (q_ei hx hb hr hlocks hW hS dL_keep_14 (by exact ⟨Or.inr ⟨rfl, hcx, hs, h45⟩, fun id h8 h9 => rfl⟩) (by decide) (by decide))
  · skip
    obtain ⟨a1, hs9, hf9⟩ := hp4
    replace h45 : w_4 45 = some (eL dA 1 O9) := (hf9 45 (by omega) (by omega)).trans h45
    refine lv_i2l hx hb dL_keep_7 rfl ?_
    refine q_last hx hb hG hW hS h45 (by omega) (by omega) dL_keep_8 (fun H locs hW hS hz8 => ?_)
    obtain ⟨w1, ew1⟩ : ∃ wq__ : Wd, wq__ = va_up w_4 45 (some (eL dA 1 (va_up O9 0 ((nI P.w).toInt64)))) := ⟨_, rfl⟩
    replace hW : WP D b w1 H := by rw [ew1]; exact hW
    have frw1 : ∀ id : Nat, id ≠ 45 → w1 id = w_4 id := fun id h9 => by rw [ew1, up_ne h9]
    replace h45 : w1 45 = some (eL dA 1 (va_up O9 0 ((nI P.w).toInt64))) := by rw [ew1]; exact up_eq
    refine lv_goto (tgt := 15) hx hb dL_keep_9 (by decide) ?_
    refine lv_iconst (v := nI 0) hx hb dL_keep_15 (by decide) ?_
    exact vx_ret (q_ei hx hb hr hlocks hW hS dL_keep_16 (by exact ⟨Or.inl ⟨rfl, a1, hs9.out h45 frw1, h45⟩, fun id h8 h9 => (frw1 id (by omega)).trans (hf9 id (by omega) (by omega))⟩) (by decide) (by decide))

set_option maxHeartbeats 300000 in
set_option maxRecDepth 100000 in
/-- the wrapper of goBack -/
theorem c_L_goBack (l : Launch) (hl0 : l.stackTraces = false) {D : va_G} {dA : Nat → Nat} {b : Nat} {w : Wd} {lo n nc : Nat} {P : Pl} {Hs : Nat → Pl} {SL : Nat → Option Pl} {C : Nat → Nat} (hs : isSys dA b w lo (P, (n, Hs), SL, (nc, C))) {O9 : Nat → Int64} (h45 : w 45 = some (eL dA 1 O9)) (x : Int32) : vx_Met l yL_goBack wsL_goBack ({ frames := 7, cells := 6, slots := 110, locals := 108 } : Room) (PC D dA b w [.ref (b + 0), .int (x), .ref (b + 45)]) (QE D b (fun r w' => ((r = 0 ∧ ((0 ≤ x ∧ x < nI 2) ∧ SL (i32n x) ≠ none) ∧ isSys dA b w' lo ((SL (i32n x)).getD P0, (pshN n, psh n Hs P), SL, (nc, C)) ∧ w' 45 = some (eL dA 1 (va_up O9 0 (nI ((SL (i32n x)).getD P0).w).toInt64))) ∨ (r = 1 ∧ (¬ (0 ≤ x ∧ x < nI 2)) ∧ isSys dA b w' lo (P, (n, Hs), SL, (nc, C)) ∧ w' 45 = some (eL dA 1 O9)) ∨ (r = 2 ∧ ((0 ≤ x ∧ x < nI 2) ∧ SL (i32n x) = none) ∧ isSys dA b w' lo (P, (n, Hs), SL, (nc, C)) ∧ w' 45 = some (eL dA 1 O9))) ∧ ∀ id : Nat, 36 ≤ id → id < 45 → w' id = w id)) (XW D b (fun _ _ => False)) 6 110 (Fb b) := by
  refine q_ofH (cc := cL_goBack) (maxL := 4) (ret := (some .int)) (by decide) rfl rfl ?_
  intro p e s m args below meth c ls hx hb hr hml hts hown hlocks hxt hG hW hS hl
  have hown : s.vm.findClass RL = some m.cls := hown
  have hl : lv_has ls 4 [(0, .ref (b + 0)), (1, .int (x)), (2, .ref (b + 45))] := hl
  have hlo : 46 ≤ lo := hs.2.2.2.2.2.2.1
  refine lv_aload_n hx hb dL_goBack_0 rfl (lv_at hl 2 rfl) ?_
  refine lv_iconst (v := nI 0) hx hb dL_goBack_1 (by decide) ?_
  refine lv_aload_n hx hb dL_goBack_2 rfl (lv_at hl 0 rfl) ?_
  refine lv_iload_n hx hb dL_goBack_3 rfl (lv_at hl 1 rfl) ?_
  refine q_X1 (vx_runV (As := [.int (x)]) (rest := [.int (nI 0), .ref (b + 45)]) ⟨hx, hb, hml, hown, hts⟩ (c_X6_goBack l hl0 hs (x)) (cwV 1 hts gL_goBack_X6_goBack rfl rfl rfl (by decide +kernel) ⟨Nat.le_of_ble_eq_true rfl, Nat.le_of_ble_eq_true rfl⟩) (q_preV hG hW hS hs.1 rfl) rfl rfl hl.1 rfl (lv_room (Nat.le_of_ble_eq_true rfl)) dL_goBack_4 ⟨Nat.le_of_ble_eq_true rfl, Nat.le_of_ble_eq_true rfl⟩) hS (fun E9 w9 H locs q9 ce9 hpx hW hS hce hcv hcl => ?_) (fun w_4 H locs hp4 hW hS => ?_)
  · skip
    rcases hpx with ⟨⟨rfl, hcx⟩ | ⟨hca, rfl, hcx⟩, hwx⟩
    · skip
      replace hwx := hwx.symm
      subst hwx
      refine vx_catch (own := RL) (name := IAE) hown [] ⟨0, 9, 12, 13⟩ [⟨0, 9, 15, 15⟩] (hxt.trans rfl) (fun z hz => nomatch hz) rfl (by decide) (hts (.classLink RL 13 "java/lang/IllegalArgumentException") (List.mem_of_getElem? (i := 1) rfl)) (va_Nw.use rfl (hG.nest 0 rfl)) hce hcv hcl ?_
      refine lv_astore_n (lv' := [(3, .ref (q9)), (0, .ref (b + 0)), (1, .int (x)), (2, .ref (b + 45))]) hx hb dL_goBack_12 rfl hl (by decide) rfl (fun ls hl => ?_)
      refine lv_iconst (v := nI 1) hx hb dL_goBack_13 (by decide) ?_
      exact vx_ret (q_ei hx hb hr hlocks hW hS dL_goBack_14 (by exact ⟨Or.inr (Or.inl ⟨rfl, hcx, hs, h45⟩), fun id h8 h9 => rfl⟩) (by decide) (by decide))
    · skip
      replace hwx := hwx.symm
      subst hwx
      refine vx_catch (own := RL) (name := ISE) hown [⟨0, 9, 12, 13⟩] ⟨0, 9, 15, 15⟩ [] (hxt.trans rfl) (fun z hz => by rw [List.mem_singleton] at hz; subst hz; exact Or.inr ⟨by decide, IAE, (hts (.classLink RL 13 "java/lang/IllegalArgumentException") (List.mem_of_getElem? (i := 1) rfl)), hG.2.2.2.2.2.2.1⟩) rfl (by decide) (hts (.classLink RL 15 "java/lang/IllegalStateException") (List.mem_of_getElem? (i := 2) rfl)) (va_Nw.use rfl (hG.nest 1 rfl)) hce hcv hcl ?_
      refine lv_astore_n (lv' := [(3, .ref (q9)), (0, .ref (b + 0)), (1, .int (x)), (2, .ref (b + 45))]) hx hb dL_goBack_15 rfl hl (by decide) rfl (fun ls hl => ?_)
      refine lv_iconst (v := nI 2) hx hb dL_goBack_16 (by decide) ?_
      exact vx_ret (q_ei hx hb hr hlocks hW hS dL_goBack_17 (by exact ⟨Or.inr (Or.inr ⟨rfl, ⟨hca, hcx⟩, hs, h45⟩), fun id h8 h9 => rfl⟩) (by decide) (by decide))
  · skip
    obtain ⟨a1, hs9, hf9⟩ := hp4
    replace h45 : w_4 45 = some (eL dA 1 O9) := (hf9 45 (by omega) (by omega)).trans h45
    refine lv_i2l hx hb dL_goBack_7 rfl ?_
    refine q_last hx hb hG hW hS h45 (by omega) (by omega) dL_goBack_8 (fun H locs hW hS hz8 => ?_)
    obtain ⟨w1, ew1⟩ : ∃ wq__ : Wd, wq__ = va_up w_4 45 (some (eL dA 1 (va_up O9 0 ((nI ((SL (i32n x)).getD P0).w).toInt64)))) := ⟨_, rfl⟩
    replace hW : WP D b w1 H := by rw [ew1]; exact hW
    have frw1 : ∀ id : Nat, id ≠ 45 → w1 id = w_4 id := fun id h9 => by rw [ew1, up_ne h9]
    replace h45 : w1 45 = some (eL dA 1 (va_up O9 0 ((nI ((SL (i32n x)).getD P0).w).toInt64))) := by rw [ew1]; exact up_eq
    refine lv_goto (tgt := 18) hx hb dL_goBack_9 (by decide) ?_
    refine lv_iconst (v := nI 0) hx hb dL_goBack_18 (by decide) ?_
    exact vx_ret (q_ei hx hb hr hlocks hW hS dL_goBack_19 (by exact ⟨Or.inl ⟨rfl, a1, hs9.out h45 frw1, h45⟩, fun id h8 h9 => (frw1 id (by omega)).trans (hf9 id (by omega) (by omega))⟩) (by decide) (by decide))

set_option maxHeartbeats 300000 in
set_option maxRecDepth 100000 in
/-- the wrapper of wordOf -/
theorem c_L_wordOf (l : Launch) (hl0 : l.stackTraces = false) {D : va_G} {dA : Nat → Nat} {b : Nat} {w : Wd} {lo n nc : Nat} {P : Pl} {Hs : Nat → Pl} {SL : Nat → Option Pl} {C : Nat → Nat} (hs : isSys dA b w lo (P, (n, Hs), SL, (nc, C))) {O9 : Nat → Int64} (h45 : w 45 = some (eL dA 1 O9)) (x y : Int32) : vx_Met l yL_wordOf wsL_wordOf ({ frames := 8, cells := 2, slots := 12, locals := 137 } : Room) (PC D dA b w [.ref (b + 0), .int (x), .int (y), .ref (b + 45)]) (QE D b (fun r w' => ((r = 0 ∧ ((0 ≤ x ∧ x < nI P.w) ∧ (0 ≤ y ∧ y ≤ nI 6)) ∧ isSys dA b w' lo (P, (n, Hs), SL, (nc, C)) ∧ w' 45 = some (eL dA 1 (va_up O9 0 (wof P (i32n x) (i32n y)).toInt64))) ∨ (r = 1 ∧ (¬ (0 ≤ x ∧ x < nI P.w)) ∧ isSys dA b w' lo (P, (n, Hs), SL, (nc, C)) ∧ w' 45 = some (eL dA 1 O9)) ∨ (r = 2 ∧ ((0 ≤ x ∧ x < nI P.w) ∧ ¬ (0 ≤ y ∧ y ≤ nI 6)) ∧ isSys dA b w' lo (P, (n, Hs), SL, (nc, C)) ∧ w' 45 = some (eL dA 1 O9))) ∧ ∀ id : Nat, 36 ≤ id → id < 45 → w' id = w id)) (XW D b (fun _ _ => False)) 2 12 (Fb b) := by
  refine q_ofH (cc := cL_wordOf) (maxL := 5) (ret := (some .int)) (by decide) rfl rfl ?_
  intro p e s m args below meth c ls hx hb hr hml hts hown hlocks hxt hG hW hS hl
  have hown : s.vm.findClass RL = some m.cls := hown
  have hl : lv_has ls 5 [(0, .ref (b + 0)), (1, .int (x)), (2, .int (y)), (3, .ref (b + 45))] := hl
  have hlo : 46 ≤ lo := hs.2.2.2.2.2.2.1
  refine lv_aload_n hx hb dL_wordOf_0 rfl (lv_at hl 3 rfl) ?_
  refine lv_iconst (v := nI 0) hx hb dL_wordOf_1 (by decide) ?_
  refine lv_aload_n hx hb dL_wordOf_2 rfl (lv_at hl 0 rfl) ?_
  refine lv_iload_n hx hb dL_wordOf_3 rfl (lv_at hl 1 rfl) ?_
  refine lv_iload_n hx hb dL_wordOf_4 rfl (lv_at hl 2 rfl) ?_
  refine q_X1 (vx_runV (As := [.int (x), .int (y)]) (rest := [.int (nI 0), .ref (b + 45)]) ⟨hx, hb, hml, hown, hts⟩ (c_X6_wordOf l hl0 hs (x) (y)) (cwV 2 hts gL_wordOf_X6_wordOf rfl rfl rfl (by decide +kernel) ⟨Nat.le_of_ble_eq_true rfl, Nat.le_of_ble_eq_true rfl⟩) (q_preV hG hW hS hs.1 rfl) rfl rfl hl.1 rfl (lv_room (Nat.le_of_ble_eq_true rfl)) dL_wordOf_5 ⟨Nat.le_of_ble_eq_true rfl, Nat.le_of_ble_eq_true rfl⟩) hS (fun E9 w9 H locs q9 ce9 hpx hW hS hce hcv hcl => ?_) (fun w_5 H locs hp5 hW hS => ?_)
  · skip
    rcases hpx with ⟨⟨rfl, hcx⟩ | ⟨hca, rfl, hcx⟩, hwx⟩
    · skip
      replace hwx := hwx.symm
      subst hwx
      refine vx_catch (own := RL) (name := IOE) hown [] ⟨0, 10, 13, 25⟩ [⟨0, 10, 17, 13⟩] (hxt.trans rfl) (fun z hz => nomatch hz) rfl (by decide) (hts (.classLink RL 25 "java/lang/IndexOutOfBoundsException") (List.mem_of_getElem? (i := 1) rfl)) (va_Nw.use rfl (hG.nest 2 rfl)) hce hcv hcl ?_
      refine lv_astore (lv' := [(4, .ref (q9)), (0, .ref (b + 0)), (1, .int (x)), (2, .int (y)), (3, .ref (b + 45))]) hx hb dL_wordOf_13 hl (by decide) rfl (fun ls hl => ?_)
      refine lv_iconst (v := nI 1) hx hb dL_wordOf_15 (by decide) ?_
      exact vx_ret (q_ei hx hb hr hlocks hW hS dL_wordOf_16 (by exact ⟨Or.inr (Or.inl ⟨rfl, hcx, hs, h45⟩), fun id h8 h9 => rfl⟩) (by decide) (by decide))
    · skip
      replace hwx := hwx.symm
      subst hwx
      refine vx_catch (own := RL) (name := IAE) hown [⟨0, 10, 13, 25⟩] ⟨0, 10, 17, 13⟩ [] (hxt.trans rfl) (fun z hz => by rw [List.mem_singleton] at hz; subst hz; exact Or.inr ⟨by decide, IOE, (hts (.classLink RL 25 "java/lang/IndexOutOfBoundsException") (List.mem_of_getElem? (i := 1) rfl)), hG.2.2.2.2.2.2.2.1⟩) rfl (by decide) (hts (.classLink RL 13 "java/lang/IllegalArgumentException") (List.mem_of_getElem? (i := 2) rfl)) (va_Nw.use rfl (hG.nest 0 rfl)) hce hcv hcl ?_
      refine lv_astore (lv' := [(4, .ref (q9)), (0, .ref (b + 0)), (1, .int (x)), (2, .int (y)), (3, .ref (b + 45))]) hx hb dL_wordOf_17 hl (by decide) rfl (fun ls hl => ?_)
      refine lv_iconst (v := nI 2) hx hb dL_wordOf_19 (by decide) ?_
      exact vx_ret (q_ei hx hb hr hlocks hW hS dL_wordOf_20 (by exact ⟨Or.inr (Or.inr ⟨rfl, ⟨hca, hcx⟩, hs, h45⟩), fun id h8 h9 => rfl⟩) (by decide) (by decide))
  · skip
    obtain ⟨a1, hs9, hf9⟩ := hp5
    replace h45 : w_5 45 = some (eL dA 1 O9) := (hf9 45 (by omega) (by omega)).trans h45
    refine lv_i2l hx hb dL_wordOf_8 rfl ?_
    refine q_last hx hb hG hW hS h45 (by omega) (by omega) dL_wordOf_9 (fun H locs hW hS hz9 => ?_)
    obtain ⟨w1, ew1⟩ : ∃ wq__ : Wd, wq__ = va_up w_5 45 (some (eL dA 1 (va_up O9 0 ((wof P (i32n x) (i32n y)).toInt64)))) := ⟨_, rfl⟩
    replace hW : WP D b w1 H := by rw [ew1]; exact hW
    have frw1 : ∀ id : Nat, id ≠ 45 → w1 id = w_5 id := fun id h9 => by rw [ew1, up_ne h9]
    replace h45 : w1 45 = some (eL dA 1 (va_up O9 0 ((wof P (i32n x) (i32n y)).toInt64))) := by rw [ew1]; exact up_eq
    refine lv_goto (tgt := 21) hx hb dL_wordOf_10 (by decide) ?_
    refine lv_iconst (v := nI 0) hx hb dL_wordOf_21 (by decide) ?_
    exact vx_ret (q_ei hx hb hr hlocks hW hS dL_wordOf_22 (by exact ⟨Or.inl ⟨rfl, a1, hs9.out h45 frw1, h45⟩, fun id h8 h9 => (frw1 id (by omega)).trans (hf9 id (by omega) (by omega))⟩) (by decide) (by decide))

set_option maxHeartbeats 300000 in
set_option maxRecDepth 100000 in
/-- the wrapper of noiseOf -/
theorem c_L_noiseOf (l : Launch) (hl0 : l.stackTraces = false) {D : va_G} {dA : Nat → Nat} {b : Nat} {w : Wd} {lo n nc : Nat} {P : Pl} {Hs : Nat → Pl} {SL : Nat → Option Pl} {C : Nat → Nat} (hs : isSys dA b w lo (P, (n, Hs), SL, (nc, C))) {O9 : Nat → Int64} (h45 : w 45 = some (eL dA 1 O9)) (x y : Int32) : vx_Met l yL_noiseOf wsL_noiseOf ({ frames := 8, cells := 2, slots := 12, locals := 137 } : Room) (PC D dA b w [.ref (b + 0), .int (x), .int (y), .ref (b + 45)]) (QE D b (fun r w' => ((r = 0 ∧ ((0 ≤ x ∧ x < nI P.n) ∧ (0 ≤ y ∧ y ≤ nI 6)) ∧ isSys dA b w' lo (P, (n, Hs), SL, (nc, C)) ∧ w' 45 = some (eL dA 1 (va_up O9 0 (nI (nof P (i32n x) (i32n y))).toInt64))) ∨ (r = 1 ∧ (¬ (0 ≤ x ∧ x < nI P.n)) ∧ isSys dA b w' lo (P, (n, Hs), SL, (nc, C)) ∧ w' 45 = some (eL dA 1 O9)) ∨ (r = 2 ∧ ((0 ≤ x ∧ x < nI P.n) ∧ ¬ (0 ≤ y ∧ y ≤ nI 6)) ∧ isSys dA b w' lo (P, (n, Hs), SL, (nc, C)) ∧ w' 45 = some (eL dA 1 O9))) ∧ ∀ id : Nat, 36 ≤ id → id < 45 → w' id = w id)) (XW D b (fun _ _ => False)) 2 12 (Fb b) := by
  refine q_ofH (cc := cL_noiseOf) (maxL := 5) (ret := (some .int)) (by decide) rfl rfl ?_
  intro p e s m args below meth c ls hx hb hr hml hts hown hlocks hxt hG hW hS hl
  have hown : s.vm.findClass RL = some m.cls := hown
  have hl : lv_has ls 5 [(0, .ref (b + 0)), (1, .int (x)), (2, .int (y)), (3, .ref (b + 45))] := hl
  have hlo : 46 ≤ lo := hs.2.2.2.2.2.2.1
  refine lv_aload_n hx hb dL_noiseOf_0 rfl (lv_at hl 3 rfl) ?_
  refine lv_iconst (v := nI 0) hx hb dL_noiseOf_1 (by decide) ?_
  refine lv_aload_n hx hb dL_noiseOf_2 rfl (lv_at hl 0 rfl) ?_
  refine lv_iload_n hx hb dL_noiseOf_3 rfl (lv_at hl 1 rfl) ?_
  refine lv_iload_n hx hb dL_noiseOf_4 rfl (lv_at hl 2 rfl) ?_
  refine q_X1 (vx_runV (As := [.int (x), .int (y)]) (rest := [.int (nI 0), .ref (b + 45)]) ⟨hx, hb, hml, hown, hts⟩ (c_X6_noiseOf l hl0 hs (x) (y)) (cwV 2 hts gL_noiseOf_X6_noiseOf rfl rfl rfl (by decide +kernel) ⟨Nat.le_of_ble_eq_true rfl, Nat.le_of_ble_eq_true rfl⟩) (q_preV hG hW hS hs.1 rfl) rfl rfl hl.1 rfl (lv_room (Nat.le_of_ble_eq_true rfl)) dL_noiseOf_5 ⟨Nat.le_of_ble_eq_true rfl, Nat.le_of_ble_eq_true rfl⟩) hS (fun E9 w9 H locs q9 ce9 hpx hW hS hce hcv hcl => ?_) (fun w_5 H locs hp5 hW hS => ?_)
  · skip
    rcases hpx with ⟨⟨rfl, hcx⟩ | ⟨hca, rfl, hcx⟩, hwx⟩
    · skip
      replace hwx := hwx.symm
      subst hwx
      refine vx_catch (own := RL) (name := IOE) hown [] ⟨0, 10, 13, 25⟩ [⟨0, 10, 17, 13⟩] (hxt.trans rfl) (fun z hz => nomatch hz) rfl (by decide) (hts (.classLink RL 25 "java/lang/IndexOutOfBoundsException") (List.mem_of_getElem? (i := 1) rfl)) (va_Nw.use rfl (hG.nest 2 rfl)) hce hcv hcl ?_
      refine lv_astore (lv' := [(4, .ref (q9)), (0, .ref (b + 0)), (1, .int (x)), (2, .int (y)), (3, .ref (b + 45))]) hx hb dL_noiseOf_13 hl (by decide) rfl (fun ls hl => ?_)
      refine lv_iconst (v := nI 1) hx hb dL_noiseOf_15 (by decide) ?_
      exact vx_ret (q_ei hx hb hr hlocks hW hS dL_noiseOf_16 (by exact ⟨Or.inr (Or.inl ⟨rfl, hcx, hs, h45⟩), fun id h8 h9 => rfl⟩) (by decide) (by decide))
    · skip
      replace hwx := hwx.symm
      subst hwx
      refine vx_catch (own := RL) (name := IAE) hown [⟨0, 10, 13, 25⟩] ⟨0, 10, 17, 13⟩ [] (hxt.trans rfl) (fun z hz => by rw [List.mem_singleton] at hz; subst hz; exact Or.inr ⟨by decide, IOE, (hts (.classLink RL 25 "java/lang/IndexOutOfBoundsException") (List.mem_of_getElem? (i := 1) rfl)), hG.2.2.2.2.2.2.2.1⟩) rfl (by decide) (hts (.classLink RL 13 "java/lang/IllegalArgumentException") (List.mem_of_getElem? (i := 2) rfl)) (va_Nw.use rfl (hG.nest 0 rfl)) hce hcv hcl ?_
      refine lv_astore (lv' := [(4, .ref (q9)), (0, .ref (b + 0)), (1, .int (x)), (2, .int (y)), (3, .ref (b + 45))]) hx hb dL_noiseOf_17 hl (by decide) rfl (fun ls hl => ?_)
      refine lv_iconst (v := nI 2) hx hb dL_noiseOf_19 (by decide) ?_
      exact vx_ret (q_ei hx hb hr hlocks hW hS dL_noiseOf_20 (by exact ⟨Or.inr (Or.inr ⟨rfl, ⟨hca, hcx⟩, hs, h45⟩), fun id h8 h9 => rfl⟩) (by decide) (by decide))
  · skip
    obtain ⟨a1, hs9, hf9⟩ := hp5
    replace h45 : w_5 45 = some (eL dA 1 O9) := (hf9 45 (by omega) (by omega)).trans h45
    refine lv_i2l hx hb dL_noiseOf_8 rfl ?_
    refine q_last hx hb hG hW hS h45 (by omega) (by omega) dL_noiseOf_9 (fun H locs hW hS hz9 => ?_)
    obtain ⟨w1, ew1⟩ : ∃ wq__ : Wd, wq__ = va_up w_5 45 (some (eL dA 1 (va_up O9 0 ((nI (nof P (i32n x) (i32n y))).toInt64)))) := ⟨_, rfl⟩
    replace hW : WP D b w1 H := by rw [ew1]; exact hW
    have frw1 : ∀ id : Nat, id ≠ 45 → w1 id = w_5 id := fun id h9 => by rw [ew1, up_ne h9]
    replace h45 : w1 45 = some (eL dA 1 (va_up O9 0 ((nI (nof P (i32n x) (i32n y))).toInt64))) := by rw [ew1]; exact up_eq
    refine lv_goto (tgt := 21) hx hb dL_noiseOf_10 (by decide) ?_
    refine lv_iconst (v := nI 0) hx hb dL_noiseOf_21 (by decide) ?_
    exact vx_ret (q_ei hx hb hr hlocks hW hS dL_noiseOf_22 (by exact ⟨Or.inl ⟨rfl, a1, hs9.out h45 frw1, h45⟩, fun id h8 h9 => (frw1 id (by omega)).trans (hf9 id (by omega) (by omega))⟩) (by decide) (by decide))

set_option maxHeartbeats 300000 in
set_option maxRecDepth 100000 in
/-- the wrapper of second -/
theorem c_L_second (l : Launch) (hl0 : l.stackTraces = false) {D : va_G} {dA : Nat → Nat} {b : Nat} {w : Wd} {lo n nc : Nat} {P : Pl} {Hs : Nat → Pl} {SL : Nat → Option Pl} {C : Nat → Nat} (hs : isSys dA b w lo (P, (n, Hs), SL, (nc, C))) {O9 : Nat → Int64} (h45 : w 45 = some (eL dA 1 O9)) (x y : Int32) : vx_Met l yL_second wsL_second ({ frames := 8, cells := 1, slots := 6, locals := 137 } : Room) (PC D dA b w [.ref (b + 0), .int (x), .int (y), .ref (b + 45)]) (QE D b (fun r w' => ((r = 0 ∧ ((0 ≤ x ∧ x < 120) ∧ (0 ≤ y ∧ y ≤ nI 5)) ∧ isSys dA b w' lo (P, (n, Hs), SL, (nc, C)) ∧ w' 45 = some (eL dA 1 (va_up O9 0 (sof P (i32n x) (i32n y)).toInt64))) ∨ (r = 1 ∧ (¬ (0 ≤ x ∧ x < 120)) ∧ isSys dA b w' lo (P, (n, Hs), SL, (nc, C)) ∧ w' 45 = some (eL dA 1 O9)) ∨ (r = 2 ∧ ((0 ≤ x ∧ x < 120) ∧ ¬ (0 ≤ y ∧ y ≤ nI 5)) ∧ isSys dA b w' lo (P, (n, Hs), SL, (nc, C)) ∧ w' 45 = some (eL dA 1 O9))) ∧ ∀ id : Nat, 36 ≤ id → id < 45 → w' id = w id)) (XW D b (fun _ _ => False)) 1 6 (Fb b) := by
  refine q_ofH (cc := cL_second) (maxL := 5) (ret := (some .int)) (by decide) rfl rfl ?_
  intro p e s m args below meth c ls hx hb hr hml hts hown hlocks hxt hG hW hS hl
  have hown : s.vm.findClass RL = some m.cls := hown
  have hl : lv_has ls 5 [(0, .ref (b + 0)), (1, .int (x)), (2, .int (y)), (3, .ref (b + 45))] := hl
  have hlo : 46 ≤ lo := hs.2.2.2.2.2.2.1
  refine lv_aload_n hx hb dL_second_0 rfl (lv_at hl 3 rfl) ?_
  refine lv_iconst (v := nI 0) hx hb dL_second_1 (by decide) ?_
  refine lv_aload_n hx hb dL_second_2 rfl (lv_at hl 0 rfl) ?_
  refine lv_iload_n hx hb dL_second_3 rfl (lv_at hl 1 rfl) ?_
  refine lv_iload_n hx hb dL_second_4 rfl (lv_at hl 2 rfl) ?_
  refine q_X1 (vx_runV (As := [.int (x), .int (y)]) (rest := [.int (nI 0), .ref (b + 45)]) ⟨hx, hb, hml, hown, hts⟩ (c_X6_second l hl0 hs (x) (y)) (cwV 2 hts gL_second_X6_second rfl rfl rfl (by decide +kernel) ⟨Nat.le_of_ble_eq_true rfl, Nat.le_of_ble_eq_true rfl⟩) (q_preV hG hW hS hs.1 rfl) rfl rfl hl.1 rfl (lv_room (Nat.le_of_ble_eq_true rfl)) dL_second_5 ⟨Nat.le_of_ble_eq_true rfl, Nat.le_of_ble_eq_true rfl⟩) hS (fun E9 w9 H locs q9 ce9 hpx hW hS hce hcv hcl => ?_) (fun w_5 H locs hp5 hW hS => ?_)
  · skip
    rcases hpx with ⟨⟨rfl, hcx⟩ | ⟨hca, rfl, hcx⟩, hwx⟩
    · skip
      replace hwx := hwx.symm
      subst hwx
      refine vx_catch (own := RL) (name := IOE) hown [] ⟨0, 10, 13, 25⟩ [⟨0, 10, 17, 13⟩] (hxt.trans rfl) (fun z hz => nomatch hz) rfl (by decide) (hts (.classLink RL 25 "java/lang/IndexOutOfBoundsException") (List.mem_of_getElem? (i := 1) rfl)) (va_Nw.use rfl (hG.nest 2 rfl)) hce hcv hcl ?_
      refine lv_astore (lv' := [(4, .ref (q9)), (0, .ref (b + 0)), (1, .int (x)), (2, .int (y)), (3, .ref (b + 45))]) hx hb dL_second_13 hl (by decide) rfl (fun ls hl => ?_)
      refine lv_iconst (v := nI 1) hx hb dL_second_15 (by decide) ?_
      exact vx_ret (q_ei hx hb hr hlocks hW hS dL_second_16 (by exact ⟨Or.inr (Or.inl ⟨rfl, hcx, hs, h45⟩), fun id h8 h9 => rfl⟩) (by decide) (by decide))
    · skip
      replace hwx := hwx.symm
      subst hwx
      refine vx_catch (own := RL) (name := IAE) hown [⟨0, 10, 13, 25⟩] ⟨0, 10, 17, 13⟩ [] (hxt.trans rfl) (fun z hz => by rw [List.mem_singleton] at hz; subst hz; exact Or.inr ⟨by decide, IOE, (hts (.classLink RL 25 "java/lang/IndexOutOfBoundsException") (List.mem_of_getElem? (i := 1) rfl)), hG.2.2.2.2.2.2.2.1⟩) rfl (by decide) (hts (.classLink RL 13 "java/lang/IllegalArgumentException") (List.mem_of_getElem? (i := 2) rfl)) (va_Nw.use rfl (hG.nest 0 rfl)) hce hcv hcl ?_
      refine lv_astore (lv' := [(4, .ref (q9)), (0, .ref (b + 0)), (1, .int (x)), (2, .int (y)), (3, .ref (b + 45))]) hx hb dL_second_17 hl (by decide) rfl (fun ls hl => ?_)
      refine lv_iconst (v := nI 2) hx hb dL_second_19 (by decide) ?_
      exact vx_ret (q_ei hx hb hr hlocks hW hS dL_second_20 (by exact ⟨Or.inr (Or.inr ⟨rfl, ⟨hca, hcx⟩, hs, h45⟩), fun id h8 h9 => rfl⟩) (by decide) (by decide))
  · skip
    obtain ⟨a1, hs9, hf9⟩ := hp5
    replace h45 : w_5 45 = some (eL dA 1 O9) := (hf9 45 (by omega) (by omega)).trans h45
    refine lv_i2l hx hb dL_second_8 rfl ?_
    refine q_last hx hb hG hW hS h45 (by omega) (by omega) dL_second_9 (fun H locs hW hS hz9 => ?_)
    obtain ⟨w1, ew1⟩ : ∃ wq__ : Wd, wq__ = va_up w_5 45 (some (eL dA 1 (va_up O9 0 ((sof P (i32n x) (i32n y)).toInt64)))) := ⟨_, rfl⟩
    replace hW : WP D b w1 H := by rw [ew1]; exact hW
    have frw1 : ∀ id : Nat, id ≠ 45 → w1 id = w_5 id := fun id h9 => by rw [ew1, up_ne h9]
    replace h45 : w1 45 = some (eL dA 1 (va_up O9 0 ((sof P (i32n x) (i32n y)).toInt64))) := by rw [ew1]; exact up_eq
    refine lv_goto (tgt := 21) hx hb dL_second_10 (by decide) ?_
    refine lv_iconst (v := nI 0) hx hb dL_second_21 (by decide) ?_
    exact vx_ret (q_ei hx hb hr hlocks hW hS dL_second_22 (by exact ⟨Or.inl ⟨rfl, a1, hs9.out h45 frw1, h45⟩, fun id h8 h9 => (frw1 id (by omega)).trans (hf9 id (by omega) (by omega))⟩) (by decide) (by decide))

set_option maxHeartbeats 300000 in
set_option maxRecDepth 100000 in
/-- the wrapper of total -/
theorem c_L_total (l : Launch) (hl0 : l.stackTraces = false) {D : va_G} {dA : Nat → Nat} {b : Nat} {w : Wd} {lo n nc : Nat} {P : Pl} {Hs : Nat → Pl} {SL : Nat → Option Pl} {C : Nat → Nat} (hs : isSys dA b w lo (P, (n, Hs), SL, (nc, C))) {O9 : Nat → Int64} (h45 : w 45 = some (eL dA 1 O9)) (x : Int32) : vx_Met l yL_total wsL_total ({ frames := 8, cells := 1, slots := 6, locals := 126 } : Room) (PC D dA b w [.ref (b + 0), .int (x), .ref (b + 45)]) (QE D b (fun r w' => ((r = 0 ∧ (0 ≤ x ∧ x ≤ nI 1) ∧ isSys dA b w' lo (P, (n, Hs), SL, (nc, C)) ∧ w' 45 = some (eL dA 1 (va_up O9 0 (nI (if i32n x = 1 then ttc P else tts P)).toInt64))) ∨ (r = 1 ∧ (¬ (0 ≤ x ∧ x ≤ nI 1)) ∧ isSys dA b w' lo (P, (n, Hs), SL, (nc, C)) ∧ w' 45 = some (eL dA 1 O9))) ∧ ∀ id : Nat, 36 ≤ id → id < 45 → w' id = w id)) (XW D b (fun _ _ => False)) 1 6 (Fb b) := by
  refine q_ofH (cc := cL_total) (maxL := 4) (ret := (some .int)) (by decide) rfl rfl ?_
  intro p e s m args below meth c ls hx hb hr hml hts hown hlocks hxt hG hW hS hl
  have hown : s.vm.findClass RL = some m.cls := hown
  have hl : lv_has ls 4 [(0, .ref (b + 0)), (1, .int (x)), (2, .ref (b + 45))] := hl
  have hlo : 46 ≤ lo := hs.2.2.2.2.2.2.1
  refine lv_aload_n hx hb dL_total_0 rfl (lv_at hl 2 rfl) ?_
  refine lv_iconst (v := nI 0) hx hb dL_total_1 (by decide) ?_
  refine lv_aload_n hx hb dL_total_2 rfl (lv_at hl 0 rfl) ?_
  refine lv_iload_n hx hb dL_total_3 rfl (lv_at hl 1 rfl) ?_
  refine q_X1 (vx_runV (As := [.int (x)]) (rest := [.int (nI 0), .ref (b + 45)]) ⟨hx, hb, hml, hown, hts⟩ (c_X6_total l hl0 hs (x)) (cwV 1 hts gL_total_X6_total rfl rfl rfl (by decide +kernel) ⟨Nat.le_of_ble_eq_true rfl, Nat.le_of_ble_eq_true rfl⟩) (q_preV hG hW hS hs.1 rfl) rfl rfl hl.1 rfl (lv_room (Nat.le_of_ble_eq_true rfl)) dL_total_4 ⟨Nat.le_of_ble_eq_true rfl, Nat.le_of_ble_eq_true rfl⟩) hS (fun E9 w9 H locs q9 ce9 hpx hW hS hce hcv hcl => ?_) (fun w_4 H locs hp4 hW hS => ?_)
  · skip
    rcases hpx with ⟨⟨rfl, hcx⟩, hwx⟩
    · skip
      replace hwx := hwx.symm
      subst hwx
      refine vx_catch (own := RL) (name := IAE) hown [] ⟨0, 9, 12, 13⟩ [] (hxt.trans rfl) (fun z hz => nomatch hz) rfl (by decide) (hts (.classLink RL 13 "java/lang/IllegalArgumentException") (List.mem_of_getElem? (i := 1) rfl)) (va_Nw.use rfl (hG.nest 0 rfl)) hce hcv hcl ?_
      refine lv_astore_n (lv' := [(3, .ref (q9)), (0, .ref (b + 0)), (1, .int (x)), (2, .ref (b + 45))]) hx hb dL_total_12 rfl hl (by decide) rfl (fun ls hl => ?_)
      refine lv_iconst (v := nI 1) hx hb dL_total_13 (by decide) ?_
      exact vx_ret (q_ei hx hb hr hlocks hW hS dL_total_14 (by exact ⟨Or.inr ⟨rfl, hcx, hs, h45⟩, fun id h8 h9 => rfl⟩) (by decide) (by decide))
  · skip
    obtain ⟨a1, hs9, hf9⟩ := hp4
    replace h45 : w_4 45 = some (eL dA 1 O9) := (hf9 45 (by omega) (by omega)).trans h45
    refine lv_i2l hx hb dL_total_7 rfl ?_
    refine q_last hx hb hG hW hS h45 (by omega) (by omega) dL_total_8 (fun H locs hW hS hz8 => ?_)
    obtain ⟨w1, ew1⟩ : ∃ wq__ : Wd, wq__ = va_up w_4 45 (some (eL dA 1 (va_up O9 0 ((nI (if i32n x = 1 then ttc P else tts P)).toInt64)))) := ⟨_, rfl⟩
    replace hW : WP D b w1 H := by rw [ew1]; exact hW
    have frw1 : ∀ id : Nat, id ≠ 45 → w1 id = w_4 id := fun id h9 => by rw [ew1, up_ne h9]
    replace h45 : w1 45 = some (eL dA 1 (va_up O9 0 ((nI (if i32n x = 1 then ttc P else tts P)).toInt64))) := by rw [ew1]; exact up_eq
    refine lv_goto (tgt := 15) hx hb dL_total_9 (by decide) ?_
    refine lv_iconst (v := nI 0) hx hb dL_total_15 (by decide) ?_
    exact vx_ret (q_ei hx hb hr hlocks hW hS dL_total_16 (by exact ⟨Or.inl ⟨rfl, a1, hs9.out h45 frw1, h45⟩, fun id h8 h9 => (frw1 id (by omega)).trans (hf9 id (by omega) (by omega))⟩) (by decide) (by decide))

set_option maxHeartbeats 300000 in
set_option maxRecDepth 100000 in
/-- the wrapper of count -/
theorem c_L_count (l : Launch) (hl0 : l.stackTraces = false) {D : va_G} {dA : Nat → Nat} {b : Nat} {w : Wd} {lo n nc : Nat} {P : Pl} {Hs : Nat → Pl} {SL : Nat → Option Pl} {C : Nat → Nat} (hs : isSys dA b w lo (P, (n, Hs), SL, (nc, C))) {O9 : Nat → Int64} (h45 : w 45 = some (eL dA 1 O9)) (x : Int32) : vx_Met l yL_count wsL_count ({ frames := 8, cells := 1, slots := 6, locals := 136 } : Room) (PC D dA b w [.ref (b + 0), .int (x), .ref (b + 45)]) (QE D b (fun r w' => ((r = 0 ∧ (0 ≤ x ∧ x ≤ nI 13) ∧ isSys dA b w' lo (P, (n, Hs), SL, (nc, C)) ∧ w' 45 = some (eL dA 1 (va_up O9 0 (cof P n nc (i32n x)).toInt64))) ∨ (r = 1 ∧ (¬ (0 ≤ x ∧ x ≤ nI 13)) ∧ isSys dA b w' lo (P, (n, Hs), SL, (nc, C)) ∧ w' 45 = some (eL dA 1 O9))) ∧ ∀ id : Nat, 36 ≤ id → id < 45 → w' id = w id)) (XW D b (fun _ _ => False)) 1 6 (Fb b) := by
  refine q_ofH (cc := cL_count) (maxL := 4) (ret := (some .int)) (by decide) rfl rfl ?_
  intro p e s m args below meth c ls hx hb hr hml hts hown hlocks hxt hG hW hS hl
  have hown : s.vm.findClass RL = some m.cls := hown
  have hl : lv_has ls 4 [(0, .ref (b + 0)), (1, .int (x)), (2, .ref (b + 45))] := hl
  have hlo : 46 ≤ lo := hs.2.2.2.2.2.2.1
  refine lv_aload_n hx hb dL_count_0 rfl (lv_at hl 2 rfl) ?_
  refine lv_iconst (v := nI 0) hx hb dL_count_1 (by decide) ?_
  refine lv_aload_n hx hb dL_count_2 rfl (lv_at hl 0 rfl) ?_
  refine lv_iload_n hx hb dL_count_3 rfl (lv_at hl 1 rfl) ?_
  refine q_X1 (vx_runV (As := [.int (x)]) (rest := [.int (nI 0), .ref (b + 45)]) ⟨hx, hb, hml, hown, hts⟩ (c_X6_count l hl0 hs (x)) (cwV 1 hts gL_count_X6_count rfl rfl rfl (by decide +kernel) ⟨Nat.le_of_ble_eq_true rfl, Nat.le_of_ble_eq_true rfl⟩) (q_preV hG hW hS hs.1 rfl) rfl rfl hl.1 rfl (lv_room (Nat.le_of_ble_eq_true rfl)) dL_count_4 ⟨Nat.le_of_ble_eq_true rfl, Nat.le_of_ble_eq_true rfl⟩) hS (fun E9 w9 H locs q9 ce9 hpx hW hS hce hcv hcl => ?_) (fun w_4 H locs hp4 hW hS => ?_)
  · skip
    rcases hpx with ⟨⟨rfl, hcx⟩, hwx⟩
    · skip
      replace hwx := hwx.symm
      subst hwx
      refine vx_catch (own := RL) (name := IAE) hown [] ⟨0, 9, 12, 13⟩ [] (hxt.trans rfl) (fun z hz => nomatch hz) rfl (by decide) (hts (.classLink RL 13 "java/lang/IllegalArgumentException") (List.mem_of_getElem? (i := 1) rfl)) (va_Nw.use rfl (hG.nest 0 rfl)) hce hcv hcl ?_
      refine lv_astore_n (lv' := [(3, .ref (q9)), (0, .ref (b + 0)), (1, .int (x)), (2, .ref (b + 45))]) hx hb dL_count_12 rfl hl (by decide) rfl (fun ls hl => ?_)
      refine lv_iconst (v := nI 1) hx hb dL_count_13 (by decide) ?_
      exact vx_ret (q_ei hx hb hr hlocks hW hS dL_count_14 (by exact ⟨Or.inr ⟨rfl, hcx, hs, h45⟩, fun id h8 h9 => rfl⟩) (by decide) (by decide))
  · skip
    obtain ⟨a1, hs9, hf9⟩ := hp4
    replace h45 : w_4 45 = some (eL dA 1 O9) := (hf9 45 (by omega) (by omega)).trans h45
    refine lv_i2l hx hb dL_count_7 rfl ?_
    refine q_last hx hb hG hW hS h45 (by omega) (by omega) dL_count_8 (fun H locs hW hS hz8 => ?_)
    obtain ⟨w1, ew1⟩ : ∃ wq__ : Wd, wq__ = va_up w_4 45 (some (eL dA 1 (va_up O9 0 ((cof P n nc (i32n x)).toInt64)))) := ⟨_, rfl⟩
    replace hW : WP D b w1 H := by rw [ew1]; exact hW
    have frw1 : ∀ id : Nat, id ≠ 45 → w1 id = w_4 id := fun id h9 => by rw [ew1, up_ne h9]
    replace h45 : w1 45 = some (eL dA 1 (va_up O9 0 ((cof P n nc (i32n x)).toInt64))) := by rw [ew1]; exact up_eq
    refine lv_goto (tgt := 15) hx hb dL_count_9 (by decide) ?_
    refine lv_iconst (v := nI 0) hx hb dL_count_15 (by decide) ?_
    exact vx_ret (q_ei hx hb hr hlocks hW hS dL_count_16 (by exact ⟨Or.inl ⟨rfl, a1, hs9.out h45 frw1, h45⟩, fun id h8 h9 => (frw1 id (by omega)).trans (hf9 id (by omega) (by omega))⟩) (by decide) (by decide))

set_option maxHeartbeats 300000 in
set_option maxRecDepth 100000 in
/-- the wrapper of ifSet -/
theorem c_L_ifSet (l : Launch) (hl0 : l.stackTraces = false) {D : va_G} {dA : Nat → Nat} {b : Nat} {w : Wd} {lo n nc : Nat} {P : Pl} {Hs : Nat → Pl} {SL : Nat → Option Pl} {C : Nat → Nat} (hs : isSys dA b w lo (P, (n, Hs), SL, (nc, C))) {O9 : Nat → Int64} (h45 : w 45 = some (eL dA 1 O9)) (x y z : Int32) : vx_Met l yL_ifSet wsL_ifSet ({ frames := 8, cells := 2, slots := 12, locals := 138 } : Room) (PC D dA b w [.ref (b + 0), .int (x), .int (y), .int (z), .ref (b + 45)]) (QE D b (fun r w' => ((r = 0 ∧ ((0 ≤ x ∧ x < nI 5) ∧ fitS (i32n x) y ∧ (0 ≤ z ∧ z ≤ nI 1)) ∧ isSys dA b w' lo (P, (n, Hs), SL, (nc, C)) ∧ w' 45 = some (eL dA 1 (va_up O9 0 (nI (if i32n z = 0 then und (setS P (i32n x) (i32n y)) else ams (setS P (i32n x) (i32n y)))).toInt64))) ∨ (r = 1 ∧ (¬ (0 ≤ x ∧ x < nI 5)) ∧ isSys dA b w' lo (P, (n, Hs), SL, (nc, C)) ∧ w' 45 = some (eL dA 1 O9)) ∨ (r = 2 ∧ ((0 ≤ x ∧ x < nI 5) ∧ ¬ (fitS (i32n x) y ∧ (0 ≤ z ∧ z ≤ nI 1))) ∧ isSys dA b w' lo (P, (n, Hs), SL, (nc, C)) ∧ w' 45 = some (eL dA 1 O9))) ∧ ∀ id : Nat, 36 ≤ id → id < 45 → w' id = w id)) (XW D b (fun _ _ => False)) 2 12 (Fb b) := by
  refine q_ofH (cc := cL_ifSet) (maxL := 6) (ret := (some .int)) (by decide) rfl rfl ?_
  intro p e s m args below meth c ls hx hb hr hml hts hown hlocks hxt hG hW hS hl
  have hown : s.vm.findClass RL = some m.cls := hown
  have hl : lv_has ls 6 [(0, .ref (b + 0)), (1, .int (x)), (2, .int (y)), (3, .int (z)), (4, .ref (b + 45))] := hl
  have hlo : 46 ≤ lo := hs.2.2.2.2.2.2.1
  refine lv_aload hx hb dL_ifSet_0 (lv_at hl 4 rfl) ?_
  refine lv_iconst (v := nI 0) hx hb dL_ifSet_2 (by decide) ?_
  refine lv_aload_n hx hb dL_ifSet_3 rfl (lv_at hl 0 rfl) ?_
  refine lv_iload_n hx hb dL_ifSet_4 rfl (lv_at hl 1 rfl) ?_
  refine lv_iload_n hx hb dL_ifSet_5 rfl (lv_at hl 2 rfl) ?_
  refine lv_iload_n hx hb dL_ifSet_6 rfl (lv_at hl 3 rfl) ?_
  refine q_X1 (vx_runV (As := [.int (x), .int (y), .int (z)]) (rest := [.int (nI 0), .ref (b + 45)]) ⟨hx, hb, hml, hown, hts⟩ (c_X6_ifSet l hl0 hs (x) (y) (z)) (cwV 3 hts gL_ifSet_X6_ifSet rfl rfl rfl (by decide +kernel) ⟨Nat.le_of_ble_eq_true rfl, Nat.le_of_ble_eq_true rfl⟩) (q_preV hG hW hS hs.1 rfl) rfl rfl hl.1 rfl (lv_room (Nat.le_of_ble_eq_true rfl)) dL_ifSet_7 ⟨Nat.le_of_ble_eq_true rfl, Nat.le_of_ble_eq_true rfl⟩) hS (fun E9 w9 H locs q9 ce9 hpx hW hS hce hcv hcl => ?_) (fun w_7 H locs hp7 hW hS => ?_)
  · skip
    rcases hpx with ⟨⟨rfl, hcx⟩ | ⟨hca, rfl, hcx⟩, hwx⟩
    · skip
      replace hwx := hwx.symm
      subst hwx
      refine vx_catch (own := RL) (name := IOE) hown [] ⟨0, 12, 15, 25⟩ [⟨0, 12, 19, 13⟩] (hxt.trans rfl) (fun z hz => nomatch hz) rfl (by decide) (hts (.classLink RL 25 "java/lang/IndexOutOfBoundsException") (List.mem_of_getElem? (i := 1) rfl)) (va_Nw.use rfl (hG.nest 2 rfl)) hce hcv hcl ?_
      refine lv_astore (lv' := [(5, .ref (q9)), (0, .ref (b + 0)), (1, .int (x)), (2, .int (y)), (3, .int (z)), (4, .ref (b + 45))]) hx hb dL_ifSet_15 hl (by decide) rfl (fun ls hl => ?_)
      refine lv_iconst (v := nI 1) hx hb dL_ifSet_17 (by decide) ?_
      exact vx_ret (q_ei hx hb hr hlocks hW hS dL_ifSet_18 (by exact ⟨Or.inr (Or.inl ⟨rfl, hcx, hs, h45⟩), fun id h8 h9 => rfl⟩) (by decide) (by decide))
    · skip
      replace hwx := hwx.symm
      subst hwx
      refine vx_catch (own := RL) (name := IAE) hown [⟨0, 12, 15, 25⟩] ⟨0, 12, 19, 13⟩ [] (hxt.trans rfl) (fun z hz => by rw [List.mem_singleton] at hz; subst hz; exact Or.inr ⟨by decide, IOE, (hts (.classLink RL 25 "java/lang/IndexOutOfBoundsException") (List.mem_of_getElem? (i := 1) rfl)), hG.2.2.2.2.2.2.2.1⟩) rfl (by decide) (hts (.classLink RL 13 "java/lang/IllegalArgumentException") (List.mem_of_getElem? (i := 2) rfl)) (va_Nw.use rfl (hG.nest 0 rfl)) hce hcv hcl ?_
      refine lv_astore (lv' := [(5, .ref (q9)), (0, .ref (b + 0)), (1, .int (x)), (2, .int (y)), (3, .int (z)), (4, .ref (b + 45))]) hx hb dL_ifSet_19 hl (by decide) rfl (fun ls hl => ?_)
      refine lv_iconst (v := nI 2) hx hb dL_ifSet_21 (by decide) ?_
      exact vx_ret (q_ei hx hb hr hlocks hW hS dL_ifSet_22 (by exact ⟨Or.inr (Or.inr ⟨rfl, ⟨hca, hcx⟩, hs, h45⟩), fun id h8 h9 => rfl⟩) (by decide) (by decide))
  · skip
    obtain ⟨a1, hs9, hf9⟩ := hp7
    replace h45 : w_7 45 = some (eL dA 1 O9) := (hf9 45 (by omega) (by omega)).trans h45
    refine lv_i2l hx hb dL_ifSet_10 rfl ?_
    refine q_last hx hb hG hW hS h45 (by omega) (by omega) dL_ifSet_11 (fun H locs hW hS hz11 => ?_)
    obtain ⟨w1, ew1⟩ : ∃ wq__ : Wd, wq__ = va_up w_7 45 (some (eL dA 1 (va_up O9 0 ((nI (if i32n z = 0 then und (setS P (i32n x) (i32n y)) else ams (setS P (i32n x) (i32n y)))).toInt64)))) := ⟨_, rfl⟩
    replace hW : WP D b w1 H := by rw [ew1]; exact hW
    have frw1 : ∀ id : Nat, id ≠ 45 → w1 id = w_7 id := fun id h9 => by rw [ew1, up_ne h9]
    replace h45 : w1 45 = some (eL dA 1 (va_up O9 0 ((nI (if i32n z = 0 then und (setS P (i32n x) (i32n y)) else ams (setS P (i32n x) (i32n y)))).toInt64))) := by rw [ew1]; exact up_eq
    refine lv_goto (tgt := 23) hx hb dL_ifSet_12 (by decide) ?_
    refine lv_iconst (v := nI 0) hx hb dL_ifSet_23 (by decide) ?_
    exact vx_ret (q_ei hx hb hr hlocks hW hS dL_ifSet_24 (by exact ⟨Or.inl ⟨rfl, a1, hs9.out h45 frw1, h45⟩, fun id h8 h9 => (frw1 id (by omega)).trans (hf9 id (by omega) (by omega))⟩) (by decide) (by decide))

set_option maxHeartbeats 300000 in
set_option maxRecDepth 100000 in
/-- the wrapper of bestShift -/
theorem c_L_bestShift (l : Launch) (hl0 : l.stackTraces = false) {D : va_G} {dA : Nat → Nat} {b : Nat} {w : Wd} {lo n nc : Nat} {P : Pl} {Hs : Nat → Pl} {SL : Nat → Option Pl} {C : Nat → Nat} (hs : isSys dA b w lo (P, (n, Hs), SL, (nc, C))) {O9 : Nat → Int64} (h45 : w 45 = some (eL dA 1 O9)) (x : Int32) : vx_Met l yL_bestShift wsL_bestShift ({ frames := 8, cells := 1, slots := 6, locals := 165 } : Room) (PC D dA b w [.ref (b + 0), .int (x), .ref (b + 45)]) (QE D b (fun r w' => ((r = 0 ∧ (0 ≤ x ∧ x < nI P.n) ∧ isSys dA b w' lo (P, (n, Hs), SL, (nc, C)) ∧ w' 45 = some (eL dA 1 (va_up O9 0 ((bsh P (i32n x) 21).1 + nI 10).toInt64))) ∨ (r = 1 ∧ (¬ (0 ≤ x ∧ x < nI P.n)) ∧ isSys dA b w' lo (P, (n, Hs), SL, (nc, C)) ∧ w' 45 = some (eL dA 1 O9))) ∧ ∀ id : Nat, 36 ≤ id → id < 45 → w' id = w id)) (XW D b (fun _ _ => False)) 1 6 (Fb b) := by
  refine q_ofH (cc := cL_bestShift) (maxL := 4) (ret := (some .int)) (by decide) rfl rfl ?_
  intro p e s m args below meth c ls hx hb hr hml hts hown hlocks hxt hG hW hS hl
  have hown : s.vm.findClass RL = some m.cls := hown
  have hl : lv_has ls 4 [(0, .ref (b + 0)), (1, .int (x)), (2, .ref (b + 45))] := hl
  have hlo : 46 ≤ lo := hs.2.2.2.2.2.2.1
  refine lv_aload_n hx hb dL_bestShift_0 rfl (lv_at hl 2 rfl) ?_
  refine lv_iconst (v := nI 0) hx hb dL_bestShift_1 (by decide) ?_
  refine lv_aload_n hx hb dL_bestShift_2 rfl (lv_at hl 0 rfl) ?_
  refine lv_iload_n hx hb dL_bestShift_3 rfl (lv_at hl 1 rfl) ?_
  refine q_X1 (vx_runV (As := [.int (x)]) (rest := [.int (nI 0), .ref (b + 45)]) ⟨hx, hb, hml, hown, hts⟩ (c_X6_bestShift l hl0 hs (x)) (cwV 1 hts gL_bestShift_X6_bestShift rfl rfl rfl (by decide +kernel) ⟨Nat.le_of_ble_eq_true rfl, Nat.le_of_ble_eq_true rfl⟩) (q_preV hG hW hS hs.1 rfl) rfl rfl hl.1 rfl (lv_room (Nat.le_of_ble_eq_true rfl)) dL_bestShift_4 ⟨Nat.le_of_ble_eq_true rfl, Nat.le_of_ble_eq_true rfl⟩) hS (fun E9 w9 H locs q9 ce9 hpx hW hS hce hcv hcl => ?_) (fun w_4 H locs hp4 hW hS => ?_)
  · skip
    rcases hpx with ⟨⟨rfl, hcx⟩, hwx⟩
    · skip
      replace hwx := hwx.symm
      subst hwx
      refine vx_catch (own := RL) (name := IOE) hown [] ⟨0, 9, 12, 25⟩ [] (hxt.trans rfl) (fun z hz => nomatch hz) rfl (by decide) (hts (.classLink RL 25 "java/lang/IndexOutOfBoundsException") (List.mem_of_getElem? (i := 1) rfl)) (va_Nw.use rfl (hG.nest 2 rfl)) hce hcv hcl ?_
      refine lv_astore_n (lv' := [(3, .ref (q9)), (0, .ref (b + 0)), (1, .int (x)), (2, .ref (b + 45))]) hx hb dL_bestShift_12 rfl hl (by decide) rfl (fun ls hl => ?_)
      refine lv_iconst (v := nI 1) hx hb dL_bestShift_13 (by decide) ?_
      exact vx_ret (q_ei hx hb hr hlocks hW hS dL_bestShift_14 (by exact ⟨Or.inr ⟨rfl, hcx, hs, h45⟩, fun id h8 h9 => rfl⟩) (by decide) (by decide))
  · skip
    obtain ⟨a1, hs9, hf9⟩ := hp4
    replace h45 : w_4 45 = some (eL dA 1 O9) := (hf9 45 (by omega) (by omega)).trans h45
    refine lv_i2l hx hb dL_bestShift_7 rfl ?_
    refine q_last hx hb hG hW hS h45 (by omega) (by omega) dL_bestShift_8 (fun H locs hW hS hz8 => ?_)
    obtain ⟨w1, ew1⟩ : ∃ wq__ : Wd, wq__ = va_up w_4 45 (some (eL dA 1 (va_up O9 0 (((bsh P (i32n x) 21).1 + nI 10).toInt64)))) := ⟨_, rfl⟩
    replace hW : WP D b w1 H := by rw [ew1]; exact hW
    have frw1 : ∀ id : Nat, id ≠ 45 → w1 id = w_4 id := fun id h9 => by rw [ew1, up_ne h9]
    replace h45 : w1 45 = some (eL dA 1 (va_up O9 0 (((bsh P (i32n x) 21).1 + nI 10).toInt64))) := by rw [ew1]; exact up_eq
    refine lv_goto (tgt := 15) hx hb dL_bestShift_9 (by decide) ?_
    refine lv_iconst (v := nI 0) hx hb dL_bestShift_15 (by decide) ?_
    exact vx_ret (q_ei hx hb hr hlocks hW hS dL_bestShift_16 (by exact ⟨Or.inl ⟨rfl, a1, hs9.out h45 frw1, h45⟩, fun id h8 h9 => (frw1 id (by omega)).trans (hf9 id (by omega) (by omega))⟩) (by decide) (by decide))

set_option maxHeartbeats 300000 in
set_option maxRecDepth 100000 in
/-- the wrapper of loudestQuiet -/
theorem c_L_loudestQuiet (l : Launch) (hl0 : l.stackTraces = false) {D : va_G} {dA : Nat → Nat} {b : Nat} {w : Wd} {lo n nc : Nat} {P : Pl} {Hs : Nat → Pl} {SL : Nat → Option Pl} {C : Nat → Nat} (hs : isSys dA b w lo (P, (n, Hs), SL, (nc, C))) {O9 : Nat → Int64} (h45 : w 45 = some (eL dA 1 O9)) (x : Int32) : vx_Met l yL_loudestQuiet wsL_loudestQuiet ({ frames := 8, cells := 1, slots := 6, locals := 138 } : Room) (PC D dA b w [.ref (b + 0), .int (x), .ref (b + 45)]) (QE D b (fun r w' => ((r = 0 ∧ (0 ≤ x ∧ x < nI P.n) ∧ isSys dA b w' lo (P, (n, Hs), SL, (nc, C)) ∧ w' 45 = some (eL dA 1 (va_up O9 0 (nI (lqt P (i32n x) (ams (delN P (i32n x))) 30)).toInt64))) ∨ (r = 1 ∧ (¬ (0 ≤ x ∧ x < nI P.n)) ∧ isSys dA b w' lo (P, (n, Hs), SL, (nc, C)) ∧ w' 45 = some (eL dA 1 O9))) ∧ ∀ id : Nat, 36 ≤ id → id < 45 → w' id = w id)) (XW D b (fun _ _ => False)) 1 6 (Fb b) := by
  refine q_ofH (cc := cL_loudestQuiet) (maxL := 4) (ret := (some .int)) (by decide) rfl rfl ?_
  intro p e s m args below meth c ls hx hb hr hml hts hown hlocks hxt hG hW hS hl
  have hown : s.vm.findClass RL = some m.cls := hown
  have hl : lv_has ls 4 [(0, .ref (b + 0)), (1, .int (x)), (2, .ref (b + 45))] := hl
  have hlo : 46 ≤ lo := hs.2.2.2.2.2.2.1
  refine lv_aload_n hx hb dL_loudestQuiet_0 rfl (lv_at hl 2 rfl) ?_
  refine lv_iconst (v := nI 0) hx hb dL_loudestQuiet_1 (by decide) ?_
  refine lv_aload_n hx hb dL_loudestQuiet_2 rfl (lv_at hl 0 rfl) ?_
  refine lv_iload_n hx hb dL_loudestQuiet_3 rfl (lv_at hl 1 rfl) ?_
  refine q_X1 (vx_runV (As := [.int (x)]) (rest := [.int (nI 0), .ref (b + 45)]) ⟨hx, hb, hml, hown, hts⟩ (c_X6_loudestQuiet l hl0 hs (x)) (cwV 1 hts gL_loudestQuiet_X6_loudestQuiet rfl rfl rfl (by decide +kernel) ⟨Nat.le_of_ble_eq_true rfl, Nat.le_of_ble_eq_true rfl⟩) (q_preV hG hW hS hs.1 rfl) rfl rfl hl.1 rfl (lv_room (Nat.le_of_ble_eq_true rfl)) dL_loudestQuiet_4 ⟨Nat.le_of_ble_eq_true rfl, Nat.le_of_ble_eq_true rfl⟩) hS (fun E9 w9 H locs q9 ce9 hpx hW hS hce hcv hcl => ?_) (fun w_4 H locs hp4 hW hS => ?_)
  · skip
    rcases hpx with ⟨⟨rfl, hcx⟩, hwx⟩
    · skip
      replace hwx := hwx.symm
      subst hwx
      refine vx_catch (own := RL) (name := IOE) hown [] ⟨0, 9, 12, 25⟩ [] (hxt.trans rfl) (fun z hz => nomatch hz) rfl (by decide) (hts (.classLink RL 25 "java/lang/IndexOutOfBoundsException") (List.mem_of_getElem? (i := 1) rfl)) (va_Nw.use rfl (hG.nest 2 rfl)) hce hcv hcl ?_
      refine lv_astore_n (lv' := [(3, .ref (q9)), (0, .ref (b + 0)), (1, .int (x)), (2, .ref (b + 45))]) hx hb dL_loudestQuiet_12 rfl hl (by decide) rfl (fun ls hl => ?_)
      refine lv_iconst (v := nI 1) hx hb dL_loudestQuiet_13 (by decide) ?_
      exact vx_ret (q_ei hx hb hr hlocks hW hS dL_loudestQuiet_14 (by exact ⟨Or.inr ⟨rfl, hcx, hs, h45⟩, fun id h8 h9 => rfl⟩) (by decide) (by decide))
  · skip
    obtain ⟨a1, hs9, hf9⟩ := hp4
    replace h45 : w_4 45 = some (eL dA 1 O9) := (hf9 45 (by omega) (by omega)).trans h45
    refine lv_i2l hx hb dL_loudestQuiet_7 rfl ?_
    refine q_last hx hb hG hW hS h45 (by omega) (by omega) dL_loudestQuiet_8 (fun H locs hW hS hz8 => ?_)
    obtain ⟨w1, ew1⟩ : ∃ wq__ : Wd, wq__ = va_up w_4 45 (some (eL dA 1 (va_up O9 0 ((nI (lqt P (i32n x) (ams (delN P (i32n x))) 30)).toInt64)))) := ⟨_, rfl⟩
    replace hW : WP D b w1 H := by rw [ew1]; exact hW
    have frw1 : ∀ id : Nat, id ≠ 45 → w1 id = w_4 id := fun id h9 => by rw [ew1, up_ne h9]
    replace h45 : w1 45 = some (eL dA 1 (va_up O9 0 ((nI (lqt P (i32n x) (ams (delN P (i32n x))) 30)).toInt64))) := by rw [ew1]; exact up_eq
    refine lv_goto (tgt := 15) hx hb dL_loudestQuiet_9 (by decide) ?_
    refine lv_iconst (v := nI 0) hx hb dL_loudestQuiet_15 (by decide) ?_
    exact vx_ret (q_ei hx hb hr hlocks hW hS dL_loudestQuiet_16 (by exact ⟨Or.inl ⟨rfl, a1, hs9.out h45 frw1, h45⟩, fun id h8 h9 => (frw1 id (by omega)).trans (hf9 id (by omega) (by omega))⟩) (by decide) (by decide))

