set_option maxHeartbeats 300000 in
set_option maxRecDepth 100000 in
/-- Cues(limit) -/
theorem c_X1_init (l : Launch) {D : va_G} {dA : Nat → Nat} {b : Nat} {w : Wd} {k lim : Nat} (hk0 : w k = some (.inr (1, [.int (nI 0), .null, .int (nI 0)]))) (hlim : lim ≤ 12) : Met l yX1_init wsX1_init ({ frames := 1, cells := 1, slots := 48, locals := 12 } : Room) (PZ D dA b w (k + 1) [.ref (b + k), .int (nI lim)]) (QZ D b none (k + 2) (fun w' => isCues dA b w' k lim 0 (fun _ _ => 0) ∧ ∀ id : Nat, (id < k ∨ k + 2 ≤ id) → w' id = w id)) 1 48 (Fb b) := by
  refine q_ofZ (cc := cX1_init) (maxL := 2) (ret := none) (by decide) rfl rfl ?_
  intro p e s m args below meth c ls hx hb hr hml hts hown hlocks hin0 hG hW hS hz hl
  have hown : s.vm.findClass RX1 = some m.cls := hown
  have hinX1 : ∀ w ∈ u_ws RX1 TX1 3, w ∈ wsX1_init := fun w h => (goodIn_r (big := wsX1_init) (u_ws RX1 TX1 3) [8, 9, 10] (by decide +kernel) (by decide +kernel) w h).1
  have hl : lv_has ls 2 [(0, .ref (b + k)), (1, .int (nI lim))] := hl
  refine lv_aload_n hx hb dX1_init_0 rfl (lv_at hl 0 rfl) ?_
  refine W.objInit hx hb hown (hts (.methodLink RX1 3 objectInit) (List.mem_of_getElem? (i := 1) rfl)) (hts (.instanceMethod objectInit) (List.mem_of_getElem? (i := 2) rfl)) (hts _ (List.mem_of_getElem? (i := 3) rfl)) rfl (by rw [hml]; exact hl.1) rfl dX1_init_1 (Nat.le_of_ble_eq_true rfl) (Nat.le_of_ble_eq_true rfl) ?_
  refine W.eq (g2 := F0 m 4 ls []) rfl ?_
  refine lv_aload_n hx hb dX1_init_4 rfl (lv_at hl 0 rfl) ?_
  refine lv_bipush (v := nI 48) hx hb dX1_init_5 (by decide) ?_
  refine q_newI hx hb (hts (.arrayClass .int) (List.mem_of_getElem? (i := 4) rfl)) hG hW hS hz (by decide) (Nat.le_of_ble_eq_true rfl) (Nat.le_of_ble_eq_true rfl) dX1_init_7 (fun H hW hS hz => ?_)
  obtain ⟨w1, ew1⟩ : ∃ wq__ : Wd, wq__ = va_up w (k + 1) (some (eN dA 48 (fun _ => 0))) := ⟨_, rfl⟩
  rw [← ew1] at hW
  have frw1 : ∀ id : Nat, id ≠ k + 1 → w1 id = w id := fun id h9 => by rw [ew1, up_ne h9]
  replace hk0 : w1 k = some (.inr (1, [.int (nI 0), .null, .int (nI 0)])) := (frw1 _ (by omega)).trans hk0
  have hn7_1 : w1 (k + 1) = some (eN dA 48 (fun _ => 0)) := by rw [ew1]; exact up_eq
  refine q_putF hx hb hts hinX1 tyX1_ok nmX1 hown hG hW hS hk0 rfl 1 (by decide) (hts (.fieldLink RX1 9 "FoleyMixer$Cues" "numbers" "[I") (List.mem_of_getElem? (i := 5) rfl)) rfl rfl hin0 rfl rfl rfl (Nat.le_of_ble_eq_true rfl) dX1_init_9 (fun H locs hW hS hz9 => ?_)
  replace hz := hz9.trans hz
  obtain ⟨w2, ew2⟩ : ∃ wq__ : Wd, wq__ = va_up w1 k (some (.inr (1, [.int (nI 0), .ref (b + (k + 1)), .int (nI 0)]))) := ⟨_, rfl⟩
  replace hW : WP D b w2 H := by rw [ew2]; exact hW
  have frw2 : ∀ id : Nat, id ≠ k → w2 id = w1 id := fun id h9 => by rw [ew2, up_ne h9]
  replace hn7_1 : w2 (k + 1) = some (eN dA 48 (fun _ => 0)) := (frw2 _ (by omega)).trans hn7_1
  replace hk0 : w2 k = some (.inr (1, [.int (nI 0), .ref (b + (k + 1)), .int (nI 0)])) := by rw [ew2]; exact up_eq
  refine lv_aload_n hx hb dX1_init_12 rfl (lv_at hl 0 rfl) ?_
  refine lv_iconst (v := nI 0) hx hb dX1_init_13 (by decide) ?_
  refine q_put hx hb hts hinX1 tyX1_ok nmX1 hown hG hW hS hk0 rfl 2 (by decide) (hts (.fieldLink RX1 15 "FoleyMixer$Cues" "size" "I") (List.mem_of_getElem? (i := 6) rfl)) rfl rfl rfl rfl (Nat.le_of_ble_eq_true rfl) dX1_init_14 (fun H locs hW hS hz14 => ?_)
  replace hz := hz14.trans hz
  obtain ⟨w3, ew3⟩ : ∃ wq__ : Wd, wq__ = va_up w2 k (some (.inr (1, [.int (nI 0), .ref (b + (k + 1)), .int (nI 0)]))) := ⟨_, rfl⟩
  replace hW : WP D b w3 H := by rw [ew3]; exact hW
  have frw3 : ∀ id : Nat, id ≠ k → w3 id = w2 id := fun id h9 => by rw [ew3, up_ne h9]
  replace hn7_1 : w3 (k + 1) = some (eN dA 48 (fun _ => 0)) := (frw3 _ (by omega)).trans hn7_1
  replace hk0 : w3 k = some (.inr (1, [.int (nI 0), .ref (b + (k + 1)), .int (nI 0)])) := by rw [ew3]; exact up_eq
  refine lv_aload_n hx hb dX1_init_17 rfl (lv_at hl 0 rfl) ?_
  refine lv_iload_n hx hb dX1_init_18 rfl (lv_at hl 1 rfl) ?_
  refine q_putF hx hb hts hinX1 tyX1_ok nmX1 hown hG hW hS hk0 rfl 0 (by decide) (hts (.fieldLink RX1 19 "FoleyMixer$Cues" "limit" "I") (List.mem_of_getElem? (i := 7) rfl)) rfl rfl hin0 rfl rfl rfl (Nat.le_of_ble_eq_true rfl) dX1_init_19 (fun H locs hW hS hz19 => ?_)
  replace hz := hz19.trans hz
  obtain ⟨w4, ew4⟩ : ∃ wq__ : Wd, wq__ = va_up w3 k (some (.inr (1, [.int (nI lim), .ref (b + (k + 1)), .int (nI 0)]))) := ⟨_, rfl⟩
  replace hW : WP D b w4 H := by rw [ew4]; exact hW
  have frw4 : ∀ id : Nat, id ≠ k → w4 id = w3 id := fun id h9 => by rw [ew4, up_ne h9]
  replace hn7_1 : w4 (k + 1) = some (eN dA 48 (fun _ => 0)) := (frw4 _ (by omega)).trans hn7_1
  replace hk0 : w4 k = some (.inr (1, [.int (nI lim), .ref (b + (k + 1)), .int (nI 0)])) := by rw [ew4]; exact up_eq
  exact q_zv hx hb hr hlocks hW hS (by omega) dX1_init_22 (by exact ⟨⟨hk0, by omega, hlim, fun i hi => absurd hi (Nat.not_lt_zero i), _, hn7_1, fun i hi => absurd hi (Nat.not_lt_zero i)⟩, by intro id h9; rw [frw4 id (by omega)]; rw [frw3 id (by omega)]; rw [frw2 id (by omega)]; rw [frw1 id (by omega)]; try rfl⟩) (by decide) (by decide)

/-- a new play -/
def P0 : Pl := (0, (fun _ _ => 0), 0, (fun _ _ => 0), (fun j => ([6, 2, 1, 2, 0] : List Nat).getD j 0))
theorem P0_okS : okS P0.S := by unfold okS P0; decide
set_option maxHeartbeats 300000 in
set_option maxRecDepth 100000 in
/-- Play() -/
theorem c_X4_init (l : Launch) {D : va_G} {dA : Nat → Nat} {b : Nat} {w : Wd} {k : Nat} (hk0 : w k = some (.inr (4, [.null, .null, .null]))) : Met l yX4_init wsX4_init ({ frames := 2, cells := 5, slots := 107, locals := 33 } : Room) (PZ D dA b w (k + 1) [.ref (b + k)]) (QZ D b none (k + 6) (fun w' => isPlay dA b w' k P0 ∧ ∀ id : Nat, (id < k ∨ k + 6 ≤ id) → w' id = w id)) 5 107 (Fb b) := by
  refine q_ofZ (cc := cX4_init) (maxL := 1) (ret := none) (by decide) rfl rfl ?_
  intro p e s m args below meth c ls hx hb hr hml hts hown hlocks hin0 hG hW hS hz hl
  have hown : s.vm.findClass RX4 = some m.cls := hown
  have hinX1 : ∀ w ∈ u_ws RX1 TX1 3, w ∈ wsX4_init := fun w h => (goodIn_r (big := wsX4_init) (u_ws RX1 TX1 3) [23, 24, 25] (by decide +kernel) (by decide +kernel) w h).1
  have hinX4 : ∀ w ∈ u_ws RX4 TX4 3, w ∈ wsX4_init := fun w h => (goodIn_r (big := wsX4_init) (u_ws RX4 TX4 3) [26, 27, 28] (by decide +kernel) (by decide +kernel) w h).1
  have hl : lv_has ls 1 [(0, .ref (b + k))] := hl
  refine lv_aload_n hx hb dX4_init_0 rfl (lv_at hl 0 rfl) ?_
  refine W.objInit hx hb hown (hts (.methodLink RX4 3 objectInit) (List.mem_of_getElem? (i := 1) rfl)) (hts (.instanceMethod objectInit) (List.mem_of_getElem? (i := 2) rfl)) (hts _ (List.mem_of_getElem? (i := 3) rfl)) rfl (by rw [hml]; exact hl.1) rfl dX4_init_1 (Nat.le_of_ble_eq_true rfl) (Nat.le_of_ble_eq_true rfl) ?_
  refine W.eq (g2 := F0 m 4 ls []) rfl ?_
  refine lv_aload_n hx hb dX4_init_4 rfl (lv_at hl 0 rfl) ?_
  refine q_new (ci := 1) (fs := [.int (nI 0), .null, .int (nI 0)]) hx hb hts hinX1 tyX1_ok hown (hts (.classLink RX4 9 RX1) (List.mem_of_getElem? (i := 4) rfl)) (hts (.instantiable RX1 3) (List.mem_of_getElem? (i := 5) rfl)) (hts (.initialized RX1) (List.mem_of_getElem? (i := 6) rfl)) hG hW hS hz rfl (fun j hj => by rcases (show j = 0 ∨ j = 1 ∨ j = 2 by omega) with rfl | rfl | rfl <;> rfl) (Nat.le_of_ble_eq_true rfl) (Nat.le_of_ble_eq_true rfl) dX4_init_5 (fun H hW hS hz => ?_)
  obtain ⟨w1, ew1⟩ : ∃ wq__ : Wd, wq__ = va_up w (k + 1) (some (.inr (1, [.int (nI 0), .null, .int (nI 0)]))) := ⟨_, rfl⟩
  rw [← ew1] at hW
  have frw1 : ∀ id : Nat, id ≠ k + 1 → w1 id = w id := fun id h9 => by rw [ew1, up_ne h9]
  replace hk0 : w1 k = some (.inr (4, [.null, .null, .null])) := (frw1 _ (by omega)).trans hk0
  have hn5_1 : w1 (k + 1) = some (.inr (1, [.int (nI 0), .null, .int (nI 0)])) := by rw [ew1]; exact up_eq
  refine lv_dup hx hb dX4_init_8 rfl ?_
  refine lv_bipush (v := nI 10) hx hb dX4_init_9 (by decide) ?_
  refine q_call (va_runIN (As := [.int (nI 10)]) (rest := [.ref (b + (k + 1)), .ref (b + k)]) ⟨hx, hb, hml, hown, hts⟩ (c_X1_init l hn5_1 (by omega)) ⟨(va_cnB 1 hts gX4_init_X1_init_n11 rfl rfl rfl (hG.nest 8 rfl) (hts (.initialized RX1) (List.mem_of_getElem? (i := 6) rfl)) (by decide +kernel) ⟨Nat.le_of_ble_eq_true rfl, Nat.le_of_ble_eq_true rfl⟩), rfl, (hts (.instanceMethod yX1_init) (List.mem_of_getElem? (i := 16) rfl))⟩ (q_preI hG hW hS (by omega)) rfl rfl hl.1 rfl (lv_room (Nat.le_of_ble_eq_true rfl)) dX4_init_11 ⟨Nat.le_of_ble_eq_true rfl, Nat.le_of_ble_eq_true rfl⟩) hS (fun w_11 H locs hp11 hW hS hz => ?_)
  obtain ⟨hcu11, fr11⟩ := hp11
  replace hk0 : w_11 k = some (.inr (4, [.null, .null, .null])) := (fr11 _ (by omega)).trans hk0
  refine q_putF hx hb hts hinX4 tyX4_ok nmX4 hown hG hW hS hk0 rfl 0 (by decide) (hts (.fieldLink RX4 14 "FoleyMixer$Play" "words" "LFoleyMixer$Cues;") (List.mem_of_getElem? (i := 7) rfl)) rfl rfl hin0 rfl rfl rfl (Nat.le_of_ble_eq_true rfl) dX4_init_14 (fun H locs hW hS hz14 => ?_)
  replace hz := hz14.trans hz
  obtain ⟨w2, ew2⟩ : ∃ wq__ : Wd, wq__ = va_up w_11 k (some (.inr (4, [.ref (b + (k + 1)), .null, .null]))) := ⟨_, rfl⟩
  replace hW : WP D b w2 H := by rw [ew2]; exact hW
  have frw2 : ∀ id : Nat, id ≠ k → w2 id = w_11 id := fun id h9 => by rw [ew2, up_ne h9]
  replace hcu11 : isCues dA b w2 (k + 1) 10 0 (fun _ _ => 0) := hcu11.fr (frw2 _ (by omega)) (frw2 _ (by omega))
  replace hk0 : w2 k = some (.inr (4, [.ref (b + (k + 1)), .null, .null])) := by rw [ew2]; exact up_eq
  refine lv_aload_n hx hb dX4_init_17 rfl (lv_at hl 0 rfl) ?_
  refine q_new (ci := 1) (fs := [.int (nI 0), .null, .int (nI 0)]) hx hb hts hinX1 tyX1_ok hown (hts (.classLink RX4 9 RX1) (List.mem_of_getElem? (i := 4) rfl)) (hts (.instantiable RX1 3) (List.mem_of_getElem? (i := 5) rfl)) (hts (.initialized RX1) (List.mem_of_getElem? (i := 6) rfl)) hG hW hS hz rfl (fun j hj => by rcases (show j = 0 ∨ j = 1 ∨ j = 2 by omega) with rfl | rfl | rfl <;> rfl) (Nat.le_of_ble_eq_true rfl) (Nat.le_of_ble_eq_true rfl) dX4_init_18 (fun H hW hS hz => ?_)
  obtain ⟨w3, ew3⟩ : ∃ wq__ : Wd, wq__ = va_up w2 (k + 3) (some (.inr (1, [.int (nI 0), .null, .int (nI 0)]))) := ⟨_, rfl⟩
  rw [← ew3] at hW
  have frw3 : ∀ id : Nat, id ≠ k + 3 → w3 id = w2 id := fun id h9 => by rw [ew3, up_ne h9]
  replace hk0 : w3 k = some (.inr (4, [.ref (b + (k + 1)), .null, .null])) := (frw3 _ (by omega)).trans hk0
  replace hcu11 : isCues dA b w3 (k + 1) 10 0 (fun _ _ => 0) := hcu11.fr (frw3 _ (by omega)) (frw3 _ (by omega))
  have hn18_3 : w3 (k + 3) = some (.inr (1, [.int (nI 0), .null, .int (nI 0)])) := by rw [ew3]; exact up_eq
  refine lv_dup hx hb dX4_init_21 rfl ?_
  refine lv_bipush (v := nI 12) hx hb dX4_init_22 (by decide) ?_
  refine q_call (va_runIN (As := [.int (nI 12)]) (rest := [.ref (b + (k + 3)), .ref (b + k)]) ⟨hx, hb, hml, hown, hts⟩ (c_X1_init l hn18_3 (by omega)) ⟨(va_cnB 1 hts gX4_init_X1_init_n11 rfl rfl rfl (hG.nest 8 rfl) (hts (.initialized RX1) (List.mem_of_getElem? (i := 6) rfl)) (by decide +kernel) ⟨Nat.le_of_ble_eq_true rfl, Nat.le_of_ble_eq_true rfl⟩), rfl, (hts (.instanceMethod yX1_init) (List.mem_of_getElem? (i := 16) rfl))⟩ (q_preI hG hW hS (by omega)) rfl rfl hl.1 rfl (lv_room (Nat.le_of_ble_eq_true rfl)) dX4_init_24 ⟨Nat.le_of_ble_eq_true rfl, Nat.le_of_ble_eq_true rfl⟩) hS (fun w_24 H locs hp24 hW hS hz => ?_)
  obtain ⟨hcu24, fr24⟩ := hp24
  replace hk0 : w_24 k = some (.inr (4, [.ref (b + (k + 1)), .null, .null])) := (fr24 _ (by omega)).trans hk0
  replace hcu11 : isCues dA b w_24 (k + 1) 10 0 (fun _ _ => 0) := hcu11.fr (fr24 _ (by omega)) (fr24 _ (by omega))
  refine q_putF hx hb hts hinX4 tyX4_ok nmX4 hown hG hW hS hk0 rfl 1 (by decide) (hts (.fieldLink RX4 20 "FoleyMixer$Play" "noises" "LFoleyMixer$Cues;") (List.mem_of_getElem? (i := 8) rfl)) rfl rfl hin0 rfl rfl rfl (Nat.le_of_ble_eq_true rfl) dX4_init_27 (fun H locs hW hS hz27 => ?_)
  replace hz := hz27.trans hz
  obtain ⟨w4, ew4⟩ : ∃ wq__ : Wd, wq__ = va_up w_24 k (some (.inr (4, [.ref (b + (k + 1)), .ref (b + (k + 3)), .null]))) := ⟨_, rfl⟩
  replace hW : WP D b w4 H := by rw [ew4]; exact hW
  have frw4 : ∀ id : Nat, id ≠ k → w4 id = w_24 id := fun id h9 => by rw [ew4, up_ne h9]
  replace hcu11 : isCues dA b w4 (k + 1) 10 0 (fun _ _ => 0) := hcu11.fr (frw4 _ (by omega)) (frw4 _ (by omega))
  replace hcu24 : isCues dA b w4 (k + 3) 12 0 (fun _ _ => 0) := hcu24.fr (frw4 _ (by omega)) (frw4 _ (by omega))
  replace hk0 : w4 k = some (.inr (4, [.ref (b + (k + 1)), .ref (b + (k + 3)), .null])) := by rw [ew4]; exact up_eq
  refine lv_aload_n hx hb dX4_init_30 rfl (lv_at hl 0 rfl) ?_
  refine va_getsN hx hb (hG.2.2.1 2 _ rfl).1 hS hown (va_Nw.use rfl (hG.nest 9 rfl)) (fun _ h => h) dX4_init_31 ?_
  refine q_clone (i := 2) (N := 5) (L := [6, 2, 1, 2, 0]) hx hb (by rw [hml]; exact hl.1.symm) hown (hts (.methodLink RX4 27 ⟨"[I", "clone", "()Ljava/lang/Object;"⟩) (List.mem_of_getElem? (i := 9) rfl)) (hts (.sameMethod "[I" "java/lang/Object" "clone" "()Ljava/lang/Object;") (List.mem_of_getElem? (i := 10) rfl)) (hts (.native ⟨"java/lang/Object", "clone", "()Ljava/lang/Object;"⟩) (List.mem_of_getElem? (i := 11) rfl)) (hts (.instanceMethod ⟨"java/lang/Object", "clone", "()Ljava/lang/Object;"⟩) (List.mem_of_getElem? (i := 12) rfl)) (hts (.selects "[I" ⟨"[I", "clone", "()Ljava/lang/Object;"⟩ ⟨"java/lang/Object", "clone", "()Ljava/lang/Object;"⟩) (List.mem_of_getElem? (i := 13) rfl)) (hG.nest 94 rfl) hG hW hS hz rfl rfl (Nat.le_of_ble_eq_true rfl) (Nat.le_of_ble_eq_true rfl) (Nat.le_of_ble_eq_true rfl) (Nat.le_of_ble_eq_true rfl) dX4_init_34 (fun H hW hS hz => ?_)
  obtain ⟨w5, ew5⟩ : ∃ wq__ : Wd, wq__ = va_up w4 (k + 5) (some (eN dA 5 (fun j => ([6, 2, 1, 2, 0] : List Nat).getD j 0))) := ⟨_, rfl⟩
  rw [← ew5] at hW
  have frw5 : ∀ id : Nat, id ≠ k + 5 → w5 id = w4 id := fun id h9 => by rw [ew5, up_ne h9]
  replace hk0 : w5 k = some (.inr (4, [.ref (b + (k + 1)), .ref (b + (k + 3)), .null])) := (frw5 _ (by omega)).trans hk0
  replace hcu11 : isCues dA b w5 (k + 1) 10 0 (fun _ _ => 0) := hcu11.fr (frw5 _ (by omega)) (frw5 _ (by omega))
  replace hcu24 : isCues dA b w5 (k + 3) 12 0 (fun _ _ => 0) := hcu24.fr (frw5 _ (by omega)) (frw5 _ (by omega))
  have hn34_5 : w5 (k + 5) = some (eN dA 5 (fun j => ([6, 2, 1, 2, 0] : List Nat).getD j 0)) := by rw [ew5]; exact up_eq
  refine q_castI hx hb hown (hts (.classLink RX4 28 "[I") (List.mem_of_getElem? (i := 14) rfl)) hG hW hn34_5 dX4_init_37 ?_
  refine q_putF hx hb hts hinX4 tyX4_ok nmX4 hown hG hW hS hk0 rfl 2 (by decide) (hts (.fieldLink RX4 32 "FoleyMixer$Play" "settings" "[I") (List.mem_of_getElem? (i := 15) rfl)) rfl rfl hin0 rfl rfl rfl (Nat.le_of_ble_eq_true rfl) dX4_init_40 (fun H locs hW hS hz40 => ?_)
  replace hz := hz40.trans hz
  obtain ⟨w6, ew6⟩ : ∃ wq__ : Wd, wq__ = va_up w5 k (some (.inr (4, [.ref (b + (k + 1)), .ref (b + (k + 3)), .ref (b + (k + 5))]))) := ⟨_, rfl⟩
  replace hW : WP D b w6 H := by rw [ew6]; exact hW
  have frw6 : ∀ id : Nat, id ≠ k → w6 id = w5 id := fun id h9 => by rw [ew6, up_ne h9]
  replace hcu11 : isCues dA b w6 (k + 1) 10 0 (fun _ _ => 0) := hcu11.fr (frw6 _ (by omega)) (frw6 _ (by omega))
  replace hcu24 : isCues dA b w6 (k + 3) 12 0 (fun _ _ => 0) := hcu24.fr (frw6 _ (by omega)) (frw6 _ (by omega))
  replace hn34_5 : w6 (k + 5) = some (eN dA 5 (fun j => ([6, 2, 1, 2, 0] : List Nat).getD j 0)) := (frw6 _ (by omega)).trans hn34_5
  replace hk0 : w6 k = some (.inr (4, [.ref (b + (k + 1)), .ref (b + (k + 3)), .ref (b + (k + 5))])) := by rw [ew6]; exact up_eq
  exact q_zv hx hb hr hlocks hW hS (by omega) dX4_init_43 (by exact ⟨⟨hk0, hcu11, hcu24, P0_okS, hn34_5⟩, by intro id h9; rw [frw6 id (by omega)]; rw [frw5 id (by omega)]; rw [frw4 id (by omega)]; rw [fr24 id (by omega)]; rw [frw3 id (by omega)]; rw [frw2 id (by omega)]; rw [fr11 id (by omega)]; rw [frw1 id (by omega)]; try rfl⟩) (by decide) (by decide)

set_option maxHeartbeats 300000 in
set_option maxRecDepth 100000 in
/-- Mix() -/
theorem c_X3_init (l : Launch) {D : va_G} {dA : Nat → Nat} {b : Nat} {w : Wd} {k : Nat} (hk0 : w k = some (.inr (3, [.null, .null, .null, .null, .null, .null, .null, .null]))) : Met l yX3_init wsX3_init ({ frames := 3, cells := 13, slots := 950, locals := 53 } : Room) (PZ D dA b w (k + 1) [.ref (b + k)]) (QZ D b none (k + 14) (fun w' => anyMix dA b w' k (k + 1) ∧ isPlay dA b w' (k + 1) P0 ∧ ∀ id : Nat, (id < k ∨ k + 14 ≤ id) → w' id = w id)) 13 950 (Fb b) := by
  refine q_ofZ (cc := cX3_init) (maxL := 1) (ret := none) (by decide) rfl rfl ?_
  intro p e s m args below meth c ls hx hb hr hml hts hown hlocks hin0 hG hW hS hz hl
  have hown : s.vm.findClass RX3 = some m.cls := hown
  have hinX3 : ∀ w ∈ u_ws RX3 TX3 8, w ∈ wsX3_init := fun w h => (goodIn_r (big := wsX3_init) (u_ws RX3 TX3 8) [40, 41, 42, 43, 44, 45, 46, 47] (by decide +kernel) (by decide +kernel) w h).1
  have hinX4 : ∀ w ∈ u_ws RX4 TX4 3, w ∈ wsX3_init := fun w h => (goodIn_r (big := wsX3_init) (u_ws RX4 TX4 3) [37, 38, 39] (by decide +kernel) (by decide +kernel) w h).1
  have hl : lv_has ls 1 [(0, .ref (b + k))] := hl
  refine lv_aload_n hx hb dX3_init_0 rfl (lv_at hl 0 rfl) ?_
  refine W.objInit hx hb hown (hts (.methodLink RX3 3 objectInit) (List.mem_of_getElem? (i := 1) rfl)) (hts (.instanceMethod objectInit) (List.mem_of_getElem? (i := 2) rfl)) (hts _ (List.mem_of_getElem? (i := 3) rfl)) rfl (by rw [hml]; exact hl.1) rfl dX3_init_1 (Nat.le_of_ble_eq_true rfl) (Nat.le_of_ble_eq_true rfl) ?_
  refine W.eq (g2 := F0 m 4 ls []) rfl ?_
  refine lv_aload_n hx hb dX3_init_4 rfl (lv_at hl 0 rfl) ?_
  refine q_new (ci := 4) (fs := [.null, .null, .null]) hx hb hts hinX4 tyX4_ok hown (hts (.classLink RX3 9 RX4) (List.mem_of_getElem? (i := 4) rfl)) (hts (.instantiable RX4 3) (List.mem_of_getElem? (i := 5) rfl)) (hts (.initialized RX4) (List.mem_of_getElem? (i := 6) rfl)) hG hW hS hz rfl (fun j hj => by rcases (show j = 0 ∨ j = 1 ∨ j = 2 by omega) with rfl | rfl | rfl <;> rfl) (Nat.le_of_ble_eq_true rfl) (Nat.le_of_ble_eq_true rfl) dX3_init_5 (fun H hW hS hz => ?_)
  obtain ⟨w1, ew1⟩ : ∃ wq__ : Wd, wq__ = va_up w (k + 1) (some (.inr (4, [.null, .null, .null]))) := ⟨_, rfl⟩
  rw [← ew1] at hW
  have frw1 : ∀ id : Nat, id ≠ k + 1 → w1 id = w id := fun id h9 => by rw [ew1, up_ne h9]
  replace hk0 : w1 k = some (.inr (3, [.null, .null, .null, .null, .null, .null, .null, .null])) := (frw1 _ (by omega)).trans hk0
  have hn5_1 : w1 (k + 1) = some (.inr (4, [.null, .null, .null])) := by rw [ew1]; exact up_eq
  refine lv_dup hx hb dX3_init_8 rfl ?_
  refine q_call (va_runIN (As := []) (rest := [.ref (b + (k + 1)), .ref (b + k)]) ⟨hx, hb, hml, hown, hts⟩ (c_X4_init l hn5_1) ⟨(va_cnB 0 hts gX3_init_X4_init_n11 rfl rfl rfl (hG.nest 7 rfl) (hts (.initialized RX4) (List.mem_of_getElem? (i := 6) rfl)) (by decide +kernel) ⟨Nat.le_of_ble_eq_true rfl, Nat.le_of_ble_eq_true rfl⟩), rfl, (hts (.instanceMethod yX4_init) (List.mem_of_getElem? (i := 16) rfl))⟩ (q_preI hG hW hS (by omega)) rfl rfl hl.1 rfl (lv_room (Nat.le_of_ble_eq_true rfl)) dX3_init_9 ⟨Nat.le_of_ble_eq_true rfl, Nat.le_of_ble_eq_true rfl⟩) hS (fun w_9 H locs hp9 hW hS hz => ?_)
  obtain ⟨hpl9, fr9⟩ := hp9
  replace hk0 : w_9 k = some (.inr (3, [.null, .null, .null, .null, .null, .null, .null, .null])) := (fr9 _ (by omega)).trans hk0
  refine q_putF hx hb hts hinX3 tyX3_ok nmX3 hown hG hW hS hk0 rfl 0 (by decide) (hts (.fieldLink RX3 12 "FoleyMixer$Mix" "play" "LFoleyMixer$Play;") (List.mem_of_getElem? (i := 7) rfl)) rfl rfl hin0 rfl rfl rfl (Nat.le_of_ble_eq_true rfl) dX3_init_12 (fun H locs hW hS hz12 => ?_)
  replace hz := hz12.trans hz
  obtain ⟨w2, ew2⟩ : ∃ wq__ : Wd, wq__ = va_up w_9 k (some (.inr (3, [.ref (b + (k + 1)), .null, .null, .null, .null, .null, .null, .null]))) := ⟨_, rfl⟩
  replace hW : WP D b w2 H := by rw [ew2]; exact hW
  have frw2 : ∀ id : Nat, id ≠ k → w2 id = w_9 id := fun id h9 => by rw [ew2, up_ne h9]
  replace hpl9 : isPlay dA b w2 (k + 1) P0 := hpl9.fr (fun id9 h7 h8 => frw2 id9 (by omega))
  replace hk0 : w2 k = some (.inr (3, [.ref (b + (k + 1)), .null, .null, .null, .null, .null, .null, .null])) := by rw [ew2]; exact up_eq
  refine lv_aload_n hx hb dX3_init_15 rfl (lv_at hl 0 rfl) ?_
  refine lv_bipush (v := nI 120) hx hb dX3_init_16 (by decide) ?_
  refine q_newI hx hb (hts (.arrayClass .int) (List.mem_of_getElem? (i := 8) rfl)) hG hW hS hz (by decide) (Nat.le_of_ble_eq_true rfl) (Nat.le_of_ble_eq_true rfl) dX3_init_18 (fun H hW hS hz => ?_)
  obtain ⟨w3, ew3⟩ : ∃ wq__ : Wd, wq__ = va_up w2 (k + 7) (some (eN dA 120 (fun _ => 0))) := ⟨_, rfl⟩
  rw [← ew3] at hW
  have frw3 : ∀ id : Nat, id ≠ k + 7 → w3 id = w2 id := fun id h9 => by rw [ew3, up_ne h9]
  replace hk0 : w3 k = some (.inr (3, [.ref (b + (k + 1)), .null, .null, .null, .null, .null, .null, .null])) := (frw3 _ (by omega)).trans hk0
  replace hpl9 : isPlay dA b w3 (k + 1) P0 := hpl9.fr (fun id9 h7 h8 => frw3 id9 (by omega))
  have hn18_3 : w3 (k + 7) = some (eN dA 120 (fun _ => 0)) := by rw [ew3]; exact up_eq
  refine q_putF hx hb hts hinX3 tyX3_ok nmX3 hown hG hW hS hk0 rfl 1 (by decide) (hts (.fieldLink RX3 18 "FoleyMixer$Mix" "words" "[I") (List.mem_of_getElem? (i := 9) rfl)) rfl rfl hin0 rfl rfl rfl (Nat.le_of_ble_eq_true rfl) dX3_init_20 (fun H locs hW hS hz20 => ?_)
  replace hz := hz20.trans hz
  obtain ⟨w4, ew4⟩ : ∃ wq__ : Wd, wq__ = va_up w3 k (some (.inr (3, [.ref (b + (k + 1)), .ref (b + (k + 7)), .null, .null, .null, .null, .null, .null]))) := ⟨_, rfl⟩
  replace hW : WP D b w4 H := by rw [ew4]; exact hW
  have frw4 : ∀ id : Nat, id ≠ k → w4 id = w3 id := fun id h9 => by rw [ew4, up_ne h9]
  replace hpl9 : isPlay dA b w4 (k + 1) P0 := hpl9.fr (fun id9 h7 h8 => frw4 id9 (by omega))
  replace hn18_3 : w4 (k + 7) = some (eN dA 120 (fun _ => 0)) := (frw4 _ (by omega)).trans hn18_3
  replace hk0 : w4 k = some (.inr (3, [.ref (b + (k + 1)), .ref (b + (k + 7)), .null, .null, .null, .null, .null, .null])) := by rw [ew4]; exact up_eq
  refine lv_aload_n hx hb dX3_init_23 rfl (lv_at hl 0 rfl) ?_
  refine lv_bipush (v := nI 120) hx hb dX3_init_24 (by decide) ?_
  refine q_newI hx hb (hts (.arrayClass .int) (List.mem_of_getElem? (i := 8) rfl)) hG hW hS hz (by decide) (Nat.le_of_ble_eq_true rfl) (Nat.le_of_ble_eq_true rfl) dX3_init_26 (fun H hW hS hz => ?_)
  obtain ⟨w5, ew5⟩ : ∃ wq__ : Wd, wq__ = va_up w4 (k + 8) (some (eN dA 120 (fun _ => 0))) := ⟨_, rfl⟩
  rw [← ew5] at hW
  have frw5 : ∀ id : Nat, id ≠ k + 8 → w5 id = w4 id := fun id h9 => by rw [ew5, up_ne h9]
  replace hk0 : w5 k = some (.inr (3, [.ref (b + (k + 1)), .ref (b + (k + 7)), .null, .null, .null, .null, .null, .null])) := (frw5 _ (by omega)).trans hk0
  replace hpl9 : isPlay dA b w5 (k + 1) P0 := hpl9.fr (fun id9 h7 h8 => frw5 id9 (by omega))
  replace hn18_3 : w5 (k + 7) = some (eN dA 120 (fun _ => 0)) := (frw5 _ (by omega)).trans hn18_3
  have hn26_5 : w5 (k + 8) = some (eN dA 120 (fun _ => 0)) := by rw [ew5]; exact up_eq
  refine q_putF hx hb hts hinX3 tyX3_ok nmX3 hown hG hW hS hk0 rfl 2 (by decide) (hts (.fieldLink RX3 22 "FoleyMixer$Mix" "noises" "[I") (List.mem_of_getElem? (i := 10) rfl)) rfl rfl hin0 rfl rfl rfl (Nat.le_of_ble_eq_true rfl) dX3_init_28 (fun H locs hW hS hz28 => ?_)
  replace hz := hz28.trans hz
  obtain ⟨w6, ew6⟩ : ∃ wq__ : Wd, wq__ = va_up w5 k (some (.inr (3, [.ref (b + (k + 1)), .ref (b + (k + 7)), .ref (b + (k + 8)), .null, .null, .null, .null, .null]))) := ⟨_, rfl⟩
  replace hW : WP D b w6 H := by rw [ew6]; exact hW
  have frw6 : ∀ id : Nat, id ≠ k → w6 id = w5 id := fun id h9 => by rw [ew6, up_ne h9]
  replace hpl9 : isPlay dA b w6 (k + 1) P0 := hpl9.fr (fun id9 h7 h8 => frw6 id9 (by omega))
  replace hn18_3 : w6 (k + 7) = some (eN dA 120 (fun _ => 0)) := (frw6 _ (by omega)).trans hn18_3
  replace hn26_5 : w6 (k + 8) = some (eN dA 120 (fun _ => 0)) := (frw6 _ (by omega)).trans hn26_5
  replace hk0 : w6 k = some (.inr (3, [.ref (b + (k + 1)), .ref (b + (k + 7)), .ref (b + (k + 8)), .null, .null, .null, .null, .null])) := by rw [ew6]; exact up_eq
  refine lv_aload_n hx hb dX3_init_31 rfl (lv_at hl 0 rfl) ?_
  refine lv_bipush (v := nI 120) hx hb dX3_init_32 (by decide) ?_
  refine q_newI hx hb (hts (.arrayClass .int) (List.mem_of_getElem? (i := 8) rfl)) hG hW hS hz (by decide) (Nat.le_of_ble_eq_true rfl) (Nat.le_of_ble_eq_true rfl) dX3_init_34 (fun H hW hS hz => ?_)
  obtain ⟨w7, ew7⟩ : ∃ wq__ : Wd, wq__ = va_up w6 (k + 9) (some (eN dA 120 (fun _ => 0))) := ⟨_, rfl⟩
  rw [← ew7] at hW
  have frw7 : ∀ id : Nat, id ≠ k + 9 → w7 id = w6 id := fun id h9 => by rw [ew7, up_ne h9]
  replace hk0 : w7 k = some (.inr (3, [.ref (b + (k + 1)), .ref (b + (k + 7)), .ref (b + (k + 8)), .null, .null, .null, .null, .null])) := (frw7 _ (by omega)).trans hk0
  replace hpl9 : isPlay dA b w7 (k + 1) P0 := hpl9.fr (fun id9 h7 h8 => frw7 id9 (by omega))
  replace hn18_3 : w7 (k + 7) = some (eN dA 120 (fun _ => 0)) := (frw7 _ (by omega)).trans hn18_3
  replace hn26_5 : w7 (k + 8) = some (eN dA 120 (fun _ => 0)) := (frw7 _ (by omega)).trans hn26_5
  have hn34_7 : w7 (k + 9) = some (eN dA 120 (fun _ => 0)) := by rw [ew7]; exact up_eq
  refine q_putF hx hb hts hinX3 tyX3_ok nmX3 hown hG hW hS hk0 rfl 3 (by decide) (hts (.fieldLink RX3 25 "FoleyMixer$Mix" "ducking" "[I") (List.mem_of_getElem? (i := 11) rfl)) rfl rfl hin0 rfl rfl rfl (Nat.le_of_ble_eq_true rfl) dX3_init_36 (fun H locs hW hS hz36 => ?_)
  replace hz := hz36.trans hz
  obtain ⟨w8, ew8⟩ : ∃ wq__ : Wd, wq__ = va_up w7 k (some (.inr (3, [.ref (b + (k + 1)), .ref (b + (k + 7)), .ref (b + (k + 8)), .ref (b + (k + 9)), .null, .null, .null, .null]))) := ⟨_, rfl⟩
  replace hW : WP D b w8 H := by rw [ew8]; exact hW
  have frw8 : ∀ id : Nat, id ≠ k → w8 id = w7 id := fun id h9 => by rw [ew8, up_ne h9]
  replace hpl9 : isPlay dA b w8 (k + 1) P0 := hpl9.fr (fun id9 h7 h8 => frw8 id9 (by omega))
  replace hn18_3 : w8 (k + 7) = some (eN dA 120 (fun _ => 0)) := (frw8 _ (by omega)).trans hn18_3
  replace hn26_5 : w8 (k + 8) = some (eN dA 120 (fun _ => 0)) := (frw8 _ (by omega)).trans hn26_5
  replace hn34_7 : w8 (k + 9) = some (eN dA 120 (fun _ => 0)) := (frw8 _ (by omega)).trans hn34_7
  replace hk0 : w8 k = some (.inr (3, [.ref (b + (k + 1)), .ref (b + (k + 7)), .ref (b + (k + 8)), .ref (b + (k + 9)), .null, .null, .null, .null])) := by rw [ew8]; exact up_eq
  refine lv_aload_n hx hb dX3_init_39 rfl (lv_at hl 0 rfl) ?_
  refine lv_bipush (v := nI 120) hx hb dX3_init_40 (by decide) ?_
  refine q_newI hx hb (hts (.arrayClass .int) (List.mem_of_getElem? (i := 8) rfl)) hG hW hS hz (by decide) (Nat.le_of_ble_eq_true rfl) (Nat.le_of_ble_eq_true rfl) dX3_init_42 (fun H hW hS hz => ?_)
  obtain ⟨w9, ew9⟩ : ∃ wq__ : Wd, wq__ = va_up w8 (k + 10) (some (eN dA 120 (fun _ => 0))) := ⟨_, rfl⟩
  rw [← ew9] at hW
  have frw9 : ∀ id : Nat, id ≠ k + 10 → w9 id = w8 id := fun id h9 => by rw [ew9, up_ne h9]
  replace hk0 : w9 k = some (.inr (3, [.ref (b + (k + 1)), .ref (b + (k + 7)), .ref (b + (k + 8)), .ref (b + (k + 9)), .null, .null, .null, .null])) := (frw9 _ (by omega)).trans hk0
  replace hpl9 : isPlay dA b w9 (k + 1) P0 := hpl9.fr (fun id9 h7 h8 => frw9 id9 (by omega))
  replace hn18_3 : w9 (k + 7) = some (eN dA 120 (fun _ => 0)) := (frw9 _ (by omega)).trans hn18_3
  replace hn26_5 : w9 (k + 8) = some (eN dA 120 (fun _ => 0)) := (frw9 _ (by omega)).trans hn26_5
  replace hn34_7 : w9 (k + 9) = some (eN dA 120 (fun _ => 0)) := (frw9 _ (by omega)).trans hn34_7
  have hn42_9 : w9 (k + 10) = some (eN dA 120 (fun _ => 0)) := by rw [ew9]; exact up_eq
  refine q_putF hx hb hts hinX3 tyX3_ok nmX3 hown hG hW hS hk0 rfl 4 (by decide) (hts (.fieldLink RX3 28 "FoleyMixer$Mix" "strongest" "[I") (List.mem_of_getElem? (i := 12) rfl)) rfl rfl hin0 rfl rfl rfl (Nat.le_of_ble_eq_true rfl) dX3_init_44 (fun H locs hW hS hz44 => ?_)
  replace hz := hz44.trans hz
  obtain ⟨w10, ew10⟩ : ∃ wq__ : Wd, wq__ = va_up w9 k (some (.inr (3, [.ref (b + (k + 1)), .ref (b + (k + 7)), .ref (b + (k + 8)), .ref (b + (k + 9)), .ref (b + (k + 10)), .null, .null, .null]))) := ⟨_, rfl⟩
  replace hW : WP D b w10 H := by rw [ew10]; exact hW
  have frw10 : ∀ id : Nat, id ≠ k → w10 id = w9 id := fun id h9 => by rw [ew10, up_ne h9]
  replace hpl9 : isPlay dA b w10 (k + 1) P0 := hpl9.fr (fun id9 h7 h8 => frw10 id9 (by omega))
  replace hn18_3 : w10 (k + 7) = some (eN dA 120 (fun _ => 0)) := (frw10 _ (by omega)).trans hn18_3
  replace hn26_5 : w10 (k + 8) = some (eN dA 120 (fun _ => 0)) := (frw10 _ (by omega)).trans hn26_5
  replace hn34_7 : w10 (k + 9) = some (eN dA 120 (fun _ => 0)) := (frw10 _ (by omega)).trans hn34_7
  replace hn42_9 : w10 (k + 10) = some (eN dA 120 (fun _ => 0)) := (frw10 _ (by omega)).trans hn42_9
  replace hk0 : w10 k = some (.inr (3, [.ref (b + (k + 1)), .ref (b + (k + 7)), .ref (b + (k + 8)), .ref (b + (k + 9)), .ref (b + (k + 10)), .null, .null, .null])) := by rw [ew10]; exact up_eq
  refine lv_aload_n hx hb dX3_init_47 rfl (lv_at hl 0 rfl) ?_
  refine lv_bipush (v := nI 120) hx hb dX3_init_48 (by decide) ?_
  refine q_newI hx hb (hts (.arrayClass .int) (List.mem_of_getElem? (i := 8) rfl)) hG hW hS hz (by decide) (Nat.le_of_ble_eq_true rfl) (Nat.le_of_ble_eq_true rfl) dX3_init_50 (fun H hW hS hz => ?_)
  obtain ⟨w11, ew11⟩ : ∃ wq__ : Wd, wq__ = va_up w10 (k + 11) (some (eN dA 120 (fun _ => 0))) := ⟨_, rfl⟩
  rw [← ew11] at hW
  have frw11 : ∀ id : Nat, id ≠ k + 11 → w11 id = w10 id := fun id h9 => by rw [ew11, up_ne h9]
  replace hk0 : w11 k = some (.inr (3, [.ref (b + (k + 1)), .ref (b + (k + 7)), .ref (b + (k + 8)), .ref (b + (k + 9)), .ref (b + (k + 10)), .null, .null, .null])) := (frw11 _ (by omega)).trans hk0
  replace hpl9 : isPlay dA b w11 (k + 1) P0 := hpl9.fr (fun id9 h7 h8 => frw11 id9 (by omega))
  replace hn18_3 : w11 (k + 7) = some (eN dA 120 (fun _ => 0)) := (frw11 _ (by omega)).trans hn18_3
  replace hn26_5 : w11 (k + 8) = some (eN dA 120 (fun _ => 0)) := (frw11 _ (by omega)).trans hn26_5
  replace hn34_7 : w11 (k + 9) = some (eN dA 120 (fun _ => 0)) := (frw11 _ (by omega)).trans hn34_7
  replace hn42_9 : w11 (k + 10) = some (eN dA 120 (fun _ => 0)) := (frw11 _ (by omega)).trans hn42_9
  have hn50_11 : w11 (k + 11) = some (eN dA 120 (fun _ => 0)) := by rw [ew11]; exact up_eq
  refine q_putF hx hb hts hinX3 tyX3_ok nmX3 hown hG hW hS hk0 rfl 5 (by decide) (hts (.fieldLink RX3 31 "FoleyMixer$Mix" "greatestStrength" "[I") (List.mem_of_getElem? (i := 13) rfl)) rfl rfl hin0 rfl rfl rfl (Nat.le_of_ble_eq_true rfl) dX3_init_52 (fun H locs hW hS hz52 => ?_)
  replace hz := hz52.trans hz
  obtain ⟨w12, ew12⟩ : ∃ wq__ : Wd, wq__ = va_up w11 k (some (.inr (3, [.ref (b + (k + 1)), .ref (b + (k + 7)), .ref (b + (k + 8)), .ref (b + (k + 9)), .ref (b + (k + 10)), .ref (b + (k + 11)), .null, .null]))) := ⟨_, rfl⟩
  replace hW : WP D b w12 H := by rw [ew12]; exact hW
  have frw12 : ∀ id : Nat, id ≠ k → w12 id = w11 id := fun id h9 => by rw [ew12, up_ne h9]
  replace hpl9 : isPlay dA b w12 (k + 1) P0 := hpl9.fr (fun id9 h7 h8 => frw12 id9 (by omega))
  replace hn18_3 : w12 (k + 7) = some (eN dA 120 (fun _ => 0)) := (frw12 _ (by omega)).trans hn18_3
  replace hn26_5 : w12 (k + 8) = some (eN dA 120 (fun _ => 0)) := (frw12 _ (by omega)).trans hn26_5
  replace hn34_7 : w12 (k + 9) = some (eN dA 120 (fun _ => 0)) := (frw12 _ (by omega)).trans hn34_7
  replace hn42_9 : w12 (k + 10) = some (eN dA 120 (fun _ => 0)) := (frw12 _ (by omega)).trans hn42_9
  replace hn50_11 : w12 (k + 11) = some (eN dA 120 (fun _ => 0)) := (frw12 _ (by omega)).trans hn50_11
  replace hk0 : w12 k = some (.inr (3, [.ref (b + (k + 1)), .ref (b + (k + 7)), .ref (b + (k + 8)), .ref (b + (k + 9)), .ref (b + (k + 10)), .ref (b + (k + 11)), .null, .null])) := by rw [ew12]; exact up_eq
  refine lv_aload_n hx hb dX3_init_55 rfl (lv_at hl 0 rfl) ?_
  refine lv_bipush (v := nI 120) hx hb dX3_init_56 (by decide) ?_
  refine q_newI hx hb (hts (.arrayClass .int) (List.mem_of_getElem? (i := 8) rfl)) hG hW hS hz (by decide) (Nat.le_of_ble_eq_true rfl) (Nat.le_of_ble_eq_true rfl) dX3_init_58 (fun H hW hS hz => ?_)
  obtain ⟨w13, ew13⟩ : ∃ wq__ : Wd, wq__ = va_up w12 (k + 12) (some (eN dA 120 (fun _ => 0))) := ⟨_, rfl⟩
  rw [← ew13] at hW
  have frw13 : ∀ id : Nat, id ≠ k + 12 → w13 id = w12 id := fun id h9 => by rw [ew13, up_ne h9]
  replace hk0 : w13 k = some (.inr (3, [.ref (b + (k + 1)), .ref (b + (k + 7)), .ref (b + (k + 8)), .ref (b + (k + 9)), .ref (b + (k + 10)), .ref (b + (k + 11)), .null, .null])) := (frw13 _ (by omega)).trans hk0
  replace hpl9 : isPlay dA b w13 (k + 1) P0 := hpl9.fr (fun id9 h7 h8 => frw13 id9 (by omega))
  replace hn18_3 : w13 (k + 7) = some (eN dA 120 (fun _ => 0)) := (frw13 _ (by omega)).trans hn18_3
  replace hn26_5 : w13 (k + 8) = some (eN dA 120 (fun _ => 0)) := (frw13 _ (by omega)).trans hn26_5
  replace hn34_7 : w13 (k + 9) = some (eN dA 120 (fun _ => 0)) := (frw13 _ (by omega)).trans hn34_7
  replace hn42_9 : w13 (k + 10) = some (eN dA 120 (fun _ => 0)) := (frw13 _ (by omega)).trans hn42_9
  replace hn50_11 : w13 (k + 11) = some (eN dA 120 (fun _ => 0)) := (frw13 _ (by omega)).trans hn50_11
  have hn58_13 : w13 (k + 12) = some (eN dA 120 (fun _ => 0)) := by rw [ew13]; exact up_eq
  refine q_putF hx hb hts hinX3 tyX3_ok nmX3 hown hG hW hS hk0 rfl 6 (by decide) (hts (.fieldLink RX3 34 "FoleyMixer$Mix" "strengthCount" "[I") (List.mem_of_getElem? (i := 14) rfl)) rfl rfl hin0 rfl rfl rfl (Nat.le_of_ble_eq_true rfl) dX3_init_60 (fun H locs hW hS hz60 => ?_)
  replace hz := hz60.trans hz
  obtain ⟨w14, ew14⟩ : ∃ wq__ : Wd, wq__ = va_up w13 k (some (.inr (3, [.ref (b + (k + 1)), .ref (b + (k + 7)), .ref (b + (k + 8)), .ref (b + (k + 9)), .ref (b + (k + 10)), .ref (b + (k + 11)), .ref (b + (k + 12)), .null]))) := ⟨_, rfl⟩
  replace hW : WP D b w14 H := by rw [ew14]; exact hW
  have frw14 : ∀ id : Nat, id ≠ k → w14 id = w13 id := fun id h9 => by rw [ew14, up_ne h9]
  replace hpl9 : isPlay dA b w14 (k + 1) P0 := hpl9.fr (fun id9 h7 h8 => frw14 id9 (by omega))
  replace hn18_3 : w14 (k + 7) = some (eN dA 120 (fun _ => 0)) := (frw14 _ (by omega)).trans hn18_3
  replace hn26_5 : w14 (k + 8) = some (eN dA 120 (fun _ => 0)) := (frw14 _ (by omega)).trans hn26_5
  replace hn34_7 : w14 (k + 9) = some (eN dA 120 (fun _ => 0)) := (frw14 _ (by omega)).trans hn34_7
  replace hn42_9 : w14 (k + 10) = some (eN dA 120 (fun _ => 0)) := (frw14 _ (by omega)).trans hn42_9
  replace hn50_11 : w14 (k + 11) = some (eN dA 120 (fun _ => 0)) := (frw14 _ (by omega)).trans hn50_11
  replace hn58_13 : w14 (k + 12) = some (eN dA 120 (fun _ => 0)) := (frw14 _ (by omega)).trans hn58_13
  replace hk0 : w14 k = some (.inr (3, [.ref (b + (k + 1)), .ref (b + (k + 7)), .ref (b + (k + 8)), .ref (b + (k + 9)), .ref (b + (k + 10)), .ref (b + (k + 11)), .ref (b + (k + 12)), .null])) := by rw [ew14]; exact up_eq
  refine lv_aload_n hx hb dX3_init_63 rfl (lv_at hl 0 rfl) ?_
  refine lv_bipush (v := nI 120) hx hb dX3_init_64 (by decide) ?_
  refine q_newI hx hb (hts (.arrayClass .int) (List.mem_of_getElem? (i := 8) rfl)) hG hW hS hz (by decide) (Nat.le_of_ble_eq_true rfl) (Nat.le_of_ble_eq_true rfl) dX3_init_66 (fun H hW hS hz => ?_)
  obtain ⟨w15, ew15⟩ : ∃ wq__ : Wd, wq__ = va_up w14 (k + 13) (some (eN dA 120 (fun _ => 0))) := ⟨_, rfl⟩
  rw [← ew15] at hW
  have frw15 : ∀ id : Nat, id ≠ k + 13 → w15 id = w14 id := fun id h9 => by rw [ew15, up_ne h9]
  replace hk0 : w15 k = some (.inr (3, [.ref (b + (k + 1)), .ref (b + (k + 7)), .ref (b + (k + 8)), .ref (b + (k + 9)), .ref (b + (k + 10)), .ref (b + (k + 11)), .ref (b + (k + 12)), .null])) := (frw15 _ (by omega)).trans hk0
  replace hpl9 : isPlay dA b w15 (k + 1) P0 := hpl9.fr (fun id9 h7 h8 => frw15 id9 (by omega))
  replace hn18_3 : w15 (k + 7) = some (eN dA 120 (fun _ => 0)) := (frw15 _ (by omega)).trans hn18_3
  replace hn26_5 : w15 (k + 8) = some (eN dA 120 (fun _ => 0)) := (frw15 _ (by omega)).trans hn26_5
  replace hn34_7 : w15 (k + 9) = some (eN dA 120 (fun _ => 0)) := (frw15 _ (by omega)).trans hn34_7
  replace hn42_9 : w15 (k + 10) = some (eN dA 120 (fun _ => 0)) := (frw15 _ (by omega)).trans hn42_9
  replace hn50_11 : w15 (k + 11) = some (eN dA 120 (fun _ => 0)) := (frw15 _ (by omega)).trans hn50_11
  replace hn58_13 : w15 (k + 12) = some (eN dA 120 (fun _ => 0)) := (frw15 _ (by omega)).trans hn58_13
  have hn66_15 : w15 (k + 13) = some (eN dA 120 (fun _ => 0)) := by rw [ew15]; exact up_eq
  refine q_putF hx hb hts hinX3 tyX3_ok nmX3 hown hG hW hS hk0 rfl 7 (by decide) (hts (.fieldLink RX3 37 "FoleyMixer$Mix" "masked" "[I") (List.mem_of_getElem? (i := 15) rfl)) rfl rfl hin0 rfl rfl rfl (Nat.le_of_ble_eq_true rfl) dX3_init_68 (fun H locs hW hS hz68 => ?_)
  replace hz := hz68.trans hz
  obtain ⟨w16, ew16⟩ : ∃ wq__ : Wd, wq__ = va_up w15 k (some (.inr (3, [.ref (b + (k + 1)), .ref (b + (k + 7)), .ref (b + (k + 8)), .ref (b + (k + 9)), .ref (b + (k + 10)), .ref (b + (k + 11)), .ref (b + (k + 12)), .ref (b + (k + 13))]))) := ⟨_, rfl⟩
  replace hW : WP D b w16 H := by rw [ew16]; exact hW
  have frw16 : ∀ id : Nat, id ≠ k → w16 id = w15 id := fun id h9 => by rw [ew16, up_ne h9]
  replace hpl9 : isPlay dA b w16 (k + 1) P0 := hpl9.fr (fun id9 h7 h8 => frw16 id9 (by omega))
  replace hn18_3 : w16 (k + 7) = some (eN dA 120 (fun _ => 0)) := (frw16 _ (by omega)).trans hn18_3
  replace hn26_5 : w16 (k + 8) = some (eN dA 120 (fun _ => 0)) := (frw16 _ (by omega)).trans hn26_5
  replace hn34_7 : w16 (k + 9) = some (eN dA 120 (fun _ => 0)) := (frw16 _ (by omega)).trans hn34_7
  replace hn42_9 : w16 (k + 10) = some (eN dA 120 (fun _ => 0)) := (frw16 _ (by omega)).trans hn42_9
  replace hn50_11 : w16 (k + 11) = some (eN dA 120 (fun _ => 0)) := (frw16 _ (by omega)).trans hn50_11
  replace hn58_13 : w16 (k + 12) = some (eN dA 120 (fun _ => 0)) := (frw16 _ (by omega)).trans hn58_13
  replace hn66_15 : w16 (k + 13) = some (eN dA 120 (fun _ => 0)) := (frw16 _ (by omega)).trans hn66_15
  replace hk0 : w16 k = some (.inr (3, [.ref (b + (k + 1)), .ref (b + (k + 7)), .ref (b + (k + 8)), .ref (b + (k + 9)), .ref (b + (k + 10)), .ref (b + (k + 11)), .ref (b + (k + 12)), .ref (b + (k + 13))])) := by rw [ew16]; exact up_eq
  exact q_zv hx hb hr hlocks hW hS (by omega) dX3_init_71 (by exact ⟨⟨hk0, _, _, _, _, _, _, _, hn18_3, hn26_5, hn34_7, hn42_9, hn50_11, hn58_13, hn66_15⟩, hpl9, by intro id h9; rw [frw16 id (by omega)]; rw [frw15 id (by omega)]; rw [frw14 id (by omega)]; rw [frw13 id (by omega)]; rw [frw12 id (by omega)]; rw [frw11 id (by omega)]; rw [frw10 id (by omega)]; rw [frw9 id (by omega)]; rw [frw8 id (by omega)]; rw [frw7 id (by omega)]; rw [frw6 id (by omega)]; rw [frw5 id (by omega)]; rw [frw4 id (by omega)]; rw [frw3 id (by omega)]; rw [frw2 id (by omega)]; rw [fr9 id (by omega)]; rw [frw1 id (by omega)]; try rfl⟩) (by decide) (by decide)

set_option maxHeartbeats 300000 in
set_option maxRecDepth 100000 in
/-- History() -/
theorem c_X2_init (l : Launch) {D : va_G} {dA : Nat → Nat} {b : Nat} {w : Wd} {k : Nat} (hk0 : w k = some (.inr (2, [.null, .int (nI 0)]))) : Met l yX2_init wsX2_init ({ frames := 1, cells := 1, slots := 6, locals := 12 } : Room) (PZ D dA b w (k + 1) [.ref (b + k)]) (QZ D b none (k + 2) (fun w' => w' k = some (.inr (2, [.ref (b + (k + 1)), .int (nI 0)])) ∧ w' (k + 1) = some (eQ dA 6 (fun _ => none)) ∧ ∀ id : Nat, (id < k ∨ k + 2 ≤ id) → w' id = w id)) 1 6 (Fb b) := by
  refine q_ofZ (cc := cX2_init) (maxL := 1) (ret := none) (by decide) rfl rfl ?_
  intro p e s m args below meth c ls hx hb hr hml hts hown hlocks hin0 hG hW hS hz hl
  have hown : s.vm.findClass RX2 = some m.cls := hown
  have hinX2 : ∀ w ∈ u_ws RX2 TX2 2, w ∈ wsX2_init := fun w h => (goodIn_r (big := wsX2_init) (u_ws RX2 TX2 2) [7, 8] (by decide +kernel) (by decide +kernel) w h).1
  have hl : lv_has ls 1 [(0, .ref (b + k))] := hl
  refine lv_aload_n hx hb dX2_init_0 rfl (lv_at hl 0 rfl) ?_
  refine W.objInit hx hb hown (hts (.methodLink RX2 3 objectInit) (List.mem_of_getElem? (i := 1) rfl)) (hts (.instanceMethod objectInit) (List.mem_of_getElem? (i := 2) rfl)) (hts _ (List.mem_of_getElem? (i := 3) rfl)) rfl (by rw [hml]; exact hl.1) rfl dX2_init_1 (Nat.le_of_ble_eq_true rfl) (Nat.le_of_ble_eq_true rfl) ?_
  refine W.eq (g2 := F0 m 4 ls []) rfl ?_
  refine lv_aload_n hx hb dX2_init_4 rfl (lv_at hl 0 rfl) ?_
  refine lv_bipush (v := nI 6) hx hb dX2_init_5 (by decide) ?_
  refine q_newQ hx hb hown (hts (.classLink RX2 9 RX4) (List.mem_of_getElem? (i := 4) rfl)) hG hW hS hz (by decide) (Nat.le_of_ble_eq_true rfl) (Nat.le_of_ble_eq_true rfl) dX2_init_7 (fun H hW hS hz => ?_)
  obtain ⟨w1, ew1⟩ : ∃ wq__ : Wd, wq__ = va_up w (k + 1) (some (eQ dA 6 (fun _ => none))) := ⟨_, rfl⟩
  rw [← ew1] at hW
  have frw1 : ∀ id : Nat, id ≠ k + 1 → w1 id = w id := fun id h9 => by rw [ew1, up_ne h9]
  replace hk0 : w1 k = some (.inr (2, [.null, .int (nI 0)])) := (frw1 _ (by omega)).trans hk0
  have hn7_1 : w1 (k + 1) = some (eQ dA 6 (fun _ => none)) := by rw [ew1]; exact up_eq
  refine q_putF hx hb hts hinX2 tyX2_ok nmX2 hown hG hW hS hk0 rfl 0 (by decide) (hts (.fieldLink RX2 11 "FoleyMixer$History" "plays" "[LFoleyMixer$Play;") (List.mem_of_getElem? (i := 5) rfl)) rfl rfl hin0 rfl rfl rfl (Nat.le_of_ble_eq_true rfl) dX2_init_10 (fun H locs hW hS hz10 => ?_)
  replace hz := hz10.trans hz
  obtain ⟨w2, ew2⟩ : ∃ wq__ : Wd, wq__ = va_up w1 k (some (.inr (2, [.ref (b + (k + 1)), .int (nI 0)]))) := ⟨_, rfl⟩
  replace hW : WP D b w2 H := by rw [ew2]; exact hW
  have frw2 : ∀ id : Nat, id ≠ k → w2 id = w1 id := fun id h9 => by rw [ew2, up_ne h9]
  replace hn7_1 : w2 (k + 1) = some (eQ dA 6 (fun _ => none)) := (frw2 _ (by omega)).trans hn7_1
  replace hk0 : w2 k = some (.inr (2, [.ref (b + (k + 1)), .int (nI 0)])) := by rw [ew2]; exact up_eq
  refine lv_aload_n hx hb dX2_init_13 rfl (lv_at hl 0 rfl) ?_
  refine lv_iconst (v := nI 0) hx hb dX2_init_14 (by decide) ?_
  refine q_put hx hb hts hinX2 tyX2_ok nmX2 hown hG hW hS hk0 rfl 1 (by decide) (hts (.fieldLink RX2 17 "FoleyMixer$History" "size" "I") (List.mem_of_getElem? (i := 6) rfl)) rfl rfl rfl rfl (Nat.le_of_ble_eq_true rfl) dX2_init_15 (fun H locs hW hS hz15 => ?_)
  replace hz := hz15.trans hz
  obtain ⟨w3, ew3⟩ : ∃ wq__ : Wd, wq__ = va_up w2 k (some (.inr (2, [.ref (b + (k + 1)), .int (nI 0)]))) := ⟨_, rfl⟩
  replace hW : WP D b w3 H := by rw [ew3]; exact hW
  have frw3 : ∀ id : Nat, id ≠ k → w3 id = w2 id := fun id h9 => by rw [ew3, up_ne h9]
  replace hn7_1 : w3 (k + 1) = some (eQ dA 6 (fun _ => none)) := (frw3 _ (by omega)).trans hn7_1
  replace hk0 : w3 k = some (.inr (2, [.ref (b + (k + 1)), .int (nI 0)])) := by rw [ew3]; exact up_eq
  exact q_zv hx hb hr hlocks hW hS (by omega) dX2_init_18 (by exact ⟨hk0, hn7_1, by intro id h9; rw [frw3 id (by omega)]; rw [frw2 id (by omega)]; rw [frw1 id (by omega)]; try rfl⟩) (by decide) (by decide)

set_option maxHeartbeats 300000 in
set_option maxRecDepth 100000 in
/-- Script() -/
theorem c_X5_init (l : Launch) {D : va_G} {dA : Nat → Nat} {b : Nat} {w : Wd} {k : Nat} (hk0 : w k = some (.inr (5, [.null, .int (nI 0)]))) : Met l yX5_init wsX5_init ({ frames := 1, cells := 1, slots := 80, locals := 12 } : Room) (PZ D dA b w (k + 1) [.ref (b + k)]) (QZ D b none (k + 2) (fun w' => isScr dA b w' k 0 (fun _ => 0) ∧ ∀ id : Nat, (id < k ∨ k + 2 ≤ id) → w' id = w id)) 1 80 (Fb b) := by
  refine q_ofZ (cc := cX5_init) (maxL := 1) (ret := none) (by decide) rfl rfl ?_
  intro p e s m args below meth c ls hx hb hr hml hts hown hlocks hin0 hG hW hS hz hl
  have hown : s.vm.findClass RX5 = some m.cls := hown
  have hinX5 : ∀ w ∈ u_ws RX5 TX5 2, w ∈ wsX5_init := fun w h => (goodIn_r (big := wsX5_init) (u_ws RX5 TX5 2) [7, 8] (by decide +kernel) (by decide +kernel) w h).1
  have hl : lv_has ls 1 [(0, .ref (b + k))] := hl
  refine lv_aload_n hx hb dX5_init_0 rfl (lv_at hl 0 rfl) ?_
  refine W.objInit hx hb hown (hts (.methodLink RX5 3 objectInit) (List.mem_of_getElem? (i := 1) rfl)) (hts (.instanceMethod objectInit) (List.mem_of_getElem? (i := 2) rfl)) (hts _ (List.mem_of_getElem? (i := 3) rfl)) rfl (by rw [hml]; exact hl.1) rfl dX5_init_1 (Nat.le_of_ble_eq_true rfl) (Nat.le_of_ble_eq_true rfl) ?_
  refine W.eq (g2 := F0 m 4 ls []) rfl ?_
  refine lv_aload_n hx hb dX5_init_4 rfl (lv_at hl 0 rfl) ?_
  refine lv_bipush (v := nI 80) hx hb dX5_init_5 (by decide) ?_
  refine q_newI hx hb (hts (.arrayClass .int) (List.mem_of_getElem? (i := 4) rfl)) hG hW hS hz (by decide) (Nat.le_of_ble_eq_true rfl) (Nat.le_of_ble_eq_true rfl) dX5_init_7 (fun H hW hS hz => ?_)
  obtain ⟨w1, ew1⟩ : ∃ wq__ : Wd, wq__ = va_up w (k + 1) (some (eN dA 80 (fun _ => 0))) := ⟨_, rfl⟩
  rw [← ew1] at hW
  have frw1 : ∀ id : Nat, id ≠ k + 1 → w1 id = w id := fun id h9 => by rw [ew1, up_ne h9]
  replace hk0 : w1 k = some (.inr (5, [.null, .int (nI 0)])) := (frw1 _ (by omega)).trans hk0
  have hn7_1 : w1 (k + 1) = some (eN dA 80 (fun _ => 0)) := by rw [ew1]; exact up_eq
  refine q_putF hx hb hts hinX5 tyX5_ok nmX5 hown hG hW hS hk0 rfl 0 (by decide) (hts (.fieldLink RX5 9 "FoleyMixer$Script" "codes" "[I") (List.mem_of_getElem? (i := 5) rfl)) rfl rfl hin0 rfl rfl rfl (Nat.le_of_ble_eq_true rfl) dX5_init_9 (fun H locs hW hS hz9 => ?_)
  replace hz := hz9.trans hz
  obtain ⟨w2, ew2⟩ : ∃ wq__ : Wd, wq__ = va_up w1 k (some (.inr (5, [.ref (b + (k + 1)), .int (nI 0)]))) := ⟨_, rfl⟩
  replace hW : WP D b w2 H := by rw [ew2]; exact hW
  have frw2 : ∀ id : Nat, id ≠ k → w2 id = w1 id := fun id h9 => by rw [ew2, up_ne h9]
  replace hn7_1 : w2 (k + 1) = some (eN dA 80 (fun _ => 0)) := (frw2 _ (by omega)).trans hn7_1
  replace hk0 : w2 k = some (.inr (5, [.ref (b + (k + 1)), .int (nI 0)])) := by rw [ew2]; exact up_eq
  refine lv_aload_n hx hb dX5_init_12 rfl (lv_at hl 0 rfl) ?_
  refine lv_iconst (v := nI 0) hx hb dX5_init_13 (by decide) ?_
  refine q_put hx hb hts hinX5 tyX5_ok nmX5 hown hG hW hS hk0 rfl 1 (by decide) (hts (.fieldLink RX5 15 "FoleyMixer$Script" "size" "I") (List.mem_of_getElem? (i := 6) rfl)) rfl rfl rfl rfl (Nat.le_of_ble_eq_true rfl) dX5_init_14 (fun H locs hW hS hz14 => ?_)
  replace hz := hz14.trans hz
  obtain ⟨w3, ew3⟩ : ∃ wq__ : Wd, wq__ = va_up w2 k (some (.inr (5, [.ref (b + (k + 1)), .int (nI 0)]))) := ⟨_, rfl⟩
  replace hW : WP D b w3 H := by rw [ew3]; exact hW
  have frw3 : ∀ id : Nat, id ≠ k → w3 id = w2 id := fun id h9 => by rw [ew3, up_ne h9]
  replace hn7_1 : w3 (k + 1) = some (eN dA 80 (fun _ => 0)) := (frw3 _ (by omega)).trans hn7_1
  replace hk0 : w3 k = some (.inr (5, [.ref (b + (k + 1)), .int (nI 0)])) := by rw [ew3]; exact up_eq
  exact q_zv hx hb hr hlocks hW hS (by omega) dX5_init_17 (by exact ⟨⟨hk0, hn7_1, by decide, fun i hi => absurd hi (Nat.not_lt_zero i)⟩, by intro id h9; rw [frw3 id (by omega)]; rw [frw2 id (by omega)]; rw [frw1 id (by omega)]; try rfl⟩) (by decide) (by decide)

set_option maxHeartbeats 300000 in
set_option maxRecDepth 100000 in
/-- CueReader() -/
theorem c_X0_init (l : Launch) {D : va_G} {dA : Nat → Nat} {b : Nat} {w : Wd} {k : Nat} (hk0 : w k = some (.inr (0, [.null, .int (nI 0), .int (nI 0)]))) : Met l yX0_init wsX0_init ({ frames := 1, cells := 1, slots := 3, locals := 12 } : Room) (PZ D dA b w (k + 1) [.ref (b + k)]) (QZ D b none (k + 2) (fun w' => isRdr dA b w' k (3, -1, fun _ => some 0) ∧ ∀ id : Nat, (id < k ∨ k + 2 ≤ id) → w' id = w id)) 1 3 (Fb b) := by
  refine q_ofZ (cc := cX0_init) (maxL := 1) (ret := none) (by decide) rfl rfl ?_
  intro p e s m args below meth c ls hx hb hr hml hts hown hlocks hin0 hG hW hS hz hl
  have hown : s.vm.findClass RX0 = some m.cls := hown
  have hinX0 : ∀ w ∈ u_ws RX0 TX0 3, w ∈ wsX0_init := fun w h => (goodIn_r (big := wsX0_init) (u_ws RX0 TX0 3) [8, 9, 10] (by decide +kernel) (by decide +kernel) w h).1
  have hl : lv_has ls 1 [(0, .ref (b + k))] := hl
  refine lv_aload_n hx hb dX0_init_0 rfl (lv_at hl 0 rfl) ?_
  refine W.objInit hx hb hown (hts (.methodLink RX0 3 objectInit) (List.mem_of_getElem? (i := 1) rfl)) (hts (.instanceMethod objectInit) (List.mem_of_getElem? (i := 2) rfl)) (hts _ (List.mem_of_getElem? (i := 3) rfl)) rfl (by rw [hml]; exact hl.1) rfl dX0_init_1 (Nat.le_of_ble_eq_true rfl) (Nat.le_of_ble_eq_true rfl) ?_
  refine W.eq (g2 := F0 m 4 ls []) rfl ?_
  refine lv_aload_n hx hb dX0_init_4 rfl (lv_at hl 0 rfl) ?_
  refine lv_iconst (v := nI 3) hx hb dX0_init_5 (by decide) ?_
  refine q_newI hx hb (hts (.arrayClass .int) (List.mem_of_getElem? (i := 4) rfl)) hG hW hS hz (by decide) (Nat.le_of_ble_eq_true rfl) (Nat.le_of_ble_eq_true rfl) dX0_init_6 (fun H hW hS hz => ?_)
  obtain ⟨w1, ew1⟩ : ∃ wq__ : Wd, wq__ = va_up w (k + 1) (some (eN dA 3 (fun _ => 0))) := ⟨_, rfl⟩
  rw [← ew1] at hW
  have frw1 : ∀ id : Nat, id ≠ k + 1 → w1 id = w id := fun id h9 => by rw [ew1, up_ne h9]
  replace hk0 : w1 k = some (.inr (0, [.null, .int (nI 0), .int (nI 0)])) := (frw1 _ (by omega)).trans hk0
  have hn6_1 : w1 (k + 1) = some (eN dA 3 (fun _ => 0)) := by rw [ew1]; exact up_eq
  refine q_putF hx hb hts hinX0 tyX0_ok nmX0 hown hG hW hS hk0 rfl 0 (by decide) (hts (.fieldLink RX0 11 "FoleyMixer$CueReader" "numbers" "[I") (List.mem_of_getElem? (i := 5) rfl)) rfl rfl hin0 rfl rfl rfl (Nat.le_of_ble_eq_true rfl) dX0_init_8 (fun H locs hW hS hz8 => ?_)
  replace hz := hz8.trans hz
  obtain ⟨w2, ew2⟩ : ∃ wq__ : Wd, wq__ = va_up w1 k (some (.inr (0, [.ref (b + (k + 1)), .int (nI 0), .int (nI 0)]))) := ⟨_, rfl⟩
  replace hW : WP D b w2 H := by rw [ew2]; exact hW
  have frw2 : ∀ id : Nat, id ≠ k → w2 id = w1 id := fun id h9 => by rw [ew2, up_ne h9]
  replace hn6_1 : w2 (k + 1) = some (eN dA 3 (fun _ => 0)) := (frw2 _ (by omega)).trans hn6_1
  replace hk0 : w2 k = some (.inr (0, [.ref (b + (k + 1)), .int (nI 0), .int (nI 0)])) := by rw [ew2]; exact up_eq
  refine lv_aload_n hx hb dX0_init_11 rfl (lv_at hl 0 rfl) ?_
  refine lv_iconst (v := nI 3) hx hb dX0_init_12 (by decide) ?_
  refine q_put hx hb hts hinX0 tyX0_ok nmX0 hown hG hW hS hk0 rfl 1 (by decide) (hts (.fieldLink RX0 15 "FoleyMixer$CueReader" "part" "I") (List.mem_of_getElem? (i := 6) rfl)) rfl rfl rfl rfl (Nat.le_of_ble_eq_true rfl) dX0_init_13 (fun H locs hW hS hz13 => ?_)
  replace hz := hz13.trans hz
  obtain ⟨w3, ew3⟩ : ∃ wq__ : Wd, wq__ = va_up w2 k (some (.inr (0, [.ref (b + (k + 1)), .int (nI 3), .int (nI 0)]))) := ⟨_, rfl⟩
  replace hW : WP D b w3 H := by rw [ew3]; exact hW
  have frw3 : ∀ id : Nat, id ≠ k → w3 id = w2 id := fun id h9 => by rw [ew3, up_ne h9]
  replace hn6_1 : w3 (k + 1) = some (eN dA 3 (fun _ => 0)) := (frw3 _ (by omega)).trans hn6_1
  replace hk0 : w3 k = some (.inr (0, [.ref (b + (k + 1)), .int (nI 3), .int (nI 0)])) := by rw [ew3]; exact up_eq
  refine lv_aload_n hx hb dX0_init_16 rfl (lv_at hl 0 rfl) ?_
  refine lv_iconst (v := (-1)) hx hb dX0_init_17 (by decide) ?_
  refine q_put hx hb hts hinX0 tyX0_ok nmX0 hown hG hW hS hk0 rfl 2 (by decide) (hts (.fieldLink RX0 19 "FoleyMixer$CueReader" "kind" "I") (List.mem_of_getElem? (i := 7) rfl)) rfl rfl rfl rfl (Nat.le_of_ble_eq_true rfl) dX0_init_18 (fun H locs hW hS hz18 => ?_)
  replace hz := hz18.trans hz
  obtain ⟨w4, ew4⟩ : ∃ wq__ : Wd, wq__ = va_up w3 k (some (.inr (0, [.ref (b + (k + 1)), .int (nI 3), .int (-1)]))) := ⟨_, rfl⟩
  replace hW : WP D b w4 H := by rw [ew4]; exact hW
  have frw4 : ∀ id : Nat, id ≠ k → w4 id = w3 id := fun id h9 => by rw [ew4, up_ne h9]
  replace hn6_1 : w4 (k + 1) = some (eN dA 3 (fun _ => 0)) := (frw4 _ (by omega)).trans hn6_1
  replace hk0 : w4 k = some (.inr (0, [.ref (b + (k + 1)), .int (nI 3), .int (-1)])) := by rw [ew4]; exact up_eq
  exact q_zv hx hb hr hlocks hW hS (by omega) dX0_init_21 (by exact ⟨⟨hk0, hn6_1, by decide, fun i _ v hv => by cases hv; decide⟩, by intro id h9; rw [frw4 id (by omega)]; rw [frw3 id (by omega)]; rw [frw2 id (by omega)]; rw [frw1 id (by omega)]; try rfl⟩) (by decide) (by decide)

