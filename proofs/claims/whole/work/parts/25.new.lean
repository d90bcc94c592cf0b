set_option maxHeartbeats 300000 in
set_option maxRecDepth 100000 in
/-- FoleyMixer() -/
theorem c_X6_init (l : Launch) {D : va_G} {dA : Nat → Nat} {b : Nat} {w : Wd} (hk0 : w 0 = some (.inr (6, [.null, .null, .null, .null, .null, .null, .null, .null]))) : Met l yX6_init wsX6_init ({ frames := 3, cells := 35, slots := 2014, locals := 53 } : Room) (PZ D dA b w 1 [.ref (b + 0)]) (QZ D b none (36) (fun w' => (w' 0 = some (sysO b) ∧ isPlay dA b w' 1 P0 ∧ isPlay dA b w' 7 P0 ∧ anyMix dA b w' 13 1 ∧ anyMix dA b w' 21 7 ∧ w' 29 = some (.inr (2, [.ref (b + (29 + 1)), .int (nI 0)])) ∧ w' (29 + 1) = some (eQ dA 6 (fun _ => none)) ∧ w' 31 = some (eQ dA 2 (fun _ => none)) ∧ isScr dA b w' 32 0 (fun _ => 0) ∧ isRdr dA b w' 34 (3, -1, fun _ => some 0)) ∧ ∀ id : Nat, (id < 0 ∨ 36 ≤ id) → w' id = w id)) 35 2014 (Fb b) := by
  refine q_ofZ (cc := cX6_init) (maxL := 1) (ret := none) (by decide) rfl rfl ?_
  intro p e s m args below meth c ls hx hb hr hml hts hown hlocks hin0 hG hW hS hz hl
  have hown : s.vm.findClass RX6 = some m.cls := hown
  have hinX0 : ∀ w ∈ u_ws RX0 TX0 3, w ∈ wsX6_init := fun w h => (goodIn_r (big := wsX6_init) (u_ws RX0 TX0 3) [97, 98, 99] (by decide +kernel) (by decide +kernel) w h).1
  have hinX2 : ∀ w ∈ u_ws RX2 TX2 2, w ∈ wsX6_init := fun w h => (goodIn_r (big := wsX6_init) (u_ws RX2 TX2 2) [93, 94] (by decide +kernel) (by decide +kernel) w h).1
  have hinX3 : ∀ w ∈ u_ws RX3 TX3 8, w ∈ wsX6_init := fun w h => (goodIn_r (big := wsX6_init) (u_ws RX3 TX3 8) [85, 86, 87, 88, 89, 90, 91, 92] (by decide +kernel) (by decide +kernel) w h).1
  have hinX4 : ∀ w ∈ u_ws RX4 TX4 3, w ∈ wsX6_init := fun w h => (goodIn_r (big := wsX6_init) (u_ws RX4 TX4 3) [74, 75, 76] (by decide +kernel) (by decide +kernel) w h).1
  have hinX5 : ∀ w ∈ u_ws RX5 TX5 2, w ∈ wsX6_init := fun w h => (goodIn_r (big := wsX6_init) (u_ws RX5 TX5 2) [95, 96] (by decide +kernel) (by decide +kernel) w h).1
  have hinX6 : ∀ w ∈ u_ws RX6 TX6 8, w ∈ wsX6_init := fun w h => (goodIn_r (big := wsX6_init) (u_ws RX6 TX6 8) [77, 78, 79, 80, 81, 82, 83, 84] (by decide +kernel) (by decide +kernel) w h).1
  have hl : lv_has ls 1 [(0, .ref (b + 0))] := hl
  refine lv_aload_n hx hb dX6_init_0 rfl (lv_at hl 0 rfl) ?_
  refine W.objInit hx hb hown (hts (.methodLink RX6 1 objectInit) (List.mem_of_getElem? (i := 1) rfl)) (hts (.instanceMethod objectInit) (List.mem_of_getElem? (i := 2) rfl)) (hts _ (List.mem_of_getElem? (i := 3) rfl)) rfl (by rw [hml]; exact hl.1) rfl dX6_init_1 (Nat.le_of_ble_eq_true rfl) (Nat.le_of_ble_eq_true rfl) ?_
  refine W.eq (g2 := F0 m 4 ls []) rfl ?_
  refine lv_aload_n hx hb dX6_init_4 rfl (lv_at hl 0 rfl) ?_
  refine q_new (ci := 4) (fs := [.null, .null, .null]) hx hb hts hinX4 tyX4_ok hown (hts (.classLink RX6 7 RX4) (List.mem_of_getElem? (i := 4) rfl)) (hts (.instantiable RX4 3) (List.mem_of_getElem? (i := 5) rfl)) (hts (.initialized RX4) (List.mem_of_getElem? (i := 6) rfl)) hG hW hS hz rfl (fun j hj => by rcases (show j = 0 ∨ j = 1 ∨ j = 2 by omega) with rfl | rfl | rfl <;> rfl) (Nat.le_of_ble_eq_true rfl) (Nat.le_of_ble_eq_true rfl) dX6_init_5 (fun H hW hS hz => ?_)
  obtain ⟨w1, ew1⟩ : ∃ wq__ : Wd, wq__ = va_up w 1 (some (.inr (4, [.null, .null, .null]))) := ⟨_, rfl⟩
  rw [← ew1] at hW
  have frw1 : ∀ id : Nat, id ≠ 1 → w1 id = w id := fun id h9 => by rw [ew1, up_ne h9]
  replace hk0 : w1 0 = some (.inr (6, [.null, .null, .null, .null, .null, .null, .null, .null])) := (frw1 _ (by omega)).trans hk0
  have hn5_1 : w1 1 = some (.inr (4, [.null, .null, .null])) := by rw [ew1]; exact up_eq
  refine lv_dup hx hb dX6_init_8 rfl ?_
  refine q_call (va_runIN (As := []) (rest := [.ref (b + 1), .ref (b + 0)]) ⟨hx, hb, hml, hown, hts⟩ (c_X4_init l hn5_1) ⟨(va_cnB 0 hts gX6_init_X4_init_n9 rfl rfl rfl (hG.nest 6 rfl) (hts (.initialized RX4) (List.mem_of_getElem? (i := 6) rfl)) (by decide +kernel) ⟨Nat.le_of_ble_eq_true rfl, Nat.le_of_ble_eq_true rfl⟩), rfl, (hts (.instanceMethod yX4_init) (List.mem_of_getElem? (i := 27) rfl))⟩ (q_preI hG hW hS (by omega)) rfl rfl hl.1 rfl (lv_room (Nat.le_of_ble_eq_true rfl)) dX6_init_9 ⟨Nat.le_of_ble_eq_true rfl, Nat.le_of_ble_eq_true rfl⟩) hS (fun w_9 H locs hp9 hW hS hz => ?_)
  obtain ⟨hpl9, fr9⟩ := hp9
  replace hk0 : w_9 0 = some (.inr (6, [.null, .null, .null, .null, .null, .null, .null, .null])) := (fr9 _ (by omega)).trans hk0
  refine q_putF hx hb hts hinX6 tyX6_ok nmX6 hown hG hW hS hk0 rfl 0 (by decide) (hts (.fieldLink RX6 10 "FoleyMixer" "now" "LFoleyMixer$Play;") (List.mem_of_getElem? (i := 7) rfl)) rfl rfl hin0 rfl rfl rfl (Nat.le_of_ble_eq_true rfl) dX6_init_12 (fun H locs hW hS hz12 => ?_)
  replace hz := hz12.trans hz
  obtain ⟨w2, ew2⟩ : ∃ wq__ : Wd, wq__ = va_up w_9 0 (some (.inr (6, [.ref (b + 1), .null, .null, .null, .null, .null, .null, .null]))) := ⟨_, rfl⟩
  replace hW : WP D b w2 H := by rw [ew2]; exact hW
  have frw2 : ∀ id : Nat, id ≠ 0 → w2 id = w_9 id := fun id h9 => by rw [ew2, up_ne h9]
  replace hpl9 : isPlay dA b w2 1 P0 := hpl9.fr (fun id9 h7 h8 => frw2 id9 (by omega))
  replace hk0 : w2 0 = some (.inr (6, [.ref (b + 1), .null, .null, .null, .null, .null, .null, .null])) := by rw [ew2]; exact up_eq
  refine lv_aload_n hx hb dX6_init_15 rfl (lv_at hl 0 rfl) ?_
  refine q_new (ci := 4) (fs := [.null, .null, .null]) hx hb hts hinX4 tyX4_ok hown (hts (.classLink RX6 7 RX4) (List.mem_of_getElem? (i := 4) rfl)) (hts (.instantiable RX4 3) (List.mem_of_getElem? (i := 5) rfl)) (hts (.initialized RX4) (List.mem_of_getElem? (i := 6) rfl)) hG hW hS hz rfl (fun j hj => by rcases (show j = 0 ∨ j = 1 ∨ j = 2 by omega) with rfl | rfl | rfl <;> rfl) (Nat.le_of_ble_eq_true rfl) (Nat.le_of_ble_eq_true rfl) dX6_init_16 (fun H hW hS hz => ?_)
  obtain ⟨w3, ew3⟩ : ∃ wq__ : Wd, wq__ = va_up w2 7 (some (.inr (4, [.null, .null, .null]))) := ⟨_, rfl⟩
  rw [← ew3] at hW
  have frw3 : ∀ id : Nat, id ≠ 7 → w3 id = w2 id := fun id h9 => by rw [ew3, up_ne h9]
  replace hk0 : w3 0 = some (.inr (6, [.ref (b + 1), .null, .null, .null, .null, .null, .null, .null])) := (frw3 _ (by omega)).trans hk0
  replace hpl9 : isPlay dA b w3 1 P0 := hpl9.fr (fun id9 h7 h8 => frw3 id9 (by omega))
  have hn16_3 : w3 7 = some (.inr (4, [.null, .null, .null])) := by rw [ew3]; exact up_eq
  refine lv_dup hx hb dX6_init_19 rfl ?_
  refine q_call (va_runIN (As := []) (rest := [.ref (b + 7), .ref (b + 0)]) ⟨hx, hb, hml, hown, hts⟩ (c_X4_init l hn16_3) ⟨(va_cnB 0 hts gX6_init_X4_init_n9 rfl rfl rfl (hG.nest 6 rfl) (hts (.initialized RX4) (List.mem_of_getElem? (i := 6) rfl)) (by decide +kernel) ⟨Nat.le_of_ble_eq_true rfl, Nat.le_of_ble_eq_true rfl⟩), rfl, (hts (.instanceMethod yX4_init) (List.mem_of_getElem? (i := 27) rfl))⟩ (q_preI hG hW hS (by omega)) rfl rfl hl.1 rfl (lv_room (Nat.le_of_ble_eq_true rfl)) dX6_init_20 ⟨Nat.le_of_ble_eq_true rfl, Nat.le_of_ble_eq_true rfl⟩) hS (fun w_20 H locs hp20 hW hS hz => ?_)
  obtain ⟨hpl20, fr20⟩ := hp20
  replace hk0 : w_20 0 = some (.inr (6, [.ref (b + 1), .null, .null, .null, .null, .null, .null, .null])) := (fr20 _ (by omega)).trans hk0
  replace hpl9 : isPlay dA b w_20 1 P0 := hpl9.fr (fun id9 h7 h8 => fr20 id9 (by omega))
  refine q_putF hx hb hts hinX6 tyX6_ok nmX6 hown hG hW hS hk0 rfl 1 (by decide) (hts (.fieldLink RX6 16 "FoleyMixer" "trial" "LFoleyMixer$Play;") (List.mem_of_getElem? (i := 8) rfl)) rfl rfl hin0 rfl rfl rfl (Nat.le_of_ble_eq_true rfl) dX6_init_23 (fun H locs hW hS hz23 => ?_)
  replace hz := hz23.trans hz
  obtain ⟨w4, ew4⟩ : ∃ wq__ : Wd, wq__ = va_up w_20 0 (some (.inr (6, [.ref (b + 1), .ref (b + 7), .null, .null, .null, .null, .null, .null]))) := ⟨_, rfl⟩
  replace hW : WP D b w4 H := by rw [ew4]; exact hW
  have frw4 : ∀ id : Nat, id ≠ 0 → w4 id = w_20 id := fun id h9 => by rw [ew4, up_ne h9]
  replace hpl9 : isPlay dA b w4 1 P0 := hpl9.fr (fun id9 h7 h8 => frw4 id9 (by omega))
  replace hpl20 : isPlay dA b w4 7 P0 := hpl20.fr (fun id9 h7 h8 => frw4 id9 (by omega))
  replace hk0 : w4 0 = some (.inr (6, [.ref (b + 1), .ref (b + 7), .null, .null, .null, .null, .null, .null])) := by rw [ew4]; exact up_eq
  refine lv_aload_n hx hb dX6_init_26 rfl (lv_at hl 0 rfl) ?_
  refine q_new (ci := 3) (fs := [.null, .null, .null, .null, .null, .null, .null, .null]) hx hb hts hinX3 tyX3_ok hown (hts (.classLink RX6 19 RX3) (List.mem_of_getElem? (i := 9) rfl)) (hts (.instantiable RX3 8) (List.mem_of_getElem? (i := 10) rfl)) (hts (.initialized RX3) (List.mem_of_getElem? (i := 11) rfl)) hG hW hS hz rfl (fun j hj => by rcases (show j = 0 ∨ j = 1 ∨ j = 2 ∨ j = 3 ∨ j = 4 ∨ j = 5 ∨ j = 6 ∨ j = 7 by omega) with rfl | rfl | rfl | rfl | rfl | rfl | rfl | rfl <;> rfl) (Nat.le_of_ble_eq_true rfl) (Nat.le_of_ble_eq_true rfl) dX6_init_27 (fun H hW hS hz => ?_)
  obtain ⟨w5, ew5⟩ : ∃ wq__ : Wd, wq__ = va_up w4 13 (some (.inr (3, [.null, .null, .null, .null, .null, .null, .null, .null]))) := ⟨_, rfl⟩
  rw [← ew5] at hW
  have frw5 : ∀ id : Nat, id ≠ 13 → w5 id = w4 id := fun id h9 => by rw [ew5, up_ne h9]
  replace hk0 : w5 0 = some (.inr (6, [.ref (b + 1), .ref (b + 7), .null, .null, .null, .null, .null, .null])) := (frw5 _ (by omega)).trans hk0
  replace hpl9 : isPlay dA b w5 1 P0 := hpl9.fr (fun id9 h7 h8 => frw5 id9 (by omega))
  replace hpl20 : isPlay dA b w5 7 P0 := hpl20.fr (fun id9 h7 h8 => frw5 id9 (by omega))
  have hn27_5 : w5 13 = some (.inr (3, [.null, .null, .null, .null, .null, .null, .null, .null])) := by rw [ew5]; exact up_eq
  refine lv_dup hx hb dX6_init_30 rfl ?_
  refine lv_aload_n hx hb dX6_init_31 rfl (lv_at hl 0 rfl) ?_
  refine q_get hx hb hts hinX6 hown hG hW hk0 rfl 0 (by decide) (hts (.fieldLink RX6 10 "FoleyMixer" "now" "LFoleyMixer$Play;") (List.mem_of_getElem? (i := 7) rfl)) rfl rfl dX6_init_32 ?_
  refine q_call (va_runIN (As := [.ref (b + 1)]) (rest := [.ref (b + 13), .ref (b + 0)]) ⟨hx, hb, hml, hown, hts⟩ (c_X3_init l hn27_5) ⟨(va_cnB 1 hts gX6_init_X3_init_n21 rfl rfl rfl (hG.nest 14 rfl) (hts (.initialized RX3) (List.mem_of_getElem? (i := 11) rfl)) (by decide +kernel) ⟨Nat.le_of_ble_eq_true rfl, Nat.le_of_ble_eq_true rfl⟩), rfl, (hts (.instanceMethod yX3_init) (List.mem_of_getElem? (i := 46) rfl))⟩ (q_preI hG hW hS (by omega)) rfl rfl hl.1 rfl (lv_room (Nat.le_of_ble_eq_true rfl)) dX6_init_35 ⟨Nat.le_of_ble_eq_true rfl, Nat.le_of_ble_eq_true rfl⟩) hS (fun w_35 H locs hp35 hW hS hz => ?_)
  obtain ⟨hmx35, fr35⟩ := hp35
  replace hk0 : w_35 0 = some (.inr (6, [.ref (b + 1), .ref (b + 7), .null, .null, .null, .null, .null, .null])) := (fr35 _ (by omega)).trans hk0
  replace hpl9 : isPlay dA b w_35 1 P0 := hpl9.fr (fun id9 h7 h8 => fr35 id9 (by omega))
  replace hpl20 : isPlay dA b w_35 7 P0 := hpl20.fr (fun id9 h7 h8 => fr35 id9 (by omega))
  refine q_putF hx hb hts hinX6 tyX6_ok nmX6 hown hG hW hS hk0 rfl 2 (by decide) (hts (.fieldLink RX6 24 "FoleyMixer" "mix" "LFoleyMixer$Mix;") (List.mem_of_getElem? (i := 12) rfl)) rfl rfl hin0 rfl rfl rfl (Nat.le_of_ble_eq_true rfl) dX6_init_38 (fun H locs hW hS hz38 => ?_)
  replace hz := hz38.trans hz
  obtain ⟨w6, ew6⟩ : ∃ wq__ : Wd, wq__ = va_up w_35 0 (some (.inr (6, [.ref (b + 1), .ref (b + 7), .ref (b + 13), .null, .null, .null, .null, .null]))) := ⟨_, rfl⟩
  replace hW : WP D b w6 H := by rw [ew6]; exact hW
  have frw6 : ∀ id : Nat, id ≠ 0 → w6 id = w_35 id := fun id h9 => by rw [ew6, up_ne h9]
  replace hpl9 : isPlay dA b w6 1 P0 := hpl9.fr (fun id9 h7 h8 => frw6 id9 (by omega))
  replace hpl20 : isPlay dA b w6 7 P0 := hpl20.fr (fun id9 h7 h8 => frw6 id9 (by omega))
  replace hmx35 : anyMix dA b w6 13 1 := hmx35.fr (fun id9 h7 h8 => (frw6 id9 (by omega)))
  replace hk0 : w6 0 = some (.inr (6, [.ref (b + 1), .ref (b + 7), .ref (b + 13), .null, .null, .null, .null, .null])) := by rw [ew6]; exact up_eq
  refine lv_aload_n hx hb dX6_init_41 rfl (lv_at hl 0 rfl) ?_
  refine q_new (ci := 3) (fs := [.null, .null, .null, .null, .null, .null, .null, .null]) hx hb hts hinX3 tyX3_ok hown (hts (.classLink RX6 19 RX3) (List.mem_of_getElem? (i := 9) rfl)) (hts (.instantiable RX3 8) (List.mem_of_getElem? (i := 10) rfl)) (hts (.initialized RX3) (List.mem_of_getElem? (i := 11) rfl)) hG hW hS hz rfl (fun j hj => by rcases (show j = 0 ∨ j = 1 ∨ j = 2 ∨ j = 3 ∨ j = 4 ∨ j = 5 ∨ j = 6 ∨ j = 7 by omega) with rfl | rfl | rfl | rfl | rfl | rfl | rfl | rfl <;> rfl) (Nat.le_of_ble_eq_true rfl) (Nat.le_of_ble_eq_true rfl) dX6_init_42 (fun H hW hS hz => ?_)
  obtain ⟨w7, ew7⟩ : ∃ wq__ : Wd, wq__ = va_up w6 21 (some (.inr (3, [.null, .null, .null, .null, .null, .null, .null, .null]))) := ⟨_, rfl⟩
  rw [← ew7] at hW
  have frw7 : ∀ id : Nat, id ≠ 21 → w7 id = w6 id := fun id h9 => by rw [ew7, up_ne h9]
  replace hk0 : w7 0 = some (.inr (6, [.ref (b + 1), .ref (b + 7), .ref (b + 13), .null, .null, .null, .null, .null])) := (frw7 _ (by omega)).trans hk0
  replace hpl9 : isPlay dA b w7 1 P0 := hpl9.fr (fun id9 h7 h8 => frw7 id9 (by omega))
  replace hpl20 : isPlay dA b w7 7 P0 := hpl20.fr (fun id9 h7 h8 => frw7 id9 (by omega))
  replace hmx35 : anyMix dA b w7 13 1 := hmx35.fr (fun id9 h7 h8 => (frw7 id9 (by omega)))
  have hn42_7 : w7 21 = some (.inr (3, [.null, .null, .null, .null, .null, .null, .null, .null])) := by rw [ew7]; exact up_eq
  refine lv_dup hx hb dX6_init_45 rfl ?_
  refine lv_aload_n hx hb dX6_init_46 rfl (lv_at hl 0 rfl) ?_
  refine q_get hx hb hts hinX6 hown hG hW hk0 rfl 1 (by decide) (hts (.fieldLink RX6 16 "FoleyMixer" "trial" "LFoleyMixer$Play;") (List.mem_of_getElem? (i := 8) rfl)) rfl rfl dX6_init_47 ?_
  refine q_call (va_runIN (As := [.ref (b + 7)]) (rest := [.ref (b + 21), .ref (b + 0)]) ⟨hx, hb, hml, hown, hts⟩ (c_X3_init l hn42_7) ⟨(va_cnB 1 hts gX6_init_X3_init_n21 rfl rfl rfl (hG.nest 14 rfl) (hts (.initialized RX3) (List.mem_of_getElem? (i := 11) rfl)) (by decide +kernel) ⟨Nat.le_of_ble_eq_true rfl, Nat.le_of_ble_eq_true rfl⟩), rfl, (hts (.instanceMethod yX3_init) (List.mem_of_getElem? (i := 46) rfl))⟩ (q_preI hG hW hS (by omega)) rfl rfl hl.1 rfl (lv_room (Nat.le_of_ble_eq_true rfl)) dX6_init_50 ⟨Nat.le_of_ble_eq_true rfl, Nat.le_of_ble_eq_true rfl⟩) hS (fun w_50 H locs hp50 hW hS hz => ?_)
  obtain ⟨hmx50, fr50⟩ := hp50
  replace hk0 : w_50 0 = some (.inr (6, [.ref (b + 1), .ref (b + 7), .ref (b + 13), .null, .null, .null, .null, .null])) := (fr50 _ (by omega)).trans hk0
  replace hpl9 : isPlay dA b w_50 1 P0 := hpl9.fr (fun id9 h7 h8 => fr50 id9 (by omega))
  replace hpl20 : isPlay dA b w_50 7 P0 := hpl20.fr (fun id9 h7 h8 => fr50 id9 (by omega))
  replace hmx35 : anyMix dA b w_50 13 1 := hmx35.fr (fun id9 h7 h8 => (fr50 id9 (by omega)))
  refine q_putF hx hb hts hinX6 tyX6_ok nmX6 hown hG hW hS hk0 rfl 3 (by decide) (hts (.fieldLink RX6 28 "FoleyMixer" "trialMix" "LFoleyMixer$Mix;") (List.mem_of_getElem? (i := 13) rfl)) rfl rfl hin0 rfl rfl rfl (Nat.le_of_ble_eq_true rfl) dX6_init_53 (fun H locs hW hS hz53 => ?_)
  replace hz := hz53.trans hz
  obtain ⟨w8, ew8⟩ : ∃ wq__ : Wd, wq__ = va_up w_50 0 (some (.inr (6, [.ref (b + 1), .ref (b + 7), .ref (b + 13), .ref (b + 21), .null, .null, .null, .null]))) := ⟨_, rfl⟩
  replace hW : WP D b w8 H := by rw [ew8]; exact hW
  have frw8 : ∀ id : Nat, id ≠ 0 → w8 id = w_50 id := fun id h9 => by rw [ew8, up_ne h9]
  replace hpl9 : isPlay dA b w8 1 P0 := hpl9.fr (fun id9 h7 h8 => frw8 id9 (by omega))
  replace hpl20 : isPlay dA b w8 7 P0 := hpl20.fr (fun id9 h7 h8 => frw8 id9 (by omega))
  replace hmx35 : anyMix dA b w8 13 1 := hmx35.fr (fun id9 h7 h8 => (frw8 id9 (by omega)))
  replace hmx50 : anyMix dA b w8 21 7 := hmx50.fr (fun id9 h7 h8 => (frw8 id9 (by omega)))
  replace hk0 : w8 0 = some (.inr (6, [.ref (b + 1), .ref (b + 7), .ref (b + 13), .ref (b + 21), .null, .null, .null, .null])) := by rw [ew8]; exact up_eq
  refine lv_aload_n hx hb dX6_init_56 rfl (lv_at hl 0 rfl) ?_
  refine q_new (ci := 2) (fs := [.null, .int (nI 0)]) hx hb hts hinX2 tyX2_ok hown (hts (.classLink RX6 31 RX2) (List.mem_of_getElem? (i := 14) rfl)) (hts (.instantiable RX2 2) (List.mem_of_getElem? (i := 15) rfl)) (hts (.initialized RX2) (List.mem_of_getElem? (i := 16) rfl)) hG hW hS hz rfl (fun j hj => by rcases (show j = 0 ∨ j = 1 by omega) with rfl | rfl <;> rfl) (Nat.le_of_ble_eq_true rfl) (Nat.le_of_ble_eq_true rfl) dX6_init_57 (fun H hW hS hz => ?_)
  obtain ⟨w9, ew9⟩ : ∃ wq__ : Wd, wq__ = va_up w8 29 (some (.inr (2, [.null, .int (nI 0)]))) := ⟨_, rfl⟩
  rw [← ew9] at hW
  have frw9 : ∀ id : Nat, id ≠ 29 → w9 id = w8 id := fun id h9 => by rw [ew9, up_ne h9]
  replace hk0 : w9 0 = some (.inr (6, [.ref (b + 1), .ref (b + 7), .ref (b + 13), .ref (b + 21), .null, .null, .null, .null])) := (frw9 _ (by omega)).trans hk0
  replace hpl9 : isPlay dA b w9 1 P0 := hpl9.fr (fun id9 h7 h8 => frw9 id9 (by omega))
  replace hpl20 : isPlay dA b w9 7 P0 := hpl20.fr (fun id9 h7 h8 => frw9 id9 (by omega))
  replace hmx35 : anyMix dA b w9 13 1 := hmx35.fr (fun id9 h7 h8 => (frw9 id9 (by omega)))
  replace hmx50 : anyMix dA b w9 21 7 := hmx50.fr (fun id9 h7 h8 => (frw9 id9 (by omega)))
  have hn57_9 : w9 29 = some (.inr (2, [.null, .int (nI 0)])) := by rw [ew9]; exact up_eq
  refine lv_dup hx hb dX6_init_60 rfl ?_
  refine q_call (va_runIN (As := []) (rest := [.ref (b + 29), .ref (b + 0)]) ⟨hx, hb, hml, hown, hts⟩ (c_X2_init l hn57_9) ⟨(va_cnB 0 hts gX6_init_X2_init_n33 rfl rfl rfl (hG.nest 20 rfl) (hts (.initialized RX2) (List.mem_of_getElem? (i := 16) rfl)) (by decide +kernel) ⟨Nat.le_of_ble_eq_true rfl, Nat.le_of_ble_eq_true rfl⟩), rfl, (hts (.instanceMethod yX2_init) (List.mem_of_getElem? (i := 57) rfl))⟩ (q_preI hG hW hS (by omega)) rfl rfl hl.1 rfl (lv_room (Nat.le_of_ble_eq_true rfl)) dX6_init_61 ⟨Nat.le_of_ble_eq_true rfl, Nat.le_of_ble_eq_true rfl⟩) hS (fun w_61 H locs hp61 hW hS hz => ?_)
  obtain ⟨hho61, hha61, fr61⟩ := hp61
  replace hk0 : w_61 0 = some (.inr (6, [.ref (b + 1), .ref (b + 7), .ref (b + 13), .ref (b + 21), .null, .null, .null, .null])) := (fr61 _ (by omega)).trans hk0
  replace hpl9 : isPlay dA b w_61 1 P0 := hpl9.fr (fun id9 h7 h8 => fr61 id9 (by omega))
  replace hpl20 : isPlay dA b w_61 7 P0 := hpl20.fr (fun id9 h7 h8 => fr61 id9 (by omega))
  replace hmx35 : anyMix dA b w_61 13 1 := hmx35.fr (fun id9 h7 h8 => (fr61 id9 (by omega)))
  replace hmx50 : anyMix dA b w_61 21 7 := hmx50.fr (fun id9 h7 h8 => (fr61 id9 (by omega)))
  refine q_putF hx hb hts hinX6 tyX6_ok nmX6 hown hG hW hS hk0 rfl 4 (by decide) (hts (.fieldLink RX6 34 "FoleyMixer" "history" "LFoleyMixer$History;") (List.mem_of_getElem? (i := 17) rfl)) rfl rfl hin0 rfl rfl rfl (Nat.le_of_ble_eq_true rfl) dX6_init_64 (fun H locs hW hS hz64 => ?_)
  replace hz := hz64.trans hz
  obtain ⟨w10, ew10⟩ : ∃ wq__ : Wd, wq__ = va_up w_61 0 (some (.inr (6, [.ref (b + 1), .ref (b + 7), .ref (b + 13), .ref (b + 21), .ref (b + 29), .null, .null, .null]))) := ⟨_, rfl⟩
  replace hW : WP D b w10 H := by rw [ew10]; exact hW
  have frw10 : ∀ id : Nat, id ≠ 0 → w10 id = w_61 id := fun id h9 => by rw [ew10, up_ne h9]
  replace hpl9 : isPlay dA b w10 1 P0 := hpl9.fr (fun id9 h7 h8 => frw10 id9 (by omega))
  replace hpl20 : isPlay dA b w10 7 P0 := hpl20.fr (fun id9 h7 h8 => frw10 id9 (by omega))
  replace hmx35 : anyMix dA b w10 13 1 := hmx35.fr (fun id9 h7 h8 => (frw10 id9 (by omega)))
  replace hmx50 : anyMix dA b w10 21 7 := hmx50.fr (fun id9 h7 h8 => (frw10 id9 (by omega)))
  replace hho61 : w10 29 = some (.inr (2, [.ref (b + (30)), .int (nI 0)])) := (frw10 _ (by omega)).trans hho61
  replace hha61 : w10 30 = some (eQ dA 6 (fun _ => none)) := (frw10 _ (by omega)).trans hha61
  replace hk0 : w10 0 = some (.inr (6, [.ref (b + 1), .ref (b + 7), .ref (b + 13), .ref (b + 21), .ref (b + 29), .null, .null, .null])) := by rw [ew10]; exact up_eq
  refine lv_aload_n hx hb dX6_init_67 rfl (lv_at hl 0 rfl) ?_
  refine lv_iconst (v := nI 2) hx hb dX6_init_68 (by decide) ?_
  refine q_newQ hx hb hown (hts (.classLink RX6 7 RX4) (List.mem_of_getElem? (i := 4) rfl)) hG hW hS hz (by decide) (Nat.le_of_ble_eq_true rfl) (Nat.le_of_ble_eq_true rfl) dX6_init_69 (fun H hW hS hz => ?_)
  obtain ⟨w11, ew11⟩ : ∃ wq__ : Wd, wq__ = va_up w10 31 (some (eQ dA 2 (fun _ => none))) := ⟨_, rfl⟩
  rw [← ew11] at hW
  have frw11 : ∀ id : Nat, id ≠ 31 → w11 id = w10 id := fun id h9 => by rw [ew11, up_ne h9]
  replace hk0 : w11 0 = some (.inr (6, [.ref (b + 1), .ref (b + 7), .ref (b + 13), .ref (b + 21), .ref (b + 29), .null, .null, .null])) := (frw11 _ (by omega)).trans hk0
  replace hpl9 : isPlay dA b w11 1 P0 := hpl9.fr (fun id9 h7 h8 => frw11 id9 (by omega))
  replace hpl20 : isPlay dA b w11 7 P0 := hpl20.fr (fun id9 h7 h8 => frw11 id9 (by omega))
  replace hmx35 : anyMix dA b w11 13 1 := hmx35.fr (fun id9 h7 h8 => (frw11 id9 (by omega)))
  replace hmx50 : anyMix dA b w11 21 7 := hmx50.fr (fun id9 h7 h8 => (frw11 id9 (by omega)))
  replace hho61 : w11 29 = some (.inr (2, [.ref (b + (30)), .int (nI 0)])) := (frw11 _ (by omega)).trans hho61
  replace hha61 : w11 30 = some (eQ dA 6 (fun _ => none)) := (frw11 _ (by omega)).trans hha61
  have hn69_11 : w11 31 = some (eQ dA 2 (fun _ => none)) := by rw [ew11]; exact up_eq
  refine q_putF hx hb hts hinX6 tyX6_ok nmX6 hown hG hW hS hk0 rfl 5 (by decide) (hts (.fieldLink RX6 38 "FoleyMixer" "snapshots" "[LFoleyMixer$Play;") (List.mem_of_getElem? (i := 18) rfl)) rfl rfl hin0 rfl rfl rfl (Nat.le_of_ble_eq_true rfl) dX6_init_72 (fun H locs hW hS hz72 => ?_)
  replace hz := hz72.trans hz
  obtain ⟨w12, ew12⟩ : ∃ wq__ : Wd, wq__ = va_up w11 0 (some (.inr (6, [.ref (b + 1), .ref (b + 7), .ref (b + 13), .ref (b + 21), .ref (b + 29), .ref (b + 31), .null, .null]))) := ⟨_, rfl⟩
  replace hW : WP D b w12 H := by rw [ew12]; exact hW
  have frw12 : ∀ id : Nat, id ≠ 0 → w12 id = w11 id := fun id h9 => by rw [ew12, up_ne h9]
  replace hpl9 : isPlay dA b w12 1 P0 := hpl9.fr (fun id9 h7 h8 => frw12 id9 (by omega))
  replace hpl20 : isPlay dA b w12 7 P0 := hpl20.fr (fun id9 h7 h8 => frw12 id9 (by omega))
  replace hmx35 : anyMix dA b w12 13 1 := hmx35.fr (fun id9 h7 h8 => (frw12 id9 (by omega)))
  replace hmx50 : anyMix dA b w12 21 7 := hmx50.fr (fun id9 h7 h8 => (frw12 id9 (by omega)))
  replace hho61 : w12 29 = some (.inr (2, [.ref (b + (30)), .int (nI 0)])) := (frw12 _ (by omega)).trans hho61
  replace hha61 : w12 30 = some (eQ dA 6 (fun _ => none)) := (frw12 _ (by omega)).trans hha61
  replace hn69_11 : w12 31 = some (eQ dA 2 (fun _ => none)) := (frw12 _ (by omega)).trans hn69_11
  replace hk0 : w12 0 = some (.inr (6, [.ref (b + 1), .ref (b + 7), .ref (b + 13), .ref (b + 21), .ref (b + 29), .ref (b + 31), .null, .null])) := by rw [ew12]; exact up_eq
  refine lv_aload_n hx hb dX6_init_75 rfl (lv_at hl 0 rfl) ?_
  refine q_new (ci := 5) (fs := [.null, .int (nI 0)]) hx hb hts hinX5 tyX5_ok hown (hts (.classLink RX6 42 RX5) (List.mem_of_getElem? (i := 19) rfl)) (hts (.instantiable RX5 2) (List.mem_of_getElem? (i := 20) rfl)) (hts (.initialized RX5) (List.mem_of_getElem? (i := 21) rfl)) hG hW hS hz rfl (fun j hj => by rcases (show j = 0 ∨ j = 1 by omega) with rfl | rfl <;> rfl) (Nat.le_of_ble_eq_true rfl) (Nat.le_of_ble_eq_true rfl) dX6_init_76 (fun H hW hS hz => ?_)
  obtain ⟨w13, ew13⟩ : ∃ wq__ : Wd, wq__ = va_up w12 32 (some (.inr (5, [.null, .int (nI 0)]))) := ⟨_, rfl⟩
  rw [← ew13] at hW
  have frw13 : ∀ id : Nat, id ≠ 32 → w13 id = w12 id := fun id h9 => by rw [ew13, up_ne h9]
  replace hk0 : w13 0 = some (.inr (6, [.ref (b + 1), .ref (b + 7), .ref (b + 13), .ref (b + 21), .ref (b + 29), .ref (b + 31), .null, .null])) := (frw13 _ (by omega)).trans hk0
  replace hpl9 : isPlay dA b w13 1 P0 := hpl9.fr (fun id9 h7 h8 => frw13 id9 (by omega))
  replace hpl20 : isPlay dA b w13 7 P0 := hpl20.fr (fun id9 h7 h8 => frw13 id9 (by omega))
  replace hmx35 : anyMix dA b w13 13 1 := hmx35.fr (fun id9 h7 h8 => (frw13 id9 (by omega)))
  replace hmx50 : anyMix dA b w13 21 7 := hmx50.fr (fun id9 h7 h8 => (frw13 id9 (by omega)))
  replace hho61 : w13 29 = some (.inr (2, [.ref (b + (30)), .int (nI 0)])) := (frw13 _ (by omega)).trans hho61
  replace hha61 : w13 30 = some (eQ dA 6 (fun _ => none)) := (frw13 _ (by omega)).trans hha61
  replace hn69_11 : w13 31 = some (eQ dA 2 (fun _ => none)) := (frw13 _ (by omega)).trans hn69_11
  have hn76_13 : w13 32 = some (.inr (5, [.null, .int (nI 0)])) := by rw [ew13]; exact up_eq
  refine lv_dup hx hb dX6_init_79 rfl ?_
  refine q_call (va_runIN (As := []) (rest := [.ref (b + 32), .ref (b + 0)]) ⟨hx, hb, hml, hown, hts⟩ (c_X5_init l hn76_13) ⟨(va_cnB 0 hts gX6_init_X5_init_n44 rfl rfl rfl (hG.nest 21 rfl) (hts (.initialized RX5) (List.mem_of_getElem? (i := 21) rfl)) (by decide +kernel) ⟨Nat.le_of_ble_eq_true rfl, Nat.le_of_ble_eq_true rfl⟩), rfl, (hts (.instanceMethod yX5_init) (List.mem_of_getElem? (i := 63) rfl))⟩ (q_preI hG hW hS (by omega)) rfl rfl hl.1 rfl (lv_room (Nat.le_of_ble_eq_true rfl)) dX6_init_80 ⟨Nat.le_of_ble_eq_true rfl, Nat.le_of_ble_eq_true rfl⟩) hS (fun w_80 H locs hp80 hW hS hz => ?_)
  obtain ⟨hsc80, fr80⟩ := hp80
  replace hk0 : w_80 0 = some (.inr (6, [.ref (b + 1), .ref (b + 7), .ref (b + 13), .ref (b + 21), .ref (b + 29), .ref (b + 31), .null, .null])) := (fr80 _ (by omega)).trans hk0
  replace hpl9 : isPlay dA b w_80 1 P0 := hpl9.fr (fun id9 h7 h8 => fr80 id9 (by omega))
  replace hpl20 : isPlay dA b w_80 7 P0 := hpl20.fr (fun id9 h7 h8 => fr80 id9 (by omega))
  replace hmx35 : anyMix dA b w_80 13 1 := hmx35.fr (fun id9 h7 h8 => (fr80 id9 (by omega)))
  replace hmx50 : anyMix dA b w_80 21 7 := hmx50.fr (fun id9 h7 h8 => (fr80 id9 (by omega)))
  replace hho61 : w_80 29 = some (.inr (2, [.ref (b + (30)), .int (nI 0)])) := (fr80 _ (by omega)).trans hho61
  replace hha61 : w_80 30 = some (eQ dA 6 (fun _ => none)) := (fr80 _ (by omega)).trans hha61
  replace hn69_11 : w_80 31 = some (eQ dA 2 (fun _ => none)) := (fr80 _ (by omega)).trans hn69_11
  refine q_putF hx hb hts hinX6 tyX6_ok nmX6 hown hG hW hS hk0 rfl 6 (by decide) (hts (.fieldLink RX6 45 "FoleyMixer" "script" "LFoleyMixer$Script;") (List.mem_of_getElem? (i := 22) rfl)) rfl rfl hin0 rfl rfl rfl (Nat.le_of_ble_eq_true rfl) dX6_init_83 (fun H locs hW hS hz83 => ?_)
  replace hz := hz83.trans hz
  obtain ⟨w14, ew14⟩ : ∃ wq__ : Wd, wq__ = va_up w_80 0 (some (.inr (6, [.ref (b + 1), .ref (b + 7), .ref (b + 13), .ref (b + 21), .ref (b + 29), .ref (b + 31), .ref (b + 32), .null]))) := ⟨_, rfl⟩
  replace hW : WP D b w14 H := by rw [ew14]; exact hW
  have frw14 : ∀ id : Nat, id ≠ 0 → w14 id = w_80 id := fun id h9 => by rw [ew14, up_ne h9]
  replace hpl9 : isPlay dA b w14 1 P0 := hpl9.fr (fun id9 h7 h8 => frw14 id9 (by omega))
  replace hpl20 : isPlay dA b w14 7 P0 := hpl20.fr (fun id9 h7 h8 => frw14 id9 (by omega))
  replace hmx35 : anyMix dA b w14 13 1 := hmx35.fr (fun id9 h7 h8 => (frw14 id9 (by omega)))
  replace hmx50 : anyMix dA b w14 21 7 := hmx50.fr (fun id9 h7 h8 => (frw14 id9 (by omega)))
  replace hho61 : w14 29 = some (.inr (2, [.ref (b + (30)), .int (nI 0)])) := (frw14 _ (by omega)).trans hho61
  replace hha61 : w14 30 = some (eQ dA 6 (fun _ => none)) := (frw14 _ (by omega)).trans hha61
  replace hn69_11 : w14 31 = some (eQ dA 2 (fun _ => none)) := (frw14 _ (by omega)).trans hn69_11
  replace hsc80 : isScr dA b w14 32 0 (fun _ => 0) := hsc80.fr (frw14 _ (by omega)) (frw14 _ (by omega))
  replace hk0 : w14 0 = some (.inr (6, [.ref (b + 1), .ref (b + 7), .ref (b + 13), .ref (b + 21), .ref (b + 29), .ref (b + 31), .ref (b + 32), .null])) := by rw [ew14]; exact up_eq
  refine lv_aload_n hx hb dX6_init_86 rfl (lv_at hl 0 rfl) ?_
  refine q_new (ci := 0) (fs := [.null, .int (nI 0), .int (nI 0)]) hx hb hts hinX0 tyX0_ok hown (hts (.classLink RX6 49 RX0) (List.mem_of_getElem? (i := 23) rfl)) (hts (.instantiable RX0 3) (List.mem_of_getElem? (i := 24) rfl)) (hts (.initialized RX0) (List.mem_of_getElem? (i := 25) rfl)) hG hW hS hz rfl (fun j hj => by rcases (show j = 0 ∨ j = 1 ∨ j = 2 by omega) with rfl | rfl | rfl <;> rfl) (Nat.le_of_ble_eq_true rfl) (Nat.le_of_ble_eq_true rfl) dX6_init_87 (fun H hW hS hz => ?_)
  obtain ⟨w15, ew15⟩ : ∃ wq__ : Wd, wq__ = va_up w14 34 (some (.inr (0, [.null, .int (nI 0), .int (nI 0)]))) := ⟨_, rfl⟩
  rw [← ew15] at hW
  have frw15 : ∀ id : Nat, id ≠ 34 → w15 id = w14 id := fun id h9 => by rw [ew15, up_ne h9]
  replace hk0 : w15 0 = some (.inr (6, [.ref (b + 1), .ref (b + 7), .ref (b + 13), .ref (b + 21), .ref (b + 29), .ref (b + 31), .ref (b + 32), .null])) := (frw15 _ (by omega)).trans hk0
  replace hpl9 : isPlay dA b w15 1 P0 := hpl9.fr (fun id9 h7 h8 => frw15 id9 (by omega))
  replace hpl20 : isPlay dA b w15 7 P0 := hpl20.fr (fun id9 h7 h8 => frw15 id9 (by omega))
  replace hmx35 : anyMix dA b w15 13 1 := hmx35.fr (fun id9 h7 h8 => (frw15 id9 (by omega)))
  replace hmx50 : anyMix dA b w15 21 7 := hmx50.fr (fun id9 h7 h8 => (frw15 id9 (by omega)))
  replace hho61 : w15 29 = some (.inr (2, [.ref (b + (30)), .int (nI 0)])) := (frw15 _ (by omega)).trans hho61
  replace hha61 : w15 30 = some (eQ dA 6 (fun _ => none)) := (frw15 _ (by omega)).trans hha61
  replace hn69_11 : w15 31 = some (eQ dA 2 (fun _ => none)) := (frw15 _ (by omega)).trans hn69_11
  replace hsc80 : isScr dA b w15 32 0 (fun _ => 0) := hsc80.fr (frw15 _ (by omega)) (frw15 _ (by omega))
  have hn87_15 : w15 34 = some (.inr (0, [.null, .int (nI 0), .int (nI 0)])) := by rw [ew15]; exact up_eq
  refine lv_dup hx hb dX6_init_90 rfl ?_
  refine q_call (va_runIN (As := []) (rest := [.ref (b + 34), .ref (b + 0)]) ⟨hx, hb, hml, hown, hts⟩ (c_X0_init l hn87_15) ⟨(va_cnB 0 hts gX6_init_X0_init_n51 rfl rfl rfl (hG.nest 22 rfl) (hts (.initialized RX0) (List.mem_of_getElem? (i := 25) rfl)) (by decide +kernel) ⟨Nat.le_of_ble_eq_true rfl, Nat.le_of_ble_eq_true rfl⟩), rfl, (hts (.instanceMethod yX0_init) (List.mem_of_getElem? (i := 68) rfl))⟩ (q_preI hG hW hS (by omega)) rfl rfl hl.1 rfl (lv_room (Nat.le_of_ble_eq_true rfl)) dX6_init_91 ⟨Nat.le_of_ble_eq_true rfl, Nat.le_of_ble_eq_true rfl⟩) hS (fun w_91 H locs hp91 hW hS hz => ?_)
  obtain ⟨hrd91, fr91⟩ := hp91
  replace hk0 : w_91 0 = some (.inr (6, [.ref (b + 1), .ref (b + 7), .ref (b + 13), .ref (b + 21), .ref (b + 29), .ref (b + 31), .ref (b + 32), .null])) := (fr91 _ (by omega)).trans hk0
  replace hpl9 : isPlay dA b w_91 1 P0 := hpl9.fr (fun id9 h7 h8 => fr91 id9 (by omega))
  replace hpl20 : isPlay dA b w_91 7 P0 := hpl20.fr (fun id9 h7 h8 => fr91 id9 (by omega))
  replace hmx35 : anyMix dA b w_91 13 1 := hmx35.fr (fun id9 h7 h8 => (fr91 id9 (by omega)))
  replace hmx50 : anyMix dA b w_91 21 7 := hmx50.fr (fun id9 h7 h8 => (fr91 id9 (by omega)))
  replace hho61 : w_91 29 = some (.inr (2, [.ref (b + (30)), .int (nI 0)])) := (fr91 _ (by omega)).trans hho61
  replace hha61 : w_91 30 = some (eQ dA 6 (fun _ => none)) := (fr91 _ (by omega)).trans hha61
  replace hn69_11 : w_91 31 = some (eQ dA 2 (fun _ => none)) := (fr91 _ (by omega)).trans hn69_11
  replace hsc80 : isScr dA b w_91 32 0 (fun _ => 0) := hsc80.fr (fr91 _ (by omega)) (fr91 _ (by omega))
  refine q_putF hx hb hts hinX6 tyX6_ok nmX6 hown hG hW hS hk0 rfl 7 (by decide) (hts (.fieldLink RX6 52 "FoleyMixer" "reader" "LFoleyMixer$CueReader;") (List.mem_of_getElem? (i := 26) rfl)) rfl rfl hin0 rfl rfl rfl (Nat.le_of_ble_eq_true rfl) dX6_init_94 (fun H locs hW hS hz94 => ?_)
  replace hz := hz94.trans hz
  obtain ⟨w16, ew16⟩ : ∃ wq__ : Wd, wq__ = va_up w_91 0 (some (.inr (6, [.ref (b + 1), .ref (b + 7), .ref (b + 13), .ref (b + 21), .ref (b + 29), .ref (b + 31), .ref (b + 32), .ref (b + 34)]))) := ⟨_, rfl⟩
  replace hW : WP D b w16 H := by rw [ew16]; exact hW
  have frw16 : ∀ id : Nat, id ≠ 0 → w16 id = w_91 id := fun id h9 => by rw [ew16, up_ne h9]
  replace hpl9 : isPlay dA b w16 1 P0 := hpl9.fr (fun id9 h7 h8 => frw16 id9 (by omega))
  replace hpl20 : isPlay dA b w16 7 P0 := hpl20.fr (fun id9 h7 h8 => frw16 id9 (by omega))
  replace hmx35 : anyMix dA b w16 13 1 := hmx35.fr (fun id9 h7 h8 => (frw16 id9 (by omega)))
  replace hmx50 : anyMix dA b w16 21 7 := hmx50.fr (fun id9 h7 h8 => (frw16 id9 (by omega)))
  replace hho61 : w16 29 = some (.inr (2, [.ref (b + (30)), .int (nI 0)])) := (frw16 _ (by omega)).trans hho61
  replace hha61 : w16 30 = some (eQ dA 6 (fun _ => none)) := (frw16 _ (by omega)).trans hha61
  replace hn69_11 : w16 31 = some (eQ dA 2 (fun _ => none)) := (frw16 _ (by omega)).trans hn69_11
  replace hsc80 : isScr dA b w16 32 0 (fun _ => 0) := hsc80.fr (frw16 _ (by omega)) (frw16 _ (by omega))
  replace hrd91 : isRdr dA b w16 34 ((3, -1, fun _ => some 0)) := hrd91.fr (frw16 _ (by omega)) (frw16 _ (by omega))
  replace hk0 : w16 0 = some (.inr (6, [.ref (b + 1), .ref (b + 7), .ref (b + 13), .ref (b + 21), .ref (b + 29), .ref (b + 31), .ref (b + 32), .ref (b + 34)])) := by rw [ew16]; exact up_eq
  exact q_zv hx hb hr hlocks hW hS (by omega) dX6_init_97 (by exact ⟨⟨hk0, hpl9, hpl20, hmx35, hmx50, hho61, hha61, hn69_11, hsc80, hrd91⟩, by intro id h9; rw [frw16 id (by omega)]; rw [fr91 id (by omega)]; rw [frw15 id (by omega)]; rw [frw14 id (by omega)]; rw [fr80 id (by omega)]; rw [frw13 id (by omega)]; rw [frw12 id (by omega)]; rw [frw11 id (by omega)]; rw [frw10 id (by omega)]; rw [fr61 id (by omega)]; rw [frw9 id (by omega)]; rw [frw8 id (by omega)]; rw [fr50 id (by omega)]; rw [frw7 id (by omega)]; rw [frw6 id (by omega)]; rw [fr35 id (by omega)]; rw [frw5 id (by omega)]; rw [frw4 id (by omega)]; rw [fr20 id (by omega)]; rw [frw3 id (by omega)]; rw [frw2 id (by omega)]; rw [fr9 id (by omega)]; rw [frw1 id (by omega)]; try rfl⟩) (by decide) (by decide)

theorem isSys_new {dA : Nat → Nat} {b : Nat} {w w' : Wd} {lo : Nat} (h : w 0 = some (sysO b) ∧ isPlay dA b w 1 P0 ∧ isPlay dA b w 7 P0 ∧ anyMix dA b w 13 1 ∧ anyMix dA b w 21 7 ∧ w 29 = some (.inr (2, [.ref (b + (29 + 1)), .int (nI 0)])) ∧ w (29 + 1) = some (eQ dA 6 (fun _ => none)) ∧ w 31 = some (eQ dA 2 (fun _ => none)) ∧ isScr dA b w 32 0 (fun _ => 0) ∧ isRdr dA b w 34 (3, -1, fun _ => some 0)) (hw : ∀ id, id < 36 → w' id = w id) (hlo : 46 ≤ lo) (hex : ∃ e : va_E, w' (lo - 1) = some e) : isSys dA b w' lo (P0, (0, fun _ => P0), (fun _ => none), (0, fun _ => 0)) := by
  obtain ⟨h0, h1, h7, h13, h21, h29, h30, h31, h32, h34⟩ := h
  refine ⟨(hw _ (by omega)).trans h0, h1.fr (fun id a c => hw id (by omega)), ⟨⟨_, h7.fr (fun id a c => hw id (by omega))⟩, h13.fr (fun id a c => hw id (by omega)), h21.fr (fun id a c => hw id (by omega))⟩, ⟨0, fun _ => 0, fun _ => P0, fun _ => none, ⟨(hw _ (by omega)).trans h29, (hw _ (by omega)).trans (h30.trans (eQ_congr fun j => by rw [if_neg (Nat.not_lt_zero _)])), Nat.le_refl _, Nat.zero_le _, fun i hi => absurd hi (Nat.not_lt_zero _), fun i hi => absurd hi (Nat.not_lt_zero _), fun i j hi => absurd hi (Nat.not_lt_zero _)⟩, fun i hi => absurd hi (Nat.not_lt_zero _), (hw _ (by omega)).trans h31, fun j hj q hq => (nomatch hq), fun j hj _ => rfl, fun q r hq => (nomatch hq)⟩, h32.fr (hw _ (by omega)) (hw _ (by omega)), ⟨_, h34.fr (hw _ (by omega)) (hw _ (by omega))⟩, hlo, hex⟩
