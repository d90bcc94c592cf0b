set_option maxHeartbeats 300000 in
set_option maxRecDepth 100000 in
/-- FoleyMixer() -/
theorem c_X6_init (l : Launch) {D : va_G} {dA : Nat → Nat} {b : Nat} {w : Wd} (hk0 : w 0 = some (.inr (6, [.null, .null, .null, .null, .null, .null, .null, .null]))) : Met l yX6_init wsX6_init ({ frames := 4, cells := 35, slots := 2014, locals := 73 } : Room) (PZ D dA b w 1 [.ref (b + 0)]) (QZ D b none (36) (fun w' => (w' 0 = some (sysO b) ∧ isPlay dA b w' 2 P0 ∧ isPlay dA b w' 16 P0 ∧ anyMix dA b w' 1 2 ∧ anyMix dA b w' 15 16 ∧ w' 29 = some (.inr (2, [.ref (b + (29 + 1)), .int (nI 0)])) ∧ w' (29 + 1) = some (eQ dA 6 (fun _ => none)) ∧ w' 31 = some (eQ dA 2 (fun _ => none)) ∧ isScr dA b w' 32 0 (fun _ => 0) ∧ isRdr dA b w' 34 (3, -1, fun _ => some 0)) ∧ ∀ id : Nat, (id < 0 ∨ 36 ≤ id) → w' id = w id)) 35 2014 (Fb b) := by
  refine q_ofZ (cc := cX6_init) (maxL := 1) (ret := none) (by decide) rfl rfl ?_
  intro p e s m args below meth c ls hx hb hr hml hts hown hlocks hin0 hG hW hS hz hl
  have hown : s.vm.findClass RX6 = some m.cls := hown
  have hinX0 : ∀ w ∈ u_ws RX0 TX0 3, w ∈ wsX6_init := fun w h => (goodIn_r (big := wsX6_init) (u_ws RX0 TX0 3) [98, 99, 100] (by decide +kernel) (by decide +kernel) w h).1
  have hinX2 : ∀ w ∈ u_ws RX2 TX2 2, w ∈ wsX6_init := fun w h => (goodIn_r (big := wsX6_init) (u_ws RX2 TX2 2) [94, 95] (by decide +kernel) (by decide +kernel) w h).1
  have hinX3 : ∀ w ∈ u_ws RX3 TX3 8, w ∈ wsX6_init := fun w h => (goodIn_r (big := wsX6_init) (u_ws RX3 TX3 8) [78, 79, 80, 81, 82, 83, 84, 85] (by decide +kernel) (by decide +kernel) w h).1
  have hinX5 : ∀ w ∈ u_ws RX5 TX5 2, w ∈ wsX6_init := fun w h => (goodIn_r (big := wsX6_init) (u_ws RX5 TX5 2) [96, 97] (by decide +kernel) (by decide +kernel) w h).1
  have hinX6 : ∀ w ∈ u_ws RX6 TX6 8, w ∈ wsX6_init := fun w h => (goodIn_r (big := wsX6_init) (u_ws RX6 TX6 8) [86, 87, 88, 89, 90, 91, 92, 93] (by decide +kernel) (by decide +kernel) w h).1
  have hl : lv_has ls 1 [(0, .ref (b + 0))] := hl
  refine lv_aload_n hx hb dX6_init_0 rfl (lv_at hl 0 rfl) ?_
  refine W.objInit hx hb hown (hts (.methodLink RX6 1 objectInit) (List.mem_of_getElem? (i := 1) rfl)) (hts (.instanceMethod objectInit) (List.mem_of_getElem? (i := 2) rfl)) (hts _ (List.mem_of_getElem? (i := 3) rfl)) rfl (by rw [hml]; exact hl.1) rfl dX6_init_1 (Nat.le_of_ble_eq_true rfl) (Nat.le_of_ble_eq_true rfl) ?_
  refine W.eq (g2 := F0 m 4 ls []) rfl ?_
  refine lv_aload_n hx hb dX6_init_4 rfl (lv_at hl 0 rfl) ?_
  refine q_new (ci := 3) (fs := [.null, .null, .null, .null, .null, .null, .null, .null]) hx hb hts hinX3 tyX3_ok hown (hts (.classLink RX6 7 RX3) (List.mem_of_getElem? (i := 4) rfl)) (hts (.instantiable RX3 8) (List.mem_of_getElem? (i := 5) rfl)) (hts (.initialized RX3) (List.mem_of_getElem? (i := 6) rfl)) hG hW hS hz rfl (fun j hj => by rcases (show j = 0 ∨ j = 1 ∨ j = 2 ∨ j = 3 ∨ j = 4 ∨ j = 5 ∨ j = 6 ∨ j = 7 by omega) with rfl | rfl | rfl | rfl | rfl | rfl | rfl | rfl <;> rfl) (Nat.le_of_ble_eq_true rfl) (Nat.le_of_ble_eq_true rfl) dX6_init_5 (fun H hW hS hz => ?_)
  obtain ⟨w1, ew1⟩ : ∃ wq__ : Wd, wq__ = va_up w 1 (some (.inr (3, [.null, .null, .null, .null, .null, .null, .null, .null]))) := ⟨_, rfl⟩
  rw [← ew1] at hW
  have frw1 : ∀ id : Nat, id ≠ 1 → w1 id = w id := fun id h9 => by rw [ew1, up_ne h9]
  replace hk0 : w1 0 = some (.inr (6, [.null, .null, .null, .null, .null, .null, .null, .null])) := (frw1 _ (by omega)).trans hk0
  have hn5_1 : w1 1 = some (.inr (3, [.null, .null, .null, .null, .null, .null, .null, .null])) := by rw [ew1]; exact up_eq
  refine lv_dup hx hb dX6_init_8 rfl ?_
  refine q_call (va_runIN (As := []) (rest := [.ref (b + 1), .ref (b + 0)]) ⟨hx, hb, hml, hown, hts⟩ (c_X3_init l hn5_1) ⟨(va_cnB 0 hts gX6_init_X3_init_n9 rfl rfl rfl (hG.nest 6 rfl) (hts (.initialized RX3) (List.mem_of_getElem? (i := 6) rfl)) (by decide +kernel) ⟨Nat.le_of_ble_eq_true rfl, Nat.le_of_ble_eq_true rfl⟩), rfl, (hts (.instanceMethod yX3_init) (List.mem_of_getElem? (i := 25) rfl))⟩ (q_preI hG hW hS (by omega)) rfl rfl hl.1 rfl (lv_room (Nat.le_of_ble_eq_true rfl)) dX6_init_9 ⟨Nat.le_of_ble_eq_true rfl, Nat.le_of_ble_eq_true rfl⟩) hS (fun w_9 H locs hp9 hW hS hz => ?_)
  obtain ⟨hmx9, hpl9, fr9⟩ := hp9
  replace hk0 : w_9 0 = some (.inr (6, [.null, .null, .null, .null, .null, .null, .null, .null])) := (fr9 _ (by omega)).trans hk0
  refine q_putF hx hb hts hinX6 tyX6_ok nmX6 hown hG hW hS hk0 rfl 0 (by decide) (hts (.fieldLink RX6 10 "FoleyMixer" "mix" "LFoleyMixer$Mix;") (List.mem_of_getElem? (i := 7) rfl)) rfl rfl hin0 rfl rfl rfl (Nat.le_of_ble_eq_true rfl) dX6_init_12 (fun H locs hW hS hz12 => ?_)
  replace hz := hz12.trans hz
  obtain ⟨w2, ew2⟩ : ∃ wq__ : Wd, wq__ = va_up w_9 0 (some (.inr (6, [.ref (b + 1), .null, .null, .null, .null, .null, .null, .null]))) := ⟨_, rfl⟩
  replace hW : WP D b w2 H := by rw [ew2]; exact hW
  have frw2 : ∀ id : Nat, id ≠ 0 → w2 id = w_9 id := fun id h9 => by rw [ew2, up_ne h9]
  replace hmx9 : anyMix dA b w2 1 2 := hmx9.fr (fun id9 h7 h8 => (frw2 id9 (by omega)))
  replace hpl9 : isPlay dA b w2 2 P0 := hpl9.fr (fun id9 h7 h8 => frw2 id9 (by omega))
  replace hk0 : w2 0 = some (.inr (6, [.ref (b + 1), .null, .null, .null, .null, .null, .null, .null])) := by rw [ew2]; exact up_eq
  refine lv_aload_n hx hb dX6_init_15 rfl (lv_at hl 0 rfl) ?_
  refine q_new (ci := 3) (fs := [.null, .null, .null, .null, .null, .null, .null, .null]) hx hb hts hinX3 tyX3_ok hown (hts (.classLink RX6 7 RX3) (List.mem_of_getElem? (i := 4) rfl)) (hts (.instantiable RX3 8) (List.mem_of_getElem? (i := 5) rfl)) (hts (.initialized RX3) (List.mem_of_getElem? (i := 6) rfl)) hG hW hS hz rfl (fun j hj => by rcases (show j = 0 ∨ j = 1 ∨ j = 2 ∨ j = 3 ∨ j = 4 ∨ j = 5 ∨ j = 6 ∨ j = 7 by omega) with rfl | rfl | rfl | rfl | rfl | rfl | rfl | rfl <;> rfl) (Nat.le_of_ble_eq_true rfl) (Nat.le_of_ble_eq_true rfl) dX6_init_16 (fun H hW hS hz => ?_)
  obtain ⟨w3, ew3⟩ : ∃ wq__ : Wd, wq__ = va_up w2 15 (some (.inr (3, [.null, .null, .null, .null, .null, .null, .null, .null]))) := ⟨_, rfl⟩
  rw [← ew3] at hW
  have frw3 : ∀ id : Nat, id ≠ 15 → w3 id = w2 id := fun id h9 => by rw [ew3, up_ne h9]
  replace hk0 : w3 0 = some (.inr (6, [.ref (b + 1), .null, .null, .null, .null, .null, .null, .null])) := (frw3 _ (by omega)).trans hk0
  replace hmx9 : anyMix dA b w3 1 2 := hmx9.fr (fun id9 h7 h8 => (frw3 id9 (by omega)))
  replace hpl9 : isPlay dA b w3 2 P0 := hpl9.fr (fun id9 h7 h8 => frw3 id9 (by omega))
  have hn16_3 : w3 15 = some (.inr (3, [.null, .null, .null, .null, .null, .null, .null, .null])) := by rw [ew3]; exact up_eq
  refine lv_dup hx hb dX6_init_19 rfl ?_
  refine q_call (va_runIN (As := []) (rest := [.ref (b + 15), .ref (b + 0)]) ⟨hx, hb, hml, hown, hts⟩ (c_X3_init l hn16_3) ⟨(va_cnB 0 hts gX6_init_X3_init_n9 rfl rfl rfl (hG.nest 6 rfl) (hts (.initialized RX3) (List.mem_of_getElem? (i := 6) rfl)) (by decide +kernel) ⟨Nat.le_of_ble_eq_true rfl, Nat.le_of_ble_eq_true rfl⟩), rfl, (hts (.instanceMethod yX3_init) (List.mem_of_getElem? (i := 25) rfl))⟩ (q_preI hG hW hS (by omega)) rfl rfl hl.1 rfl (lv_room (Nat.le_of_ble_eq_true rfl)) dX6_init_20 ⟨Nat.le_of_ble_eq_true rfl, Nat.le_of_ble_eq_true rfl⟩) hS (fun w_20 H locs hp20 hW hS hz => ?_)
  obtain ⟨hmx20, hpl20, fr20⟩ := hp20
  replace hk0 : w_20 0 = some (.inr (6, [.ref (b + 1), .null, .null, .null, .null, .null, .null, .null])) := (fr20 _ (by omega)).trans hk0
  replace hmx9 : anyMix dA b w_20 1 2 := hmx9.fr (fun id9 h7 h8 => (fr20 id9 (by omega)))
  replace hpl9 : isPlay dA b w_20 2 P0 := hpl9.fr (fun id9 h7 h8 => fr20 id9 (by omega))
  refine q_putF hx hb hts hinX6 tyX6_ok nmX6 hown hG hW hS hk0 rfl 1 (by decide) (hts (.fieldLink RX6 16 "FoleyMixer" "trialMix" "LFoleyMixer$Mix;") (List.mem_of_getElem? (i := 8) rfl)) rfl rfl hin0 rfl rfl rfl (Nat.le_of_ble_eq_true rfl) dX6_init_23 (fun H locs hW hS hz23 => ?_)
  replace hz := hz23.trans hz
  obtain ⟨w4, ew4⟩ : ∃ wq__ : Wd, wq__ = va_up w_20 0 (some (.inr (6, [.ref (b + 1), .ref (b + 15), .null, .null, .null, .null, .null, .null]))) := ⟨_, rfl⟩
  replace hW : WP D b w4 H := by rw [ew4]; exact hW
  have frw4 : ∀ id : Nat, id ≠ 0 → w4 id = w_20 id := fun id h9 => by rw [ew4, up_ne h9]
  replace hmx9 : anyMix dA b w4 1 2 := hmx9.fr (fun id9 h7 h8 => (frw4 id9 (by omega)))
  replace hpl9 : isPlay dA b w4 2 P0 := hpl9.fr (fun id9 h7 h8 => frw4 id9 (by omega))
  replace hmx20 : anyMix dA b w4 15 16 := hmx20.fr (fun id9 h7 h8 => (frw4 id9 (by omega)))
  replace hpl20 : isPlay dA b w4 16 P0 := hpl20.fr (fun id9 h7 h8 => frw4 id9 (by omega))
  replace hk0 : w4 0 = some (.inr (6, [.ref (b + 1), .ref (b + 15), .null, .null, .null, .null, .null, .null])) := by rw [ew4]; exact up_eq
  refine lv_aload_n hx hb dX6_init_26 rfl (lv_at hl 0 rfl) ?_
  refine lv_aload_n hx hb dX6_init_27 rfl (lv_at hl 0 rfl) ?_
  refine q_get hx hb hts hinX6 hown hG hW hk0 rfl 0 (by decide) (hts (.fieldLink RX6 10 "FoleyMixer" "mix" "LFoleyMixer$Mix;") (List.mem_of_getElem? (i := 7) rfl)) rfl rfl dX6_init_28 ?_
  refine q_getN hx hb hts hinX3 hown hG hW (hmx9).1 rfl 0 (by decide) (hG.nest 14 rfl) rfl rfl dX6_init_31 ?_
  refine q_putF hx hb hts hinX6 tyX6_ok nmX6 hown hG hW hS hk0 rfl 2 (by decide) (hts (.fieldLink RX6 23 "FoleyMixer" "now" "LFoleyMixer$Play;") (List.mem_of_getElem? (i := 9) rfl)) rfl rfl hin0 rfl rfl rfl (Nat.le_of_ble_eq_true rfl) dX6_init_34 (fun H locs hW hS hz34 => ?_)
  replace hz := hz34.trans hz
  obtain ⟨w5, ew5⟩ : ∃ wq__ : Wd, wq__ = va_up w4 0 (some (.inr (6, [.ref (b + 1), .ref (b + 15), .ref (b + 2), .null, .null, .null, .null, .null]))) := ⟨_, rfl⟩
  replace hW : WP D b w5 H := by rw [ew5]; exact hW
  have frw5 : ∀ id : Nat, id ≠ 0 → w5 id = w4 id := fun id h9 => by rw [ew5, up_ne h9]
  replace hmx9 : anyMix dA b w5 1 2 := hmx9.fr (fun id9 h7 h8 => (frw5 id9 (by omega)))
  replace hpl9 : isPlay dA b w5 2 P0 := hpl9.fr (fun id9 h7 h8 => frw5 id9 (by omega))
  replace hmx20 : anyMix dA b w5 15 16 := hmx20.fr (fun id9 h7 h8 => (frw5 id9 (by omega)))
  replace hpl20 : isPlay dA b w5 16 P0 := hpl20.fr (fun id9 h7 h8 => frw5 id9 (by omega))
  replace hk0 : w5 0 = some (.inr (6, [.ref (b + 1), .ref (b + 15), .ref (b + 2), .null, .null, .null, .null, .null])) := by rw [ew5]; exact up_eq
  refine lv_aload_n hx hb dX6_init_37 rfl (lv_at hl 0 rfl) ?_
  refine lv_aload_n hx hb dX6_init_38 rfl (lv_at hl 0 rfl) ?_
  refine q_get hx hb hts hinX6 hown hG hW hk0 rfl 1 (by decide) (hts (.fieldLink RX6 16 "FoleyMixer" "trialMix" "LFoleyMixer$Mix;") (List.mem_of_getElem? (i := 8) rfl)) rfl rfl dX6_init_39 ?_
  refine q_getN hx hb hts hinX3 hown hG hW (hmx20).1 rfl 0 (by decide) (hG.nest 14 rfl) rfl rfl dX6_init_42 ?_
  refine q_putF hx hb hts hinX6 tyX6_ok nmX6 hown hG hW hS hk0 rfl 3 (by decide) (hts (.fieldLink RX6 26 "FoleyMixer" "trial" "LFoleyMixer$Play;") (List.mem_of_getElem? (i := 10) rfl)) rfl rfl hin0 rfl rfl rfl (Nat.le_of_ble_eq_true rfl) dX6_init_45 (fun H locs hW hS hz45 => ?_)
  replace hz := hz45.trans hz
  obtain ⟨w6, ew6⟩ : ∃ wq__ : Wd, wq__ = va_up w5 0 (some (.inr (6, [.ref (b + 1), .ref (b + 15), .ref (b + 2), .ref (b + 16), .null, .null, .null, .null]))) := ⟨_, rfl⟩
  replace hW : WP D b w6 H := by rw [ew6]; exact hW
  have frw6 : ∀ id : Nat, id ≠ 0 → w6 id = w5 id := fun id h9 => by rw [ew6, up_ne h9]
  replace hmx9 : anyMix dA b w6 1 2 := hmx9.fr (fun id9 h7 h8 => (frw6 id9 (by omega)))
  replace hpl9 : isPlay dA b w6 2 P0 := hpl9.fr (fun id9 h7 h8 => frw6 id9 (by omega))
  replace hmx20 : anyMix dA b w6 15 16 := hmx20.fr (fun id9 h7 h8 => (frw6 id9 (by omega)))
  replace hpl20 : isPlay dA b w6 16 P0 := hpl20.fr (fun id9 h7 h8 => frw6 id9 (by omega))
  replace hk0 : w6 0 = some (.inr (6, [.ref (b + 1), .ref (b + 15), .ref (b + 2), .ref (b + 16), .null, .null, .null, .null])) := by rw [ew6]; exact up_eq
  refine lv_aload_n hx hb dX6_init_48 rfl (lv_at hl 0 rfl) ?_
  refine q_new (ci := 2) (fs := [.null, .int (nI 0)]) hx hb hts hinX2 tyX2_ok hown (hts (.classLink RX6 29 RX2) (List.mem_of_getElem? (i := 11) rfl)) (hts (.instantiable RX2 2) (List.mem_of_getElem? (i := 12) rfl)) (hts (.initialized RX2) (List.mem_of_getElem? (i := 13) rfl)) hG hW hS hz rfl (fun j hj => by rcases (show j = 0 ∨ j = 1 by omega) with rfl | rfl <;> rfl) (Nat.le_of_ble_eq_true rfl) (Nat.le_of_ble_eq_true rfl) dX6_init_49 (fun H hW hS hz => ?_)
  obtain ⟨w7, ew7⟩ : ∃ wq__ : Wd, wq__ = va_up w6 29 (some (.inr (2, [.null, .int (nI 0)]))) := ⟨_, rfl⟩
  rw [← ew7] at hW
  have frw7 : ∀ id : Nat, id ≠ 29 → w7 id = w6 id := fun id h9 => by rw [ew7, up_ne h9]
  replace hk0 : w7 0 = some (.inr (6, [.ref (b + 1), .ref (b + 15), .ref (b + 2), .ref (b + 16), .null, .null, .null, .null])) := (frw7 _ (by omega)).trans hk0
  replace hmx9 : anyMix dA b w7 1 2 := hmx9.fr (fun id9 h7 h8 => (frw7 id9 (by omega)))
  replace hpl9 : isPlay dA b w7 2 P0 := hpl9.fr (fun id9 h7 h8 => frw7 id9 (by omega))
  replace hmx20 : anyMix dA b w7 15 16 := hmx20.fr (fun id9 h7 h8 => (frw7 id9 (by omega)))
  replace hpl20 : isPlay dA b w7 16 P0 := hpl20.fr (fun id9 h7 h8 => frw7 id9 (by omega))
  have hn49_7 : w7 29 = some (.inr (2, [.null, .int (nI 0)])) := by rw [ew7]; exact up_eq
  refine lv_dup hx hb dX6_init_52 rfl ?_
  refine q_call (va_runIN (As := []) (rest := [.ref (b + 29), .ref (b + 0)]) ⟨hx, hb, hml, hown, hts⟩ (c_X2_init l hn49_7) ⟨(va_cnB 0 hts gX6_init_X2_init_n31 rfl rfl rfl (hG.nest 20 rfl) (hts (.initialized RX2) (List.mem_of_getElem? (i := 13) rfl)) (by decide +kernel) ⟨Nat.le_of_ble_eq_true rfl, Nat.le_of_ble_eq_true rfl⟩), rfl, (hts (.instanceMethod yX2_init) (List.mem_of_getElem? (i := 61) rfl))⟩ (q_preI hG hW hS (by omega)) rfl rfl hl.1 rfl (lv_room (Nat.le_of_ble_eq_true rfl)) dX6_init_53 ⟨Nat.le_of_ble_eq_true rfl, Nat.le_of_ble_eq_true rfl⟩) hS (fun w_53 H locs hp53 hW hS hz => ?_)
  obtain ⟨hho53, hha53, fr53⟩ := hp53
  replace hk0 : w_53 0 = some (.inr (6, [.ref (b + 1), .ref (b + 15), .ref (b + 2), .ref (b + 16), .null, .null, .null, .null])) := (fr53 _ (by omega)).trans hk0
  replace hmx9 : anyMix dA b w_53 1 2 := hmx9.fr (fun id9 h7 h8 => (fr53 id9 (by omega)))
  replace hpl9 : isPlay dA b w_53 2 P0 := hpl9.fr (fun id9 h7 h8 => fr53 id9 (by omega))
  replace hmx20 : anyMix dA b w_53 15 16 := hmx20.fr (fun id9 h7 h8 => (fr53 id9 (by omega)))
  replace hpl20 : isPlay dA b w_53 16 P0 := hpl20.fr (fun id9 h7 h8 => fr53 id9 (by omega))
  refine q_putF hx hb hts hinX6 tyX6_ok nmX6 hown hG hW hS hk0 rfl 4 (by decide) (hts (.fieldLink RX6 32 "FoleyMixer" "history" "LFoleyMixer$History;") (List.mem_of_getElem? (i := 14) rfl)) rfl rfl hin0 rfl rfl rfl (Nat.le_of_ble_eq_true rfl) dX6_init_56 (fun H locs hW hS hz56 => ?_)
  replace hz := hz56.trans hz
  obtain ⟨w8, ew8⟩ : ∃ wq__ : Wd, wq__ = va_up w_53 0 (some (.inr (6, [.ref (b + 1), .ref (b + 15), .ref (b + 2), .ref (b + 16), .ref (b + 29), .null, .null, .null]))) := ⟨_, rfl⟩
  replace hW : WP D b w8 H := by rw [ew8]; exact hW
  have frw8 : ∀ id : Nat, id ≠ 0 → w8 id = w_53 id := fun id h9 => by rw [ew8, up_ne h9]
  replace hmx9 : anyMix dA b w8 1 2 := hmx9.fr (fun id9 h7 h8 => (frw8 id9 (by omega)))
  replace hpl9 : isPlay dA b w8 2 P0 := hpl9.fr (fun id9 h7 h8 => frw8 id9 (by omega))
  replace hmx20 : anyMix dA b w8 15 16 := hmx20.fr (fun id9 h7 h8 => (frw8 id9 (by omega)))
  replace hpl20 : isPlay dA b w8 16 P0 := hpl20.fr (fun id9 h7 h8 => frw8 id9 (by omega))
  replace hho53 : w8 29 = some (.inr (2, [.ref (b + (30)), .int (nI 0)])) := (frw8 _ (by omega)).trans hho53
  replace hha53 : w8 30 = some (eQ dA 6 (fun _ => none)) := (frw8 _ (by omega)).trans hha53
  replace hk0 : w8 0 = some (.inr (6, [.ref (b + 1), .ref (b + 15), .ref (b + 2), .ref (b + 16), .ref (b + 29), .null, .null, .null])) := by rw [ew8]; exact up_eq
  refine lv_aload_n hx hb dX6_init_59 rfl (lv_at hl 0 rfl) ?_
  refine lv_iconst (v := nI 2) hx hb dX6_init_60 (by decide) ?_
  refine q_newQ hx hb hown (hts (.classLink RX6 36 RX4) (List.mem_of_getElem? (i := 15) rfl)) hG hW hS hz (by decide) (Nat.le_of_ble_eq_true rfl) (Nat.le_of_ble_eq_true rfl) dX6_init_61 (fun H hW hS hz => ?_)
  obtain ⟨w9, ew9⟩ : ∃ wq__ : Wd, wq__ = va_up w8 31 (some (eQ dA 2 (fun _ => none))) := ⟨_, rfl⟩
  rw [← ew9] at hW
  have frw9 : ∀ id : Nat, id ≠ 31 → w9 id = w8 id := fun id h9 => by rw [ew9, up_ne h9]
  replace hk0 : w9 0 = some (.inr (6, [.ref (b + 1), .ref (b + 15), .ref (b + 2), .ref (b + 16), .ref (b + 29), .null, .null, .null])) := (frw9 _ (by omega)).trans hk0
  replace hmx9 : anyMix dA b w9 1 2 := hmx9.fr (fun id9 h7 h8 => (frw9 id9 (by omega)))
  replace hpl9 : isPlay dA b w9 2 P0 := hpl9.fr (fun id9 h7 h8 => frw9 id9 (by omega))
  replace hmx20 : anyMix dA b w9 15 16 := hmx20.fr (fun id9 h7 h8 => (frw9 id9 (by omega)))
  replace hpl20 : isPlay dA b w9 16 P0 := hpl20.fr (fun id9 h7 h8 => frw9 id9 (by omega))
  replace hho53 : w9 29 = some (.inr (2, [.ref (b + (30)), .int (nI 0)])) := (frw9 _ (by omega)).trans hho53
  replace hha53 : w9 30 = some (eQ dA 6 (fun _ => none)) := (frw9 _ (by omega)).trans hha53
  have hn61_9 : w9 31 = some (eQ dA 2 (fun _ => none)) := by rw [ew9]; exact up_eq
  refine q_putF hx hb hts hinX6 tyX6_ok nmX6 hown hG hW hS hk0 rfl 5 (by decide) (hts (.fieldLink RX6 38 "FoleyMixer" "snapshots" "[LFoleyMixer$Play;") (List.mem_of_getElem? (i := 16) rfl)) rfl rfl hin0 rfl rfl rfl (Nat.le_of_ble_eq_true rfl) dX6_init_64 (fun H locs hW hS hz64 => ?_)
  replace hz := hz64.trans hz
  obtain ⟨w10, ew10⟩ : ∃ wq__ : Wd, wq__ = va_up w9 0 (some (.inr (6, [.ref (b + 1), .ref (b + 15), .ref (b + 2), .ref (b + 16), .ref (b + 29), .ref (b + 31), .null, .null]))) := ⟨_, rfl⟩
  replace hW : WP D b w10 H := by rw [ew10]; exact hW
  have frw10 : ∀ id : Nat, id ≠ 0 → w10 id = w9 id := fun id h9 => by rw [ew10, up_ne h9]
  replace hmx9 : anyMix dA b w10 1 2 := hmx9.fr (fun id9 h7 h8 => (frw10 id9 (by omega)))
  replace hpl9 : isPlay dA b w10 2 P0 := hpl9.fr (fun id9 h7 h8 => frw10 id9 (by omega))
  replace hmx20 : anyMix dA b w10 15 16 := hmx20.fr (fun id9 h7 h8 => (frw10 id9 (by omega)))
  replace hpl20 : isPlay dA b w10 16 P0 := hpl20.fr (fun id9 h7 h8 => frw10 id9 (by omega))
  replace hho53 : w10 29 = some (.inr (2, [.ref (b + (30)), .int (nI 0)])) := (frw10 _ (by omega)).trans hho53
  replace hha53 : w10 30 = some (eQ dA 6 (fun _ => none)) := (frw10 _ (by omega)).trans hha53
  replace hn61_9 : w10 31 = some (eQ dA 2 (fun _ => none)) := (frw10 _ (by omega)).trans hn61_9
  replace hk0 : w10 0 = some (.inr (6, [.ref (b + 1), .ref (b + 15), .ref (b + 2), .ref (b + 16), .ref (b + 29), .ref (b + 31), .null, .null])) := by rw [ew10]; exact up_eq
  refine lv_aload_n hx hb dX6_init_67 rfl (lv_at hl 0 rfl) ?_
  refine q_new (ci := 5) (fs := [.null, .int (nI 0)]) hx hb hts hinX5 tyX5_ok hown (hts (.classLink RX6 42 RX5) (List.mem_of_getElem? (i := 17) rfl)) (hts (.instantiable RX5 2) (List.mem_of_getElem? (i := 18) rfl)) (hts (.initialized RX5) (List.mem_of_getElem? (i := 19) rfl)) hG hW hS hz rfl (fun j hj => by rcases (show j = 0 ∨ j = 1 by omega) with rfl | rfl <;> rfl) (Nat.le_of_ble_eq_true rfl) (Nat.le_of_ble_eq_true rfl) dX6_init_68 (fun H hW hS hz => ?_)
  obtain ⟨w11, ew11⟩ : ∃ wq__ : Wd, wq__ = va_up w10 32 (some (.inr (5, [.null, .int (nI 0)]))) := ⟨_, rfl⟩
  rw [← ew11] at hW
  have frw11 : ∀ id : Nat, id ≠ 32 → w11 id = w10 id := fun id h9 => by rw [ew11, up_ne h9]
  replace hk0 : w11 0 = some (.inr (6, [.ref (b + 1), .ref (b + 15), .ref (b + 2), .ref (b + 16), .ref (b + 29), .ref (b + 31), .null, .null])) := (frw11 _ (by omega)).trans hk0
  replace hmx9 : anyMix dA b w11 1 2 := hmx9.fr (fun id9 h7 h8 => (frw11 id9 (by omega)))
  replace hpl9 : isPlay dA b w11 2 P0 := hpl9.fr (fun id9 h7 h8 => frw11 id9 (by omega))
  replace hmx20 : anyMix dA b w11 15 16 := hmx20.fr (fun id9 h7 h8 => (frw11 id9 (by omega)))
  replace hpl20 : isPlay dA b w11 16 P0 := hpl20.fr (fun id9 h7 h8 => frw11 id9 (by omega))
  replace hho53 : w11 29 = some (.inr (2, [.ref (b + (30)), .int (nI 0)])) := (frw11 _ (by omega)).trans hho53
  replace hha53 : w11 30 = some (eQ dA 6 (fun _ => none)) := (frw11 _ (by omega)).trans hha53
  replace hn61_9 : w11 31 = some (eQ dA 2 (fun _ => none)) := (frw11 _ (by omega)).trans hn61_9
  have hn68_11 : w11 32 = some (.inr (5, [.null, .int (nI 0)])) := by rw [ew11]; exact up_eq
  refine lv_dup hx hb dX6_init_71 rfl ?_
  refine q_call (va_runIN (As := []) (rest := [.ref (b + 32), .ref (b + 0)]) ⟨hx, hb, hml, hown, hts⟩ (c_X5_init l hn68_11) ⟨(va_cnB 0 hts gX6_init_X5_init_n44 rfl rfl rfl (hG.nest 21 rfl) (hts (.initialized RX5) (List.mem_of_getElem? (i := 19) rfl)) (by decide +kernel) ⟨Nat.le_of_ble_eq_true rfl, Nat.le_of_ble_eq_true rfl⟩), rfl, (hts (.instanceMethod yX5_init) (List.mem_of_getElem? (i := 67) rfl))⟩ (q_preI hG hW hS (by omega)) rfl rfl hl.1 rfl (lv_room (Nat.le_of_ble_eq_true rfl)) dX6_init_72 ⟨Nat.le_of_ble_eq_true rfl, Nat.le_of_ble_eq_true rfl⟩) hS (fun w_72 H locs hp72 hW hS hz => ?_)
  obtain ⟨hsc72, fr72⟩ := hp72
  replace hk0 : w_72 0 = some (.inr (6, [.ref (b + 1), .ref (b + 15), .ref (b + 2), .ref (b + 16), .ref (b + 29), .ref (b + 31), .null, .null])) := (fr72 _ (by omega)).trans hk0
  replace hmx9 : anyMix dA b w_72 1 2 := hmx9.fr (fun id9 h7 h8 => (fr72 id9 (by omega)))
  replace hpl9 : isPlay dA b w_72 2 P0 := hpl9.fr (fun id9 h7 h8 => fr72 id9 (by omega))
  replace hmx20 : anyMix dA b w_72 15 16 := hmx20.fr (fun id9 h7 h8 => (fr72 id9 (by omega)))
  replace hpl20 : isPlay dA b w_72 16 P0 := hpl20.fr (fun id9 h7 h8 => fr72 id9 (by omega))
  replace hho53 : w_72 29 = some (.inr (2, [.ref (b + (30)), .int (nI 0)])) := (fr72 _ (by omega)).trans hho53
  replace hha53 : w_72 30 = some (eQ dA 6 (fun _ => none)) := (fr72 _ (by omega)).trans hha53
  replace hn61_9 : w_72 31 = some (eQ dA 2 (fun _ => none)) := (fr72 _ (by omega)).trans hn61_9
  refine q_putF hx hb hts hinX6 tyX6_ok nmX6 hown hG hW hS hk0 rfl 6 (by decide) (hts (.fieldLink RX6 45 "FoleyMixer" "script" "LFoleyMixer$Script;") (List.mem_of_getElem? (i := 20) rfl)) rfl rfl hin0 rfl rfl rfl (Nat.le_of_ble_eq_true rfl) dX6_init_75 (fun H locs hW hS hz75 => ?_)
  replace hz := hz75.trans hz
  obtain ⟨w12, ew12⟩ : ∃ wq__ : Wd, wq__ = va_up w_72 0 (some (.inr (6, [.ref (b + 1), .ref (b + 15), .ref (b + 2), .ref (b + 16), .ref (b + 29), .ref (b + 31), .ref (b + 32), .null]))) := ⟨_, rfl⟩
  replace hW : WP D b w12 H := by rw [ew12]; exact hW
  have frw12 : ∀ id : Nat, id ≠ 0 → w12 id = w_72 id := fun id h9 => by rw [ew12, up_ne h9]
  replace hmx9 : anyMix dA b w12 1 2 := hmx9.fr (fun id9 h7 h8 => (frw12 id9 (by omega)))
  replace hpl9 : isPlay dA b w12 2 P0 := hpl9.fr (fun id9 h7 h8 => frw12 id9 (by omega))
  replace hmx20 : anyMix dA b w12 15 16 := hmx20.fr (fun id9 h7 h8 => (frw12 id9 (by omega)))
  replace hpl20 : isPlay dA b w12 16 P0 := hpl20.fr (fun id9 h7 h8 => frw12 id9 (by omega))
  replace hho53 : w12 29 = some (.inr (2, [.ref (b + (30)), .int (nI 0)])) := (frw12 _ (by omega)).trans hho53
  replace hha53 : w12 30 = some (eQ dA 6 (fun _ => none)) := (frw12 _ (by omega)).trans hha53
  replace hn61_9 : w12 31 = some (eQ dA 2 (fun _ => none)) := (frw12 _ (by omega)).trans hn61_9
  replace hsc72 : isScr dA b w12 32 0 (fun _ => 0) := hsc72.fr (frw12 _ (by omega)) (frw12 _ (by omega))
  replace hk0 : w12 0 = some (.inr (6, [.ref (b + 1), .ref (b + 15), .ref (b + 2), .ref (b + 16), .ref (b + 29), .ref (b + 31), .ref (b + 32), .null])) := by rw [ew12]; exact up_eq
  refine lv_aload_n hx hb dX6_init_78 rfl (lv_at hl 0 rfl) ?_
  refine q_new (ci := 0) (fs := [.null, .int (nI 0), .int (nI 0)]) hx hb hts hinX0 tyX0_ok hown (hts (.classLink RX6 49 RX0) (List.mem_of_getElem? (i := 21) rfl)) (hts (.instantiable RX0 3) (List.mem_of_getElem? (i := 22) rfl)) (hts (.initialized RX0) (List.mem_of_getElem? (i := 23) rfl)) hG hW hS hz rfl (fun j hj => by rcases (show j = 0 ∨ j = 1 ∨ j = 2 by omega) with rfl | rfl | rfl <;> rfl) (Nat.le_of_ble_eq_true rfl) (Nat.le_of_ble_eq_true rfl) dX6_init_79 (fun H hW hS hz => ?_)
  obtain ⟨w13, ew13⟩ : ∃ wq__ : Wd, wq__ = va_up w12 34 (some (.inr (0, [.null, .int (nI 0), .int (nI 0)]))) := ⟨_, rfl⟩
  rw [← ew13] at hW
  have frw13 : ∀ id : Nat, id ≠ 34 → w13 id = w12 id := fun id h9 => by rw [ew13, up_ne h9]
  replace hk0 : w13 0 = some (.inr (6, [.ref (b + 1), .ref (b + 15), .ref (b + 2), .ref (b + 16), .ref (b + 29), .ref (b + 31), .ref (b + 32), .null])) := (frw13 _ (by omega)).trans hk0
  replace hmx9 : anyMix dA b w13 1 2 := hmx9.fr (fun id9 h7 h8 => (frw13 id9 (by omega)))
  replace hpl9 : isPlay dA b w13 2 P0 := hpl9.fr (fun id9 h7 h8 => frw13 id9 (by omega))
  replace hmx20 : anyMix dA b w13 15 16 := hmx20.fr (fun id9 h7 h8 => (frw13 id9 (by omega)))
  replace hpl20 : isPlay dA b w13 16 P0 := hpl20.fr (fun id9 h7 h8 => frw13 id9 (by omega))
  replace hho53 : w13 29 = some (.inr (2, [.ref (b + (30)), .int (nI 0)])) := (frw13 _ (by omega)).trans hho53
  replace hha53 : w13 30 = some (eQ dA 6 (fun _ => none)) := (frw13 _ (by omega)).trans hha53
  replace hn61_9 : w13 31 = some (eQ dA 2 (fun _ => none)) := (frw13 _ (by omega)).trans hn61_9
  replace hsc72 : isScr dA b w13 32 0 (fun _ => 0) := hsc72.fr (frw13 _ (by omega)) (frw13 _ (by omega))
  have hn79_13 : w13 34 = some (.inr (0, [.null, .int (nI 0), .int (nI 0)])) := by rw [ew13]; exact up_eq
  refine lv_dup hx hb dX6_init_82 rfl ?_
  refine q_call (va_runIN (As := []) (rest := [.ref (b + 34), .ref (b + 0)]) ⟨hx, hb, hml, hown, hts⟩ (c_X0_init l hn79_13) ⟨(va_cnB 0 hts gX6_init_X0_init_n51 rfl rfl rfl (hG.nest 22 rfl) (hts (.initialized RX0) (List.mem_of_getElem? (i := 23) rfl)) (by decide +kernel) ⟨Nat.le_of_ble_eq_true rfl, Nat.le_of_ble_eq_true rfl⟩), rfl, (hts (.instanceMethod yX0_init) (List.mem_of_getElem? (i := 72) rfl))⟩ (q_preI hG hW hS (by omega)) rfl rfl hl.1 rfl (lv_room (Nat.le_of_ble_eq_true rfl)) dX6_init_83 ⟨Nat.le_of_ble_eq_true rfl, Nat.le_of_ble_eq_true rfl⟩) hS (fun w_83 H locs hp83 hW hS hz => ?_)
  obtain ⟨hrd83, fr83⟩ := hp83
  replace hk0 : w_83 0 = some (.inr (6, [.ref (b + 1), .ref (b + 15), .ref (b + 2), .ref (b + 16), .ref (b + 29), .ref (b + 31), .ref (b + 32), .null])) := (fr83 _ (by omega)).trans hk0
  replace hmx9 : anyMix dA b w_83 1 2 := hmx9.fr (fun id9 h7 h8 => (fr83 id9 (by omega)))
  replace hpl9 : isPlay dA b w_83 2 P0 := hpl9.fr (fun id9 h7 h8 => fr83 id9 (by omega))
  replace hmx20 : anyMix dA b w_83 15 16 := hmx20.fr (fun id9 h7 h8 => (fr83 id9 (by omega)))
  replace hpl20 : isPlay dA b w_83 16 P0 := hpl20.fr (fun id9 h7 h8 => fr83 id9 (by omega))
  replace hho53 : w_83 29 = some (.inr (2, [.ref (b + (30)), .int (nI 0)])) := (fr83 _ (by omega)).trans hho53
  replace hha53 : w_83 30 = some (eQ dA 6 (fun _ => none)) := (fr83 _ (by omega)).trans hha53
  replace hn61_9 : w_83 31 = some (eQ dA 2 (fun _ => none)) := (fr83 _ (by omega)).trans hn61_9
  replace hsc72 : isScr dA b w_83 32 0 (fun _ => 0) := hsc72.fr (fr83 _ (by omega)) (fr83 _ (by omega))
  refine q_putF hx hb hts hinX6 tyX6_ok nmX6 hown hG hW hS hk0 rfl 7 (by decide) (hts (.fieldLink RX6 52 "FoleyMixer" "reader" "LFoleyMixer$CueReader;") (List.mem_of_getElem? (i := 24) rfl)) rfl rfl hin0 rfl rfl rfl (Nat.le_of_ble_eq_true rfl) dX6_init_86 (fun H locs hW hS hz86 => ?_)
  replace hz := hz86.trans hz
  obtain ⟨w14, ew14⟩ : ∃ wq__ : Wd, wq__ = va_up w_83 0 (some (.inr (6, [.ref (b + 1), .ref (b + 15), .ref (b + 2), .ref (b + 16), .ref (b + 29), .ref (b + 31), .ref (b + 32), .ref (b + 34)]))) := ⟨_, rfl⟩
  replace hW : WP D b w14 H := by rw [ew14]; exact hW
  have frw14 : ∀ id : Nat, id ≠ 0 → w14 id = w_83 id := fun id h9 => by rw [ew14, up_ne h9]
  replace hmx9 : anyMix dA b w14 1 2 := hmx9.fr (fun id9 h7 h8 => (frw14 id9 (by omega)))
  replace hpl9 : isPlay dA b w14 2 P0 := hpl9.fr (fun id9 h7 h8 => frw14 id9 (by omega))
  replace hmx20 : anyMix dA b w14 15 16 := hmx20.fr (fun id9 h7 h8 => (frw14 id9 (by omega)))
  replace hpl20 : isPlay dA b w14 16 P0 := hpl20.fr (fun id9 h7 h8 => frw14 id9 (by omega))
  replace hho53 : w14 29 = some (.inr (2, [.ref (b + (30)), .int (nI 0)])) := (frw14 _ (by omega)).trans hho53
  replace hha53 : w14 30 = some (eQ dA 6 (fun _ => none)) := (frw14 _ (by omega)).trans hha53
  replace hn61_9 : w14 31 = some (eQ dA 2 (fun _ => none)) := (frw14 _ (by omega)).trans hn61_9
  replace hsc72 : isScr dA b w14 32 0 (fun _ => 0) := hsc72.fr (frw14 _ (by omega)) (frw14 _ (by omega))
  replace hrd83 : isRdr dA b w14 34 ((3, -1, fun _ => some 0)) := hrd83.fr (frw14 _ (by omega)) (frw14 _ (by omega))
  replace hk0 : w14 0 = some (.inr (6, [.ref (b + 1), .ref (b + 15), .ref (b + 2), .ref (b + 16), .ref (b + 29), .ref (b + 31), .ref (b + 32), .ref (b + 34)])) := by rw [ew14]; exact up_eq
  exact q_zv hx hb hr hlocks hW hS (by omega) dX6_init_89 (by exact ⟨⟨hk0, hpl9, hpl20, hmx9, hmx20, hho53, hha53, hn61_9, hsc72, hrd83⟩, by intro id h9; rw [frw14 id (by omega)]; rw [fr83 id (by omega)]; rw [frw13 id (by omega)]; rw [frw12 id (by omega)]; rw [fr72 id (by omega)]; rw [frw11 id (by omega)]; rw [frw10 id (by omega)]; rw [frw9 id (by omega)]; rw [frw8 id (by omega)]; rw [fr53 id (by omega)]; rw [frw7 id (by omega)]; rw [frw6 id (by omega)]; rw [frw5 id (by omega)]; rw [frw4 id (by omega)]; rw [fr20 id (by omega)]; rw [frw3 id (by omega)]; rw [frw2 id (by omega)]; rw [fr9 id (by omega)]; rw [frw1 id (by omega)]; try rfl⟩) (by decide) (by decide)

theorem isSys_new {dA : Nat → Nat} {b : Nat} {w w' : Wd} {lo : Nat} (h : w 0 = some (sysO b) ∧ isPlay dA b w 2 P0 ∧ isPlay dA b w 16 P0 ∧ anyMix dA b w 1 2 ∧ anyMix dA b w 15 16 ∧ w 29 = some (.inr (2, [.ref (b + (29 + 1)), .int (nI 0)])) ∧ w (29 + 1) = some (eQ dA 6 (fun _ => none)) ∧ w 31 = some (eQ dA 2 (fun _ => none)) ∧ isScr dA b w 32 0 (fun _ => 0) ∧ isRdr dA b w 34 (3, -1, fun _ => some 0)) (hw : ∀ id, id < 36 → w' id = w id) (hlo : 46 ≤ lo) (hex : ∃ e : va_E, w' (lo - 1) = some e) : isSys dA b w' lo (P0, (0, fun _ => P0), (fun _ => none), (0, fun _ => 0)) := by
  obtain ⟨h0, h1, h7, h13, h21, h29, h30, h31, h32, h34⟩ := h
  refine ⟨(hw _ (by omega)).trans h0, h1.fr (fun id a c => hw id (by omega)), ⟨⟨_, h7.fr (fun id a c => hw id (by omega))⟩, h13.fr (fun id a c => hw id (by omega)), h21.fr (fun id a c => hw id (by omega))⟩, ⟨0, fun _ => 0, fun _ => P0, fun _ => none, ⟨(hw _ (by omega)).trans h29, (hw _ (by omega)).trans (h30.trans (eQ_congr fun j => by rw [if_neg (Nat.not_lt_zero _)])), Nat.le_refl _, Nat.zero_le _, fun i hi => absurd hi (Nat.not_lt_zero _), fun i hi => absurd hi (Nat.not_lt_zero _), fun i j hi => absurd hi (Nat.not_lt_zero _)⟩, fun i hi => absurd hi (Nat.not_lt_zero _), (hw _ (by omega)).trans h31, fun j hj q hq => (nomatch hq), fun j hj _ => rfl, fun q r hq => (nomatch hq)⟩, h32.fr (hw _ (by omega)) (hw _ (by omega)), ⟨_, h34.fr (hw _ (by omega)) (hw _ (by omega))⟩, hlo, hex⟩
