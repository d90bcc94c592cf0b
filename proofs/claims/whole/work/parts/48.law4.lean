set_option maxHeartbeats 1000000 in
set_option maxRecDepth 100000 in
/-- case 20: leastDucking -/
theorem law_20 {p : Program} {l : Launch} {e : Env} {s : State} {m : MethodId} {args : Array Value} {below : List Frame} {meth : Method} {c : Code} {Q : State → Prop} {b0 L : Nat} {xs : Nat → Int32} {D : va_G} {dA : Nat → Nat} {b : Nat} (F9 : LWF p l s m args c b0 L xs D dA b) {w : Wd} {lo : Nat} {A : Sy} {H : Heap} {locs : List Loc} (V : LWV D dA b s w H locs lo A) {cells slots : Nat} (hcc : cells ≤ 600000) (hss : slots ≤ 7000000) {i : Nat} (hi : i + 5 ≤ L) {ls : Array Slot} (hl : LWL b b0 ls (nI i))
    (K : ∀ (w1 : Wd) (H1 : Heap) (locs1 : List Loc) (A1 : Sy) (ls1 : Array Slot), LWV D dA b s w1 H1 locs1 lo A1 → LWL b b0 ls1 (nI i) → W p l e room_1 s m args below meth c H1 locs1 (cells + 7) (slots + 116) Q (F0 m 1597 ls1 [])) : W p l e room_1 s m args below meth c H locs cells slots Q (F0 m 1351 ls []) := by
  obtain ⟨hl0, hx, hb, hml, hown, hts, hX, hbl, hb0, hG, hL⟩ := F9
  obtain ⟨hs, ⟨tt, hm⟩, ⟨O9, h45⟩, hW, hS⟩ := V
  obtain ⟨P, ⟨n, Hs⟩, SL, nc, C⟩ := A
  have hlo : 46 ≤ lo := hs.2.2.2.2.2.2.1
  have hP := sys_ok hs
  change okP P at hP
  have hl : lv_has ls 9 [(0, .ref b0), (1, .ref (b + 0)), (2, .ref (b + 36)), (3, .ref (b + 45)), (4, .int (nI i))] := hl
  refine lv_aload_n hx hb dL_law_1351 rfl (lv_at hl 1 rfl) ?_
  refine q_W1 (va_runV (As := []) (rest := []) ⟨hx, hb, hml, hown, hts⟩ (c_X6_leastDucking l hs ) (cwV 0 hts lg_X6_leastDucking rfl rfl rfl (by decide +kernel) ⟨Nat.le_of_ble_eq_true rfl, Nat.le_of_ble_eq_true rfl⟩) (q_preV hG hW hS hs.1 rfl) rfl rfl hl.1 rfl (lv_room (Nat.le_of_ble_eq_true rfl)) dL_law_1352 ⟨by show _ ≤ 601024; omega, by show _ ≤ 7293034; omega⟩) hS (fun w_1352 H locs hp1352 hW hS => ?_)
  obtain ⟨hs, hf5⟩ := hp1352
  replace hm := hm.fr (fun id h8 h9 => hf5 id h8 (by omega))
  replace h45 := (hf5 45 (by omega) (by omega)).trans h45
  refine lv_aload_n hx hb dL_law_1355 rfl (lv_at hl 2 rfl) ?_
  obtain ⟨fs1356, ho36⟩ := hm.obj
  refine q_W1 (va_runV (As := []) (rest := [.int (ldk P 21)]) ⟨hx, hb, hml, hown, hts⟩ (c_X7_leastDucking l hm ) (cwV 0 hts lg_X7_leastDucking rfl rfl rfl (by decide +kernel) ⟨Nat.le_of_ble_eq_true rfl, Nat.le_of_ble_eq_true rfl⟩) (q_preV hG hW hS ho36 rfl) rfl rfl hl.1 rfl (lv_room (Nat.le_of_ble_eq_true rfl)) dL_law_1356 ⟨by show _ ≤ 601024; omega, by show _ ≤ 7293034; omega⟩) hS (fun w_1356 H locs hp1356 hW hS => ?_)
  obtain ⟨hm, hfm⟩ := hp1356
  replace hs := hs.mod hfm
  replace h45 := (hfm 45 (by omega)).trans h45
  refine lv_icmp_eq (tgt := 1597) hx hb dL_law_1359 (by decide) (fun c_1359 => ?_) (fun c_1359 => ?_)
  · skip
    exact W.widen (by omega) (by omega) (K _ _ _ _ _ ⟨hs, ⟨_, hm⟩, ⟨_, h45⟩, hW, hS⟩ (lv_sub hl [0, 1, 2, 3, 4] rfl))
  · skip
    exact absurd rfl c_1359

set_option maxHeartbeats 1000000 in
set_option maxRecDepth 100000 in
/-- case 21: ifSet -/
theorem law_21 {p : Program} {l : Launch} {e : Env} {s : State} {m : MethodId} {args : Array Value} {below : List Frame} {meth : Method} {c : Code} {Q : State → Prop} {b0 L : Nat} {xs : Nat → Int32} {D : va_G} {dA : Nat → Nat} {b : Nat} (F9 : LWF p l s m args c b0 L xs D dA b) {w : Wd} {lo : Nat} {A : Sy} {H : Heap} {locs : List Loc} (V : LWV D dA b s w H locs lo A) {cells slots : Nat} (hcc : cells ≤ 600000) (hss : slots ≤ 7000000) {i : Nat} (hi : i + 5 ≤ L) {ls : Array Slot} (hl : LWL b b0 ls (nI i))
    (K : ∀ (w1 : Wd) (H1 : Heap) (locs1 : List Loc) (A1 : Sy) (ls1 : Array Slot), LWV D dA b s w1 H1 locs1 lo A1 → LWL b b0 ls1 (nI i) → W p l e room_1 s m args below meth c H1 locs1 (cells + 7) (slots + 116) Q (F0 m 1597 ls1 [])) : W p l e room_1 s m args below meth c H locs cells slots Q (F0 m 1364 ls []) := by
  obtain ⟨hl0, hx, hb, hml, hown, hts, hX, hbl, hb0, hG, hL⟩ := F9
  obtain ⟨hs, ⟨tt, hm⟩, ⟨O9, h45⟩, hW, hS⟩ := V
  obtain ⟨P, ⟨n, Hs⟩, SL, nc, C⟩ := A
  have hlo : 46 ≤ lo := hs.2.2.2.2.2.2.1
  have hP := sys_ok hs
  change okP P at hP
  have hl : lv_has ls 9 [(0, .ref b0), (1, .ref (b + 0)), (2, .ref (b + 36)), (3, .ref (b + 45)), (4, .int (nI i))] := hl
  obtain ⟨x, hx9⟩ : ∃ q : Int32, xs (i + 1) = q := ⟨_, rfl⟩
  obtain ⟨y, hy9⟩ : ∃ q : Int32, xs (i + 2) = q := ⟨_, rfl⟩
  obtain ⟨z, hz9⟩ : ∃ q : Int32, xs (i + 3) = q := ⟨_, rfl⟩
  refine lv_aload_n hx hb dL_law_1364 rfl (lv_at hl 1 rfl) ?_
  refine lv_aload_n hx hb dL_law_1365 rfl (lv_at hl 0 rfl) ?_
  refine lv_iload hx hb dL_law_1366 (lv_at hl 4 rfl) ?_
  refine lv_iconst (v := nI 1) hx hb dL_law_1368 (by decide) ?_
  refine lv_iadd hx hb dL_law_1369 ?_
  refine q_top (y := nI (i + 1)) (nI_add _ _) ?_
  refine q_sld hx hb hX hbl hb0 hS hx9 (by omega) hL dL_law_1370 ?_
  refine lv_aload_n hx hb dL_law_1371 rfl (lv_at hl 0 rfl) ?_
  refine lv_iload hx hb dL_law_1372 (lv_at hl 4 rfl) ?_
  refine lv_iconst (v := nI 2) hx hb dL_law_1374 (by decide) ?_
  refine lv_iadd hx hb dL_law_1375 ?_
  refine q_top (y := nI (i + 2)) (nI_add _ _) ?_
  refine q_sld hx hb hX hbl hb0 hS hy9 (by omega) hL dL_law_1376 ?_
  refine lv_aload_n hx hb dL_law_1377 rfl (lv_at hl 0 rfl) ?_
  refine lv_iload hx hb dL_law_1378 (lv_at hl 4 rfl) ?_
  refine lv_iconst (v := nI 3) hx hb dL_law_1380 (by decide) ?_
  refine lv_iadd hx hb dL_law_1381 ?_
  refine q_top (y := nI (i + 3)) (nI_add _ _) ?_
  refine q_sld hx hb hX hbl hb0 hS hz9 (by omega) hL dL_law_1382 ?_
  refine lv_aload_n hx hb dL_law_1383 rfl (lv_at hl 3 rfl) ?_
  refine q_XE1 (vx_runSX (As := [.ref (b + 0), .int (x), .int (y), .int (z), .ref (b + 45)]) (rest := []) ⟨hx, hb, hml, hown, hts⟩ (c_L_ifSet l hl0 hs h45 (x) (y) (z)) (vx_cwSW 5 hts lg_L_ifSet rfl rfl rfl (by decide +kernel) ⟨Nat.le_of_ble_eq_true rfl, Nat.le_of_ble_eq_true rfl⟩) (q_preS hG hW hS) rfl rfl hl.1 rfl (lv_room (Nat.le_of_ble_eq_true rfl)) dL_law_1384 ⟨by show _ ≤ 601024; omega, by show _ ≤ 7293034; omega⟩) hS (fun r1384 w_1384 H locs hp1384 hW hS => ?_)
  obtain ⟨hor, hf5⟩ := hp1384
  replace hm := hm.fr hf5
  clear hs h45
  rcases hor with ⟨hr9, hc, hs, h45⟩ | ⟨hr9, hc, hs, h45⟩ | ⟨hr9, hc, hs, h45⟩
  · skip
    subst hr9
    refine lv_istore (lv' := [(5, .int (nI 0)), (0, .ref (b0)), (1, .ref (b + 0)), (2, .ref (b + 36)), (3, .ref (b + 45)), (4, .int (nI i))]) hx hb dL_law_1387 hl (by decide) rfl (fun ls hl => ?_)
    refine lv_aload_n hx hb dL_law_1389 rfl (lv_at hl 3 rfl) ?_
    refine lv_aload_n hx hb dL_law_1390 rfl (lv_at hl 1 rfl) ?_
    refine lv_iload hx hb dL_law_1391 (lv_at hl 5 rfl) ?_
    refine lv_iconst (v := nI 1) hx hb dL_law_1393 (by decide) ?_
    refine lv_iadd hx hb dL_law_1394 ?_
    refine q_top (y := nI (i + 1)) (nI_add _ _) ?_
    refine q_sld hx hb hX hbl hb0 hS hx9 (by omega) hL dL_law_1395 ?_
    refine lv_aload_n hx hb dL_law_1396 rfl (lv_at hl 1 rfl) ?_
    refine lv_iload hx hb dL_law_1397 (lv_at hl 5 rfl) ?_
    refine lv_iconst (v := nI 2) hx hb dL_law_1399 (by decide) ?_
    refine lv_iadd hx hb dL_law_1400 ?_
    refine q_top (y := nI (i + 2)) (nI_add _ _) ?_
    refine q_sld hx hb hX hbl hb0 hS hy9 (by omega) hL dL_law_1401 ?_
    refine lv_aload_n hx hb dL_law_1402 rfl (lv_at hl 1 rfl) ?_
    refine lv_iload hx hb dL_law_1403 (lv_at hl 5 rfl) ?_
    refine lv_iconst (v := nI 3) hx hb dL_law_1405 (by decide) ?_
    refine lv_iadd hx hb dL_law_1406 ?_
    refine q_top (y := nI (i + 3)) (nI_add _ _) ?_
    refine q_sld hx hb hX hbl hb0 hS hz9 (by omega) hL dL_law_1407 ?_
    obtain ⟨fs1408, ho36⟩ := hm.obj
    refine q_W1 (va_runV (As := [.int (x), .int (y), .int (z)]) (rest := []) ⟨hx, hb, hml, hown, hts⟩ (c_X7_ifSet l hm (x) (y) (z)) (cwV 3 hts lg_X7_ifSet rfl rfl rfl (by decide +kernel) ⟨Nat.le_of_ble_eq_true rfl, Nat.le_of_ble_eq_true rfl⟩) (q_preV hG hW hS ho36 rfl) rfl rfl hl.1 rfl (lv_room (Nat.le_of_ble_eq_true rfl)) dL_law_1408 ⟨by show _ ≤ 601024; omega, by show _ ≤ 7293034; omega⟩) hS (fun w_1408 H locs hp1408 hW hS => ?_)
    obtain ⟨hd, hfm⟩ := hp1408
    replace hs := hs.mod hfm
    replace h45 := (hfm 45 (by omega)).trans h45
    clear hm
    rcases hd with ⟨hc2, hm⟩ | ⟨hc2, hm⟩ | ⟨hc2, hm⟩
    · skip
      refine q_topv (v' := .int (nI (if i32n z = 0 then und (setS P (i32n x) (i32n y)) else ams (setS P (i32n x) (i32n y))))) (congrArg Value.int (if_pos hc2)) ?_
      refine lv_istore (lv' := [(6, .int (nI (if i32n z = 0 then und (setS P (i32n x) (i32n y)) else ams (setS P (i32n x) (i32n y))))), (5, .int (nI 0)), (0, .ref (b0)), (1, .ref (b + 0)), (2, .ref (b + 36)), (3, .ref (b + 45)), (4, .int (nI i))]) hx hb dL_law_1411 hl (by decide) rfl (fun ls hl => ?_)
      refine lv_aload_n hx hb dL_law_1413 rfl (lv_at hl 4 rfl) ?_
      obtain ⟨fs1414, ho36⟩ := hm.obj
      refine q_R1 (va_runV (As := []) (rest := []) ⟨hx, hb, hml, hown, hts⟩ (c_thr l hm) (cwV 0 hts lg_X7_thrown rfl rfl rfl (by decide +kernel) ⟨Nat.le_of_ble_eq_true rfl, Nat.le_of_ble_eq_true rfl⟩) (q_preV hG hW hS ho36 rfl) rfl rfl hl.1 rfl (lv_room (Nat.le_of_ble_eq_true rfl)) dL_law_1414 ⟨by show _ ≤ 601024; omega, by show _ ≤ 7293034; omega⟩) ?_
      refine lv_iload hx hb dL_law_1417 (lv_at hl 1 rfl) ?_
      refine lv_icmp_eq (tgt := 1424) hx hb dL_law_1419 (by decide) (fun c_1419 => ?_) (fun c_1419 => ?_)
      · skip
        have c_1419 : 0 = 0 := (nI_eq (a := 0) (b := 0) (by omega) (by omega)).mp c_1419
        refine lv_iload hx hb dL_law_1424 (lv_at hl 1 rfl) ?_
        refine lv_if_ne (tgt := 1441) hx hb dL_law_1426 (by decide) (fun c_1426 => ?_) (fun c_1426 => ?_)
        · skip
          have c_1426 : ¬ (0 = 0) := fun h__ => c_1426 ((nI_eq0 (i := 0) (by omega)).mpr h__)
          exact absurd c_1426 (by omega)
        · skip
          have c_1426 : 0 = 0 := (nI_eq0 (i := 0) (by omega)).mp c_1426
          refine lv_aload_n hx hb dL_law_1429 rfl (lv_at hl 5 rfl) ?_
          refine lv_iconst (v := nI 0) hx hb dL_law_1430 (by decide) ?_
          refine q_lald hx hb hG hW h45 (by decide) (by decide) dL_law_1431 ?_
          refine q_topv (v' := .long ((nI (if i32n z = 0 then und (setS P (i32n x) (i32n y)) else ams (setS P (i32n x) (i32n y)))).toInt64)) (by rw [va_up_self]) ?_
          refine lv_iload hx hb dL_law_1432 (lv_at hl 0 rfl) ?_
          refine lv_i2l hx hb dL_law_1434 rfl ?_
          refine W.lcmp hx hb dL_law_1435 ?_
          refine q_topv (v' := .int (nI 0)) (congrArg Value.int (lg_cmp_self _)) ?_
          refine lv_if_eq (tgt := 1441) hx hb dL_law_1436 (by decide) (fun c_1436 => ?_) (fun c_1436 => ?_)
          · skip
            have c_1436 : 0 = 0 := (nI_eq0 (i := 0) (by omega)).mp c_1436
            refine lv_goto (tgt := 1597) hx hb dL_law_1441 (by decide) ?_
            exact W.widen (by omega) (by omega) (K _ _ _ _ _ ⟨hs, ⟨_, hm⟩, ⟨_, h45⟩, hW, hS⟩ (lv_sub hl [2, 3, 4, 5, 6] rfl))
          · skip
            have c_1436 : ¬ (0 = 0) := fun h__ => c_1436 ((nI_eq0 (i := 0) (by omega)).mpr h__)
            exact absurd c_1436 (by omega)
      · skip
        have c_1419 : ¬ (0 = 0) := fun h__ => c_1419 ((nI_eq (a := 0) (b := 0) (by omega) (by omega)).mpr h__)
        exact absurd c_1419 (by omega)
    · skip
      first | exact absurd hc hc2 | exact absurd hc2 hc | exact absurd hc.1 hc2 | exact absurd hc2.1 hc | exact absurd hc.2 hc2.2 | exact absurd hc2.2 hc.2 | (exact absurd hc.2 (by omega)) | (exact absurd hc (by omega)) | (exact absurd hc2.2 (by omega))
    · skip
      first | exact absurd hc hc2 | exact absurd hc2 hc | exact absurd hc.1 hc2 | exact absurd hc2.1 hc | exact absurd hc.2 hc2.2 | exact absurd hc2.2 hc.2 | (exact absurd hc.2 (by omega)) | (exact absurd hc (by omega)) | (exact absurd hc2.2 (by omega))
  · skip
    subst hr9
    refine lv_istore (lv' := [(5, .int (nI 1)), (0, .ref (b0)), (1, .ref (b + 0)), (2, .ref (b + 36)), (3, .ref (b + 45)), (4, .int (nI i))]) hx hb dL_law_1387 hl (by decide) rfl (fun ls hl => ?_)
    refine lv_aload_n hx hb dL_law_1389 rfl (lv_at hl 3 rfl) ?_
    refine lv_aload_n hx hb dL_law_1390 rfl (lv_at hl 1 rfl) ?_
    refine lv_iload hx hb dL_law_1391 (lv_at hl 5 rfl) ?_
    refine lv_iconst (v := nI 1) hx hb dL_law_1393 (by decide) ?_
    refine lv_iadd hx hb dL_law_1394 ?_
    refine q_top (y := nI (i + 1)) (nI_add _ _) ?_
    refine q_sld hx hb hX hbl hb0 hS hx9 (by omega) hL dL_law_1395 ?_
    refine lv_aload_n hx hb dL_law_1396 rfl (lv_at hl 1 rfl) ?_
    refine lv_iload hx hb dL_law_1397 (lv_at hl 5 rfl) ?_
    refine lv_iconst (v := nI 2) hx hb dL_law_1399 (by decide) ?_
    refine lv_iadd hx hb dL_law_1400 ?_
    refine q_top (y := nI (i + 2)) (nI_add _ _) ?_
    refine q_sld hx hb hX hbl hb0 hS hy9 (by omega) hL dL_law_1401 ?_
    refine lv_aload_n hx hb dL_law_1402 rfl (lv_at hl 1 rfl) ?_
    refine lv_iload hx hb dL_law_1403 (lv_at hl 5 rfl) ?_
    refine lv_iconst (v := nI 3) hx hb dL_law_1405 (by decide) ?_
    refine lv_iadd hx hb dL_law_1406 ?_
    refine q_top (y := nI (i + 3)) (nI_add _ _) ?_
    refine q_sld hx hb hX hbl hb0 hS hz9 (by omega) hL dL_law_1407 ?_
    obtain ⟨fs1408, ho36⟩ := hm.obj
    refine q_W1 (va_runV (As := [.int (x), .int (y), .int (z)]) (rest := []) ⟨hx, hb, hml, hown, hts⟩ (c_X7_ifSet l hm (x) (y) (z)) (cwV 3 hts lg_X7_ifSet rfl rfl rfl (by decide +kernel) ⟨Nat.le_of_ble_eq_true rfl, Nat.le_of_ble_eq_true rfl⟩) (q_preV hG hW hS ho36 rfl) rfl rfl hl.1 rfl (lv_room (Nat.le_of_ble_eq_true rfl)) dL_law_1408 ⟨by show _ ≤ 601024; omega, by show _ ≤ 7293034; omega⟩) hS (fun w_1408 H locs hp1408 hW hS => ?_)
    obtain ⟨hd, hfm⟩ := hp1408
    replace hs := hs.mod hfm
    replace h45 := (hfm 45 (by omega)).trans h45
    clear hm
    rcases hd with ⟨hc2, hm⟩ | ⟨hc2, hm⟩ | ⟨hc2, hm⟩
    · skip
      first | exact absurd hc hc2 | exact absurd hc2 hc | exact absurd hc.1 hc2 | exact absurd hc2.1 hc | exact absurd hc.2 hc2.2 | exact absurd hc2.2 hc.2 | (exact absurd hc.2 (by omega)) | (exact absurd hc (by omega)) | (exact absurd hc2.2 (by omega))
    · skip
      refine q_topv (v' := .int (nI 0)) (congrArg Value.int (if_neg (fun q9 => by first | exact hc2 q9 | exact hc2 q9.1 | exact absurd q9.2 (by omega) | exact hc2.2 q9.2 | exact q9.2 hc2.2 | omega))) ?_
      refine lv_istore (lv' := [(6, .int (nI 0)), (5, .int (nI 1)), (0, .ref (b0)), (1, .ref (b + 0)), (2, .ref (b + 36)), (3, .ref (b + 45)), (4, .int (nI i))]) hx hb dL_law_1411 hl (by decide) rfl (fun ls hl => ?_)
      refine lv_aload_n hx hb dL_law_1413 rfl (lv_at hl 4 rfl) ?_
      obtain ⟨fs1414, ho36⟩ := hm.obj
      refine q_R1 (va_runV (As := []) (rest := []) ⟨hx, hb, hml, hown, hts⟩ (c_thr l hm) (cwV 0 hts lg_X7_thrown rfl rfl rfl (by decide +kernel) ⟨Nat.le_of_ble_eq_true rfl, Nat.le_of_ble_eq_true rfl⟩) (q_preV hG hW hS ho36 rfl) rfl rfl hl.1 rfl (lv_room (Nat.le_of_ble_eq_true rfl)) dL_law_1414 ⟨by show _ ≤ 601024; omega, by show _ ≤ 7293034; omega⟩) ?_
      refine lv_iload hx hb dL_law_1417 (lv_at hl 1 rfl) ?_
      refine lv_icmp_eq (tgt := 1424) hx hb dL_law_1419 (by decide) (fun c_1419 => ?_) (fun c_1419 => ?_)
      · skip
        have c_1419 : 1 = 1 := (nI_eq (a := 1) (b := 1) (by omega) (by omega)).mp c_1419
        refine lv_iload hx hb dL_law_1424 (lv_at hl 1 rfl) ?_
        refine lv_if_ne (tgt := 1441) hx hb dL_law_1426 (by decide) (fun c_1426 => ?_) (fun c_1426 => ?_)
        · skip
          have c_1426 : ¬ (1 = 0) := fun h__ => c_1426 ((nI_eq0 (i := 1) (by omega)).mpr h__)
          refine lv_goto (tgt := 1597) hx hb dL_law_1441 (by decide) ?_
          exact W.widen (by omega) (by omega) (K _ _ _ _ _ ⟨hs, ⟨_, hm⟩, ⟨_, h45⟩, hW, hS⟩ (lv_sub hl [2, 3, 4, 5, 6] rfl))
        · skip
          have c_1426 : 1 = 0 := (nI_eq0 (i := 1) (by omega)).mp c_1426
          exact absurd c_1426 (by omega)
      · skip
        have c_1419 : ¬ (1 = 1) := fun h__ => c_1419 ((nI_eq (a := 1) (b := 1) (by omega) (by omega)).mpr h__)
        exact absurd c_1419 (by omega)
    · skip
      first | exact absurd hc hc2 | exact absurd hc2 hc | exact absurd hc.1 hc2 | exact absurd hc2.1 hc | exact absurd hc.2 hc2.2 | exact absurd hc2.2 hc.2 | (exact absurd hc.2 (by omega)) | (exact absurd hc (by omega)) | (exact absurd hc2.2 (by omega))
  · skip
    subst hr9
    refine lv_istore (lv' := [(5, .int (nI 2)), (0, .ref (b0)), (1, .ref (b + 0)), (2, .ref (b + 36)), (3, .ref (b + 45)), (4, .int (nI i))]) hx hb dL_law_1387 hl (by decide) rfl (fun ls hl => ?_)
    refine lv_aload_n hx hb dL_law_1389 rfl (lv_at hl 3 rfl) ?_
    refine lv_aload_n hx hb dL_law_1390 rfl (lv_at hl 1 rfl) ?_
    refine lv_iload hx hb dL_law_1391 (lv_at hl 5 rfl) ?_
    refine lv_iconst (v := nI 1) hx hb dL_law_1393 (by decide) ?_
    refine lv_iadd hx hb dL_law_1394 ?_
    refine q_top (y := nI (i + 1)) (nI_add _ _) ?_
    refine q_sld hx hb hX hbl hb0 hS hx9 (by omega) hL dL_law_1395 ?_
    refine lv_aload_n hx hb dL_law_1396 rfl (lv_at hl 1 rfl) ?_
    refine lv_iload hx hb dL_law_1397 (lv_at hl 5 rfl) ?_
    refine lv_iconst (v := nI 2) hx hb dL_law_1399 (by decide) ?_
    refine lv_iadd hx hb dL_law_1400 ?_
    refine q_top (y := nI (i + 2)) (nI_add _ _) ?_
    refine q_sld hx hb hX hbl hb0 hS hy9 (by omega) hL dL_law_1401 ?_
    refine lv_aload_n hx hb dL_law_1402 rfl (lv_at hl 1 rfl) ?_
    refine lv_iload hx hb dL_law_1403 (lv_at hl 5 rfl) ?_
    refine lv_iconst (v := nI 3) hx hb dL_law_1405 (by decide) ?_
    refine lv_iadd hx hb dL_law_1406 ?_
    refine q_top (y := nI (i + 3)) (nI_add _ _) ?_
    refine q_sld hx hb hX hbl hb0 hS hz9 (by omega) hL dL_law_1407 ?_
    obtain ⟨fs1408, ho36⟩ := hm.obj
    refine q_W1 (va_runV (As := [.int (x), .int (y), .int (z)]) (rest := []) ⟨hx, hb, hml, hown, hts⟩ (c_X7_ifSet l hm (x) (y) (z)) (cwV 3 hts lg_X7_ifSet rfl rfl rfl (by decide +kernel) ⟨Nat.le_of_ble_eq_true rfl, Nat.le_of_ble_eq_true rfl⟩) (q_preV hG hW hS ho36 rfl) rfl rfl hl.1 rfl (lv_room (Nat.le_of_ble_eq_true rfl)) dL_law_1408 ⟨by show _ ≤ 601024; omega, by show _ ≤ 7293034; omega⟩) hS (fun w_1408 H locs hp1408 hW hS => ?_)
    obtain ⟨hd, hfm⟩ := hp1408
    replace hs := hs.mod hfm
    replace h45 := (hfm 45 (by omega)).trans h45
    clear hm
    rcases hd with ⟨hc2, hm⟩ | ⟨hc2, hm⟩ | ⟨hc2, hm⟩
    · skip
      first | exact absurd hc hc2 | exact absurd hc2 hc | exact absurd hc.1 hc2 | exact absurd hc2.1 hc | exact absurd hc.2 hc2.2 | exact absurd hc2.2 hc.2 | (exact absurd hc.2 (by omega)) | (exact absurd hc (by omega)) | (exact absurd hc2.2 (by omega))
    · skip
      first | exact absurd hc hc2 | exact absurd hc2 hc | exact absurd hc.1 hc2 | exact absurd hc2.1 hc | exact absurd hc.2 hc2.2 | exact absurd hc2.2 hc.2 | (exact absurd hc.2 (by omega)) | (exact absurd hc (by omega)) | (exact absurd hc2.2 (by omega))
    · skip
      refine q_topv (v' := .int (nI 0)) (congrArg Value.int (if_neg (fun q9 => by first | exact hc2 q9 | exact hc2 q9.1 | exact absurd q9.2 (by omega) | exact hc2.2 q9.2 | exact q9.2 hc2.2 | omega))) ?_
      refine lv_istore (lv' := [(6, .int (nI 0)), (5, .int (nI 2)), (0, .ref (b0)), (1, .ref (b + 0)), (2, .ref (b + 36)), (3, .ref (b + 45)), (4, .int (nI i))]) hx hb dL_law_1411 hl (by decide) rfl (fun ls hl => ?_)
      refine lv_aload_n hx hb dL_law_1413 rfl (lv_at hl 4 rfl) ?_
      obtain ⟨fs1414, ho36⟩ := hm.obj
      refine q_R1 (va_runV (As := []) (rest := []) ⟨hx, hb, hml, hown, hts⟩ (c_thr l hm) (cwV 0 hts lg_X7_thrown rfl rfl rfl (by decide +kernel) ⟨Nat.le_of_ble_eq_true rfl, Nat.le_of_ble_eq_true rfl⟩) (q_preV hG hW hS ho36 rfl) rfl rfl hl.1 rfl (lv_room (Nat.le_of_ble_eq_true rfl)) dL_law_1414 ⟨by show _ ≤ 601024; omega, by show _ ≤ 7293034; omega⟩) ?_
      refine lv_iload hx hb dL_law_1417 (lv_at hl 1 rfl) ?_
      refine lv_icmp_eq (tgt := 1424) hx hb dL_law_1419 (by decide) (fun c_1419 => ?_) (fun c_1419 => ?_)
      · skip
        have c_1419 : 2 = 2 := (nI_eq (a := 2) (b := 2) (by omega) (by omega)).mp c_1419
        refine lv_iload hx hb dL_law_1424 (lv_at hl 1 rfl) ?_
        refine lv_if_ne (tgt := 1441) hx hb dL_law_1426 (by decide) (fun c_1426 => ?_) (fun c_1426 => ?_)
        · skip
          have c_1426 : ¬ (2 = 0) := fun h__ => c_1426 ((nI_eq0 (i := 2) (by omega)).mpr h__)
          refine lv_goto (tgt := 1597) hx hb dL_law_1441 (by decide) ?_
          exact W.widen (by omega) (by omega) (K _ _ _ _ _ ⟨hs, ⟨_, hm⟩, ⟨_, h45⟩, hW, hS⟩ (lv_sub hl [2, 3, 4, 5, 6] rfl))
        · skip
          have c_1426 : 2 = 0 := (nI_eq0 (i := 2) (by omega)).mp c_1426
          exact absurd c_1426 (by omega)
      · skip
        have c_1419 : ¬ (2 = 2) := fun h__ => c_1419 ((nI_eq (a := 2) (b := 2) (by omega) (by omega)).mpr h__)
        exact absurd c_1419 (by omega)

set_option maxHeartbeats 1000000 in
set_option maxRecDepth 100000 in
/-- case 22: bestShift -/
theorem law_22 {p : Program} {l : Launch} {e : Env} {s : State} {m : MethodId} {args : Array Value} {below : List Frame} {meth : Method} {c : Code} {Q : State → Prop} {b0 L : Nat} {xs : Nat → Int32} {D : va_G} {dA : Nat → Nat} {b : Nat} (F9 : LWF p l s m args c b0 L xs D dA b) {w : Wd} {lo : Nat} {A : Sy} {H : Heap} {locs : List Loc} (V : LWV D dA b s w H locs lo A) {cells slots : Nat} (hcc : cells ≤ 600000) (hss : slots ≤ 7000000) {i : Nat} (hi : i + 5 ≤ L) {ls : Array Slot} (hl : LWL b b0 ls (nI i))
    (K : ∀ (w1 : Wd) (H1 : Heap) (locs1 : List Loc) (A1 : Sy) (ls1 : Array Slot), LWV D dA b s w1 H1 locs1 lo A1 → LWL b b0 ls1 (nI i) → W p l e room_1 s m args below meth c H1 locs1 (cells + 7) (slots + 116) Q (F0 m 1597 ls1 [])) : W p l e room_1 s m args below meth c H locs cells slots Q (F0 m 1444 ls []) := by
  obtain ⟨hl0, hx, hb, hml, hown, hts, hX, hbl, hb0, hG, hL⟩ := F9
  obtain ⟨hs, ⟨tt, hm⟩, ⟨O9, h45⟩, hW, hS⟩ := V
  obtain ⟨P, ⟨n, Hs⟩, SL, nc, C⟩ := A
  have hlo : 46 ≤ lo := hs.2.2.2.2.2.2.1
  have hP := sys_ok hs
  change okP P at hP
  have hl : lv_has ls 9 [(0, .ref b0), (1, .ref (b + 0)), (2, .ref (b + 36)), (3, .ref (b + 45)), (4, .int (nI i))] := hl
  obtain ⟨x, hx9⟩ : ∃ q : Int32, xs (i + 1) = q := ⟨_, rfl⟩
  refine lv_aload_n hx hb dL_law_1444 rfl (lv_at hl 1 rfl) ?_
  refine lv_aload_n hx hb dL_law_1445 rfl (lv_at hl 0 rfl) ?_
  refine lv_iload hx hb dL_law_1446 (lv_at hl 4 rfl) ?_
  refine lv_iconst (v := nI 1) hx hb dL_law_1448 (by decide) ?_
  refine lv_iadd hx hb dL_law_1449 ?_
  refine q_top (y := nI (i + 1)) (nI_add _ _) ?_
  refine q_sld hx hb hX hbl hb0 hS hx9 (by omega) hL dL_law_1450 ?_
  refine lv_aload_n hx hb dL_law_1451 rfl (lv_at hl 3 rfl) ?_
  refine q_XE1 (vx_runSX (As := [.ref (b + 0), .int (x), .ref (b + 45)]) (rest := []) ⟨hx, hb, hml, hown, hts⟩ (c_L_bestShift l hl0 hs h45 (x)) (vx_cwSW 3 hts lg_L_bestShift rfl rfl rfl (by decide +kernel) ⟨Nat.le_of_ble_eq_true rfl, Nat.le_of_ble_eq_true rfl⟩) (q_preS hG hW hS) rfl rfl hl.1 rfl (lv_room (Nat.le_of_ble_eq_true rfl)) dL_law_1452 ⟨by show _ ≤ 601024; omega, by show _ ≤ 7293034; omega⟩) hS (fun r1452 w_1452 H locs hp1452 hW hS => ?_)
  obtain ⟨hor, hf5⟩ := hp1452
  replace hm := hm.fr hf5
  clear hs h45
  rcases hor with ⟨hr9, hc, hs, h45⟩ | ⟨hr9, hc, hs, h45⟩
  · skip
    subst hr9
    refine lv_istore (lv' := [(5, .int (nI 0)), (0, .ref (b0)), (1, .ref (b + 0)), (2, .ref (b + 36)), (3, .ref (b + 45)), (4, .int (nI i))]) hx hb dL_law_1455 hl (by decide) rfl (fun ls hl => ?_)
    refine lv_aload_n hx hb dL_law_1457 rfl (lv_at hl 3 rfl) ?_
    refine lv_aload_n hx hb dL_law_1458 rfl (lv_at hl 1 rfl) ?_
    refine lv_iload hx hb dL_law_1459 (lv_at hl 5 rfl) ?_
    refine lv_iconst (v := nI 1) hx hb dL_law_1461 (by decide) ?_
    refine lv_iadd hx hb dL_law_1462 ?_
    refine q_top (y := nI (i + 1)) (nI_add _ _) ?_
    refine q_sld hx hb hX hbl hb0 hS hx9 (by omega) hL dL_law_1463 ?_
    obtain ⟨fs1464, ho36⟩ := hm.obj
    refine q_W1 (va_runV (As := [.int (x)]) (rest := []) ⟨hx, hb, hml, hown, hts⟩ (c_X7_bestShift l hm (x)) (cwV 1 hts lg_X7_bestShift rfl rfl rfl (by decide +kernel) ⟨Nat.le_of_ble_eq_true rfl, Nat.le_of_ble_eq_true rfl⟩) (q_preV hG hW hS ho36 rfl) rfl rfl hl.1 rfl (lv_room (Nat.le_of_ble_eq_true rfl)) dL_law_1464 ⟨by show _ ≤ 601024; omega, by show _ ≤ 7293034; omega⟩) hS (fun w_1464 H locs hp1464 hW hS => ?_)
    obtain ⟨hd, hfm⟩ := hp1464
    replace hs := hs.mod hfm
    replace h45 := (hfm 45 (by omega)).trans h45
    clear hm
    rcases hd with ⟨hc2, hm⟩ | ⟨hc2, hm⟩
    · skip
      refine q_topv (v' := .int ((bsh P (i32n x) 21).1 + nI 10)) (congrArg Value.int (if_pos hc2)) ?_
      refine lv_istore (lv' := [(6, .int ((bsh P (i32n x) 21).1 + nI 10)), (5, .int (nI 0)), (0, .ref (b0)), (1, .ref (b + 0)), (2, .ref (b + 36)), (3, .ref (b + 45)), (4, .int (nI i))]) hx hb dL_law_1467 hl (by decide) rfl (fun ls hl => ?_)
      refine lv_aload_n hx hb dL_law_1469 rfl (lv_at hl 4 rfl) ?_
      obtain ⟨fs1470, ho36⟩ := hm.obj
      refine q_R1 (va_runV (As := []) (rest := []) ⟨hx, hb, hml, hown, hts⟩ (c_thr l hm) (cwV 0 hts lg_X7_thrown rfl rfl rfl (by decide +kernel) ⟨Nat.le_of_ble_eq_true rfl, Nat.le_of_ble_eq_true rfl⟩) (q_preV hG hW hS ho36 rfl) rfl rfl hl.1 rfl (lv_room (Nat.le_of_ble_eq_true rfl)) dL_law_1470 ⟨by show _ ≤ 601024; omega, by show _ ≤ 7293034; omega⟩) ?_
      refine lv_iload hx hb dL_law_1473 (lv_at hl 1 rfl) ?_
      refine lv_icmp_eq (tgt := 1480) hx hb dL_law_1475 (by decide) (fun c_1475 => ?_) (fun c_1475 => ?_)
      · skip
        have c_1475 : 0 = 0 := (nI_eq (a := 0) (b := 0) (by omega) (by omega)).mp c_1475
        refine lv_iload hx hb dL_law_1480 (lv_at hl 1 rfl) ?_
        refine lv_if_ne (tgt := 1497) hx hb dL_law_1482 (by decide) (fun c_1482 => ?_) (fun c_1482 => ?_)
        · skip
          have c_1482 : ¬ (0 = 0) := fun h__ => c_1482 ((nI_eq0 (i := 0) (by omega)).mpr h__)
          exact absurd c_1482 (by omega)
        · skip
          have c_1482 : 0 = 0 := (nI_eq0 (i := 0) (by omega)).mp c_1482
          refine lv_aload_n hx hb dL_law_1485 rfl (lv_at hl 5 rfl) ?_
          refine lv_iconst (v := nI 0) hx hb dL_law_1486 (by decide) ?_
          refine q_lald hx hb hG hW h45 (by decide) (by decide) dL_law_1487 ?_
          refine q_topv (v' := .long (((bsh P (i32n x) 21).1 + nI 10).toInt64)) (by rw [va_up_self]) ?_
          refine lv_iload hx hb dL_law_1488 (lv_at hl 0 rfl) ?_
          refine lv_i2l hx hb dL_law_1490 rfl ?_
          refine W.lcmp hx hb dL_law_1491 ?_
          refine q_topv (v' := .int (nI 0)) (congrArg Value.int (lg_cmp_self _)) ?_
          refine lv_if_eq (tgt := 1497) hx hb dL_law_1492 (by decide) (fun c_1492 => ?_) (fun c_1492 => ?_)
          · skip
            have c_1492 : 0 = 0 := (nI_eq0 (i := 0) (by omega)).mp c_1492
            refine lv_goto (tgt := 1597) hx hb dL_law_1497 (by decide) ?_
            exact W.widen (by omega) (by omega) (K _ _ _ _ _ ⟨hs, ⟨_, hm⟩, ⟨_, h45⟩, hW, hS⟩ (lv_sub hl [2, 3, 4, 5, 6] rfl))
          · skip
            have c_1492 : ¬ (0 = 0) := fun h__ => c_1492 ((nI_eq0 (i := 0) (by omega)).mpr h__)
            exact absurd c_1492 (by omega)
      · skip
        have c_1475 : ¬ (0 = 0) := fun h__ => c_1475 ((nI_eq (a := 0) (b := 0) (by omega) (by omega)).mpr h__)
        exact absurd c_1475 (by omega)
    · skip
      first | exact absurd hc hc2 | exact absurd hc2 hc | exact absurd hc.1 hc2 | exact absurd hc2.1 hc | exact absurd hc.2 hc2.2 | exact absurd hc2.2 hc.2 | (exact absurd hc.2 (by omega)) | (exact absurd hc (by omega)) | (exact absurd hc2.2 (by omega))
  · skip
    subst hr9
    refine lv_istore (lv' := [(5, .int (nI 1)), (0, .ref (b0)), (1, .ref (b + 0)), (2, .ref (b + 36)), (3, .ref (b + 45)), (4, .int (nI i))]) hx hb dL_law_1455 hl (by decide) rfl (fun ls hl => ?_)
    refine lv_aload_n hx hb dL_law_1457 rfl (lv_at hl 3 rfl) ?_
    refine lv_aload_n hx hb dL_law_1458 rfl (lv_at hl 1 rfl) ?_
    refine lv_iload hx hb dL_law_1459 (lv_at hl 5 rfl) ?_
    refine lv_iconst (v := nI 1) hx hb dL_law_1461 (by decide) ?_
    refine lv_iadd hx hb dL_law_1462 ?_
    refine q_top (y := nI (i + 1)) (nI_add _ _) ?_
    refine q_sld hx hb hX hbl hb0 hS hx9 (by omega) hL dL_law_1463 ?_
    obtain ⟨fs1464, ho36⟩ := hm.obj
    refine q_W1 (va_runV (As := [.int (x)]) (rest := []) ⟨hx, hb, hml, hown, hts⟩ (c_X7_bestShift l hm (x)) (cwV 1 hts lg_X7_bestShift rfl rfl rfl (by decide +kernel) ⟨Nat.le_of_ble_eq_true rfl, Nat.le_of_ble_eq_true rfl⟩) (q_preV hG hW hS ho36 rfl) rfl rfl hl.1 rfl (lv_room (Nat.le_of_ble_eq_true rfl)) dL_law_1464 ⟨by show _ ≤ 601024; omega, by show _ ≤ 7293034; omega⟩) hS (fun w_1464 H locs hp1464 hW hS => ?_)
    obtain ⟨hd, hfm⟩ := hp1464
    replace hs := hs.mod hfm
    replace h45 := (hfm 45 (by omega)).trans h45
    clear hm
    rcases hd with ⟨hc2, hm⟩ | ⟨hc2, hm⟩
    · skip
      first | exact absurd hc hc2 | exact absurd hc2 hc | exact absurd hc.1 hc2 | exact absurd hc2.1 hc | exact absurd hc.2 hc2.2 | exact absurd hc2.2 hc.2 | (exact absurd hc.2 (by omega)) | (exact absurd hc (by omega)) | (exact absurd hc2.2 (by omega))
    · skip
      refine q_topv (v' := .int (nI 0)) (congrArg Value.int (if_neg (fun q9 => by first | exact hc2 q9 | exact hc2 q9.1 | exact absurd q9.2 (by omega) | exact hc2.2 q9.2 | exact q9.2 hc2.2 | omega))) ?_
      refine lv_istore (lv' := [(6, .int (nI 0)), (5, .int (nI 1)), (0, .ref (b0)), (1, .ref (b + 0)), (2, .ref (b + 36)), (3, .ref (b + 45)), (4, .int (nI i))]) hx hb dL_law_1467 hl (by decide) rfl (fun ls hl => ?_)
      refine lv_aload_n hx hb dL_law_1469 rfl (lv_at hl 4 rfl) ?_
      obtain ⟨fs1470, ho36⟩ := hm.obj
      refine q_R1 (va_runV (As := []) (rest := []) ⟨hx, hb, hml, hown, hts⟩ (c_thr l hm) (cwV 0 hts lg_X7_thrown rfl rfl rfl (by decide +kernel) ⟨Nat.le_of_ble_eq_true rfl, Nat.le_of_ble_eq_true rfl⟩) (q_preV hG hW hS ho36 rfl) rfl rfl hl.1 rfl (lv_room (Nat.le_of_ble_eq_true rfl)) dL_law_1470 ⟨by show _ ≤ 601024; omega, by show _ ≤ 7293034; omega⟩) ?_
      refine lv_iload hx hb dL_law_1473 (lv_at hl 1 rfl) ?_
      refine lv_icmp_eq (tgt := 1480) hx hb dL_law_1475 (by decide) (fun c_1475 => ?_) (fun c_1475 => ?_)
      · skip
        have c_1475 : 1 = 1 := (nI_eq (a := 1) (b := 1) (by omega) (by omega)).mp c_1475
        refine lv_iload hx hb dL_law_1480 (lv_at hl 1 rfl) ?_
        refine lv_if_ne (tgt := 1497) hx hb dL_law_1482 (by decide) (fun c_1482 => ?_) (fun c_1482 => ?_)
        · skip
          have c_1482 : ¬ (1 = 0) := fun h__ => c_1482 ((nI_eq0 (i := 1) (by omega)).mpr h__)
          refine lv_goto (tgt := 1597) hx hb dL_law_1497 (by decide) ?_
          exact W.widen (by omega) (by omega) (K _ _ _ _ _ ⟨hs, ⟨_, hm⟩, ⟨_, h45⟩, hW, hS⟩ (lv_sub hl [2, 3, 4, 5, 6] rfl))
        · skip
          have c_1482 : 1 = 0 := (nI_eq0 (i := 1) (by omega)).mp c_1482
          exact absurd c_1482 (by omega)
      · skip
        have c_1475 : ¬ (1 = 1) := fun h__ => c_1475 ((nI_eq (a := 1) (b := 1) (by omega) (by omega)).mpr h__)
        exact absurd c_1475 (by omega)

set_option maxHeartbeats 1000000 in
set_option maxRecDepth 100000 in
/-- case 23: loudestQuiet -/
theorem law_23 {p : Program} {l : Launch} {e : Env} {s : State} {m : MethodId} {args : Array Value} {below : List Frame} {meth : Method} {c : Code} {Q : State → Prop} {b0 L : Nat} {xs : Nat → Int32} {D : va_G} {dA : Nat → Nat} {b : Nat} (F9 : LWF p l s m args c b0 L xs D dA b) {w : Wd} {lo : Nat} {A : Sy} {H : Heap} {locs : List Loc} (V : LWV D dA b s w H locs lo A) {cells slots : Nat} (hcc : cells ≤ 600000) (hss : slots ≤ 7000000) {i : Nat} (hi : i + 5 ≤ L) {ls : Array Slot} (hl : LWL b b0 ls (nI i))
    (K : ∀ (w1 : Wd) (H1 : Heap) (locs1 : List Loc) (A1 : Sy) (ls1 : Array Slot), LWV D dA b s w1 H1 locs1 lo A1 → LWL b b0 ls1 (nI i) → W p l e room_1 s m args below meth c H1 locs1 (cells + 7) (slots + 116) Q (F0 m 1597 ls1 [])) : W p l e room_1 s m args below meth c H locs cells slots Q (F0 m 1500 ls []) := by
  obtain ⟨hl0, hx, hb, hml, hown, hts, hX, hbl, hb0, hG, hL⟩ := F9
  obtain ⟨hs, ⟨tt, hm⟩, ⟨O9, h45⟩, hW, hS⟩ := V
  obtain ⟨P, ⟨n, Hs⟩, SL, nc, C⟩ := A
  have hlo : 46 ≤ lo := hs.2.2.2.2.2.2.1
  have hP := sys_ok hs
  change okP P at hP
  have hl : lv_has ls 9 [(0, .ref b0), (1, .ref (b + 0)), (2, .ref (b + 36)), (3, .ref (b + 45)), (4, .int (nI i))] := hl
  obtain ⟨x, hx9⟩ : ∃ q : Int32, xs (i + 1) = q := ⟨_, rfl⟩
  refine lv_aload_n hx hb dL_law_1500 rfl (lv_at hl 1 rfl) ?_
  refine lv_aload_n hx hb dL_law_1501 rfl (lv_at hl 0 rfl) ?_
  refine lv_iload hx hb dL_law_1502 (lv_at hl 4 rfl) ?_
  refine lv_iconst (v := nI 1) hx hb dL_law_1504 (by decide) ?_
  refine lv_iadd hx hb dL_law_1505 ?_
  refine q_top (y := nI (i + 1)) (nI_add _ _) ?_
  refine q_sld hx hb hX hbl hb0 hS hx9 (by omega) hL dL_law_1506 ?_
  refine lv_aload_n hx hb dL_law_1507 rfl (lv_at hl 3 rfl) ?_
  refine q_XE1 (vx_runSX (As := [.ref (b + 0), .int (x), .ref (b + 45)]) (rest := []) ⟨hx, hb, hml, hown, hts⟩ (c_L_loudestQuiet l hl0 hs h45 (x)) (vx_cwSW 3 hts lg_L_loudestQuiet rfl rfl rfl (by decide +kernel) ⟨Nat.le_of_ble_eq_true rfl, Nat.le_of_ble_eq_true rfl⟩) (q_preS hG hW hS) rfl rfl hl.1 rfl (lv_room (Nat.le_of_ble_eq_true rfl)) dL_law_1508 ⟨by show _ ≤ 601024; omega, by show _ ≤ 7293034; omega⟩) hS (fun r1508 w_1508 H locs hp1508 hW hS => ?_)
  obtain ⟨hor, hf5⟩ := hp1508
  replace hm := hm.fr hf5
  clear hs h45
  rcases hor with ⟨hr9, hc, hs, h45⟩ | ⟨hr9, hc, hs, h45⟩
  · skip
    subst hr9
    refine lv_istore (lv' := [(5, .int (nI 0)), (0, .ref (b0)), (1, .ref (b + 0)), (2, .ref (b + 36)), (3, .ref (b + 45)), (4, .int (nI i))]) hx hb dL_law_1511 hl (by decide) rfl (fun ls hl => ?_)
    refine lv_aload_n hx hb dL_law_1513 rfl (lv_at hl 3 rfl) ?_
    refine lv_aload_n hx hb dL_law_1514 rfl (lv_at hl 1 rfl) ?_
    refine lv_iload hx hb dL_law_1515 (lv_at hl 5 rfl) ?_
    refine lv_iconst (v := nI 1) hx hb dL_law_1517 (by decide) ?_
    refine lv_iadd hx hb dL_law_1518 ?_
    refine q_top (y := nI (i + 1)) (nI_add _ _) ?_
    refine q_sld hx hb hX hbl hb0 hS hx9 (by omega) hL dL_law_1519 ?_
    obtain ⟨fs1520, ho36⟩ := hm.obj
    refine q_W1 (va_runV (As := [.int (x)]) (rest := []) ⟨hx, hb, hml, hown, hts⟩ (c_X7_loudestQuiet l hm (x)) (cwV 1 hts lg_X7_loudestQuiet rfl rfl rfl (by decide +kernel) ⟨Nat.le_of_ble_eq_true rfl, Nat.le_of_ble_eq_true rfl⟩) (q_preV hG hW hS ho36 rfl) rfl rfl hl.1 rfl (lv_room (Nat.le_of_ble_eq_true rfl)) dL_law_1520 ⟨by show _ ≤ 601024; omega, by show _ ≤ 7293034; omega⟩) hS (fun w_1520 H locs hp1520 hW hS => ?_)
    obtain ⟨hd, hfm⟩ := hp1520
    replace hs := hs.mod hfm
    replace h45 := (hfm 45 (by omega)).trans h45
    clear hm
    rcases hd with ⟨hc2, hm⟩ | ⟨hc2, hm⟩
    · skip
      refine q_topv (v' := .int (nI (lqt P (i32n x) (ams (delN P (i32n x))) 30))) (congrArg Value.int (if_pos hc2)) ?_
      refine lv_istore (lv' := [(6, .int (nI (lqt P (i32n x) (ams (delN P (i32n x))) 30))), (5, .int (nI 0)), (0, .ref (b0)), (1, .ref (b + 0)), (2, .ref (b + 36)), (3, .ref (b + 45)), (4, .int (nI i))]) hx hb dL_law_1523 hl (by decide) rfl (fun ls hl => ?_)
      refine lv_aload_n hx hb dL_law_1525 rfl (lv_at hl 4 rfl) ?_
      obtain ⟨fs1526, ho36⟩ := hm.obj
      refine q_R1 (va_runV (As := []) (rest := []) ⟨hx, hb, hml, hown, hts⟩ (c_thr l hm) (cwV 0 hts lg_X7_thrown rfl rfl rfl (by decide +kernel) ⟨Nat.le_of_ble_eq_true rfl, Nat.le_of_ble_eq_true rfl⟩) (q_preV hG hW hS ho36 rfl) rfl rfl hl.1 rfl (lv_room (Nat.le_of_ble_eq_true rfl)) dL_law_1526 ⟨by show _ ≤ 601024; omega, by show _ ≤ 7293034; omega⟩) ?_
      refine lv_iload hx hb dL_law_1529 (lv_at hl 1 rfl) ?_
      refine lv_icmp_eq (tgt := 1536) hx hb dL_law_1531 (by decide) (fun c_1531 => ?_) (fun c_1531 => ?_)
      · skip
        have c_1531 : 0 = 0 := (nI_eq (a := 0) (b := 0) (by omega) (by omega)).mp c_1531
        refine lv_iload hx hb dL_law_1536 (lv_at hl 1 rfl) ?_
        refine lv_if_ne (tgt := 1553) hx hb dL_law_1538 (by decide) (fun c_1538 => ?_) (fun c_1538 => ?_)
        · skip
          have c_1538 : ¬ (0 = 0) := fun h__ => c_1538 ((nI_eq0 (i := 0) (by omega)).mpr h__)
          exact absurd c_1538 (by omega)
        · skip
          have c_1538 : 0 = 0 := (nI_eq0 (i := 0) (by omega)).mp c_1538
          refine lv_aload_n hx hb dL_law_1541 rfl (lv_at hl 5 rfl) ?_
          refine lv_iconst (v := nI 0) hx hb dL_law_1542 (by decide) ?_
          refine q_lald hx hb hG hW h45 (by decide) (by decide) dL_law_1543 ?_
          refine q_topv (v' := .long ((nI (lqt P (i32n x) (ams (delN P (i32n x))) 30)).toInt64)) (by rw [va_up_self]) ?_
          refine lv_iload hx hb dL_law_1544 (lv_at hl 0 rfl) ?_
          refine lv_i2l hx hb dL_law_1546 rfl ?_
          refine W.lcmp hx hb dL_law_1547 ?_
          refine q_topv (v' := .int (nI 0)) (congrArg Value.int (lg_cmp_self _)) ?_
          refine lv_if_eq (tgt := 1553) hx hb dL_law_1548 (by decide) (fun c_1548 => ?_) (fun c_1548 => ?_)
          · skip
            have c_1548 : 0 = 0 := (nI_eq0 (i := 0) (by omega)).mp c_1548
            refine lv_goto (tgt := 1597) hx hb dL_law_1553 (by decide) ?_
            exact W.widen (by omega) (by omega) (K _ _ _ _ _ ⟨hs, ⟨_, hm⟩, ⟨_, h45⟩, hW, hS⟩ (lv_sub hl [2, 3, 4, 5, 6] rfl))
          · skip
            have c_1548 : ¬ (0 = 0) := fun h__ => c_1548 ((nI_eq0 (i := 0) (by omega)).mpr h__)
            exact absurd c_1548 (by omega)
      · skip
        have c_1531 : ¬ (0 = 0) := fun h__ => c_1531 ((nI_eq (a := 0) (b := 0) (by omega) (by omega)).mpr h__)
        exact absurd c_1531 (by omega)
    · skip
      first | exact absurd hc hc2 | exact absurd hc2 hc | exact absurd hc.1 hc2 | exact absurd hc2.1 hc | exact absurd hc.2 hc2.2 | exact absurd hc2.2 hc.2 | (exact absurd hc.2 (by omega)) | (exact absurd hc (by omega)) | (exact absurd hc2.2 (by omega))
  · skip
    subst hr9
    refine lv_istore (lv' := [(5, .int (nI 1)), (0, .ref (b0)), (1, .ref (b + 0)), (2, .ref (b + 36)), (3, .ref (b + 45)), (4, .int (nI i))]) hx hb dL_law_1511 hl (by decide) rfl (fun ls hl => ?_)
    refine lv_aload_n hx hb dL_law_1513 rfl (lv_at hl 3 rfl) ?_
    refine lv_aload_n hx hb dL_law_1514 rfl (lv_at hl 1 rfl) ?_
    refine lv_iload hx hb dL_law_1515 (lv_at hl 5 rfl) ?_
    refine lv_iconst (v := nI 1) hx hb dL_law_1517 (by decide) ?_
    refine lv_iadd hx hb dL_law_1518 ?_
    refine q_top (y := nI (i + 1)) (nI_add _ _) ?_
    refine q_sld hx hb hX hbl hb0 hS hx9 (by omega) hL dL_law_1519 ?_
    obtain ⟨fs1520, ho36⟩ := hm.obj
    refine q_W1 (va_runV (As := [.int (x)]) (rest := []) ⟨hx, hb, hml, hown, hts⟩ (c_X7_loudestQuiet l hm (x)) (cwV 1 hts lg_X7_loudestQuiet rfl rfl rfl (by decide +kernel) ⟨Nat.le_of_ble_eq_true rfl, Nat.le_of_ble_eq_true rfl⟩) (q_preV hG hW hS ho36 rfl) rfl rfl hl.1 rfl (lv_room (Nat.le_of_ble_eq_true rfl)) dL_law_1520 ⟨by show _ ≤ 601024; omega, by show _ ≤ 7293034; omega⟩) hS (fun w_1520 H locs hp1520 hW hS => ?_)
    obtain ⟨hd, hfm⟩ := hp1520
    replace hs := hs.mod hfm
    replace h45 := (hfm 45 (by omega)).trans h45
    clear hm
    rcases hd with ⟨hc2, hm⟩ | ⟨hc2, hm⟩
    · skip
      first | exact absurd hc hc2 | exact absurd hc2 hc | exact absurd hc.1 hc2 | exact absurd hc2.1 hc | exact absurd hc.2 hc2.2 | exact absurd hc2.2 hc.2 | (exact absurd hc.2 (by omega)) | (exact absurd hc (by omega)) | (exact absurd hc2.2 (by omega))
    · skip
      refine q_topv (v' := .int (nI 0)) (congrArg Value.int (if_neg (fun q9 => by first | exact hc2 q9 | exact hc2 q9.1 | exact absurd q9.2 (by omega) | exact hc2.2 q9.2 | exact q9.2 hc2.2 | omega))) ?_
      refine lv_istore (lv' := [(6, .int (nI 0)), (5, .int (nI 1)), (0, .ref (b0)), (1, .ref (b + 0)), (2, .ref (b + 36)), (3, .ref (b + 45)), (4, .int (nI i))]) hx hb dL_law_1523 hl (by decide) rfl (fun ls hl => ?_)
      refine lv_aload_n hx hb dL_law_1525 rfl (lv_at hl 4 rfl) ?_
      obtain ⟨fs1526, ho36⟩ := hm.obj
      refine q_R1 (va_runV (As := []) (rest := []) ⟨hx, hb, hml, hown, hts⟩ (c_thr l hm) (cwV 0 hts lg_X7_thrown rfl rfl rfl (by decide +kernel) ⟨Nat.le_of_ble_eq_true rfl, Nat.le_of_ble_eq_true rfl⟩) (q_preV hG hW hS ho36 rfl) rfl rfl hl.1 rfl (lv_room (Nat.le_of_ble_eq_true rfl)) dL_law_1526 ⟨by show _ ≤ 601024; omega, by show _ ≤ 7293034; omega⟩) ?_
      refine lv_iload hx hb dL_law_1529 (lv_at hl 1 rfl) ?_
      refine lv_icmp_eq (tgt := 1536) hx hb dL_law_1531 (by decide) (fun c_1531 => ?_) (fun c_1531 => ?_)
      · skip
        have c_1531 : 1 = 1 := (nI_eq (a := 1) (b := 1) (by omega) (by omega)).mp c_1531
        refine lv_iload hx hb dL_law_1536 (lv_at hl 1 rfl) ?_
        refine lv_if_ne (tgt := 1553) hx hb dL_law_1538 (by decide) (fun c_1538 => ?_) (fun c_1538 => ?_)
        · skip
          have c_1538 : ¬ (1 = 0) := fun h__ => c_1538 ((nI_eq0 (i := 1) (by omega)).mpr h__)
          refine lv_goto (tgt := 1597) hx hb dL_law_1553 (by decide) ?_
          exact W.widen (by omega) (by omega) (K _ _ _ _ _ ⟨hs, ⟨_, hm⟩, ⟨_, h45⟩, hW, hS⟩ (lv_sub hl [2, 3, 4, 5, 6] rfl))
        · skip
          have c_1538 : 1 = 0 := (nI_eq0 (i := 1) (by omega)).mp c_1538
          exact absurd c_1538 (by omega)
      · skip
        have c_1531 : ¬ (1 = 1) := fun h__ => c_1531 ((nI_eq (a := 1) (b := 1) (by omega) (by omega)).mpr h__)
        exact absurd c_1531 (by omega)

set_option maxHeartbeats 1000000 in
set_option maxRecDepth 100000 in
/-- case 24: heard -/
theorem law_24 {p : Program} {l : Launch} {e : Env} {s : State} {m : MethodId} {args : Array Value} {below : List Frame} {meth : Method} {c : Code} {Q : State → Prop} {b0 L : Nat} {xs : Nat → Int32} {D : va_G} {dA : Nat → Nat} {b : Nat} (F9 : LWF p l s m args c b0 L xs D dA b) {w : Wd} {lo : Nat} {A : Sy} {H : Heap} {locs : List Loc} (V : LWV D dA b s w H locs lo A) {cells slots : Nat} (hcc : cells ≤ 600000) (hss : slots ≤ 7000000) {i : Nat} (hi : i + 5 ≤ L) {ls : Array Slot} (hl : LWL b b0 ls (nI i))
    (K : ∀ (w1 : Wd) (H1 : Heap) (locs1 : List Loc) (A1 : Sy) (ls1 : Array Slot), LWV D dA b s w1 H1 locs1 lo A1 → LWL b b0 ls1 (nI i) → W p l e room_1 s m args below meth c H1 locs1 (cells + 7) (slots + 116) Q (F0 m 1597 ls1 [])) : W p l e room_1 s m args below meth c H locs cells slots Q (F0 m 1556 ls []) := by
  obtain ⟨hl0, hx, hb, hml, hown, hts, hX, hbl, hb0, hG, hL⟩ := F9
  obtain ⟨hs, ⟨tt, hm⟩, ⟨O9, h45⟩, hW, hS⟩ := V
  obtain ⟨P, ⟨n, Hs⟩, SL, nc, C⟩ := A
  have hlo : 46 ≤ lo := hs.2.2.2.2.2.2.1
  have hP := sys_ok hs
  change okP P at hP
  have hl : lv_has ls 9 [(0, .ref b0), (1, .ref (b + 0)), (2, .ref (b + 36)), (3, .ref (b + 45)), (4, .int (nI i))] := hl
  refine lv_aload_n hx hb dL_law_1556 rfl (lv_at hl 1 rfl) ?_
  refine q_W1 (va_runV (As := []) (rest := []) ⟨hx, hb, hml, hown, hts⟩ (c_X6_heard l hs ) (cwV 0 hts lg_X6_heard rfl rfl rfl (by decide +kernel) ⟨Nat.le_of_ble_eq_true rfl, Nat.le_of_ble_eq_true rfl⟩) (q_preV hG hW hS hs.1 rfl) rfl rfl hl.1 rfl (lv_room (Nat.le_of_ble_eq_true rfl)) dL_law_1557 ⟨by show _ ≤ 601024; omega, by show _ ≤ 7293034; omega⟩) hS (fun w_1557 H locs hp1557 hW hS => ?_)
  obtain ⟨hs, hf5⟩ := hp1557
  replace hm := hm.fr (fun id h8 h9 => hf5 id h8 (by omega))
  replace h45 := (hf5 45 (by omega) (by omega)).trans h45
  refine lv_dstore (lv' := [(5, .double (hrP P)), (0, .ref (b0)), (1, .ref (b + 0)), (2, .ref (b + 36)), (3, .ref (b + 45)), (4, .int (nI i))]) hx hb dL_law_1560 hl (by decide) rfl (fun ls hl => ?_)
  refine lv_aload_n hx hb dL_law_1562 rfl (lv_at hl 3 rfl) ?_
  obtain ⟨fs1563, ho36⟩ := hm.obj
  refine q_W1 (va_runV (As := []) (rest := []) ⟨hx, hb, hml, hown, hts⟩ (c_X7_heard l hm ) (cwV 0 hts lg_X7_heard rfl rfl rfl (by decide +kernel) ⟨Nat.le_of_ble_eq_true rfl, Nat.le_of_ble_eq_true rfl⟩) (q_preV hG hW hS ho36 rfl) rfl rfl hl.1 rfl (lv_room (Nat.le_of_ble_eq_true rfl)) dL_law_1563 ⟨by show _ ≤ 601024; omega, by show _ ≤ 7293034; omega⟩) hS (fun w_1563 H locs hp1563 hW hS => ?_)
  obtain ⟨hm, hfm⟩ := hp1563
  replace hs := hs.mod hfm
  replace h45 := (hfm 45 (by omega)).trans h45
  refine lv_dstore (lv' := [(7, .double (hrP P)), (5, .double (hrP P)), (0, .ref (b0)), (1, .ref (b + 0)), (2, .ref (b + 36)), (3, .ref (b + 45)), (4, .int (nI i))]) hx hb dL_law_1566 hl (by decide) rfl (fun ls hl => ?_)
  refine lv_dload hx hb dL_law_1568 (lv_at hl 1 rfl) ?_
  refine lv_dload hx hb dL_law_1570 (lv_at hl 0 rfl) ?_
  refine lv_dcmp hx hb dL_law_1572 ?_
  refine lv_if_eq (tgt := 1594) hx hb dL_law_1573 (by decide) (fun c_1573 => ?_) (fun c_1573 => ?_)
  · skip
    refine lv_goto (tgt := 1597) hx hb dL_law_1594 (by decide) ?_
    exact W.widen (by omega) (by omega) (K _ _ _ _ _ ⟨hs, ⟨_, hm⟩, ⟨_, h45⟩, hW, hS⟩ (lv_sub hl [2, 3, 4, 5, 6] rfl))
  · skip
    refine lv_dload hx hb dL_law_1576 (lv_at hl 1 rfl) ?_
    refine lv_dload hx hb dL_law_1578 (lv_at hl 1 rfl) ?_
    refine lv_dcmp hx hb dL_law_1580 ?_
    refine lv_if_eq (tgt := 1592) hx hb dL_law_1581 (by decide) (fun c_1581 => ?_) (fun c_1581 => ?_)
    · skip
      first | exact absurd c_1581 c_1573 | exact absurd c_1573 c_1581 | exact absurd (Decidable.of_not_not c_1581) c_1573
    · skip
      refine lv_dload hx hb dL_law_1584 (lv_at hl 0 rfl) ?_
      refine lv_dload hx hb dL_law_1586 (lv_at hl 0 rfl) ?_
      refine lv_dcmp hx hb dL_law_1588 ?_
      refine lv_if_ne (tgt := 1594) hx hb dL_law_1589 (by decide) (fun c_1589 => ?_) (fun c_1589 => ?_)
      · skip
        refine lv_goto (tgt := 1597) hx hb dL_law_1594 (by decide) ?_
        exact W.widen (by omega) (by omega) (K _ _ _ _ _ ⟨hs, ⟨_, hm⟩, ⟨_, h45⟩, hW, hS⟩ (lv_sub hl [2, 3, 4, 5, 6] rfl))
      · skip
        first | exact absurd c_1589 c_1573 | exact absurd c_1573 c_1589 | exact absurd (Decidable.of_not_not c_1589) c_1573
