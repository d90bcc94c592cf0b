set_option maxHeartbeats 1000000 in
set_option maxRecDepth 100000 in
/-- case 4: loud -/
theorem law_4 {p : Program} {l : Launch} {e : Env} {s : State} {m : MethodId} {args : Array Value} {below : List Frame} {meth : Method} {c : Code} {Q : State → Prop} {b0 L : Nat} {xs : Nat → Int32} {D : va_G} {dA : Nat → Nat} {b : Nat} (F9 : LWF p l s m args c b0 L xs D dA b) {w : Wd} {lo : Nat} {A : Sy} {H : Heap} {locs : List Loc} (V : LWV D dA b s w H locs lo A) {cells slots : Nat} (hcc : cells ≤ 600000) (hss : slots ≤ 7000000) {i : Nat} (hi : i + 5 ≤ L) {ls : Array Slot} (hl : LWL b b0 ls (nI i))
    (K : ∀ (w1 : Wd) (H1 : Heap) (locs1 : List Loc) (A1 : Sy) (ls1 : Array Slot), LWV D dA b s w1 H1 locs1 lo A1 → LWL b b0 ls1 (nI i) → W p l e room_1 s m args below meth c H1 locs1 (cells + 7) (slots + 116) Q (F0 m 1597 ls1 [])) : W p l e room_1 s m args below meth c H locs cells slots Q (F0 m 520 ls []) := by
  obtain ⟨hl0, hx, hb, hml, hown, hts, hX, hbl, hb0, hG, hL⟩ := F9
  obtain ⟨hs, ⟨tt, hm⟩, ⟨O9, h45⟩, hW, hS⟩ := V
  obtain ⟨P, ⟨n, Hs⟩, SL, nc, C⟩ := A
  have hlo : 46 ≤ lo := hs.2.2.2.2.2.2.1
  have hP := sys_ok hs
  change okP P at hP
  have hl : lv_has ls 9 [(0, .ref b0), (1, .ref (b + 0)), (2, .ref (b + 36)), (3, .ref (b + 45)), (4, .int (nI i))] := hl
  obtain ⟨f9, hf99⟩ : ∃ q : Int32, xs (i + 1) = q := ⟨_, rfl⟩
  obtain ⟨x, hx9⟩ : ∃ q : Int32, xs (i + 2) = q := ⟨_, rfl⟩
  obtain ⟨y, hy9⟩ : ∃ q : Int32, xs (i + 3) = q := ⟨_, rfl⟩
  refine lv_aload_n hx hb dL_law_520 rfl (lv_at hl 1 rfl) ?_
  refine lv_aload_n hx hb dL_law_521 rfl (lv_at hl 0 rfl) ?_
  refine lv_iload hx hb dL_law_522 (lv_at hl 4 rfl) ?_
  refine lv_iconst (v := nI 1) hx hb dL_law_524 (by decide) ?_
  refine lv_iadd hx hb dL_law_525 ?_
  refine q_top (y := nI (i + 1)) (nI_add _ _) ?_
  refine q_sld hx hb hX hbl hb0 hS hf99 (by omega) hL dL_law_526 ?_
  refine lv_if_eq (tgt := 534) hx hb dL_law_527 (by decide) (fun c_527 => ?_) (fun c_527 => ?_)
  · skip
    refine lv_iconst (v := nI 0) hx hb dL_law_534 (by decide) ?_
    refine lv_aload_n hx hb dL_law_535 rfl (lv_at hl 0 rfl) ?_
    refine lv_iload hx hb dL_law_536 (lv_at hl 4 rfl) ?_
    refine lv_iconst (v := nI 2) hx hb dL_law_538 (by decide) ?_
    refine lv_iadd hx hb dL_law_539 ?_
    refine q_top (y := nI (i + 2)) (nI_add _ _) ?_
    refine q_sld hx hb hX hbl hb0 hS hx9 (by omega) hL dL_law_540 ?_
    refine lv_aload_n hx hb dL_law_541 rfl (lv_at hl 0 rfl) ?_
    refine lv_iload hx hb dL_law_542 (lv_at hl 4 rfl) ?_
    refine lv_iconst (v := nI 3) hx hb dL_law_544 (by decide) ?_
    refine lv_iadd hx hb dL_law_545 ?_
    refine q_top (y := nI (i + 3)) (nI_add _ _) ?_
    refine q_sld hx hb hX hbl hb0 hS hy9 (by omega) hL dL_law_546 ?_
    refine lv_aload_n hx hb dL_law_547 rfl (lv_at hl 3 rfl) ?_
    refine q_XE1 (vx_runSX (As := [.ref (b + 0), .int (nI 0), .int (x), .int (y), .ref (b + 45)]) (rest := []) ⟨hx, hb, hml, hown, hts⟩ (c_L_loud_f l hl0 hs h45 (x) (y)) (vx_cwSW 5 hts lg_L_loud rfl rfl rfl (by decide +kernel) ⟨Nat.le_of_ble_eq_true rfl, Nat.le_of_ble_eq_true rfl⟩) (q_preS hG hW hS) rfl rfl hl.1 rfl (lv_room (Nat.le_of_ble_eq_true rfl)) dL_law_548 ⟨by show _ ≤ 601024; omega, by show _ ≤ 7293034; omega⟩) hS (fun r548 w_548 H locs hp548 hW hS => ?_)
    obtain ⟨hor, hf5⟩ := hp548
    replace hm := hm.fr hf5
    clear hs h45
    rcases hor with ⟨hr9, hc, hs, h45⟩ | ⟨hr9, hc, hs, h45⟩ | ⟨hr9, hc, hs, h45⟩
    · skip
      subst hr9
      refine lv_istore (lv' := [(5, .int (nI 0)), (0, .ref (b0)), (1, .ref (b + 0)), (2, .ref (b + 36)), (3, .ref (b + 45)), (4, .int (nI i))]) hx hb dL_law_551 hl (by decide) rfl (fun ls hl => ?_)
      refine lv_aload_n hx hb dL_law_553 rfl (lv_at hl 3 rfl) ?_
      refine lv_aload_n hx hb dL_law_554 rfl (lv_at hl 1 rfl) ?_
      refine lv_iload hx hb dL_law_555 (lv_at hl 5 rfl) ?_
      refine lv_iconst (v := nI 1) hx hb dL_law_557 (by decide) ?_
      refine lv_iadd hx hb dL_law_558 ?_
      refine q_top (y := nI (i + 1)) (nI_add _ _) ?_
      refine q_sld hx hb hX hbl hb0 hS hf99 (by omega) hL dL_law_559 ?_
      refine lv_if_eq (tgt := 567) hx hb dL_law_560 (by decide) (fun c_560 => ?_) (fun c_560 => ?_)
      · skip
        refine lv_iconst (v := nI 0) hx hb dL_law_567 (by decide) ?_
        refine lv_aload_n hx hb dL_law_568 rfl (lv_at hl 1 rfl) ?_
        refine lv_iload hx hb dL_law_569 (lv_at hl 5 rfl) ?_
        refine lv_iconst (v := nI 2) hx hb dL_law_571 (by decide) ?_
        refine lv_iadd hx hb dL_law_572 ?_
        refine q_top (y := nI (i + 2)) (nI_add _ _) ?_
        refine q_sld hx hb hX hbl hb0 hS hx9 (by omega) hL dL_law_573 ?_
        refine lv_aload_n hx hb dL_law_574 rfl (lv_at hl 1 rfl) ?_
        refine lv_iload hx hb dL_law_575 (lv_at hl 5 rfl) ?_
        refine lv_iconst (v := nI 3) hx hb dL_law_577 (by decide) ?_
        refine lv_iadd hx hb dL_law_578 ?_
        refine q_top (y := nI (i + 3)) (nI_add _ _) ?_
        refine q_sld hx hb hX hbl hb0 hS hy9 (by omega) hL dL_law_579 ?_
        obtain ⟨fs580, ho36⟩ := hm.obj
        refine q_W1 (va_runV (As := [.int (nI 0), .int (x), .int (y)]) (rest := []) ⟨hx, hb, hml, hown, hts⟩ (c_X7_loud_f l hm (x) (y)) (cwV 3 hts lg_X7_loud rfl rfl rfl (by decide +kernel) ⟨Nat.le_of_ble_eq_true rfl, Nat.le_of_ble_eq_true rfl⟩) (q_preV hG hW hS ho36 rfl) rfl rfl hl.1 rfl (lv_room (Nat.le_of_ble_eq_true rfl)) dL_law_580 ⟨by show _ ≤ 601024; omega, by show _ ≤ 7293034; omega⟩) hS (fun w_580 H locs hp580 hW hS => ?_)
        obtain ⟨hd, hfm⟩ := hp580
        replace hs := hs.mod hfm
        replace h45 := (hfm 45 (by omega)).trans h45
        clear hm
        rcases hd with ⟨hc2, hm⟩ | ⟨hc2, hm⟩ | ⟨hc2, hm⟩
        · skip
          refine q_topv (v' := .int (nI (P.N (i32n x) 2))) (congrArg Value.int (if_pos hc2)) ?_
          refine lv_istore (lv' := [(6, .int (nI (P.N (i32n x) 2))), (5, .int (nI 0)), (0, .ref (b0)), (1, .ref (b + 0)), (2, .ref (b + 36)), (3, .ref (b + 45)), (4, .int (nI i))]) hx hb dL_law_583 hl (by decide) rfl (fun ls hl => ?_)
          refine lv_aload_n hx hb dL_law_585 rfl (lv_at hl 4 rfl) ?_
          obtain ⟨fs586, ho36⟩ := hm.obj
          refine q_R1 (va_runV (As := []) (rest := []) ⟨hx, hb, hml, hown, hts⟩ (c_thr l hm) (cwV 0 hts lg_X7_thrown rfl rfl rfl (by decide +kernel) ⟨Nat.le_of_ble_eq_true rfl, Nat.le_of_ble_eq_true rfl⟩) (q_preV hG hW hS ho36 rfl) rfl rfl hl.1 rfl (lv_room (Nat.le_of_ble_eq_true rfl)) dL_law_586 ⟨by show _ ≤ 601024; omega, by show _ ≤ 7293034; omega⟩) ?_
          refine lv_iload hx hb dL_law_589 (lv_at hl 1 rfl) ?_
          refine lv_icmp_eq (tgt := 596) hx hb dL_law_591 (by decide) (fun c_591 => ?_) (fun c_591 => ?_)
          · skip
            have c_591 : 0 = 0 := (nI_eq (a := 0) (b := 0) (by omega) (by omega)).mp c_591
            refine lv_iload hx hb dL_law_596 (lv_at hl 1 rfl) ?_
            refine lv_if_ne (tgt := 613) hx hb dL_law_598 (by decide) (fun c_598 => ?_) (fun c_598 => ?_)
            · skip
              have c_598 : ¬ (0 = 0) := fun h__ => c_598 ((nI_eq0 (i := 0) (by omega)).mpr h__)
              exact absurd c_598 (by omega)
            · skip
              have c_598 : 0 = 0 := (nI_eq0 (i := 0) (by omega)).mp c_598
              refine lv_aload_n hx hb dL_law_601 rfl (lv_at hl 5 rfl) ?_
              refine lv_iconst (v := nI 0) hx hb dL_law_602 (by decide) ?_
              refine q_lald hx hb hG hW h45 (by decide) (by decide) dL_law_603 ?_
              refine q_topv (v' := .long ((nI (P.N (i32n x) 2)).toInt64)) (by rw [va_up_self]) ?_
              refine lv_iload hx hb dL_law_604 (lv_at hl 0 rfl) ?_
              refine lv_i2l hx hb dL_law_606 rfl ?_
              refine W.lcmp hx hb dL_law_607 ?_
              refine q_topv (v' := .int (nI 0)) (congrArg Value.int (lg_cmp_self _)) ?_
              refine lv_if_eq (tgt := 613) hx hb dL_law_608 (by decide) (fun c_608 => ?_) (fun c_608 => ?_)
              · skip
                have c_608 : 0 = 0 := (nI_eq0 (i := 0) (by omega)).mp c_608
                refine lv_goto (tgt := 1597) hx hb dL_law_613 (by decide) ?_
                exact W.widen (by omega) (by omega) (K _ _ _ _ _ ⟨hs, ⟨_, hm⟩, ⟨_, h45⟩, hW, hS⟩ (lv_sub hl [2, 3, 4, 5, 6] rfl))
              · skip
                have c_608 : ¬ (0 = 0) := fun h__ => c_608 ((nI_eq0 (i := 0) (by omega)).mpr h__)
                exact absurd c_608 (by omega)
          · skip
            have c_591 : ¬ (0 = 0) := fun h__ => c_591 ((nI_eq (a := 0) (b := 0) (by omega) (by omega)).mpr h__)
            exact absurd c_591 (by omega)
        · skip
          first | exact absurd hc hc2 | exact absurd hc2 hc | exact absurd hc.1 hc2 | exact absurd hc2.1 hc | exact absurd hc.2 hc2.2 | exact absurd hc2.2 hc.2 | (exact absurd hc.2 (by omega)) | (exact absurd hc (by omega)) | (exact absurd hc2.2 (by omega))
        · skip
          first | exact absurd hc hc2 | exact absurd hc2 hc | exact absurd hc.1 hc2 | exact absurd hc2.1 hc | exact absurd hc.2 hc2.2 | exact absurd hc2.2 hc.2 | (exact absurd hc.2 (by omega)) | (exact absurd hc (by omega)) | (exact absurd hc2.2 (by omega))
      · skip
        exact absurd c_527 c_560
    · skip
      subst hr9
      refine lv_istore (lv' := [(5, .int (nI 1)), (0, .ref (b0)), (1, .ref (b + 0)), (2, .ref (b + 36)), (3, .ref (b + 45)), (4, .int (nI i))]) hx hb dL_law_551 hl (by decide) rfl (fun ls hl => ?_)
      refine lv_aload_n hx hb dL_law_553 rfl (lv_at hl 3 rfl) ?_
      refine lv_aload_n hx hb dL_law_554 rfl (lv_at hl 1 rfl) ?_
      refine lv_iload hx hb dL_law_555 (lv_at hl 5 rfl) ?_
      refine lv_iconst (v := nI 1) hx hb dL_law_557 (by decide) ?_
      refine lv_iadd hx hb dL_law_558 ?_
      refine q_top (y := nI (i + 1)) (nI_add _ _) ?_
      refine q_sld hx hb hX hbl hb0 hS hf99 (by omega) hL dL_law_559 ?_
      refine lv_if_eq (tgt := 567) hx hb dL_law_560 (by decide) (fun c_560 => ?_) (fun c_560 => ?_)
      · skip
        refine lv_iconst (v := nI 0) hx hb dL_law_567 (by decide) ?_
        refine lv_aload_n hx hb dL_law_568 rfl (lv_at hl 1 rfl) ?_
        refine lv_iload hx hb dL_law_569 (lv_at hl 5 rfl) ?_
        refine lv_iconst (v := nI 2) hx hb dL_law_571 (by decide) ?_
        refine lv_iadd hx hb dL_law_572 ?_
        refine q_top (y := nI (i + 2)) (nI_add _ _) ?_
        refine q_sld hx hb hX hbl hb0 hS hx9 (by omega) hL dL_law_573 ?_
        refine lv_aload_n hx hb dL_law_574 rfl (lv_at hl 1 rfl) ?_
        refine lv_iload hx hb dL_law_575 (lv_at hl 5 rfl) ?_
        refine lv_iconst (v := nI 3) hx hb dL_law_577 (by decide) ?_
        refine lv_iadd hx hb dL_law_578 ?_
        refine q_top (y := nI (i + 3)) (nI_add _ _) ?_
        refine q_sld hx hb hX hbl hb0 hS hy9 (by omega) hL dL_law_579 ?_
        obtain ⟨fs580, ho36⟩ := hm.obj
        refine q_W1 (va_runV (As := [.int (nI 0), .int (x), .int (y)]) (rest := []) ⟨hx, hb, hml, hown, hts⟩ (c_X7_loud_f l hm (x) (y)) (cwV 3 hts lg_X7_loud rfl rfl rfl (by decide +kernel) ⟨Nat.le_of_ble_eq_true rfl, Nat.le_of_ble_eq_true rfl⟩) (q_preV hG hW hS ho36 rfl) rfl rfl hl.1 rfl (lv_room (Nat.le_of_ble_eq_true rfl)) dL_law_580 ⟨by show _ ≤ 601024; omega, by show _ ≤ 7293034; omega⟩) hS (fun w_580 H locs hp580 hW hS => ?_)
        obtain ⟨hd, hfm⟩ := hp580
        replace hs := hs.mod hfm
        replace h45 := (hfm 45 (by omega)).trans h45
        clear hm
        rcases hd with ⟨hc2, hm⟩ | ⟨hc2, hm⟩ | ⟨hc2, hm⟩
        · skip
          first | exact absurd hc hc2 | exact absurd hc2 hc | exact absurd hc.1 hc2 | exact absurd hc2.1 hc | exact absurd hc.2 hc2.2 | exact absurd hc2.2 hc.2 | (exact absurd hc.2 (by omega)) | (exact absurd hc (by omega)) | (exact absurd hc2.2 (by omega))
        · skip
          refine q_topv (v' := .int (nI 0)) (congrArg Value.int (if_neg (fun q9 => by first | exact hc2 q9 | exact hc2 q9.1 | exact absurd q9.2 (by omega) | exact hc2.2 q9.2 | exact q9.2 hc2.2 | omega))) ?_
          refine lv_istore (lv' := [(6, .int (nI 0)), (5, .int (nI 1)), (0, .ref (b0)), (1, .ref (b + 0)), (2, .ref (b + 36)), (3, .ref (b + 45)), (4, .int (nI i))]) hx hb dL_law_583 hl (by decide) rfl (fun ls hl => ?_)
          refine lv_aload_n hx hb dL_law_585 rfl (lv_at hl 4 rfl) ?_
          obtain ⟨fs586, ho36⟩ := hm.obj
          refine q_R1 (va_runV (As := []) (rest := []) ⟨hx, hb, hml, hown, hts⟩ (c_thr l hm) (cwV 0 hts lg_X7_thrown rfl rfl rfl (by decide +kernel) ⟨Nat.le_of_ble_eq_true rfl, Nat.le_of_ble_eq_true rfl⟩) (q_preV hG hW hS ho36 rfl) rfl rfl hl.1 rfl (lv_room (Nat.le_of_ble_eq_true rfl)) dL_law_586 ⟨by show _ ≤ 601024; omega, by show _ ≤ 7293034; omega⟩) ?_
          refine lv_iload hx hb dL_law_589 (lv_at hl 1 rfl) ?_
          refine lv_icmp_eq (tgt := 596) hx hb dL_law_591 (by decide) (fun c_591 => ?_) (fun c_591 => ?_)
          · skip
            have c_591 : 1 = 1 := (nI_eq (a := 1) (b := 1) (by omega) (by omega)).mp c_591
            refine lv_iload hx hb dL_law_596 (lv_at hl 1 rfl) ?_
            refine lv_if_ne (tgt := 613) hx hb dL_law_598 (by decide) (fun c_598 => ?_) (fun c_598 => ?_)
            · skip
              have c_598 : ¬ (1 = 0) := fun h__ => c_598 ((nI_eq0 (i := 1) (by omega)).mpr h__)
              refine lv_goto (tgt := 1597) hx hb dL_law_613 (by decide) ?_
              exact W.widen (by omega) (by omega) (K _ _ _ _ _ ⟨hs, ⟨_, hm⟩, ⟨_, h45⟩, hW, hS⟩ (lv_sub hl [2, 3, 4, 5, 6] rfl))
            · skip
              have c_598 : 1 = 0 := (nI_eq0 (i := 1) (by omega)).mp c_598
              exact absurd c_598 (by omega)
          · skip
            have c_591 : ¬ (1 = 1) := fun h__ => c_591 ((nI_eq (a := 1) (b := 1) (by omega) (by omega)).mpr h__)
            exact absurd c_591 (by omega)
        · skip
          first | exact absurd hc hc2 | exact absurd hc2 hc | exact absurd hc.1 hc2 | exact absurd hc2.1 hc | exact absurd hc.2 hc2.2 | exact absurd hc2.2 hc.2 | (exact absurd hc.2 (by omega)) | (exact absurd hc (by omega)) | (exact absurd hc2.2 (by omega))
      · skip
        exact absurd c_527 c_560
    · skip
      subst hr9
      refine lv_istore (lv' := [(5, .int (nI 2)), (0, .ref (b0)), (1, .ref (b + 0)), (2, .ref (b + 36)), (3, .ref (b + 45)), (4, .int (nI i))]) hx hb dL_law_551 hl (by decide) rfl (fun ls hl => ?_)
      refine lv_aload_n hx hb dL_law_553 rfl (lv_at hl 3 rfl) ?_
      refine lv_aload_n hx hb dL_law_554 rfl (lv_at hl 1 rfl) ?_
      refine lv_iload hx hb dL_law_555 (lv_at hl 5 rfl) ?_
      refine lv_iconst (v := nI 1) hx hb dL_law_557 (by decide) ?_
      refine lv_iadd hx hb dL_law_558 ?_
      refine q_top (y := nI (i + 1)) (nI_add _ _) ?_
      refine q_sld hx hb hX hbl hb0 hS hf99 (by omega) hL dL_law_559 ?_
      refine lv_if_eq (tgt := 567) hx hb dL_law_560 (by decide) (fun c_560 => ?_) (fun c_560 => ?_)
      · skip
        refine lv_iconst (v := nI 0) hx hb dL_law_567 (by decide) ?_
        refine lv_aload_n hx hb dL_law_568 rfl (lv_at hl 1 rfl) ?_
        refine lv_iload hx hb dL_law_569 (lv_at hl 5 rfl) ?_
        refine lv_iconst (v := nI 2) hx hb dL_law_571 (by decide) ?_
        refine lv_iadd hx hb dL_law_572 ?_
        refine q_top (y := nI (i + 2)) (nI_add _ _) ?_
        refine q_sld hx hb hX hbl hb0 hS hx9 (by omega) hL dL_law_573 ?_
        refine lv_aload_n hx hb dL_law_574 rfl (lv_at hl 1 rfl) ?_
        refine lv_iload hx hb dL_law_575 (lv_at hl 5 rfl) ?_
        refine lv_iconst (v := nI 3) hx hb dL_law_577 (by decide) ?_
        refine lv_iadd hx hb dL_law_578 ?_
        refine q_top (y := nI (i + 3)) (nI_add _ _) ?_
        refine q_sld hx hb hX hbl hb0 hS hy9 (by omega) hL dL_law_579 ?_
        obtain ⟨fs580, ho36⟩ := hm.obj
        refine q_W1 (va_runV (As := [.int (nI 0), .int (x), .int (y)]) (rest := []) ⟨hx, hb, hml, hown, hts⟩ (c_X7_loud_f l hm (x) (y)) (cwV 3 hts lg_X7_loud rfl rfl rfl (by decide +kernel) ⟨Nat.le_of_ble_eq_true rfl, Nat.le_of_ble_eq_true rfl⟩) (q_preV hG hW hS ho36 rfl) rfl rfl hl.1 rfl (lv_room (Nat.le_of_ble_eq_true rfl)) dL_law_580 ⟨by show _ ≤ 601024; omega, by show _ ≤ 7293034; omega⟩) hS (fun w_580 H locs hp580 hW hS => ?_)
        obtain ⟨hd, hfm⟩ := hp580
        replace hs := hs.mod hfm
        replace h45 := (hfm 45 (by omega)).trans h45
        clear hm
        rcases hd with ⟨hc2, hm⟩ | ⟨hc2, hm⟩ | ⟨hc2, hm⟩
        · skip
          first | exact absurd hc hc2 | exact absurd hc2 hc | exact absurd hc.1 hc2 | exact absurd hc2.1 hc | exact absurd hc.2 hc2.2 | exact absurd hc2.2 hc.2 | (exact absurd hc.2 (by omega)) | (exact absurd hc (by omega)) | (exact absurd hc2.2 (by omega))
        · skip
          first | exact absurd hc hc2 | exact absurd hc2 hc | exact absurd hc.1 hc2 | exact absurd hc2.1 hc | exact absurd hc.2 hc2.2 | exact absurd hc2.2 hc.2 | (exact absurd hc.2 (by omega)) | (exact absurd hc (by omega)) | (exact absurd hc2.2 (by omega))
        · skip
          refine q_topv (v' := .int (nI 0)) (congrArg Value.int (if_neg (fun q9 => by first | exact hc2 q9 | exact hc2 q9.1 | exact absurd q9.2 (by omega) | exact hc2.2 q9.2 | exact q9.2 hc2.2 | omega))) ?_
          refine lv_istore (lv' := [(6, .int (nI 0)), (5, .int (nI 2)), (0, .ref (b0)), (1, .ref (b + 0)), (2, .ref (b + 36)), (3, .ref (b + 45)), (4, .int (nI i))]) hx hb dL_law_583 hl (by decide) rfl (fun ls hl => ?_)
          refine lv_aload_n hx hb dL_law_585 rfl (lv_at hl 4 rfl) ?_
          obtain ⟨fs586, ho36⟩ := hm.obj
          refine q_R1 (va_runV (As := []) (rest := []) ⟨hx, hb, hml, hown, hts⟩ (c_thr l hm) (cwV 0 hts lg_X7_thrown rfl rfl rfl (by decide +kernel) ⟨Nat.le_of_ble_eq_true rfl, Nat.le_of_ble_eq_true rfl⟩) (q_preV hG hW hS ho36 rfl) rfl rfl hl.1 rfl (lv_room (Nat.le_of_ble_eq_true rfl)) dL_law_586 ⟨by show _ ≤ 601024; omega, by show _ ≤ 7293034; omega⟩) ?_
          refine lv_iload hx hb dL_law_589 (lv_at hl 1 rfl) ?_
          refine lv_icmp_eq (tgt := 596) hx hb dL_law_591 (by decide) (fun c_591 => ?_) (fun c_591 => ?_)
          · skip
            have c_591 : 2 = 2 := (nI_eq (a := 2) (b := 2) (by omega) (by omega)).mp c_591
            refine lv_iload hx hb dL_law_596 (lv_at hl 1 rfl) ?_
            refine lv_if_ne (tgt := 613) hx hb dL_law_598 (by decide) (fun c_598 => ?_) (fun c_598 => ?_)
            · skip
              have c_598 : ¬ (2 = 0) := fun h__ => c_598 ((nI_eq0 (i := 2) (by omega)).mpr h__)
              refine lv_goto (tgt := 1597) hx hb dL_law_613 (by decide) ?_
              exact W.widen (by omega) (by omega) (K _ _ _ _ _ ⟨hs, ⟨_, hm⟩, ⟨_, h45⟩, hW, hS⟩ (lv_sub hl [2, 3, 4, 5, 6] rfl))
            · skip
              have c_598 : 2 = 0 := (nI_eq0 (i := 2) (by omega)).mp c_598
              exact absurd c_598 (by omega)
          · skip
            have c_591 : ¬ (2 = 2) := fun h__ => c_591 ((nI_eq (a := 2) (b := 2) (by omega) (by omega)).mpr h__)
            exact absurd c_591 (by omega)
      · skip
        exact absurd c_527 c_560
  · skip
    refine lv_iconst (v := nI 1) hx hb dL_law_530 (by decide) ?_
    refine lv_goto (tgt := 535) hx hb dL_law_531 (by decide) ?_
    refine lv_aload_n hx hb dL_law_535 rfl (lv_at hl 0 rfl) ?_
    refine lv_iload hx hb dL_law_536 (lv_at hl 4 rfl) ?_
    refine lv_iconst (v := nI 2) hx hb dL_law_538 (by decide) ?_
    refine lv_iadd hx hb dL_law_539 ?_
    refine q_top (y := nI (i + 2)) (nI_add _ _) ?_
    refine q_sld hx hb hX hbl hb0 hS hx9 (by omega) hL dL_law_540 ?_
    refine lv_aload_n hx hb dL_law_541 rfl (lv_at hl 0 rfl) ?_
    refine lv_iload hx hb dL_law_542 (lv_at hl 4 rfl) ?_
    refine lv_iconst (v := nI 3) hx hb dL_law_544 (by decide) ?_
    refine lv_iadd hx hb dL_law_545 ?_
    refine q_top (y := nI (i + 3)) (nI_add _ _) ?_
    refine q_sld hx hb hX hbl hb0 hS hy9 (by omega) hL dL_law_546 ?_
    refine lv_aload_n hx hb dL_law_547 rfl (lv_at hl 3 rfl) ?_
    refine q_XE1 (vx_runSX (As := [.ref (b + 0), .int (nI 1), .int (x), .int (y), .ref (b + 45)]) (rest := []) ⟨hx, hb, hml, hown, hts⟩ (c_L_loud_t l hl0 hs h45 (x) (y)) (vx_cwSW 5 hts lg_L_loud rfl rfl rfl (by decide +kernel) ⟨Nat.le_of_ble_eq_true rfl, Nat.le_of_ble_eq_true rfl⟩) (q_preS hG hW hS) rfl rfl hl.1 rfl (lv_room (Nat.le_of_ble_eq_true rfl)) dL_law_548 ⟨by show _ ≤ 601024; omega, by show _ ≤ 7293034; omega⟩) hS (fun r548 w_548 H locs hp548 hW hS => ?_)
    obtain ⟨hor, hf5⟩ := hp548
    replace hm := hm.fr hf5
    clear hs h45
    rcases hor with ⟨hr9, hc, hs, h45⟩ | ⟨hr9, hc, hs, h45⟩ | ⟨hr9, hc, hs, h45⟩
    · skip
      subst hr9
      refine lv_istore (lv' := [(5, .int (nI 0)), (0, .ref (b0)), (1, .ref (b + 0)), (2, .ref (b + 36)), (3, .ref (b + 45)), (4, .int (nI i))]) hx hb dL_law_551 hl (by decide) rfl (fun ls hl => ?_)
      refine lv_aload_n hx hb dL_law_553 rfl (lv_at hl 3 rfl) ?_
      refine lv_aload_n hx hb dL_law_554 rfl (lv_at hl 1 rfl) ?_
      refine lv_iload hx hb dL_law_555 (lv_at hl 5 rfl) ?_
      refine lv_iconst (v := nI 1) hx hb dL_law_557 (by decide) ?_
      refine lv_iadd hx hb dL_law_558 ?_
      refine q_top (y := nI (i + 1)) (nI_add _ _) ?_
      refine q_sld hx hb hX hbl hb0 hS hf99 (by omega) hL dL_law_559 ?_
      refine lv_if_eq (tgt := 567) hx hb dL_law_560 (by decide) (fun c_560 => ?_) (fun c_560 => ?_)
      · skip
        exact absurd c_560 c_527
      · skip
        refine lv_iconst (v := nI 1) hx hb dL_law_563 (by decide) ?_
        refine lv_goto (tgt := 568) hx hb dL_law_564 (by decide) ?_
        refine lv_aload_n hx hb dL_law_568 rfl (lv_at hl 1 rfl) ?_
        refine lv_iload hx hb dL_law_569 (lv_at hl 5 rfl) ?_
        refine lv_iconst (v := nI 2) hx hb dL_law_571 (by decide) ?_
        refine lv_iadd hx hb dL_law_572 ?_
        refine q_top (y := nI (i + 2)) (nI_add _ _) ?_
        refine q_sld hx hb hX hbl hb0 hS hx9 (by omega) hL dL_law_573 ?_
        refine lv_aload_n hx hb dL_law_574 rfl (lv_at hl 1 rfl) ?_
        refine lv_iload hx hb dL_law_575 (lv_at hl 5 rfl) ?_
        refine lv_iconst (v := nI 3) hx hb dL_law_577 (by decide) ?_
        refine lv_iadd hx hb dL_law_578 ?_
        refine q_top (y := nI (i + 3)) (nI_add _ _) ?_
        refine q_sld hx hb hX hbl hb0 hS hy9 (by omega) hL dL_law_579 ?_
        obtain ⟨fs580, ho36⟩ := hm.obj
        refine q_W1 (va_runV (As := [.int (nI 1), .int (x), .int (y)]) (rest := []) ⟨hx, hb, hml, hown, hts⟩ (c_X7_loud_t l hm (x) (y)) (cwV 3 hts lg_X7_loud rfl rfl rfl (by decide +kernel) ⟨Nat.le_of_ble_eq_true rfl, Nat.le_of_ble_eq_true rfl⟩) (q_preV hG hW hS ho36 rfl) rfl rfl hl.1 rfl (lv_room (Nat.le_of_ble_eq_true rfl)) dL_law_580 ⟨by show _ ≤ 601024; omega, by show _ ≤ 7293034; omega⟩) hS (fun w_580 H locs hp580 hW hS => ?_)
        obtain ⟨hd, hfm⟩ := hp580
        replace hs := hs.mod hfm
        replace h45 := (hfm 45 (by omega)).trans h45
        clear hm
        rcases hd with ⟨hc2, hm⟩ | ⟨hc2, hm⟩ | ⟨hc2, hm⟩
        · skip
          refine q_topv (v' := .int (nI (P.W (i32n x) 2))) (congrArg Value.int (if_pos hc2)) ?_
          refine lv_istore (lv' := [(6, .int (nI (P.W (i32n x) 2))), (5, .int (nI 0)), (0, .ref (b0)), (1, .ref (b + 0)), (2, .ref (b + 36)), (3, .ref (b + 45)), (4, .int (nI i))]) hx hb dL_law_583 hl (by decide) rfl (fun ls hl => ?_)
          refine lv_aload_n hx hb dL_law_585 rfl (lv_at hl 4 rfl) ?_
          obtain ⟨fs586, ho36⟩ := hm.obj
          refine q_R1 (va_runV (As := []) (rest := []) ⟨hx, hb, hml, hown, hts⟩ (c_thr l hm) (cwV 0 hts lg_X7_thrown rfl rfl rfl (by decide +kernel) ⟨Nat.le_of_ble_eq_true rfl, Nat.le_of_ble_eq_true rfl⟩) (q_preV hG hW hS ho36 rfl) rfl rfl hl.1 rfl (lv_room (Nat.le_of_ble_eq_true rfl)) dL_law_586 ⟨by show _ ≤ 601024; omega, by show _ ≤ 7293034; omega⟩) ?_
          refine lv_iload hx hb dL_law_589 (lv_at hl 1 rfl) ?_
          refine lv_icmp_eq (tgt := 596) hx hb dL_law_591 (by decide) (fun c_591 => ?_) (fun c_591 => ?_)
          · skip
            have c_591 : 0 = 0 := (nI_eq (a := 0) (b := 0) (by omega) (by omega)).mp c_591
            refine lv_iload hx hb dL_law_596 (lv_at hl 1 rfl) ?_
            refine lv_if_ne (tgt := 613) hx hb dL_law_598 (by decide) (fun c_598 => ?_) (fun c_598 => ?_)
            · skip
              have c_598 : ¬ (0 = 0) := fun h__ => c_598 ((nI_eq0 (i := 0) (by omega)).mpr h__)
              exact absurd c_598 (by omega)
            · skip
              have c_598 : 0 = 0 := (nI_eq0 (i := 0) (by omega)).mp c_598
              refine lv_aload_n hx hb dL_law_601 rfl (lv_at hl 5 rfl) ?_
              refine lv_iconst (v := nI 0) hx hb dL_law_602 (by decide) ?_
              refine q_lald hx hb hG hW h45 (by decide) (by decide) dL_law_603 ?_
              refine q_topv (v' := .long ((nI (P.W (i32n x) 2)).toInt64)) (by rw [va_up_self]) ?_
              refine lv_iload hx hb dL_law_604 (lv_at hl 0 rfl) ?_
              refine lv_i2l hx hb dL_law_606 rfl ?_
              refine W.lcmp hx hb dL_law_607 ?_
              refine q_topv (v' := .int (nI 0)) (congrArg Value.int (lg_cmp_self _)) ?_
              refine lv_if_eq (tgt := 613) hx hb dL_law_608 (by decide) (fun c_608 => ?_) (fun c_608 => ?_)
              · skip
                have c_608 : 0 = 0 := (nI_eq0 (i := 0) (by omega)).mp c_608
                refine lv_goto (tgt := 1597) hx hb dL_law_613 (by decide) ?_
                exact W.widen (by omega) (by omega) (K _ _ _ _ _ ⟨hs, ⟨_, hm⟩, ⟨_, h45⟩, hW, hS⟩ (lv_sub hl [2, 3, 4, 5, 6] rfl))
              · skip
                have c_608 : ¬ (0 = 0) := fun h__ => c_608 ((nI_eq0 (i := 0) (by omega)).mpr h__)
                exact absurd c_608 (by omega)
          · skip
            have c_591 : ¬ (0 = 0) := fun h__ => c_591 ((nI_eq (a := 0) (b := 0) (by omega) (by omega)).mpr h__)
            exact absurd c_591 (by omega)
        · skip
          first | exact absurd hc hc2 | exact absurd hc2 hc | exact absurd hc.1 hc2 | exact absurd hc2.1 hc | exact absurd hc.2 hc2.2 | exact absurd hc2.2 hc.2 | (exact absurd hc.2 (by omega)) | (exact absurd hc (by omega)) | (exact absurd hc2.2 (by omega))
        · skip
          first | exact absurd hc hc2 | exact absurd hc2 hc | exact absurd hc.1 hc2 | exact absurd hc2.1 hc | exact absurd hc.2 hc2.2 | exact absurd hc2.2 hc.2 | (exact absurd hc.2 (by omega)) | (exact absurd hc (by omega)) | (exact absurd hc2.2 (by omega))
    · skip
      subst hr9
      refine lv_istore (lv' := [(5, .int (nI 1)), (0, .ref (b0)), (1, .ref (b + 0)), (2, .ref (b + 36)), (3, .ref (b + 45)), (4, .int (nI i))]) hx hb dL_law_551 hl (by decide) rfl (fun ls hl => ?_)
      refine lv_aload_n hx hb dL_law_553 rfl (lv_at hl 3 rfl) ?_
      refine lv_aload_n hx hb dL_law_554 rfl (lv_at hl 1 rfl) ?_
      refine lv_iload hx hb dL_law_555 (lv_at hl 5 rfl) ?_
      refine lv_iconst (v := nI 1) hx hb dL_law_557 (by decide) ?_
      refine lv_iadd hx hb dL_law_558 ?_
      refine q_top (y := nI (i + 1)) (nI_add _ _) ?_
      refine q_sld hx hb hX hbl hb0 hS hf99 (by omega) hL dL_law_559 ?_
      refine lv_if_eq (tgt := 567) hx hb dL_law_560 (by decide) (fun c_560 => ?_) (fun c_560 => ?_)
      · skip
        exact absurd c_560 c_527
      · skip
        refine lv_iconst (v := nI 1) hx hb dL_law_563 (by decide) ?_
        refine lv_goto (tgt := 568) hx hb dL_law_564 (by decide) ?_
        refine lv_aload_n hx hb dL_law_568 rfl (lv_at hl 1 rfl) ?_
        refine lv_iload hx hb dL_law_569 (lv_at hl 5 rfl) ?_
        refine lv_iconst (v := nI 2) hx hb dL_law_571 (by decide) ?_
        refine lv_iadd hx hb dL_law_572 ?_
        refine q_top (y := nI (i + 2)) (nI_add _ _) ?_
        refine q_sld hx hb hX hbl hb0 hS hx9 (by omega) hL dL_law_573 ?_
        refine lv_aload_n hx hb dL_law_574 rfl (lv_at hl 1 rfl) ?_
        refine lv_iload hx hb dL_law_575 (lv_at hl 5 rfl) ?_
        refine lv_iconst (v := nI 3) hx hb dL_law_577 (by decide) ?_
        refine lv_iadd hx hb dL_law_578 ?_
        refine q_top (y := nI (i + 3)) (nI_add _ _) ?_
        refine q_sld hx hb hX hbl hb0 hS hy9 (by omega) hL dL_law_579 ?_
        obtain ⟨fs580, ho36⟩ := hm.obj
        refine q_W1 (va_runV (As := [.int (nI 1), .int (x), .int (y)]) (rest := []) ⟨hx, hb, hml, hown, hts⟩ (c_X7_loud_t l hm (x) (y)) (cwV 3 hts lg_X7_loud rfl rfl rfl (by decide +kernel) ⟨Nat.le_of_ble_eq_true rfl, Nat.le_of_ble_eq_true rfl⟩) (q_preV hG hW hS ho36 rfl) rfl rfl hl.1 rfl (lv_room (Nat.le_of_ble_eq_true rfl)) dL_law_580 ⟨by show _ ≤ 601024; omega, by show _ ≤ 7293034; omega⟩) hS (fun w_580 H locs hp580 hW hS => ?_)
        obtain ⟨hd, hfm⟩ := hp580
        replace hs := hs.mod hfm
        replace h45 := (hfm 45 (by omega)).trans h45
        clear hm
        rcases hd with ⟨hc2, hm⟩ | ⟨hc2, hm⟩ | ⟨hc2, hm⟩
        · skip
          first | exact absurd hc hc2 | exact absurd hc2 hc | exact absurd hc.1 hc2 | exact absurd hc2.1 hc | exact absurd hc.2 hc2.2 | exact absurd hc2.2 hc.2 | (exact absurd hc.2 (by omega)) | (exact absurd hc (by omega)) | (exact absurd hc2.2 (by omega))
        · skip
          refine q_topv (v' := .int (nI 0)) (congrArg Value.int (if_neg (fun q9 => by first | exact hc2 q9 | exact hc2 q9.1 | exact absurd q9.2 (by omega) | exact hc2.2 q9.2 | exact q9.2 hc2.2 | omega))) ?_
          refine lv_istore (lv' := [(6, .int (nI 0)), (5, .int (nI 1)), (0, .ref (b0)), (1, .ref (b + 0)), (2, .ref (b + 36)), (3, .ref (b + 45)), (4, .int (nI i))]) hx hb dL_law_583 hl (by decide) rfl (fun ls hl => ?_)
          refine lv_aload_n hx hb dL_law_585 rfl (lv_at hl 4 rfl) ?_
          obtain ⟨fs586, ho36⟩ := hm.obj
          refine q_R1 (va_runV (As := []) (rest := []) ⟨hx, hb, hml, hown, hts⟩ (c_thr l hm) (cwV 0 hts lg_X7_thrown rfl rfl rfl (by decide +kernel) ⟨Nat.le_of_ble_eq_true rfl, Nat.le_of_ble_eq_true rfl⟩) (q_preV hG hW hS ho36 rfl) rfl rfl hl.1 rfl (lv_room (Nat.le_of_ble_eq_true rfl)) dL_law_586 ⟨by show _ ≤ 601024; omega, by show _ ≤ 7293034; omega⟩) ?_
          refine lv_iload hx hb dL_law_589 (lv_at hl 1 rfl) ?_
          refine lv_icmp_eq (tgt := 596) hx hb dL_law_591 (by decide) (fun c_591 => ?_) (fun c_591 => ?_)
          · skip
            have c_591 : 1 = 1 := (nI_eq (a := 1) (b := 1) (by omega) (by omega)).mp c_591
            refine lv_iload hx hb dL_law_596 (lv_at hl 1 rfl) ?_
            refine lv_if_ne (tgt := 613) hx hb dL_law_598 (by decide) (fun c_598 => ?_) (fun c_598 => ?_)
            · skip
              have c_598 : ¬ (1 = 0) := fun h__ => c_598 ((nI_eq0 (i := 1) (by omega)).mpr h__)
              refine lv_goto (tgt := 1597) hx hb dL_law_613 (by decide) ?_
              exact W.widen (by omega) (by omega) (K _ _ _ _ _ ⟨hs, ⟨_, hm⟩, ⟨_, h45⟩, hW, hS⟩ (lv_sub hl [2, 3, 4, 5, 6] rfl))
            · skip
              have c_598 : 1 = 0 := (nI_eq0 (i := 1) (by omega)).mp c_598
              exact absurd c_598 (by omega)
          · skip
            have c_591 : ¬ (1 = 1) := fun h__ => c_591 ((nI_eq (a := 1) (b := 1) (by omega) (by omega)).mpr h__)
            exact absurd c_591 (by omega)
        · skip
          first | exact absurd hc hc2 | exact absurd hc2 hc | exact absurd hc.1 hc2 | exact absurd hc2.1 hc | exact absurd hc.2 hc2.2 | exact absurd hc2.2 hc.2 | (exact absurd hc.2 (by omega)) | (exact absurd hc (by omega)) | (exact absurd hc2.2 (by omega))
    · skip
      subst hr9
      refine lv_istore (lv' := [(5, .int (nI 2)), (0, .ref (b0)), (1, .ref (b + 0)), (2, .ref (b + 36)), (3, .ref (b + 45)), (4, .int (nI i))]) hx hb dL_law_551 hl (by decide) rfl (fun ls hl => ?_)
      refine lv_aload_n hx hb dL_law_553 rfl (lv_at hl 3 rfl) ?_
      refine lv_aload_n hx hb dL_law_554 rfl (lv_at hl 1 rfl) ?_
      refine lv_iload hx hb dL_law_555 (lv_at hl 5 rfl) ?_
      refine lv_iconst (v := nI 1) hx hb dL_law_557 (by decide) ?_
      refine lv_iadd hx hb dL_law_558 ?_
      refine q_top (y := nI (i + 1)) (nI_add _ _) ?_
      refine q_sld hx hb hX hbl hb0 hS hf99 (by omega) hL dL_law_559 ?_
      refine lv_if_eq (tgt := 567) hx hb dL_law_560 (by decide) (fun c_560 => ?_) (fun c_560 => ?_)
      · skip
        exact absurd c_560 c_527
      · skip
        refine lv_iconst (v := nI 1) hx hb dL_law_563 (by decide) ?_
        refine lv_goto (tgt := 568) hx hb dL_law_564 (by decide) ?_
        refine lv_aload_n hx hb dL_law_568 rfl (lv_at hl 1 rfl) ?_
        refine lv_iload hx hb dL_law_569 (lv_at hl 5 rfl) ?_
        refine lv_iconst (v := nI 2) hx hb dL_law_571 (by decide) ?_
        refine lv_iadd hx hb dL_law_572 ?_
        refine q_top (y := nI (i + 2)) (nI_add _ _) ?_
        refine q_sld hx hb hX hbl hb0 hS hx9 (by omega) hL dL_law_573 ?_
        refine lv_aload_n hx hb dL_law_574 rfl (lv_at hl 1 rfl) ?_
        refine lv_iload hx hb dL_law_575 (lv_at hl 5 rfl) ?_
        refine lv_iconst (v := nI 3) hx hb dL_law_577 (by decide) ?_
        refine lv_iadd hx hb dL_law_578 ?_
        refine q_top (y := nI (i + 3)) (nI_add _ _) ?_
        refine q_sld hx hb hX hbl hb0 hS hy9 (by omega) hL dL_law_579 ?_
        obtain ⟨fs580, ho36⟩ := hm.obj
        refine q_W1 (va_runV (As := [.int (nI 1), .int (x), .int (y)]) (rest := []) ⟨hx, hb, hml, hown, hts⟩ (c_X7_loud_t l hm (x) (y)) (cwV 3 hts lg_X7_loud rfl rfl rfl (by decide +kernel) ⟨Nat.le_of_ble_eq_true rfl, Nat.le_of_ble_eq_true rfl⟩) (q_preV hG hW hS ho36 rfl) rfl rfl hl.1 rfl (lv_room (Nat.le_of_ble_eq_true rfl)) dL_law_580 ⟨by show _ ≤ 601024; omega, by show _ ≤ 7293034; omega⟩) hS (fun w_580 H locs hp580 hW hS => ?_)
        obtain ⟨hd, hfm⟩ := hp580
        replace hs := hs.mod hfm
        replace h45 := (hfm 45 (by omega)).trans h45
        clear hm
        rcases hd with ⟨hc2, hm⟩ | ⟨hc2, hm⟩ | ⟨hc2, hm⟩
        · skip
          first | exact absurd hc hc2 | exact absurd hc2 hc | exact absurd hc.1 hc2 | exact absurd hc2.1 hc | exact absurd hc.2 hc2.2 | exact absurd hc2.2 hc.2 | (exact absurd hc.2 (by omega)) | (exact absurd hc (by omega)) | (exact absurd hc2.2 (by omega))
        · skip
          first | exact absurd hc hc2 | exact absurd hc2 hc | exact absurd hc.1 hc2 | exact absurd hc2.1 hc | exact absurd hc.2 hc2.2 | exact absurd hc2.2 hc.2 | (exact absurd hc.2 (by omega)) | (exact absurd hc (by omega)) | (exact absurd hc2.2 (by omega))
        · skip
          refine q_topv (v' := .int (nI 0)) (congrArg Value.int (if_neg (fun q9 => by first | exact hc2 q9 | exact hc2 q9.1 | exact absurd q9.2 (by omega) | exact hc2.2 q9.2 | exact q9.2 hc2.2 | omega))) ?_
          refine lv_istore (lv' := [(6, .int (nI 0)), (5, .int (nI 2)), (0, .ref (b0)), (1, .ref (b + 0)), (2, .ref (b + 36)), (3, .ref (b + 45)), (4, .int (nI i))]) hx hb dL_law_583 hl (by decide) rfl (fun ls hl => ?_)
          refine lv_aload_n hx hb dL_law_585 rfl (lv_at hl 4 rfl) ?_
          obtain ⟨fs586, ho36⟩ := hm.obj
          refine q_R1 (va_runV (As := []) (rest := []) ⟨hx, hb, hml, hown, hts⟩ (c_thr l hm) (cwV 0 hts lg_X7_thrown rfl rfl rfl (by decide +kernel) ⟨Nat.le_of_ble_eq_true rfl, Nat.le_of_ble_eq_true rfl⟩) (q_preV hG hW hS ho36 rfl) rfl rfl hl.1 rfl (lv_room (Nat.le_of_ble_eq_true rfl)) dL_law_586 ⟨by show _ ≤ 601024; omega, by show _ ≤ 7293034; omega⟩) ?_
          refine lv_iload hx hb dL_law_589 (lv_at hl 1 rfl) ?_
          refine lv_icmp_eq (tgt := 596) hx hb dL_law_591 (by decide) (fun c_591 => ?_) (fun c_591 => ?_)
          · skip
            have c_591 : 2 = 2 := (nI_eq (a := 2) (b := 2) (by omega) (by omega)).mp c_591
            refine lv_iload hx hb dL_law_596 (lv_at hl 1 rfl) ?_
            refine lv_if_ne (tgt := 613) hx hb dL_law_598 (by decide) (fun c_598 => ?_) (fun c_598 => ?_)
            · skip
              have c_598 : ¬ (2 = 0) := fun h__ => c_598 ((nI_eq0 (i := 2) (by omega)).mpr h__)
              refine lv_goto (tgt := 1597) hx hb dL_law_613 (by decide) ?_
              exact W.widen (by omega) (by omega) (K _ _ _ _ _ ⟨hs, ⟨_, hm⟩, ⟨_, h45⟩, hW, hS⟩ (lv_sub hl [2, 3, 4, 5, 6] rfl))
            · skip
              have c_598 : 2 = 0 := (nI_eq0 (i := 2) (by omega)).mp c_598
              exact absurd c_598 (by omega)
          · skip
            have c_591 : ¬ (2 = 2) := fun h__ => c_591 ((nI_eq (a := 2) (b := 2) (by omega) (by omega)).mpr h__)
            exact absurd c_591 (by omega)

set_option maxHeartbeats 1000000 in
set_option maxRecDepth 100000 in
/-- case 5: set -/
theorem law_5 {p : Program} {l : Launch} {e : Env} {s : State} {m : MethodId} {args : Array Value} {below : List Frame} {meth : Method} {c : Code} {Q : State → Prop} {b0 L : Nat} {xs : Nat → Int32} {D : va_G} {dA : Nat → Nat} {b : Nat} (F9 : LWF p l s m args c b0 L xs D dA b) {w : Wd} {lo : Nat} {A : Sy} {H : Heap} {locs : List Loc} (V : LWV D dA b s w H locs lo A) {cells slots : Nat} (hcc : cells ≤ 600000) (hss : slots ≤ 7000000) {i : Nat} (hi : i + 5 ≤ L) {ls : Array Slot} (hl : LWL b b0 ls (nI i))
    (K : ∀ (w1 : Wd) (H1 : Heap) (locs1 : List Loc) (A1 : Sy) (ls1 : Array Slot), LWV D dA b s w1 H1 locs1 lo A1 → LWL b b0 ls1 (nI i) → W p l e room_1 s m args below meth c H1 locs1 (cells + 7) (slots + 116) Q (F0 m 1597 ls1 [])) : W p l e room_1 s m args below meth c H locs cells slots Q (F0 m 616 ls []) := by
  obtain ⟨hl0, hx, hb, hml, hown, hts, hX, hbl, hb0, hG, hL⟩ := F9
  obtain ⟨hs, ⟨tt, hm⟩, ⟨O9, h45⟩, hW, hS⟩ := V
  obtain ⟨P, ⟨n, Hs⟩, SL, nc, C⟩ := A
  have hlo : 46 ≤ lo := hs.2.2.2.2.2.2.1
  have hP := sys_ok hs
  change okP P at hP
  have hl : lv_has ls 9 [(0, .ref b0), (1, .ref (b + 0)), (2, .ref (b + 36)), (3, .ref (b + 45)), (4, .int (nI i))] := hl
  obtain ⟨x, hx9⟩ : ∃ q : Int32, xs (i + 1) = q := ⟨_, rfl⟩
  obtain ⟨y, hy9⟩ : ∃ q : Int32, xs (i + 2) = q := ⟨_, rfl⟩
  refine lv_aload_n hx hb dL_law_616 rfl (lv_at hl 1 rfl) ?_
  refine lv_aload_n hx hb dL_law_617 rfl (lv_at hl 0 rfl) ?_
  refine lv_iload hx hb dL_law_618 (lv_at hl 4 rfl) ?_
  refine lv_iconst (v := nI 1) hx hb dL_law_620 (by decide) ?_
  refine lv_iadd hx hb dL_law_621 ?_
  refine q_top (y := nI (i + 1)) (nI_add _ _) ?_
  refine q_sld hx hb hX hbl hb0 hS hx9 (by omega) hL dL_law_622 ?_
  refine lv_aload_n hx hb dL_law_623 rfl (lv_at hl 0 rfl) ?_
  refine lv_iload hx hb dL_law_624 (lv_at hl 4 rfl) ?_
  refine lv_iconst (v := nI 2) hx hb dL_law_626 (by decide) ?_
  refine lv_iadd hx hb dL_law_627 ?_
  refine q_top (y := nI (i + 2)) (nI_add _ _) ?_
  refine q_sld hx hb hX hbl hb0 hS hy9 (by omega) hL dL_law_628 ?_
  refine lv_aload_n hx hb dL_law_629 rfl (lv_at hl 3 rfl) ?_
  refine q_XE1 (vx_runSX (As := [.ref (b + 0), .int (x), .int (y), .ref (b + 45)]) (rest := []) ⟨hx, hb, hml, hown, hts⟩ (c_L_set l hl0 hs h45 (x) (y)) (vx_cwSW 4 hts lg_L_set rfl rfl rfl (by decide +kernel) ⟨Nat.le_of_ble_eq_true rfl, Nat.le_of_ble_eq_true rfl⟩) (q_preS hG hW hS) rfl rfl hl.1 rfl (lv_room (Nat.le_of_ble_eq_true rfl)) dL_law_630 ⟨by show _ ≤ 601024; omega, by show _ ≤ 7293034; omega⟩) hS (fun r630 w_630 H locs hp630 hW hS => ?_)
  obtain ⟨hor, hf5⟩ := hp630
  replace hm := hm.fr hf5
  clear hs h45
  rcases hor with ⟨hr9, hc, hs, h45⟩ | ⟨hr9, hc, hs, h45⟩ | ⟨hr9, hc, hs, h45⟩
  · skip
    subst hr9
    refine lv_istore (lv' := [(5, .int (nI 0)), (0, .ref (b0)), (1, .ref (b + 0)), (2, .ref (b + 36)), (3, .ref (b + 45)), (4, .int (nI i))]) hx hb dL_law_633 hl (by decide) rfl (fun ls hl => ?_)
    refine lv_aload_n hx hb dL_law_635 rfl (lv_at hl 3 rfl) ?_
    refine lv_aload_n hx hb dL_law_636 rfl (lv_at hl 1 rfl) ?_
    refine lv_iload hx hb dL_law_637 (lv_at hl 5 rfl) ?_
    refine lv_iconst (v := nI 1) hx hb dL_law_639 (by decide) ?_
    refine lv_iadd hx hb dL_law_640 ?_
    refine q_top (y := nI (i + 1)) (nI_add _ _) ?_
    refine q_sld hx hb hX hbl hb0 hS hx9 (by omega) hL dL_law_641 ?_
    refine lv_aload_n hx hb dL_law_642 rfl (lv_at hl 1 rfl) ?_
    refine lv_iload hx hb dL_law_643 (lv_at hl 5 rfl) ?_
    refine lv_iconst (v := nI 2) hx hb dL_law_645 (by decide) ?_
    refine lv_iadd hx hb dL_law_646 ?_
    refine q_top (y := nI (i + 2)) (nI_add _ _) ?_
    refine q_sld hx hb hX hbl hb0 hS hy9 (by omega) hL dL_law_647 ?_
    obtain ⟨fs648, ho36⟩ := hm.obj
    refine q_W1 (va_runV (As := [.int (x), .int (y)]) (rest := []) ⟨hx, hb, hml, hown, hts⟩ (c_X7_set l hm (x) (y)) (cwV 2 hts lg_X7_set rfl rfl rfl (by decide +kernel) ⟨Nat.le_of_ble_eq_true rfl, Nat.le_of_ble_eq_true rfl⟩) (q_preV hG hW hS ho36 rfl) rfl rfl hl.1 rfl (lv_room (Nat.le_of_ble_eq_true rfl)) dL_law_648 ⟨by show _ ≤ 601024; omega, by show _ ≤ 7293034; omega⟩) hS (fun w_648 H locs hp648 hW hS => ?_)
    obtain ⟨hd, hfm⟩ := hp648
    replace hs := hs.mod hfm
    replace h45 := (hfm 45 (by omega)).trans h45
    clear hm
    rcases hd with ⟨hc2, hm⟩ | ⟨hc2, hm⟩ | ⟨hc2, hm⟩
    · skip
      refine q_topv (v' := .int (nI (P.S (i32n x)))) (congrArg Value.int (if_pos hc2)) ?_
      refine lv_istore (lv' := [(6, .int (nI (P.S (i32n x)))), (5, .int (nI 0)), (0, .ref (b0)), (1, .ref (b + 0)), (2, .ref (b + 36)), (3, .ref (b + 45)), (4, .int (nI i))]) hx hb dL_law_651 hl (by decide) rfl (fun ls hl => ?_)
      refine lv_aload_n hx hb dL_law_653 rfl (lv_at hl 4 rfl) ?_
      obtain ⟨fs654, ho36⟩ := hm.obj
      refine q_R1 (va_runV (As := []) (rest := []) ⟨hx, hb, hml, hown, hts⟩ (c_thr l hm) (cwV 0 hts lg_X7_thrown rfl rfl rfl (by decide +kernel) ⟨Nat.le_of_ble_eq_true rfl, Nat.le_of_ble_eq_true rfl⟩) (q_preV hG hW hS ho36 rfl) rfl rfl hl.1 rfl (lv_room (Nat.le_of_ble_eq_true rfl)) dL_law_654 ⟨by show _ ≤ 601024; omega, by show _ ≤ 7293034; omega⟩) ?_
      refine lv_iload hx hb dL_law_657 (lv_at hl 1 rfl) ?_
      refine lv_icmp_eq (tgt := 664) hx hb dL_law_659 (by decide) (fun c_659 => ?_) (fun c_659 => ?_)
      · skip
        have c_659 : 0 = 0 := (nI_eq (a := 0) (b := 0) (by omega) (by omega)).mp c_659
        refine lv_iload hx hb dL_law_664 (lv_at hl 1 rfl) ?_
        refine lv_if_ne (tgt := 681) hx hb dL_law_666 (by decide) (fun c_666 => ?_) (fun c_666 => ?_)
        · skip
          have c_666 : ¬ (0 = 0) := fun h__ => c_666 ((nI_eq0 (i := 0) (by omega)).mpr h__)
          exact absurd c_666 (by omega)
        · skip
          have c_666 : 0 = 0 := (nI_eq0 (i := 0) (by omega)).mp c_666
          refine lv_aload_n hx hb dL_law_669 rfl (lv_at hl 5 rfl) ?_
          refine lv_iconst (v := nI 0) hx hb dL_law_670 (by decide) ?_
          refine q_lald hx hb hG hW h45 (by decide) (by decide) dL_law_671 ?_
          refine q_topv (v' := .long ((nI (P.S (i32n x))).toInt64)) (by rw [va_up_self]) ?_
          refine lv_iload hx hb dL_law_672 (lv_at hl 0 rfl) ?_
          refine lv_i2l hx hb dL_law_674 rfl ?_
          refine W.lcmp hx hb dL_law_675 ?_
          refine q_topv (v' := .int (nI 0)) (congrArg Value.int (lg_cmp_self _)) ?_
          refine lv_if_eq (tgt := 681) hx hb dL_law_676 (by decide) (fun c_676 => ?_) (fun c_676 => ?_)
          · skip
            have c_676 : 0 = 0 := (nI_eq0 (i := 0) (by omega)).mp c_676
            refine lv_goto (tgt := 1597) hx hb dL_law_681 (by decide) ?_
            exact W.widen (by omega) (by omega) (K _ _ _ _ _ ⟨hs, ⟨_, hm⟩, ⟨_, h45⟩, hW, hS⟩ (lv_sub hl [2, 3, 4, 5, 6] rfl))
          · skip
            have c_676 : ¬ (0 = 0) := fun h__ => c_676 ((nI_eq0 (i := 0) (by omega)).mpr h__)
            exact absurd c_676 (by omega)
      · skip
        have c_659 : ¬ (0 = 0) := fun h__ => c_659 ((nI_eq (a := 0) (b := 0) (by omega) (by omega)).mpr h__)
        exact absurd c_659 (by omega)
    · skip
      first | exact absurd hc hc2 | exact absurd hc2 hc | exact absurd hc.1 hc2 | exact absurd hc2.1 hc | exact absurd hc.2 hc2.2 | exact absurd hc2.2 hc.2 | (exact absurd hc.2 (by omega)) | (exact absurd hc (by omega)) | (exact absurd hc2.2 (by omega))
    · skip
      first | exact absurd hc hc2 | exact absurd hc2 hc | exact absurd hc.1 hc2 | exact absurd hc2.1 hc | exact absurd hc.2 hc2.2 | exact absurd hc2.2 hc.2 | (exact absurd hc.2 (by omega)) | (exact absurd hc (by omega)) | (exact absurd hc2.2 (by omega))
  · skip
    subst hr9
    refine lv_istore (lv' := [(5, .int (nI 1)), (0, .ref (b0)), (1, .ref (b + 0)), (2, .ref (b + 36)), (3, .ref (b + 45)), (4, .int (nI i))]) hx hb dL_law_633 hl (by decide) rfl (fun ls hl => ?_)
    refine lv_aload_n hx hb dL_law_635 rfl (lv_at hl 3 rfl) ?_
    refine lv_aload_n hx hb dL_law_636 rfl (lv_at hl 1 rfl) ?_
    refine lv_iload hx hb dL_law_637 (lv_at hl 5 rfl) ?_
    refine lv_iconst (v := nI 1) hx hb dL_law_639 (by decide) ?_
    refine lv_iadd hx hb dL_law_640 ?_
    refine q_top (y := nI (i + 1)) (nI_add _ _) ?_
    refine q_sld hx hb hX hbl hb0 hS hx9 (by omega) hL dL_law_641 ?_
    refine lv_aload_n hx hb dL_law_642 rfl (lv_at hl 1 rfl) ?_
    refine lv_iload hx hb dL_law_643 (lv_at hl 5 rfl) ?_
    refine lv_iconst (v := nI 2) hx hb dL_law_645 (by decide) ?_
    refine lv_iadd hx hb dL_law_646 ?_
    refine q_top (y := nI (i + 2)) (nI_add _ _) ?_
    refine q_sld hx hb hX hbl hb0 hS hy9 (by omega) hL dL_law_647 ?_
    obtain ⟨fs648, ho36⟩ := hm.obj
    refine q_W1 (va_runV (As := [.int (x), .int (y)]) (rest := []) ⟨hx, hb, hml, hown, hts⟩ (c_X7_set l hm (x) (y)) (cwV 2 hts lg_X7_set rfl rfl rfl (by decide +kernel) ⟨Nat.le_of_ble_eq_true rfl, Nat.le_of_ble_eq_true rfl⟩) (q_preV hG hW hS ho36 rfl) rfl rfl hl.1 rfl (lv_room (Nat.le_of_ble_eq_true rfl)) dL_law_648 ⟨by show _ ≤ 601024; omega, by show _ ≤ 7293034; omega⟩) hS (fun w_648 H locs hp648 hW hS => ?_)
    obtain ⟨hd, hfm⟩ := hp648
    replace hs := hs.mod hfm
    replace h45 := (hfm 45 (by omega)).trans h45
    clear hm
    rcases hd with ⟨hc2, hm⟩ | ⟨hc2, hm⟩ | ⟨hc2, hm⟩
    · skip
      first | exact absurd hc hc2 | exact absurd hc2 hc | exact absurd hc.1 hc2 | exact absurd hc2.1 hc | exact absurd hc.2 hc2.2 | exact absurd hc2.2 hc.2 | (exact absurd hc.2 (by omega)) | (exact absurd hc (by omega)) | (exact absurd hc2.2 (by omega))
    · skip
      refine q_topv (v' := .int (nI 0)) (congrArg Value.int (if_neg (fun q9 => by first | exact hc2 q9 | exact hc2 q9.1 | exact absurd q9.2 (by omega) | exact hc2.2 q9.2 | exact q9.2 hc2.2 | omega))) ?_
      refine lv_istore (lv' := [(6, .int (nI 0)), (5, .int (nI 1)), (0, .ref (b0)), (1, .ref (b + 0)), (2, .ref (b + 36)), (3, .ref (b + 45)), (4, .int (nI i))]) hx hb dL_law_651 hl (by decide) rfl (fun ls hl => ?_)
      refine lv_aload_n hx hb dL_law_653 rfl (lv_at hl 4 rfl) ?_
      obtain ⟨fs654, ho36⟩ := hm.obj
      refine q_R1 (va_runV (As := []) (rest := []) ⟨hx, hb, hml, hown, hts⟩ (c_thr l hm) (cwV 0 hts lg_X7_thrown rfl rfl rfl (by decide +kernel) ⟨Nat.le_of_ble_eq_true rfl, Nat.le_of_ble_eq_true rfl⟩) (q_preV hG hW hS ho36 rfl) rfl rfl hl.1 rfl (lv_room (Nat.le_of_ble_eq_true rfl)) dL_law_654 ⟨by show _ ≤ 601024; omega, by show _ ≤ 7293034; omega⟩) ?_
      refine lv_iload hx hb dL_law_657 (lv_at hl 1 rfl) ?_
      refine lv_icmp_eq (tgt := 664) hx hb dL_law_659 (by decide) (fun c_659 => ?_) (fun c_659 => ?_)
      · skip
        have c_659 : 1 = 1 := (nI_eq (a := 1) (b := 1) (by omega) (by omega)).mp c_659
        refine lv_iload hx hb dL_law_664 (lv_at hl 1 rfl) ?_
        refine lv_if_ne (tgt := 681) hx hb dL_law_666 (by decide) (fun c_666 => ?_) (fun c_666 => ?_)
        · skip
          have c_666 : ¬ (1 = 0) := fun h__ => c_666 ((nI_eq0 (i := 1) (by omega)).mpr h__)
          refine lv_goto (tgt := 1597) hx hb dL_law_681 (by decide) ?_
          exact W.widen (by omega) (by omega) (K _ _ _ _ _ ⟨hs, ⟨_, hm⟩, ⟨_, h45⟩, hW, hS⟩ (lv_sub hl [2, 3, 4, 5, 6] rfl))
        · skip
          have c_666 : 1 = 0 := (nI_eq0 (i := 1) (by omega)).mp c_666
          exact absurd c_666 (by omega)
      · skip
        have c_659 : ¬ (1 = 1) := fun h__ => c_659 ((nI_eq (a := 1) (b := 1) (by omega) (by omega)).mpr h__)
        exact absurd c_659 (by omega)
    · skip
      first | exact absurd hc hc2 | exact absurd hc2 hc | exact absurd hc.1 hc2 | exact absurd hc2.1 hc | exact absurd hc.2 hc2.2 | exact absurd hc2.2 hc.2 | (exact absurd hc.2 (by omega)) | (exact absurd hc (by omega)) | (exact absurd hc2.2 (by omega))
  · skip
    subst hr9
    refine lv_istore (lv' := [(5, .int (nI 2)), (0, .ref (b0)), (1, .ref (b + 0)), (2, .ref (b + 36)), (3, .ref (b + 45)), (4, .int (nI i))]) hx hb dL_law_633 hl (by decide) rfl (fun ls hl => ?_)
    refine lv_aload_n hx hb dL_law_635 rfl (lv_at hl 3 rfl) ?_
    refine lv_aload_n hx hb dL_law_636 rfl (lv_at hl 1 rfl) ?_
    refine lv_iload hx hb dL_law_637 (lv_at hl 5 rfl) ?_
    refine lv_iconst (v := nI 1) hx hb dL_law_639 (by decide) ?_
    refine lv_iadd hx hb dL_law_640 ?_
    refine q_top (y := nI (i + 1)) (nI_add _ _) ?_
    refine q_sld hx hb hX hbl hb0 hS hx9 (by omega) hL dL_law_641 ?_
    refine lv_aload_n hx hb dL_law_642 rfl (lv_at hl 1 rfl) ?_
    refine lv_iload hx hb dL_law_643 (lv_at hl 5 rfl) ?_
    refine lv_iconst (v := nI 2) hx hb dL_law_645 (by decide) ?_
    refine lv_iadd hx hb dL_law_646 ?_
    refine q_top (y := nI (i + 2)) (nI_add _ _) ?_
    refine q_sld hx hb hX hbl hb0 hS hy9 (by omega) hL dL_law_647 ?_
    obtain ⟨fs648, ho36⟩ := hm.obj
    refine q_W1 (va_runV (As := [.int (x), .int (y)]) (rest := []) ⟨hx, hb, hml, hown, hts⟩ (c_X7_set l hm (x) (y)) (cwV 2 hts lg_X7_set rfl rfl rfl (by decide +kernel) ⟨Nat.le_of_ble_eq_true rfl, Nat.le_of_ble_eq_true rfl⟩) (q_preV hG hW hS ho36 rfl) rfl rfl hl.1 rfl (lv_room (Nat.le_of_ble_eq_true rfl)) dL_law_648 ⟨by show _ ≤ 601024; omega, by show _ ≤ 7293034; omega⟩) hS (fun w_648 H locs hp648 hW hS => ?_)
    obtain ⟨hd, hfm⟩ := hp648
    replace hs := hs.mod hfm
    replace h45 := (hfm 45 (by omega)).trans h45
    clear hm
    rcases hd with ⟨hc2, hm⟩ | ⟨hc2, hm⟩ | ⟨hc2, hm⟩
    · skip
      first | exact absurd hc hc2 | exact absurd hc2 hc | exact absurd hc.1 hc2 | exact absurd hc2.1 hc | exact absurd hc.2 hc2.2 | exact absurd hc2.2 hc.2 | (exact absurd hc.2 (by omega)) | (exact absurd hc (by omega)) | (exact absurd hc2.2 (by omega))
    · skip
      first | exact absurd hc hc2 | exact absurd hc2 hc | exact absurd hc.1 hc2 | exact absurd hc2.1 hc | exact absurd hc.2 hc2.2 | exact absurd hc2.2 hc.2 | (exact absurd hc.2 (by omega)) | (exact absurd hc (by omega)) | (exact absurd hc2.2 (by omega))
    · skip
      refine q_topv (v' := .int (nI 0)) (congrArg Value.int (if_neg (fun q9 => by first | exact hc2 q9 | exact hc2 q9.1 | exact absurd q9.2 (by omega) | exact hc2.2 q9.2 | exact q9.2 hc2.2 | omega))) ?_
      refine lv_istore (lv' := [(6, .int (nI 0)), (5, .int (nI 2)), (0, .ref (b0)), (1, .ref (b + 0)), (2, .ref (b + 36)), (3, .ref (b + 45)), (4, .int (nI i))]) hx hb dL_law_651 hl (by decide) rfl (fun ls hl => ?_)
      refine lv_aload_n hx hb dL_law_653 rfl (lv_at hl 4 rfl) ?_
      obtain ⟨fs654, ho36⟩ := hm.obj
      refine q_R1 (va_runV (As := []) (rest := []) ⟨hx, hb, hml, hown, hts⟩ (c_thr l hm) (cwV 0 hts lg_X7_thrown rfl rfl rfl (by decide +kernel) ⟨Nat.le_of_ble_eq_true rfl, Nat.le_of_ble_eq_true rfl⟩) (q_preV hG hW hS ho36 rfl) rfl rfl hl.1 rfl (lv_room (Nat.le_of_ble_eq_true rfl)) dL_law_654 ⟨by show _ ≤ 601024; omega, by show _ ≤ 7293034; omega⟩) ?_
      refine lv_iload hx hb dL_law_657 (lv_at hl 1 rfl) ?_
      refine lv_icmp_eq (tgt := 664) hx hb dL_law_659 (by decide) (fun c_659 => ?_) (fun c_659 => ?_)
      · skip
        have c_659 : 2 = 2 := (nI_eq (a := 2) (b := 2) (by omega) (by omega)).mp c_659
        refine lv_iload hx hb dL_law_664 (lv_at hl 1 rfl) ?_
        refine lv_if_ne (tgt := 681) hx hb dL_law_666 (by decide) (fun c_666 => ?_) (fun c_666 => ?_)
        · skip
          have c_666 : ¬ (2 = 0) := fun h__ => c_666 ((nI_eq0 (i := 2) (by omega)).mpr h__)
          refine lv_goto (tgt := 1597) hx hb dL_law_681 (by decide) ?_
          exact W.widen (by omega) (by omega) (K _ _ _ _ _ ⟨hs, ⟨_, hm⟩, ⟨_, h45⟩, hW, hS⟩ (lv_sub hl [2, 3, 4, 5, 6] rfl))
        · skip
          have c_666 : 2 = 0 := (nI_eq0 (i := 2) (by omega)).mp c_666
          exact absurd c_666 (by omega)
      · skip
        have c_659 : ¬ (2 = 2) := fun h__ => c_659 ((nI_eq (a := 2) (b := 2) (by omega) (by omega)).mpr h__)
        exact absurd c_659 (by omega)

set_option maxHeartbeats 1000000 in
set_option maxRecDepth 100000 in
/-- case 6: append -/
theorem law_6 {p : Program} {l : Launch} {e : Env} {s : State} {m : MethodId} {args : Array Value} {below : List Frame} {meth : Method} {c : Code} {Q : State → Prop} {b0 L : Nat} {xs : Nat → Int32} {D : va_G} {dA : Nat → Nat} {b : Nat} (F9 : LWF p l s m args c b0 L xs D dA b) {w : Wd} {lo : Nat} {A : Sy} {H : Heap} {locs : List Loc} (V : LWV D dA b s w H locs lo A) {cells slots : Nat} (hcc : cells ≤ 600000) (hss : slots ≤ 7000000) {i : Nat} (hi : i + 5 ≤ L) {ls : Array Slot} (hl : LWL b b0 ls (nI i))
    (K : ∀ (w1 : Wd) (H1 : Heap) (locs1 : List Loc) (A1 : Sy) (ls1 : Array Slot), LWV D dA b s w1 H1 locs1 lo A1 → LWL b b0 ls1 (nI i) → W p l e room_1 s m args below meth c H1 locs1 (cells + 7) (slots + 116) Q (F0 m 1597 ls1 [])) : W p l e room_1 s m args below meth c H locs cells slots Q (F0 m 684 ls []) := by
  obtain ⟨hl0, hx, hb, hml, hown, hts, hX, hbl, hb0, hG, hL⟩ := F9
  obtain ⟨hs, ⟨tt, hm⟩, ⟨O9, h45⟩, hW, hS⟩ := V
  obtain ⟨P, ⟨n, Hs⟩, SL, nc, C⟩ := A
  have hlo : 46 ≤ lo := hs.2.2.2.2.2.2.1
  have hP := sys_ok hs
  change okP P at hP
  have hl : lv_has ls 9 [(0, .ref b0), (1, .ref (b + 0)), (2, .ref (b + 36)), (3, .ref (b + 45)), (4, .int (nI i))] := hl
  obtain ⟨x, hx9⟩ : ∃ q : Int32, xs (i + 1) = q := ⟨_, rfl⟩
  refine lv_aload_n hx hb dL_law_684 rfl (lv_at hl 1 rfl) ?_
  refine lv_aload_n hx hb dL_law_685 rfl (lv_at hl 0 rfl) ?_
  refine lv_iload hx hb dL_law_686 (lv_at hl 4 rfl) ?_
  refine lv_iconst (v := nI 1) hx hb dL_law_688 (by decide) ?_
  refine lv_iadd hx hb dL_law_689 ?_
  refine q_top (y := nI (i + 1)) (nI_add _ _) ?_
  refine q_sld hx hb hX hbl hb0 hS hx9 (by omega) hL dL_law_690 ?_
  refine lv_aload_n hx hb dL_law_691 rfl (lv_at hl 3 rfl) ?_
  refine q_XE1 (vx_runSX (As := [.ref (b + 0), .int (x), .ref (b + 45)]) (rest := []) ⟨hx, hb, hml, hown, hts⟩ (c_L_append l hl0 hs h45 (x)) (vx_cwSW 3 hts lg_L_append rfl rfl rfl (by decide +kernel) ⟨Nat.le_of_ble_eq_true rfl, Nat.le_of_ble_eq_true rfl⟩) (q_preS hG hW hS) rfl rfl hl.1 rfl (lv_room (Nat.le_of_ble_eq_true rfl)) dL_law_692 ⟨by show _ ≤ 601024; omega, by show _ ≤ 7293034; omega⟩) hS (fun r692 w_692 H locs hp692 hW hS => ?_)
  obtain ⟨hor, hf5⟩ := hp692
  replace hm := hm.fr hf5
  clear hs h45
  rcases hor with ⟨hr9, hc, hs, h45⟩ | ⟨hr9, hc, hs, h45⟩ | ⟨hr9, hc, hs, h45⟩
  · skip
    subst hr9
    refine lv_istore (lv' := [(5, .int (nI 0)), (0, .ref (b0)), (1, .ref (b + 0)), (2, .ref (b + 36)), (3, .ref (b + 45)), (4, .int (nI i))]) hx hb dL_law_695 hl (by decide) rfl (fun ls hl => ?_)
    refine lv_aload_n hx hb dL_law_697 rfl (lv_at hl 3 rfl) ?_
    refine lv_aload_n hx hb dL_law_698 rfl (lv_at hl 1 rfl) ?_
    refine lv_iload hx hb dL_law_699 (lv_at hl 5 rfl) ?_
    refine lv_iconst (v := nI 1) hx hb dL_law_701 (by decide) ?_
    refine lv_iadd hx hb dL_law_702 ?_
    refine q_top (y := nI (i + 1)) (nI_add _ _) ?_
    refine q_sld hx hb hX hbl hb0 hS hx9 (by omega) hL dL_law_703 ?_
    obtain ⟨fs704, ho36⟩ := hm.obj
    refine q_W1 (va_runV (As := [.int (x)]) (rest := []) ⟨hx, hb, hml, hown, hts⟩ (c_X7_append l hm (x)) (cwV 1 hts lg_X7_append rfl rfl rfl (by decide +kernel) ⟨Nat.le_of_ble_eq_true rfl, Nat.le_of_ble_eq_true rfl⟩) (q_preV hG hW hS ho36 rfl) rfl rfl hl.1 rfl (lv_room (Nat.le_of_ble_eq_true rfl)) dL_law_704 ⟨by show _ ≤ 601024; omega, by show _ ≤ 7293034; omega⟩) hS (fun w_704 H locs hp704 hW hS => ?_)
    obtain ⟨hd, hfm⟩ := hp704
    replace hs := hs.mod hfm
    replace h45 := (hfm 45 (by omega)).trans h45
    clear hm
    rcases hd with ⟨hc2, hm⟩ | ⟨hc2, hm⟩ | ⟨hc2, hm⟩
    · skip
      refine q_topv (v' := .int (nI (nc + 1))) (congrArg Value.int (if_pos hc2)) ?_
      refine lv_istore (lv' := [(6, .int (nI (nc + 1))), (5, .int (nI 0)), (0, .ref (b0)), (1, .ref (b + 0)), (2, .ref (b + 36)), (3, .ref (b + 45)), (4, .int (nI i))]) hx hb dL_law_707 hl (by decide) rfl (fun ls hl => ?_)
      refine lv_aload_n hx hb dL_law_709 rfl (lv_at hl 4 rfl) ?_
      obtain ⟨fs710, ho36⟩ := hm.obj
      refine q_R1 (va_runV (As := []) (rest := []) ⟨hx, hb, hml, hown, hts⟩ (c_thr l hm) (cwV 0 hts lg_X7_thrown rfl rfl rfl (by decide +kernel) ⟨Nat.le_of_ble_eq_true rfl, Nat.le_of_ble_eq_true rfl⟩) (q_preV hG hW hS ho36 rfl) rfl rfl hl.1 rfl (lv_room (Nat.le_of_ble_eq_true rfl)) dL_law_710 ⟨by show _ ≤ 601024; omega, by show _ ≤ 7293034; omega⟩) ?_
      refine lv_iload hx hb dL_law_713 (lv_at hl 1 rfl) ?_
      refine lv_icmp_eq (tgt := 720) hx hb dL_law_715 (by decide) (fun c_715 => ?_) (fun c_715 => ?_)
      · skip
        have c_715 : 0 = 0 := (nI_eq (a := 0) (b := 0) (by omega) (by omega)).mp c_715
        refine lv_iload hx hb dL_law_720 (lv_at hl 1 rfl) ?_
        refine lv_if_ne (tgt := 737) hx hb dL_law_722 (by decide) (fun c_722 => ?_) (fun c_722 => ?_)
        · skip
          have c_722 : ¬ (0 = 0) := fun h__ => c_722 ((nI_eq0 (i := 0) (by omega)).mpr h__)
          exact absurd c_722 (by omega)
        · skip
          have c_722 : 0 = 0 := (nI_eq0 (i := 0) (by omega)).mp c_722
          refine lv_aload_n hx hb dL_law_725 rfl (lv_at hl 5 rfl) ?_
          refine lv_iconst (v := nI 0) hx hb dL_law_726 (by decide) ?_
          refine q_lald hx hb hG hW h45 (by decide) (by decide) dL_law_727 ?_
          refine q_topv (v' := .long ((nI (nc + 1)).toInt64)) (by rw [va_up_self]) ?_
          refine lv_iload hx hb dL_law_728 (lv_at hl 0 rfl) ?_
          refine lv_i2l hx hb dL_law_730 rfl ?_
          refine W.lcmp hx hb dL_law_731 ?_
          refine q_topv (v' := .int (nI 0)) (congrArg Value.int (lg_cmp_self _)) ?_
          refine lv_if_eq (tgt := 737) hx hb dL_law_732 (by decide) (fun c_732 => ?_) (fun c_732 => ?_)
          · skip
            have c_732 : 0 = 0 := (nI_eq0 (i := 0) (by omega)).mp c_732
            refine lv_goto (tgt := 1597) hx hb dL_law_737 (by decide) ?_
            exact W.widen (by omega) (by omega) (K _ _ _ _ _ ⟨hs, ⟨_, hm⟩, ⟨_, h45⟩, hW, hS⟩ (lv_sub hl [2, 3, 4, 5, 6] rfl))
          · skip
            have c_732 : ¬ (0 = 0) := fun h__ => c_732 ((nI_eq0 (i := 0) (by omega)).mpr h__)
            exact absurd c_732 (by omega)
      · skip
        have c_715 : ¬ (0 = 0) := fun h__ => c_715 ((nI_eq (a := 0) (b := 0) (by omega) (by omega)).mpr h__)
        exact absurd c_715 (by omega)
    · skip
      first | exact absurd hc hc2 | exact absurd hc2 hc | exact absurd hc.1 hc2 | exact absurd hc2.1 hc | exact absurd hc.2 hc2.2 | exact absurd hc2.2 hc.2 | (exact absurd hc.2 (by omega)) | (exact absurd hc (by omega)) | (exact absurd hc2.2 (by omega))
    · skip
      first | exact absurd hc hc2 | exact absurd hc2 hc | exact absurd hc.1 hc2 | exact absurd hc2.1 hc | exact absurd hc.2 hc2.2 | exact absurd hc2.2 hc.2 | (exact absurd hc.2 (by omega)) | (exact absurd hc (by omega)) | (exact absurd hc2.2 (by omega))
  · skip
    subst hr9
    refine lv_istore (lv' := [(5, .int (nI 1)), (0, .ref (b0)), (1, .ref (b + 0)), (2, .ref (b + 36)), (3, .ref (b + 45)), (4, .int (nI i))]) hx hb dL_law_695 hl (by decide) rfl (fun ls hl => ?_)
    refine lv_aload_n hx hb dL_law_697 rfl (lv_at hl 3 rfl) ?_
    refine lv_aload_n hx hb dL_law_698 rfl (lv_at hl 1 rfl) ?_
    refine lv_iload hx hb dL_law_699 (lv_at hl 5 rfl) ?_
    refine lv_iconst (v := nI 1) hx hb dL_law_701 (by decide) ?_
    refine lv_iadd hx hb dL_law_702 ?_
    refine q_top (y := nI (i + 1)) (nI_add _ _) ?_
    refine q_sld hx hb hX hbl hb0 hS hx9 (by omega) hL dL_law_703 ?_
    obtain ⟨fs704, ho36⟩ := hm.obj
    refine q_W1 (va_runV (As := [.int (x)]) (rest := []) ⟨hx, hb, hml, hown, hts⟩ (c_X7_append l hm (x)) (cwV 1 hts lg_X7_append rfl rfl rfl (by decide +kernel) ⟨Nat.le_of_ble_eq_true rfl, Nat.le_of_ble_eq_true rfl⟩) (q_preV hG hW hS ho36 rfl) rfl rfl hl.1 rfl (lv_room (Nat.le_of_ble_eq_true rfl)) dL_law_704 ⟨by show _ ≤ 601024; omega, by show _ ≤ 7293034; omega⟩) hS (fun w_704 H locs hp704 hW hS => ?_)
    obtain ⟨hd, hfm⟩ := hp704
    replace hs := hs.mod hfm
    replace h45 := (hfm 45 (by omega)).trans h45
    clear hm
    rcases hd with ⟨hc2, hm⟩ | ⟨hc2, hm⟩ | ⟨hc2, hm⟩
    · skip
      first | exact absurd hc hc2 | exact absurd hc2 hc | exact absurd hc.1 hc2 | exact absurd hc2.1 hc | exact absurd hc.2 hc2.2 | exact absurd hc2.2 hc.2 | (exact absurd hc.2 (by omega)) | (exact absurd hc (by omega)) | (exact absurd hc2.2 (by omega))
    · skip
      refine q_topv (v' := .int (nI 0)) (congrArg Value.int (if_neg (fun q9 => by first | exact hc2 q9 | exact hc2 q9.1 | exact absurd q9.2 (by omega) | exact hc2.2 q9.2 | exact q9.2 hc2.2 | omega))) ?_
      refine lv_istore (lv' := [(6, .int (nI 0)), (5, .int (nI 1)), (0, .ref (b0)), (1, .ref (b + 0)), (2, .ref (b + 36)), (3, .ref (b + 45)), (4, .int (nI i))]) hx hb dL_law_707 hl (by decide) rfl (fun ls hl => ?_)
      refine lv_aload_n hx hb dL_law_709 rfl (lv_at hl 4 rfl) ?_
      obtain ⟨fs710, ho36⟩ := hm.obj
      refine q_R1 (va_runV (As := []) (rest := []) ⟨hx, hb, hml, hown, hts⟩ (c_thr l hm) (cwV 0 hts lg_X7_thrown rfl rfl rfl (by decide +kernel) ⟨Nat.le_of_ble_eq_true rfl, Nat.le_of_ble_eq_true rfl⟩) (q_preV hG hW hS ho36 rfl) rfl rfl hl.1 rfl (lv_room (Nat.le_of_ble_eq_true rfl)) dL_law_710 ⟨by show _ ≤ 601024; omega, by show _ ≤ 7293034; omega⟩) ?_
      refine lv_iload hx hb dL_law_713 (lv_at hl 1 rfl) ?_
      refine lv_icmp_eq (tgt := 720) hx hb dL_law_715 (by decide) (fun c_715 => ?_) (fun c_715 => ?_)
      · skip
        have c_715 : 1 = 1 := (nI_eq (a := 1) (b := 1) (by omega) (by omega)).mp c_715
        refine lv_iload hx hb dL_law_720 (lv_at hl 1 rfl) ?_
        refine lv_if_ne (tgt := 737) hx hb dL_law_722 (by decide) (fun c_722 => ?_) (fun c_722 => ?_)
        · skip
          have c_722 : ¬ (1 = 0) := fun h__ => c_722 ((nI_eq0 (i := 1) (by omega)).mpr h__)
          refine lv_goto (tgt := 1597) hx hb dL_law_737 (by decide) ?_
          exact W.widen (by omega) (by omega) (K _ _ _ _ _ ⟨hs, ⟨_, hm⟩, ⟨_, h45⟩, hW, hS⟩ (lv_sub hl [2, 3, 4, 5, 6] rfl))
        · skip
          have c_722 : 1 = 0 := (nI_eq0 (i := 1) (by omega)).mp c_722
          exact absurd c_722 (by omega)
      · skip
        have c_715 : ¬ (1 = 1) := fun h__ => c_715 ((nI_eq (a := 1) (b := 1) (by omega) (by omega)).mpr h__)
        exact absurd c_715 (by omega)
    · skip
      first | exact absurd hc hc2 | exact absurd hc2 hc | exact absurd hc.1 hc2 | exact absurd hc2.1 hc | exact absurd hc.2 hc2.2 | exact absurd hc2.2 hc.2 | (exact absurd hc.2 (by omega)) | (exact absurd hc (by omega)) | (exact absurd hc2.2 (by omega))
  · skip
    subst hr9
    refine lv_istore (lv' := [(5, .int (nI 2)), (0, .ref (b0)), (1, .ref (b + 0)), (2, .ref (b + 36)), (3, .ref (b + 45)), (4, .int (nI i))]) hx hb dL_law_695 hl (by decide) rfl (fun ls hl => ?_)
    refine lv_aload_n hx hb dL_law_697 rfl (lv_at hl 3 rfl) ?_
    refine lv_aload_n hx hb dL_law_698 rfl (lv_at hl 1 rfl) ?_
    refine lv_iload hx hb dL_law_699 (lv_at hl 5 rfl) ?_
    refine lv_iconst (v := nI 1) hx hb dL_law_701 (by decide) ?_
    refine lv_iadd hx hb dL_law_702 ?_
    refine q_top (y := nI (i + 1)) (nI_add _ _) ?_
    refine q_sld hx hb hX hbl hb0 hS hx9 (by omega) hL dL_law_703 ?_
    obtain ⟨fs704, ho36⟩ := hm.obj
    refine q_W1 (va_runV (As := [.int (x)]) (rest := []) ⟨hx, hb, hml, hown, hts⟩ (c_X7_append l hm (x)) (cwV 1 hts lg_X7_append rfl rfl rfl (by decide +kernel) ⟨Nat.le_of_ble_eq_true rfl, Nat.le_of_ble_eq_true rfl⟩) (q_preV hG hW hS ho36 rfl) rfl rfl hl.1 rfl (lv_room (Nat.le_of_ble_eq_true rfl)) dL_law_704 ⟨by show _ ≤ 601024; omega, by show _ ≤ 7293034; omega⟩) hS (fun w_704 H locs hp704 hW hS => ?_)
    obtain ⟨hd, hfm⟩ := hp704
    replace hs := hs.mod hfm
    replace h45 := (hfm 45 (by omega)).trans h45
    clear hm
    rcases hd with ⟨hc2, hm⟩ | ⟨hc2, hm⟩ | ⟨hc2, hm⟩
    · skip
      first | exact absurd hc hc2 | exact absurd hc2 hc | exact absurd hc.1 hc2 | exact absurd hc2.1 hc | exact absurd hc.2 hc2.2 | exact absurd hc2.2 hc.2 | (exact absurd hc.2 (by omega)) | (exact absurd hc (by omega)) | (exact absurd hc2.2 (by omega))
    · skip
      first | exact absurd hc hc2 | exact absurd hc2 hc | exact absurd hc.1 hc2 | exact absurd hc2.1 hc | exact absurd hc.2 hc2.2 | exact absurd hc2.2 hc.2 | (exact absurd hc.2 (by omega)) | (exact absurd hc (by omega)) | (exact absurd hc2.2 (by omega))
    · skip
      refine q_topv (v' := .int (nI 0)) (congrArg Value.int (if_neg (fun q9 => by first | exact hc2 q9 | exact hc2 q9.1 | exact absurd q9.2 (by omega) | exact hc2.2 q9.2 | exact q9.2 hc2.2 | omega))) ?_
      refine lv_istore (lv' := [(6, .int (nI 0)), (5, .int (nI 2)), (0, .ref (b0)), (1, .ref (b + 0)), (2, .ref (b + 36)), (3, .ref (b + 45)), (4, .int (nI i))]) hx hb dL_law_707 hl (by decide) rfl (fun ls hl => ?_)
      refine lv_aload_n hx hb dL_law_709 rfl (lv_at hl 4 rfl) ?_
      obtain ⟨fs710, ho36⟩ := hm.obj
      refine q_R1 (va_runV (As := []) (rest := []) ⟨hx, hb, hml, hown, hts⟩ (c_thr l hm) (cwV 0 hts lg_X7_thrown rfl rfl rfl (by decide +kernel) ⟨Nat.le_of_ble_eq_true rfl, Nat.le_of_ble_eq_true rfl⟩) (q_preV hG hW hS ho36 rfl) rfl rfl hl.1 rfl (lv_room (Nat.le_of_ble_eq_true rfl)) dL_law_710 ⟨by show _ ≤ 601024; omega, by show _ ≤ 7293034; omega⟩) ?_
      refine lv_iload hx hb dL_law_713 (lv_at hl 1 rfl) ?_
      refine lv_icmp_eq (tgt := 720) hx hb dL_law_715 (by decide) (fun c_715 => ?_) (fun c_715 => ?_)
      · skip
        have c_715 : 2 = 2 := (nI_eq (a := 2) (b := 2) (by omega) (by omega)).mp c_715
        refine lv_iload hx hb dL_law_720 (lv_at hl 1 rfl) ?_
        refine lv_if_ne (tgt := 737) hx hb dL_law_722 (by decide) (fun c_722 => ?_) (fun c_722 => ?_)
        · skip
          have c_722 : ¬ (2 = 0) := fun h__ => c_722 ((nI_eq0 (i := 2) (by omega)).mpr h__)
          refine lv_goto (tgt := 1597) hx hb dL_law_737 (by decide) ?_
          exact W.widen (by omega) (by omega) (K _ _ _ _ _ ⟨hs, ⟨_, hm⟩, ⟨_, h45⟩, hW, hS⟩ (lv_sub hl [2, 3, 4, 5, 6] rfl))
        · skip
          have c_722 : 2 = 0 := (nI_eq0 (i := 2) (by omega)).mp c_722
          exact absurd c_722 (by omega)
      · skip
        have c_715 : ¬ (2 = 2) := fun h__ => c_715 ((nI_eq (a := 2) (b := 2) (by omega) (by omega)).mpr h__)
        exact absurd c_715 (by omega)

set_option maxHeartbeats 1000000 in
set_option maxRecDepth 100000 in
/-- case 7: clearBuffer -/
theorem law_7 {p : Program} {l : Launch} {e : Env} {s : State} {m : MethodId} {args : Array Value} {below : List Frame} {meth : Method} {c : Code} {Q : State → Prop} {b0 L : Nat} {xs : Nat → Int32} {D : va_G} {dA : Nat → Nat} {b : Nat} (F9 : LWF p l s m args c b0 L xs D dA b) {w : Wd} {lo : Nat} {A : Sy} {H : Heap} {locs : List Loc} (V : LWV D dA b s w H locs lo A) {cells slots : Nat} (hcc : cells ≤ 600000) (hss : slots ≤ 7000000) {i : Nat} (hi : i + 5 ≤ L) {ls : Array Slot} (hl : LWL b b0 ls (nI i))
    (K : ∀ (w1 : Wd) (H1 : Heap) (locs1 : List Loc) (A1 : Sy) (ls1 : Array Slot), LWV D dA b s w1 H1 locs1 lo A1 → LWL b b0 ls1 (nI i) → W p l e room_1 s m args below meth c H1 locs1 (cells + 7) (slots + 116) Q (F0 m 1597 ls1 [])) : W p l e room_1 s m args below meth c H locs cells slots Q (F0 m 740 ls []) := by
  obtain ⟨hl0, hx, hb, hml, hown, hts, hX, hbl, hb0, hG, hL⟩ := F9
  obtain ⟨hs, ⟨tt, hm⟩, ⟨O9, h45⟩, hW, hS⟩ := V
  obtain ⟨P, ⟨n, Hs⟩, SL, nc, C⟩ := A
  have hlo : 46 ≤ lo := hs.2.2.2.2.2.2.1
  have hP := sys_ok hs
  change okP P at hP
  have hl : lv_has ls 9 [(0, .ref b0), (1, .ref (b + 0)), (2, .ref (b + 36)), (3, .ref (b + 45)), (4, .int (nI i))] := hl
  refine lv_aload_n hx hb dL_law_740 rfl (lv_at hl 1 rfl) ?_
  refine q_W1 (va_runV (As := []) (rest := []) ⟨hx, hb, hml, hown, hts⟩ (c_X6_clearBuffer l hs ) (cwV 0 hts lg_X6_clearBuffer rfl rfl rfl (by decide +kernel) ⟨Nat.le_of_ble_eq_true rfl, Nat.le_of_ble_eq_true rfl⟩) (q_preV hG hW hS hs.1 rfl) rfl rfl hl.1 rfl (lv_room (Nat.le_of_ble_eq_true rfl)) dL_law_741 ⟨by show _ ≤ 601024; omega, by show _ ≤ 7293034; omega⟩) hS (fun w_741 H locs hp741 hW hS => ?_)
  obtain ⟨hs, hf5⟩ := hp741
  replace hm := hm.fr (fun id h8 h9 => hf5 id h8 (by omega))
  replace h45 := (hf5 45 (by omega) (by omega)).trans h45
  refine lv_aload_n hx hb dL_law_744 rfl (lv_at hl 2 rfl) ?_
  obtain ⟨fs745, ho36⟩ := hm.obj
  refine q_W1 (va_runV (As := []) (rest := [.int (nI nc)]) ⟨hx, hb, hml, hown, hts⟩ (c_X7_clearBuffer l hm ) (cwV 0 hts lg_X7_clearBuffer rfl rfl rfl (by decide +kernel) ⟨Nat.le_of_ble_eq_true rfl, Nat.le_of_ble_eq_true rfl⟩) (q_preV hG hW hS ho36 rfl) rfl rfl hl.1 rfl (lv_room (Nat.le_of_ble_eq_true rfl)) dL_law_745 ⟨by show _ ≤ 601024; omega, by show _ ≤ 7293034; omega⟩) hS (fun w_745 H locs hp745 hW hS => ?_)
  obtain ⟨hm, hfm⟩ := hp745
  replace hs := hs.mod hfm
  replace h45 := (hfm 45 (by omega)).trans h45
  refine lv_icmp_eq (tgt := 1597) hx hb dL_law_748 (by decide) (fun c_748 => ?_) (fun c_748 => ?_)
  · skip
    exact W.widen (by omega) (by omega) (K _ _ _ _ _ ⟨hs, ⟨_, hm⟩, ⟨_, h45⟩, hW, hS⟩ (lv_sub hl [0, 1, 2, 3, 4] rfl))
  · skip
    exact absurd rfl c_748
