set_option maxHeartbeats 1000000 in
set_option maxRecDepth 100000 in
/-- case 14: goBack -/
theorem law_14 {p : Program} {l : Launch} {e : Env} {s : State} {m : MethodId} {args : Array Value} {below : List Frame} {meth : Method} {c : Code} {Q : State → Prop} {b0 L : Nat} {xs : Nat → Int32} {D : va_G} {dA : Nat → Nat} {b : Nat} (F9 : LWF p l s m args c b0 L xs D dA b) {w : Wd} {lo : Nat} {A : Sy} {H : Heap} {locs : List Loc} (V : LWV D dA b s w H locs lo A) {cells slots : Nat} (hcc : cells ≤ 600000) (hss : slots ≤ 7000000) {i : Nat} (hi : i + 5 ≤ L) {ls : Array Slot} (hl : LWL b b0 ls (nI i))
    (K : ∀ (w1 : Wd) (H1 : Heap) (locs1 : List Loc) (A1 : Sy) (ls1 : Array Slot), LWV D dA b s w1 H1 locs1 lo A1 → LWL b b0 ls1 (nI i) → W p l e room_1 s m args below meth c H1 locs1 (cells + 7) (slots + 116) Q (F0 m 1597 ls1 [])) : W p l e room_1 s m args below meth c H locs cells slots Q (F0 m 979 ls []) := by
  obtain ⟨hl0, hx, hb, hml, hown, hts, hX, hbl, hb0, hG, hL⟩ := F9
  obtain ⟨hs, ⟨tt, hm⟩, ⟨O9, h45⟩, hW, hS⟩ := V
  obtain ⟨P, ⟨n, Hs⟩, SL, nc, C⟩ := A
  have hlo : 46 ≤ lo := hs.2.2.2.2.2.2.1
  have hP := sys_ok hs
  change okP P at hP
  have hl : lv_has ls 9 [(0, .ref b0), (1, .ref (b + 0)), (2, .ref (b + 36)), (3, .ref (b + 45)), (4, .int (nI i))] := hl
  obtain ⟨x, hx9⟩ : ∃ q : Int32, xs (i + 1) = q := ⟨_, rfl⟩
  refine lv_aload_n hx hb dL_law_979 rfl (lv_at hl 1 rfl) ?_
  refine lv_aload_n hx hb dL_law_980 rfl (lv_at hl 0 rfl) ?_
  refine lv_iload hx hb dL_law_981 (lv_at hl 4 rfl) ?_
  refine lv_iconst (v := nI 1) hx hb dL_law_983 (by decide) ?_
  refine lv_iadd hx hb dL_law_984 ?_
  refine q_top (y := nI (i + 1)) (nI_add _ _) ?_
  refine q_sld hx hb hX hbl hb0 hS hx9 (by omega) hL dL_law_985 ?_
  refine lv_aload_n hx hb dL_law_986 rfl (lv_at hl 3 rfl) ?_
  refine q_XE1 (vx_runSX (As := [.ref (b + 0), .int (x), .ref (b + 45)]) (rest := []) ⟨hx, hb, hml, hown, hts⟩ (c_L_goBack l hl0 hs h45 (x)) (vx_cwSW 3 hts lg_L_goBack rfl rfl rfl (by decide +kernel) ⟨Nat.le_of_ble_eq_true rfl, Nat.le_of_ble_eq_true rfl⟩) (q_preS hG hW hS) rfl rfl hl.1 rfl (lv_room (Nat.le_of_ble_eq_true rfl)) dL_law_987 ⟨by show _ ≤ 601024; omega, by show _ ≤ 7293034; omega⟩) hS (fun r987 w_987 H locs hp987 hW hS => ?_)
  obtain ⟨hor, hf5⟩ := hp987
  replace hm := hm.fr hf5
  clear hs h45
  rcases hor with ⟨hr9, hc, hs, h45⟩ | ⟨hr9, hc, hs, h45⟩ | ⟨hr9, hc, hs, h45⟩
  · skip
    subst hr9
    refine lv_istore (lv' := [(5, .int (nI 0)), (0, .ref (b0)), (1, .ref (b + 0)), (2, .ref (b + 36)), (3, .ref (b + 45)), (4, .int (nI i))]) hx hb dL_law_990 hl (by decide) rfl (fun ls hl => ?_)
    refine lv_aload_n hx hb dL_law_992 rfl (lv_at hl 3 rfl) ?_
    refine lv_aload_n hx hb dL_law_993 rfl (lv_at hl 1 rfl) ?_
    refine lv_iload hx hb dL_law_994 (lv_at hl 5 rfl) ?_
    refine lv_iconst (v := nI 1) hx hb dL_law_996 (by decide) ?_
    refine lv_iadd hx hb dL_law_997 ?_
    refine q_top (y := nI (i + 1)) (nI_add _ _) ?_
    refine q_sld hx hb hX hbl hb0 hS hx9 (by omega) hL dL_law_998 ?_
    obtain ⟨fs999, ho36⟩ := hm.obj
    refine q_W1 (va_runV (As := [.int (x)]) (rest := []) ⟨hx, hb, hml, hown, hts⟩ (c_X7_goBack l hm (x)) (cwV 1 hts lg_X7_goBack rfl rfl rfl (by decide +kernel) ⟨Nat.le_of_ble_eq_true rfl, Nat.le_of_ble_eq_true rfl⟩) (q_preV hG hW hS ho36 rfl) rfl rfl hl.1 rfl (lv_room (Nat.le_of_ble_eq_true rfl)) dL_law_999 ⟨by show _ ≤ 601024; omega, by show _ ≤ 7293034; omega⟩) hS (fun w_999 H locs hp999 hW hS => ?_)
    obtain ⟨hd, hfm⟩ := hp999
    replace hs := hs.mod hfm
    replace h45 := (hfm 45 (by omega)).trans h45
    clear hm
    rcases hd with ⟨hc2, hm⟩ | ⟨hc2, hm⟩ | ⟨hc2, hm⟩
    · skip
      refine q_topv (v' := .int (nI ((SL (i32n x)).getD P0).w)) (congrArg Value.int (if_pos hc2)) ?_
      refine lv_istore (lv' := [(6, .int (nI ((SL (i32n x)).getD P0).w)), (5, .int (nI 0)), (0, .ref (b0)), (1, .ref (b + 0)), (2, .ref (b + 36)), (3, .ref (b + 45)), (4, .int (nI i))]) hx hb dL_law_1002 hl (by decide) rfl (fun ls hl => ?_)
      refine lv_aload_n hx hb dL_law_1004 rfl (lv_at hl 4 rfl) ?_
      obtain ⟨fs1005, ho36⟩ := hm.obj
      refine q_R1 (va_runV (As := []) (rest := []) ⟨hx, hb, hml, hown, hts⟩ (c_thr l hm) (cwV 0 hts lg_X7_thrown rfl rfl rfl (by decide +kernel) ⟨Nat.le_of_ble_eq_true rfl, Nat.le_of_ble_eq_true rfl⟩) (q_preV hG hW hS ho36 rfl) rfl rfl hl.1 rfl (lv_room (Nat.le_of_ble_eq_true rfl)) dL_law_1005 ⟨by show _ ≤ 601024; omega, by show _ ≤ 7293034; omega⟩) ?_
      refine lv_iload hx hb dL_law_1008 (lv_at hl 1 rfl) ?_
      refine lv_icmp_eq (tgt := 1015) hx hb dL_law_1010 (by decide) (fun c_1010 => ?_) (fun c_1010 => ?_)
      · skip
        have c_1010 : 0 = 0 := (nI_eq (a := 0) (b := 0) (by omega) (by omega)).mp c_1010
        refine lv_iload hx hb dL_law_1015 (lv_at hl 1 rfl) ?_
        refine lv_if_ne (tgt := 1032) hx hb dL_law_1017 (by decide) (fun c_1017 => ?_) (fun c_1017 => ?_)
        · skip
          have c_1017 : ¬ (0 = 0) := fun h__ => c_1017 ((nI_eq0 (i := 0) (by omega)).mpr h__)
          exact absurd c_1017 (by omega)
        · skip
          have c_1017 : 0 = 0 := (nI_eq0 (i := 0) (by omega)).mp c_1017
          refine lv_aload_n hx hb dL_law_1020 rfl (lv_at hl 5 rfl) ?_
          refine lv_iconst (v := nI 0) hx hb dL_law_1021 (by decide) ?_
          refine q_lald hx hb hG hW h45 (by decide) (by decide) dL_law_1022 ?_
          refine q_topv (v' := .long ((nI ((SL (i32n x)).getD P0).w).toInt64)) (by rw [va_up_self]) ?_
          refine lv_iload hx hb dL_law_1023 (lv_at hl 0 rfl) ?_
          refine lv_i2l hx hb dL_law_1025 rfl ?_
          refine W.lcmp hx hb dL_law_1026 ?_
          refine q_topv (v' := .int (nI 0)) (congrArg Value.int (lg_cmp_self _)) ?_
          refine lv_if_eq (tgt := 1032) hx hb dL_law_1027 (by decide) (fun c_1027 => ?_) (fun c_1027 => ?_)
          · skip
            have c_1027 : 0 = 0 := (nI_eq0 (i := 0) (by omega)).mp c_1027
            refine lv_goto (tgt := 1597) hx hb dL_law_1032 (by decide) ?_
            exact W.widen (by omega) (by omega) (K _ _ _ _ _ ⟨hs, ⟨_, hm⟩, ⟨_, h45⟩, hW, hS⟩ (lv_sub hl [2, 3, 4, 5, 6] rfl))
          · skip
            have c_1027 : ¬ (0 = 0) := fun h__ => c_1027 ((nI_eq0 (i := 0) (by omega)).mpr h__)
            exact absurd c_1027 (by omega)
      · skip
        have c_1010 : ¬ (0 = 0) := fun h__ => c_1010 ((nI_eq (a := 0) (b := 0) (by omega) (by omega)).mpr h__)
        exact absurd c_1010 (by omega)
    · skip
      first | exact absurd hc hc2 | exact absurd hc2 hc | exact absurd hc.1 hc2 | exact absurd hc2.1 hc | exact absurd hc.2 hc2.2 | exact absurd hc2.2 hc.2 | (exact absurd hc.2 (by omega)) | (exact absurd hc (by omega)) | (exact absurd hc2.2 (by omega))
    · skip
      first | exact absurd hc hc2 | exact absurd hc2 hc | exact absurd hc.1 hc2 | exact absurd hc2.1 hc | exact absurd hc.2 hc2.2 | exact absurd hc2.2 hc.2 | (exact absurd hc.2 (by omega)) | (exact absurd hc (by omega)) | (exact absurd hc2.2 (by omega))
  · skip
    subst hr9
    refine lv_istore (lv' := [(5, .int (nI 1)), (0, .ref (b0)), (1, .ref (b + 0)), (2, .ref (b + 36)), (3, .ref (b + 45)), (4, .int (nI i))]) hx hb dL_law_990 hl (by decide) rfl (fun ls hl => ?_)
    refine lv_aload_n hx hb dL_law_992 rfl (lv_at hl 3 rfl) ?_
    refine lv_aload_n hx hb dL_law_993 rfl (lv_at hl 1 rfl) ?_
    refine lv_iload hx hb dL_law_994 (lv_at hl 5 rfl) ?_
    refine lv_iconst (v := nI 1) hx hb dL_law_996 (by decide) ?_
    refine lv_iadd hx hb dL_law_997 ?_
    refine q_top (y := nI (i + 1)) (nI_add _ _) ?_
    refine q_sld hx hb hX hbl hb0 hS hx9 (by omega) hL dL_law_998 ?_
    obtain ⟨fs999, ho36⟩ := hm.obj
    refine q_W1 (va_runV (As := [.int (x)]) (rest := []) ⟨hx, hb, hml, hown, hts⟩ (c_X7_goBack l hm (x)) (cwV 1 hts lg_X7_goBack rfl rfl rfl (by decide +kernel) ⟨Nat.le_of_ble_eq_true rfl, Nat.le_of_ble_eq_true rfl⟩) (q_preV hG hW hS ho36 rfl) rfl rfl hl.1 rfl (lv_room (Nat.le_of_ble_eq_true rfl)) dL_law_999 ⟨by show _ ≤ 601024; omega, by show _ ≤ 7293034; omega⟩) hS (fun w_999 H locs hp999 hW hS => ?_)
    obtain ⟨hd, hfm⟩ := hp999
    replace hs := hs.mod hfm
    replace h45 := (hfm 45 (by omega)).trans h45
    clear hm
    rcases hd with ⟨hc2, hm⟩ | ⟨hc2, hm⟩ | ⟨hc2, hm⟩
    · skip
      first | exact absurd hc hc2 | exact absurd hc2 hc | exact absurd hc.1 hc2 | exact absurd hc2.1 hc | exact absurd hc.2 hc2.2 | exact absurd hc2.2 hc.2 | (exact absurd hc.2 (by omega)) | (exact absurd hc (by omega)) | (exact absurd hc2.2 (by omega))
    · skip
      refine q_topv (v' := .int (nI 0)) (congrArg Value.int (if_neg (fun q9 => by first | exact hc2 q9 | exact hc2 q9.1 | exact absurd q9.2 (by omega) | exact hc2.2 q9.2 | exact q9.2 hc2.2 | omega))) ?_
      refine lv_istore (lv' := [(6, .int (nI 0)), (5, .int (nI 1)), (0, .ref (b0)), (1, .ref (b + 0)), (2, .ref (b + 36)), (3, .ref (b + 45)), (4, .int (nI i))]) hx hb dL_law_1002 hl (by decide) rfl (fun ls hl => ?_)
      refine lv_aload_n hx hb dL_law_1004 rfl (lv_at hl 4 rfl) ?_
      obtain ⟨fs1005, ho36⟩ := hm.obj
      refine q_R1 (va_runV (As := []) (rest := []) ⟨hx, hb, hml, hown, hts⟩ (c_thr l hm) (cwV 0 hts lg_X7_thrown rfl rfl rfl (by decide +kernel) ⟨Nat.le_of_ble_eq_true rfl, Nat.le_of_ble_eq_true rfl⟩) (q_preV hG hW hS ho36 rfl) rfl rfl hl.1 rfl (lv_room (Nat.le_of_ble_eq_true rfl)) dL_law_1005 ⟨by show _ ≤ 601024; omega, by show _ ≤ 7293034; omega⟩) ?_
      refine lv_iload hx hb dL_law_1008 (lv_at hl 1 rfl) ?_
      refine lv_icmp_eq (tgt := 1015) hx hb dL_law_1010 (by decide) (fun c_1010 => ?_) (fun c_1010 => ?_)
      · skip
        have c_1010 : 1 = 1 := (nI_eq (a := 1) (b := 1) (by omega) (by omega)).mp c_1010
        refine lv_iload hx hb dL_law_1015 (lv_at hl 1 rfl) ?_
        refine lv_if_ne (tgt := 1032) hx hb dL_law_1017 (by decide) (fun c_1017 => ?_) (fun c_1017 => ?_)
        · skip
          have c_1017 : ¬ (1 = 0) := fun h__ => c_1017 ((nI_eq0 (i := 1) (by omega)).mpr h__)
          refine lv_goto (tgt := 1597) hx hb dL_law_1032 (by decide) ?_
          exact W.widen (by omega) (by omega) (K _ _ _ _ _ ⟨hs, ⟨_, hm⟩, ⟨_, h45⟩, hW, hS⟩ (lv_sub hl [2, 3, 4, 5, 6] rfl))
        · skip
          have c_1017 : 1 = 0 := (nI_eq0 (i := 1) (by omega)).mp c_1017
          exact absurd c_1017 (by omega)
      · skip
        have c_1010 : ¬ (1 = 1) := fun h__ => c_1010 ((nI_eq (a := 1) (b := 1) (by omega) (by omega)).mpr h__)
        exact absurd c_1010 (by omega)
    · skip
      first | exact absurd hc hc2 | exact absurd hc2 hc | exact absurd hc.1 hc2 | exact absurd hc2.1 hc | exact absurd hc.2 hc2.2 | exact absurd hc2.2 hc.2 | (exact absurd hc.2 (by omega)) | (exact absurd hc (by omega)) | (exact absurd hc2.2 (by omega))
  · skip
    subst hr9
    refine lv_istore (lv' := [(5, .int (nI 2)), (0, .ref (b0)), (1, .ref (b + 0)), (2, .ref (b + 36)), (3, .ref (b + 45)), (4, .int (nI i))]) hx hb dL_law_990 hl (by decide) rfl (fun ls hl => ?_)
    refine lv_aload_n hx hb dL_law_992 rfl (lv_at hl 3 rfl) ?_
    refine lv_aload_n hx hb dL_law_993 rfl (lv_at hl 1 rfl) ?_
    refine lv_iload hx hb dL_law_994 (lv_at hl 5 rfl) ?_
    refine lv_iconst (v := nI 1) hx hb dL_law_996 (by decide) ?_
    refine lv_iadd hx hb dL_law_997 ?_
    refine q_top (y := nI (i + 1)) (nI_add _ _) ?_
    refine q_sld hx hb hX hbl hb0 hS hx9 (by omega) hL dL_law_998 ?_
    obtain ⟨fs999, ho36⟩ := hm.obj
    refine q_W1 (va_runV (As := [.int (x)]) (rest := []) ⟨hx, hb, hml, hown, hts⟩ (c_X7_goBack l hm (x)) (cwV 1 hts lg_X7_goBack rfl rfl rfl (by decide +kernel) ⟨Nat.le_of_ble_eq_true rfl, Nat.le_of_ble_eq_true rfl⟩) (q_preV hG hW hS ho36 rfl) rfl rfl hl.1 rfl (lv_room (Nat.le_of_ble_eq_true rfl)) dL_law_999 ⟨by show _ ≤ 601024; omega, by show _ ≤ 7293034; omega⟩) hS (fun w_999 H locs hp999 hW hS => ?_)
    obtain ⟨hd, hfm⟩ := hp999
    replace hs := hs.mod hfm
    replace h45 := (hfm 45 (by omega)).trans h45
    clear hm
    rcases hd with ⟨hc2, hm⟩ | ⟨hc2, hm⟩ | ⟨hc2, hm⟩
    · skip
      first | exact absurd hc hc2 | exact absurd hc2 hc | exact absurd hc.1 hc2 | exact absurd hc2.1 hc | exact absurd hc.2 hc2.2 | exact absurd hc2.2 hc.2 | (exact absurd hc.2 (by omega)) | (exact absurd hc (by omega)) | (exact absurd hc2.2 (by omega))
    · skip
      first | exact absurd hc hc2 | exact absurd hc2 hc | exact absurd hc.1 hc2 | exact absurd hc2.1 hc | exact absurd hc.2 hc2.2 | exact absurd hc2.2 hc.2 | (exact absurd hc.2 (by omega)) | (exact absurd hc (by omega)) | (exact absurd hc2.2 (by omega))
    · skip
      refine q_topv (v' := .int (nI 0)) (congrArg Value.int (if_neg (fun q9 => by first | exact hc2 q9 | exact hc2 q9.1 | exact absurd q9.2 (by omega) | exact hc2.2 q9.2 | exact q9.2 hc2.2 | omega))) ?_
      refine lv_istore (lv' := [(6, .int (nI 0)), (5, .int (nI 2)), (0, .ref (b0)), (1, .ref (b + 0)), (2, .ref (b + 36)), (3, .ref (b + 45)), (4, .int (nI i))]) hx hb dL_law_1002 hl (by decide) rfl (fun ls hl => ?_)
      refine lv_aload_n hx hb dL_law_1004 rfl (lv_at hl 4 rfl) ?_
      obtain ⟨fs1005, ho36⟩ := hm.obj
      refine q_R1 (va_runV (As := []) (rest := []) ⟨hx, hb, hml, hown, hts⟩ (c_thr l hm) (cwV 0 hts lg_X7_thrown rfl rfl rfl (by decide +kernel) ⟨Nat.le_of_ble_eq_true rfl, Nat.le_of_ble_eq_true rfl⟩) (q_preV hG hW hS ho36 rfl) rfl rfl hl.1 rfl (lv_room (Nat.le_of_ble_eq_true rfl)) dL_law_1005 ⟨by show _ ≤ 601024; omega, by show _ ≤ 7293034; omega⟩) ?_
      refine lv_iload hx hb dL_law_1008 (lv_at hl 1 rfl) ?_
      refine lv_icmp_eq (tgt := 1015) hx hb dL_law_1010 (by decide) (fun c_1010 => ?_) (fun c_1010 => ?_)
      · skip
        have c_1010 : 2 = 2 := (nI_eq (a := 2) (b := 2) (by omega) (by omega)).mp c_1010
        refine lv_iload hx hb dL_law_1015 (lv_at hl 1 rfl) ?_
        refine lv_if_ne (tgt := 1032) hx hb dL_law_1017 (by decide) (fun c_1017 => ?_) (fun c_1017 => ?_)
        · skip
          have c_1017 : ¬ (2 = 0) := fun h__ => c_1017 ((nI_eq0 (i := 2) (by omega)).mpr h__)
          refine lv_goto (tgt := 1597) hx hb dL_law_1032 (by decide) ?_
          exact W.widen (by omega) (by omega) (K _ _ _ _ _ ⟨hs, ⟨_, hm⟩, ⟨_, h45⟩, hW, hS⟩ (lv_sub hl [2, 3, 4, 5, 6] rfl))
        · skip
          have c_1017 : 2 = 0 := (nI_eq0 (i := 2) (by omega)).mp c_1017
          exact absurd c_1017 (by omega)
      · skip
        have c_1010 : ¬ (2 = 2) := fun h__ => c_1010 ((nI_eq (a := 2) (b := 2) (by omega) (by omega)).mpr h__)
        exact absurd c_1010 (by omega)

set_option maxHeartbeats 1000000 in
set_option maxRecDepth 100000 in
/-- case 15: wordOf -/
theorem law_15 {p : Program} {l : Launch} {e : Env} {s : State} {m : MethodId} {args : Array Value} {below : List Frame} {meth : Method} {c : Code} {Q : State → Prop} {b0 L : Nat} {xs : Nat → Int32} {D : va_G} {dA : Nat → Nat} {b : Nat} (F9 : LWF p l s m args c b0 L xs D dA b) {w : Wd} {lo : Nat} {A : Sy} {H : Heap} {locs : List Loc} (V : LWV D dA b s w H locs lo A) {cells slots : Nat} (hcc : cells ≤ 600000) (hss : slots ≤ 7000000) {i : Nat} (hi : i + 5 ≤ L) {ls : Array Slot} (hl : LWL b b0 ls (nI i))
    (K : ∀ (w1 : Wd) (H1 : Heap) (locs1 : List Loc) (A1 : Sy) (ls1 : Array Slot), LWV D dA b s w1 H1 locs1 lo A1 → LWL b b0 ls1 (nI i) → W p l e room_1 s m args below meth c H1 locs1 (cells + 7) (slots + 116) Q (F0 m 1597 ls1 [])) : W p l e room_1 s m args below meth c H locs cells slots Q (F0 m 1035 ls []) := by
  obtain ⟨hl0, hx, hb, hml, hown, hts, hX, hbl, hb0, hG, hL⟩ := F9
  obtain ⟨hs, ⟨tt, hm⟩, ⟨O9, h45⟩, hW, hS⟩ := V
  obtain ⟨P, ⟨n, Hs⟩, SL, nc, C⟩ := A
  have hlo : 46 ≤ lo := hs.2.2.2.2.2.2.1
  have hP := sys_ok hs
  change okP P at hP
  have hl : lv_has ls 9 [(0, .ref b0), (1, .ref (b + 0)), (2, .ref (b + 36)), (3, .ref (b + 45)), (4, .int (nI i))] := hl
  obtain ⟨x, hx9⟩ : ∃ q : Int32, xs (i + 1) = q := ⟨_, rfl⟩
  obtain ⟨y, hy9⟩ : ∃ q : Int32, xs (i + 2) = q := ⟨_, rfl⟩
  refine lv_aload_n hx hb dL_law_1035 rfl (lv_at hl 1 rfl) ?_
  refine lv_aload_n hx hb dL_law_1036 rfl (lv_at hl 0 rfl) ?_
  refine lv_iload hx hb dL_law_1037 (lv_at hl 4 rfl) ?_
  refine lv_iconst (v := nI 1) hx hb dL_law_1039 (by decide) ?_
  refine lv_iadd hx hb dL_law_1040 ?_
  refine q_top (y := nI (i + 1)) (nI_add _ _) ?_
  refine q_sld hx hb hX hbl hb0 hS hx9 (by omega) hL dL_law_1041 ?_
  refine lv_aload_n hx hb dL_law_1042 rfl (lv_at hl 0 rfl) ?_
  refine lv_iload hx hb dL_law_1043 (lv_at hl 4 rfl) ?_
  refine lv_iconst (v := nI 2) hx hb dL_law_1045 (by decide) ?_
  refine lv_iadd hx hb dL_law_1046 ?_
  refine q_top (y := nI (i + 2)) (nI_add _ _) ?_
  refine q_sld hx hb hX hbl hb0 hS hy9 (by omega) hL dL_law_1047 ?_
  refine lv_aload_n hx hb dL_law_1048 rfl (lv_at hl 3 rfl) ?_
  refine q_XE1 (vx_runSX (As := [.ref (b + 0), .int (x), .int (y), .ref (b + 45)]) (rest := []) ⟨hx, hb, hml, hown, hts⟩ (c_L_wordOf l hl0 hs h45 (x) (y)) (vx_cwSW 4 hts lg_L_wordOf rfl rfl rfl (by decide +kernel) ⟨Nat.le_of_ble_eq_true rfl, Nat.le_of_ble_eq_true rfl⟩) (q_preS hG hW hS) rfl rfl hl.1 rfl (lv_room (Nat.le_of_ble_eq_true rfl)) dL_law_1049 ⟨by show _ ≤ 601024; omega, by show _ ≤ 7293034; omega⟩) hS (fun r1049 w_1049 H locs hp1049 hW hS => ?_)
  obtain ⟨hor, hf5⟩ := hp1049
  replace hm := hm.fr hf5
  clear hs h45
  rcases hor with ⟨hr9, hc, hs, h45⟩ | ⟨hr9, hc, hs, h45⟩ | ⟨hr9, hc, hs, h45⟩
  · skip
    subst hr9
    refine lv_istore (lv' := [(5, .int (nI 0)), (0, .ref (b0)), (1, .ref (b + 0)), (2, .ref (b + 36)), (3, .ref (b + 45)), (4, .int (nI i))]) hx hb dL_law_1052 hl (by decide) rfl (fun ls hl => ?_)
    refine lv_aload_n hx hb dL_law_1054 rfl (lv_at hl 3 rfl) ?_
    refine lv_aload_n hx hb dL_law_1055 rfl (lv_at hl 1 rfl) ?_
    refine lv_iload hx hb dL_law_1056 (lv_at hl 5 rfl) ?_
    refine lv_iconst (v := nI 1) hx hb dL_law_1058 (by decide) ?_
    refine lv_iadd hx hb dL_law_1059 ?_
    refine q_top (y := nI (i + 1)) (nI_add _ _) ?_
    refine q_sld hx hb hX hbl hb0 hS hx9 (by omega) hL dL_law_1060 ?_
    refine lv_aload_n hx hb dL_law_1061 rfl (lv_at hl 1 rfl) ?_
    refine lv_iload hx hb dL_law_1062 (lv_at hl 5 rfl) ?_
    refine lv_iconst (v := nI 2) hx hb dL_law_1064 (by decide) ?_
    refine lv_iadd hx hb dL_law_1065 ?_
    refine q_top (y := nI (i + 2)) (nI_add _ _) ?_
    refine q_sld hx hb hX hbl hb0 hS hy9 (by omega) hL dL_law_1066 ?_
    obtain ⟨fs1067, ho36⟩ := hm.obj
    refine q_W1 (va_runV (As := [.int (x), .int (y)]) (rest := []) ⟨hx, hb, hml, hown, hts⟩ (c_X7_wordOf l hm (x) (y)) (cwV 2 hts lg_X7_wordOf rfl rfl rfl (by decide +kernel) ⟨Nat.le_of_ble_eq_true rfl, Nat.le_of_ble_eq_true rfl⟩) (q_preV hG hW hS ho36 rfl) rfl rfl hl.1 rfl (lv_room (Nat.le_of_ble_eq_true rfl)) dL_law_1067 ⟨by show _ ≤ 601024; omega, by show _ ≤ 7293034; omega⟩) hS (fun w_1067 H locs hp1067 hW hS => ?_)
    obtain ⟨hd, hfm⟩ := hp1067
    replace hs := hs.mod hfm
    replace h45 := (hfm 45 (by omega)).trans h45
    clear hm
    rcases hd with ⟨hc2, hm⟩ | ⟨hc2, hm⟩ | ⟨hc2, hm⟩
    · skip
      refine q_topv (v' := .int (wof P (i32n x) (i32n y))) (congrArg Value.int (if_pos hc2)) ?_
      refine lv_istore (lv' := [(6, .int (wof P (i32n x) (i32n y))), (5, .int (nI 0)), (0, .ref (b0)), (1, .ref (b + 0)), (2, .ref (b + 36)), (3, .ref (b + 45)), (4, .int (nI i))]) hx hb dL_law_1070 hl (by decide) rfl (fun ls hl => ?_)
      refine lv_aload_n hx hb dL_law_1072 rfl (lv_at hl 4 rfl) ?_
      obtain ⟨fs1073, ho36⟩ := hm.obj
      refine q_R1 (va_runV (As := []) (rest := []) ⟨hx, hb, hml, hown, hts⟩ (c_thr l hm) (cwV 0 hts lg_X7_thrown rfl rfl rfl (by decide +kernel) ⟨Nat.le_of_ble_eq_true rfl, Nat.le_of_ble_eq_true rfl⟩) (q_preV hG hW hS ho36 rfl) rfl rfl hl.1 rfl (lv_room (Nat.le_of_ble_eq_true rfl)) dL_law_1073 ⟨by show _ ≤ 601024; omega, by show _ ≤ 7293034; omega⟩) ?_
      refine lv_iload hx hb dL_law_1076 (lv_at hl 1 rfl) ?_
      refine lv_icmp_eq (tgt := 1083) hx hb dL_law_1078 (by decide) (fun c_1078 => ?_) (fun c_1078 => ?_)
      · skip
        have c_1078 : 0 = 0 := (nI_eq (a := 0) (b := 0) (by omega) (by omega)).mp c_1078
        refine lv_iload hx hb dL_law_1083 (lv_at hl 1 rfl) ?_
        refine lv_if_ne (tgt := 1100) hx hb dL_law_1085 (by decide) (fun c_1085 => ?_) (fun c_1085 => ?_)
        · skip
          have c_1085 : ¬ (0 = 0) := fun h__ => c_1085 ((nI_eq0 (i := 0) (by omega)).mpr h__)
          exact absurd c_1085 (by omega)
        · skip
          have c_1085 : 0 = 0 := (nI_eq0 (i := 0) (by omega)).mp c_1085
          refine lv_aload_n hx hb dL_law_1088 rfl (lv_at hl 5 rfl) ?_
          refine lv_iconst (v := nI 0) hx hb dL_law_1089 (by decide) ?_
          refine q_lald hx hb hG hW h45 (by decide) (by decide) dL_law_1090 ?_
          refine q_topv (v' := .long ((wof P (i32n x) (i32n y)).toInt64)) (by rw [va_up_self]) ?_
          refine lv_iload hx hb dL_law_1091 (lv_at hl 0 rfl) ?_
          refine lv_i2l hx hb dL_law_1093 rfl ?_
          refine W.lcmp hx hb dL_law_1094 ?_
          refine q_topv (v' := .int (nI 0)) (congrArg Value.int (lg_cmp_self _)) ?_
          refine lv_if_eq (tgt := 1100) hx hb dL_law_1095 (by decide) (fun c_1095 => ?_) (fun c_1095 => ?_)
          · skip
            have c_1095 : 0 = 0 := (nI_eq0 (i := 0) (by omega)).mp c_1095
            refine lv_goto (tgt := 1597) hx hb dL_law_1100 (by decide) ?_
            exact W.widen (by omega) (by omega) (K _ _ _ _ _ ⟨hs, ⟨_, hm⟩, ⟨_, h45⟩, hW, hS⟩ (lv_sub hl [2, 3, 4, 5, 6] rfl))
          · skip
            have c_1095 : ¬ (0 = 0) := fun h__ => c_1095 ((nI_eq0 (i := 0) (by omega)).mpr h__)
            exact absurd c_1095 (by omega)
      · skip
        have c_1078 : ¬ (0 = 0) := fun h__ => c_1078 ((nI_eq (a := 0) (b := 0) (by omega) (by omega)).mpr h__)
        exact absurd c_1078 (by omega)
    · skip
      first | exact absurd hc hc2 | exact absurd hc2 hc | exact absurd hc.1 hc2 | exact absurd hc2.1 hc | exact absurd hc.2 hc2.2 | exact absurd hc2.2 hc.2 | (exact absurd hc.2 (by omega)) | (exact absurd hc (by omega)) | (exact absurd hc2.2 (by omega))
    · skip
      first | exact absurd hc hc2 | exact absurd hc2 hc | exact absurd hc.1 hc2 | exact absurd hc2.1 hc | exact absurd hc.2 hc2.2 | exact absurd hc2.2 hc.2 | (exact absurd hc.2 (by omega)) | (exact absurd hc (by omega)) | (exact absurd hc2.2 (by omega))
  · skip
    subst hr9
    refine lv_istore (lv' := [(5, .int (nI 1)), (0, .ref (b0)), (1, .ref (b + 0)), (2, .ref (b + 36)), (3, .ref (b + 45)), (4, .int (nI i))]) hx hb dL_law_1052 hl (by decide) rfl (fun ls hl => ?_)
    refine lv_aload_n hx hb dL_law_1054 rfl (lv_at hl 3 rfl) ?_
    refine lv_aload_n hx hb dL_law_1055 rfl (lv_at hl 1 rfl) ?_
    refine lv_iload hx hb dL_law_1056 (lv_at hl 5 rfl) ?_
    refine lv_iconst (v := nI 1) hx hb dL_law_1058 (by decide) ?_
    refine lv_iadd hx hb dL_law_1059 ?_
    refine q_top (y := nI (i + 1)) (nI_add _ _) ?_
    refine q_sld hx hb hX hbl hb0 hS hx9 (by omega) hL dL_law_1060 ?_
    refine lv_aload_n hx hb dL_law_1061 rfl (lv_at hl 1 rfl) ?_
    refine lv_iload hx hb dL_law_1062 (lv_at hl 5 rfl) ?_
    refine lv_iconst (v := nI 2) hx hb dL_law_1064 (by decide) ?_
    refine lv_iadd hx hb dL_law_1065 ?_
    refine q_top (y := nI (i + 2)) (nI_add _ _) ?_
    refine q_sld hx hb hX hbl hb0 hS hy9 (by omega) hL dL_law_1066 ?_
    obtain ⟨fs1067, ho36⟩ := hm.obj
    refine q_W1 (va_runV (As := [.int (x), .int (y)]) (rest := []) ⟨hx, hb, hml, hown, hts⟩ (c_X7_wordOf l hm (x) (y)) (cwV 2 hts lg_X7_wordOf rfl rfl rfl (by decide +kernel) ⟨Nat.le_of_ble_eq_true rfl, Nat.le_of_ble_eq_true rfl⟩) (q_preV hG hW hS ho36 rfl) rfl rfl hl.1 rfl (lv_room (Nat.le_of_ble_eq_true rfl)) dL_law_1067 ⟨by show _ ≤ 601024; omega, by show _ ≤ 7293034; omega⟩) hS (fun w_1067 H locs hp1067 hW hS => ?_)
    obtain ⟨hd, hfm⟩ := hp1067
    replace hs := hs.mod hfm
    replace h45 := (hfm 45 (by omega)).trans h45
    clear hm
    rcases hd with ⟨hc2, hm⟩ | ⟨hc2, hm⟩ | ⟨hc2, hm⟩
    · skip
      first | exact absurd hc hc2 | exact absurd hc2 hc | exact absurd hc.1 hc2 | exact absurd hc2.1 hc | exact absurd hc.2 hc2.2 | exact absurd hc2.2 hc.2 | (exact absurd hc.2 (by omega)) | (exact absurd hc (by omega)) | (exact absurd hc2.2 (by omega))
    · skip
      refine q_topv (v' := .int (nI 0)) (congrArg Value.int (if_neg (fun q9 => by first | exact hc2 q9 | exact hc2 q9.1 | exact absurd q9.2 (by omega) | exact hc2.2 q9.2 | exact q9.2 hc2.2 | omega))) ?_
      refine lv_istore (lv' := [(6, .int (nI 0)), (5, .int (nI 1)), (0, .ref (b0)), (1, .ref (b + 0)), (2, .ref (b + 36)), (3, .ref (b + 45)), (4, .int (nI i))]) hx hb dL_law_1070 hl (by decide) rfl (fun ls hl => ?_)
      refine lv_aload_n hx hb dL_law_1072 rfl (lv_at hl 4 rfl) ?_
      obtain ⟨fs1073, ho36⟩ := hm.obj
      refine q_R1 (va_runV (As := []) (rest := []) ⟨hx, hb, hml, hown, hts⟩ (c_thr l hm) (cwV 0 hts lg_X7_thrown rfl rfl rfl (by decide +kernel) ⟨Nat.le_of_ble_eq_true rfl, Nat.le_of_ble_eq_true rfl⟩) (q_preV hG hW hS ho36 rfl) rfl rfl hl.1 rfl (lv_room (Nat.le_of_ble_eq_true rfl)) dL_law_1073 ⟨by show _ ≤ 601024; omega, by show _ ≤ 7293034; omega⟩) ?_
      refine lv_iload hx hb dL_law_1076 (lv_at hl 1 rfl) ?_
      refine lv_icmp_eq (tgt := 1083) hx hb dL_law_1078 (by decide) (fun c_1078 => ?_) (fun c_1078 => ?_)
      · skip
        have c_1078 : 1 = 1 := (nI_eq (a := 1) (b := 1) (by omega) (by omega)).mp c_1078
        refine lv_iload hx hb dL_law_1083 (lv_at hl 1 rfl) ?_
        refine lv_if_ne (tgt := 1100) hx hb dL_law_1085 (by decide) (fun c_1085 => ?_) (fun c_1085 => ?_)
        · skip
          have c_1085 : ¬ (1 = 0) := fun h__ => c_1085 ((nI_eq0 (i := 1) (by omega)).mpr h__)
          refine lv_goto (tgt := 1597) hx hb dL_law_1100 (by decide) ?_
          exact W.widen (by omega) (by omega) (K _ _ _ _ _ ⟨hs, ⟨_, hm⟩, ⟨_, h45⟩, hW, hS⟩ (lv_sub hl [2, 3, 4, 5, 6] rfl))
        · skip
          have c_1085 : 1 = 0 := (nI_eq0 (i := 1) (by omega)).mp c_1085
          exact absurd c_1085 (by omega)
      · skip
        have c_1078 : ¬ (1 = 1) := fun h__ => c_1078 ((nI_eq (a := 1) (b := 1) (by omega) (by omega)).mpr h__)
        exact absurd c_1078 (by omega)
    · skip
      first | exact absurd hc hc2 | exact absurd hc2 hc | exact absurd hc.1 hc2 | exact absurd hc2.1 hc | exact absurd hc.2 hc2.2 | exact absurd hc2.2 hc.2 | (exact absurd hc.2 (by omega)) | (exact absurd hc (by omega)) | (exact absurd hc2.2 (by omega))
  · skip
    subst hr9
    refine lv_istore (lv' := [(5, .int (nI 2)), (0, .ref (b0)), (1, .ref (b + 0)), (2, .ref (b + 36)), (3, .ref (b + 45)), (4, .int (nI i))]) hx hb dL_law_1052 hl (by decide) rfl (fun ls hl => ?_)
    refine lv_aload_n hx hb dL_law_1054 rfl (lv_at hl 3 rfl) ?_
    refine lv_aload_n hx hb dL_law_1055 rfl (lv_at hl 1 rfl) ?_
    refine lv_iload hx hb dL_law_1056 (lv_at hl 5 rfl) ?_
    refine lv_iconst (v := nI 1) hx hb dL_law_1058 (by decide) ?_
    refine lv_iadd hx hb dL_law_1059 ?_
    refine q_top (y := nI (i + 1)) (nI_add _ _) ?_
    refine q_sld hx hb hX hbl hb0 hS hx9 (by omega) hL dL_law_1060 ?_
    refine lv_aload_n hx hb dL_law_1061 rfl (lv_at hl 1 rfl) ?_
    refine lv_iload hx hb dL_law_1062 (lv_at hl 5 rfl) ?_
    refine lv_iconst (v := nI 2) hx hb dL_law_1064 (by decide) ?_
    refine lv_iadd hx hb dL_law_1065 ?_
    refine q_top (y := nI (i + 2)) (nI_add _ _) ?_
    refine q_sld hx hb hX hbl hb0 hS hy9 (by omega) hL dL_law_1066 ?_
    obtain ⟨fs1067, ho36⟩ := hm.obj
    refine q_W1 (va_runV (As := [.int (x), .int (y)]) (rest := []) ⟨hx, hb, hml, hown, hts⟩ (c_X7_wordOf l hm (x) (y)) (cwV 2 hts lg_X7_wordOf rfl rfl rfl (by decide +kernel) ⟨Nat.le_of_ble_eq_true rfl, Nat.le_of_ble_eq_true rfl⟩) (q_preV hG hW hS ho36 rfl) rfl rfl hl.1 rfl (lv_room (Nat.le_of_ble_eq_true rfl)) dL_law_1067 ⟨by show _ ≤ 601024; omega, by show _ ≤ 7293034; omega⟩) hS (fun w_1067 H locs hp1067 hW hS => ?_)
    obtain ⟨hd, hfm⟩ := hp1067
    replace hs := hs.mod hfm
    replace h45 := (hfm 45 (by omega)).trans h45
    clear hm
    rcases hd with ⟨hc2, hm⟩ | ⟨hc2, hm⟩ | ⟨hc2, hm⟩
    · skip
      first | exact absurd hc hc2 | exact absurd hc2 hc | exact absurd hc.1 hc2 | exact absurd hc2.1 hc | exact absurd hc.2 hc2.2 | exact absurd hc2.2 hc.2 | (exact absurd hc.2 (by omega)) | (exact absurd hc (by omega)) | (exact absurd hc2.2 (by omega))
    · skip
      first | exact absurd hc hc2 | exact absurd hc2 hc | exact absurd hc.1 hc2 | exact absurd hc2.1 hc | exact absurd hc.2 hc2.2 | exact absurd hc2.2 hc.2 | (exact absurd hc.2 (by omega)) | (exact absurd hc (by omega)) | (exact absurd hc2.2 (by omega))
    · skip
      refine q_topv (v' := .int (nI 0)) (congrArg Value.int (if_neg (fun q9 => by first | exact hc2 q9 | exact hc2 q9.1 | exact absurd q9.2 (by omega) | exact hc2.2 q9.2 | exact q9.2 hc2.2 | omega))) ?_
      refine lv_istore (lv' := [(6, .int (nI 0)), (5, .int (nI 2)), (0, .ref (b0)), (1, .ref (b + 0)), (2, .ref (b + 36)), (3, .ref (b + 45)), (4, .int (nI i))]) hx hb dL_law_1070 hl (by decide) rfl (fun ls hl => ?_)
      refine lv_aload_n hx hb dL_law_1072 rfl (lv_at hl 4 rfl) ?_
      obtain ⟨fs1073, ho36⟩ := hm.obj
      refine q_R1 (va_runV (As := []) (rest := []) ⟨hx, hb, hml, hown, hts⟩ (c_thr l hm) (cwV 0 hts lg_X7_thrown rfl rfl rfl (by decide +kernel) ⟨Nat.le_of_ble_eq_true rfl, Nat.le_of_ble_eq_true rfl⟩) (q_preV hG hW hS ho36 rfl) rfl rfl hl.1 rfl (lv_room (Nat.le_of_ble_eq_true rfl)) dL_law_1073 ⟨by show _ ≤ 601024; omega, by show _ ≤ 7293034; omega⟩) ?_
      refine lv_iload hx hb dL_law_1076 (lv_at hl 1 rfl) ?_
      refine lv_icmp_eq (tgt := 1083) hx hb dL_law_1078 (by decide) (fun c_1078 => ?_) (fun c_1078 => ?_)
      · skip
        have c_1078 : 2 = 2 := (nI_eq (a := 2) (b := 2) (by omega) (by omega)).mp c_1078
        refine lv_iload hx hb dL_law_1083 (lv_at hl 1 rfl) ?_
        refine lv_if_ne (tgt := 1100) hx hb dL_law_1085 (by decide) (fun c_1085 => ?_) (fun c_1085 => ?_)
        · skip
          have c_1085 : ¬ (2 = 0) := fun h__ => c_1085 ((nI_eq0 (i := 2) (by omega)).mpr h__)
          refine lv_goto (tgt := 1597) hx hb dL_law_1100 (by decide) ?_
          exact W.widen (by omega) (by omega) (K _ _ _ _ _ ⟨hs, ⟨_, hm⟩, ⟨_, h45⟩, hW, hS⟩ (lv_sub hl [2, 3, 4, 5, 6] rfl))
        · skip
          have c_1085 : 2 = 0 := (nI_eq0 (i := 2) (by omega)).mp c_1085
          exact absurd c_1085 (by omega)
      · skip
        have c_1078 : ¬ (2 = 2) := fun h__ => c_1078 ((nI_eq (a := 2) (b := 2) (by omega) (by omega)).mpr h__)
        exact absurd c_1078 (by omega)

set_option maxHeartbeats 1000000 in
set_option maxRecDepth 100000 in
/-- case 16: noiseOf -/
theorem law_16 {p : Program} {l : Launch} {e : Env} {s : State} {m : MethodId} {args : Array Value} {below : List Frame} {meth : Method} {c : Code} {Q : State → Prop} {b0 L : Nat} {xs : Nat → Int32} {D : va_G} {dA : Nat → Nat} {b : Nat} (F9 : LWF p l s m args c b0 L xs D dA b) {w : Wd} {lo : Nat} {A : Sy} {H : Heap} {locs : List Loc} (V : LWV D dA b s w H locs lo A) {cells slots : Nat} (hcc : cells ≤ 600000) (hss : slots ≤ 7000000) {i : Nat} (hi : i + 5 ≤ L) {ls : Array Slot} (hl : LWL b b0 ls (nI i))
    (K : ∀ (w1 : Wd) (H1 : Heap) (locs1 : List Loc) (A1 : Sy) (ls1 : Array Slot), LWV D dA b s w1 H1 locs1 lo A1 → LWL b b0 ls1 (nI i) → W p l e room_1 s m args below meth c H1 locs1 (cells + 7) (slots + 116) Q (F0 m 1597 ls1 [])) : W p l e room_1 s m args below meth c H locs cells slots Q (F0 m 1103 ls []) := by
  obtain ⟨hl0, hx, hb, hml, hown, hts, hX, hbl, hb0, hG, hL⟩ := F9
  obtain ⟨hs, ⟨tt, hm⟩, ⟨O9, h45⟩, hW, hS⟩ := V
  obtain ⟨P, ⟨n, Hs⟩, SL, nc, C⟩ := A
  have hlo : 46 ≤ lo := hs.2.2.2.2.2.2.1
  have hP := sys_ok hs
  change okP P at hP
  have hl : lv_has ls 9 [(0, .ref b0), (1, .ref (b + 0)), (2, .ref (b + 36)), (3, .ref (b + 45)), (4, .int (nI i))] := hl
  obtain ⟨x, hx9⟩ : ∃ q : Int32, xs (i + 1) = q := ⟨_, rfl⟩
  obtain ⟨y, hy9⟩ : ∃ q : Int32, xs (i + 2) = q := ⟨_, rfl⟩
  refine lv_aload_n hx hb dL_law_1103 rfl (lv_at hl 1 rfl) ?_
  refine lv_aload_n hx hb dL_law_1104 rfl (lv_at hl 0 rfl) ?_
  refine lv_iload hx hb dL_law_1105 (lv_at hl 4 rfl) ?_
  refine lv_iconst (v := nI 1) hx hb dL_law_1107 (by decide) ?_
  refine lv_iadd hx hb dL_law_1108 ?_
  refine q_top (y := nI (i + 1)) (nI_add _ _) ?_
  refine q_sld hx hb hX hbl hb0 hS hx9 (by omega) hL dL_law_1109 ?_
  refine lv_aload_n hx hb dL_law_1110 rfl (lv_at hl 0 rfl) ?_
  refine lv_iload hx hb dL_law_1111 (lv_at hl 4 rfl) ?_
  refine lv_iconst (v := nI 2) hx hb dL_law_1113 (by decide) ?_
  refine lv_iadd hx hb dL_law_1114 ?_
  refine q_top (y := nI (i + 2)) (nI_add _ _) ?_
  refine q_sld hx hb hX hbl hb0 hS hy9 (by omega) hL dL_law_1115 ?_
  refine lv_aload_n hx hb dL_law_1116 rfl (lv_at hl 3 rfl) ?_
  refine q_XE1 (vx_runSX (As := [.ref (b + 0), .int (x), .int (y), .ref (b + 45)]) (rest := []) ⟨hx, hb, hml, hown, hts⟩ (c_L_noiseOf l hl0 hs h45 (x) (y)) (vx_cwSW 4 hts lg_L_noiseOf rfl rfl rfl (by decide +kernel) ⟨Nat.le_of_ble_eq_true rfl, Nat.le_of_ble_eq_true rfl⟩) (q_preS hG hW hS) rfl rfl hl.1 rfl (lv_room (Nat.le_of_ble_eq_true rfl)) dL_law_1117 ⟨by show _ ≤ 601024; omega, by show _ ≤ 7293034; omega⟩) hS (fun r1117 w_1117 H locs hp1117 hW hS => ?_)
  obtain ⟨hor, hf5⟩ := hp1117
  replace hm := hm.fr hf5
  clear hs h45
  rcases hor with ⟨hr9, hc, hs, h45⟩ | ⟨hr9, hc, hs, h45⟩ | ⟨hr9, hc, hs, h45⟩
  · skip
    subst hr9
    refine lv_istore (lv' := [(5, .int (nI 0)), (0, .ref (b0)), (1, .ref (b + 0)), (2, .ref (b + 36)), (3, .ref (b + 45)), (4, .int (nI i))]) hx hb dL_law_1120 hl (by decide) rfl (fun ls hl => ?_)
    refine lv_aload_n hx hb dL_law_1122 rfl (lv_at hl 3 rfl) ?_
    refine lv_aload_n hx hb dL_law_1123 rfl (lv_at hl 1 rfl) ?_
    refine lv_iload hx hb dL_law_1124 (lv_at hl 5 rfl) ?_
    refine lv_iconst (v := nI 1) hx hb dL_law_1126 (by decide) ?_
    refine lv_iadd hx hb dL_law_1127 ?_
    refine q_top (y := nI (i + 1)) (nI_add _ _) ?_
    refine q_sld hx hb hX hbl hb0 hS hx9 (by omega) hL dL_law_1128 ?_
    refine lv_aload_n hx hb dL_law_1129 rfl (lv_at hl 1 rfl) ?_
    refine lv_iload hx hb dL_law_1130 (lv_at hl 5 rfl) ?_
    refine lv_iconst (v := nI 2) hx hb dL_law_1132 (by decide) ?_
    refine lv_iadd hx hb dL_law_1133 ?_
    refine q_top (y := nI (i + 2)) (nI_add _ _) ?_
    refine q_sld hx hb hX hbl hb0 hS hy9 (by omega) hL dL_law_1134 ?_
    obtain ⟨fs1135, ho36⟩ := hm.obj
    refine q_W1 (va_runV (As := [.int (x), .int (y)]) (rest := []) ⟨hx, hb, hml, hown, hts⟩ (c_X7_noiseOf l hm (x) (y)) (cwV 2 hts lg_X7_noiseOf rfl rfl rfl (by decide +kernel) ⟨Nat.le_of_ble_eq_true rfl, Nat.le_of_ble_eq_true rfl⟩) (q_preV hG hW hS ho36 rfl) rfl rfl hl.1 rfl (lv_room (Nat.le_of_ble_eq_true rfl)) dL_law_1135 ⟨by show _ ≤ 601024; omega, by show _ ≤ 7293034; omega⟩) hS (fun w_1135 H locs hp1135 hW hS => ?_)
    obtain ⟨hd, hfm⟩ := hp1135
    replace hs := hs.mod hfm
    replace h45 := (hfm 45 (by omega)).trans h45
    clear hm
    rcases hd with ⟨hc2, hm⟩ | ⟨hc2, hm⟩ | ⟨hc2, hm⟩
    · skip
      refine q_topv (v' := .int (nI (nof P (i32n x) (i32n y)))) (congrArg Value.int (if_pos hc2)) ?_
      refine lv_istore (lv' := [(6, .int (nI (nof P (i32n x) (i32n y)))), (5, .int (nI 0)), (0, .ref (b0)), (1, .ref (b + 0)), (2, .ref (b + 36)), (3, .ref (b + 45)), (4, .int (nI i))]) hx hb dL_law_1138 hl (by decide) rfl (fun ls hl => ?_)
      refine lv_aload_n hx hb dL_law_1140 rfl (lv_at hl 4 rfl) ?_
      obtain ⟨fs1141, ho36⟩ := hm.obj
      refine q_R1 (va_runV (As := []) (rest := []) ⟨hx, hb, hml, hown, hts⟩ (c_thr l hm) (cwV 0 hts lg_X7_thrown rfl rfl rfl (by decide +kernel) ⟨Nat.le_of_ble_eq_true rfl, Nat.le_of_ble_eq_true rfl⟩) (q_preV hG hW hS ho36 rfl) rfl rfl hl.1 rfl (lv_room (Nat.le_of_ble_eq_true rfl)) dL_law_1141 ⟨by show _ ≤ 601024; omega, by show _ ≤ 7293034; omega⟩) ?_
      refine lv_iload hx hb dL_law_1144 (lv_at hl 1 rfl) ?_
      refine lv_icmp_eq (tgt := 1151) hx hb dL_law_1146 (by decide) (fun c_1146 => ?_) (fun c_1146 => ?_)
      · skip
        have c_1146 : 0 = 0 := (nI_eq (a := 0) (b := 0) (by omega) (by omega)).mp c_1146
        refine lv_iload hx hb dL_law_1151 (lv_at hl 1 rfl) ?_
        refine lv_if_ne (tgt := 1168) hx hb dL_law_1153 (by decide) (fun c_1153 => ?_) (fun c_1153 => ?_)
        · skip
          have c_1153 : ¬ (0 = 0) := fun h__ => c_1153 ((nI_eq0 (i := 0) (by omega)).mpr h__)
          exact absurd c_1153 (by omega)
        · skip
          have c_1153 : 0 = 0 := (nI_eq0 (i := 0) (by omega)).mp c_1153
          refine lv_aload_n hx hb dL_law_1156 rfl (lv_at hl 5 rfl) ?_
          refine lv_iconst (v := nI 0) hx hb dL_law_1157 (by decide) ?_
          refine q_lald hx hb hG hW h45 (by decide) (by decide) dL_law_1158 ?_
          refine q_topv (v' := .long ((nI (nof P (i32n x) (i32n y))).toInt64)) (by rw [va_up_self]) ?_
          refine lv_iload hx hb dL_law_1159 (lv_at hl 0 rfl) ?_
          refine lv_i2l hx hb dL_law_1161 rfl ?_
          refine W.lcmp hx hb dL_law_1162 ?_
          refine q_topv (v' := .int (nI 0)) (congrArg Value.int (lg_cmp_self _)) ?_
          refine lv_if_eq (tgt := 1168) hx hb dL_law_1163 (by decide) (fun c_1163 => ?_) (fun c_1163 => ?_)
          · skip
            have c_1163 : 0 = 0 := (nI_eq0 (i := 0) (by omega)).mp c_1163
            refine lv_goto (tgt := 1597) hx hb dL_law_1168 (by decide) ?_
            exact W.widen (by omega) (by omega) (K _ _ _ _ _ ⟨hs, ⟨_, hm⟩, ⟨_, h45⟩, hW, hS⟩ (lv_sub hl [2, 3, 4, 5, 6] rfl))
          · skip
            have c_1163 : ¬ (0 = 0) := fun h__ => c_1163 ((nI_eq0 (i := 0) (by omega)).mpr h__)
            exact absurd c_1163 (by omega)
      · skip
        have c_1146 : ¬ (0 = 0) := fun h__ => c_1146 ((nI_eq (a := 0) (b := 0) (by omega) (by omega)).mpr h__)
        exact absurd c_1146 (by omega)
    · skip
      first | exact absurd hc hc2 | exact absurd hc2 hc | exact absurd hc.1 hc2 | exact absurd hc2.1 hc | exact absurd hc.2 hc2.2 | exact absurd hc2.2 hc.2 | (exact absurd hc.2 (by omega)) | (exact absurd hc (by omega)) | (exact absurd hc2.2 (by omega))
    · skip
      first | exact absurd hc hc2 | exact absurd hc2 hc | exact absurd hc.1 hc2 | exact absurd hc2.1 hc | exact absurd hc.2 hc2.2 | exact absurd hc2.2 hc.2 | (exact absurd hc.2 (by omega)) | (exact absurd hc (by omega)) | (exact absurd hc2.2 (by omega))
  · skip
    subst hr9
    refine lv_istore (lv' := [(5, .int (nI 1)), (0, .ref (b0)), (1, .ref (b + 0)), (2, .ref (b + 36)), (3, .ref (b + 45)), (4, .int (nI i))]) hx hb dL_law_1120 hl (by decide) rfl (fun ls hl => ?_)
    refine lv_aload_n hx hb dL_law_1122 rfl (lv_at hl 3 rfl) ?_
    refine lv_aload_n hx hb dL_law_1123 rfl (lv_at hl 1 rfl) ?_
    refine lv_iload hx hb dL_law_1124 (lv_at hl 5 rfl) ?_
    refine lv_iconst (v := nI 1) hx hb dL_law_1126 (by decide) ?_
    refine lv_iadd hx hb dL_law_1127 ?_
    refine q_top (y := nI (i + 1)) (nI_add _ _) ?_
    refine q_sld hx hb hX hbl hb0 hS hx9 (by omega) hL dL_law_1128 ?_
    refine lv_aload_n hx hb dL_law_1129 rfl (lv_at hl 1 rfl) ?_
    refine lv_iload hx hb dL_law_1130 (lv_at hl 5 rfl) ?_
    refine lv_iconst (v := nI 2) hx hb dL_law_1132 (by decide) ?_
    refine lv_iadd hx hb dL_law_1133 ?_
    refine q_top (y := nI (i + 2)) (nI_add _ _) ?_
    refine q_sld hx hb hX hbl hb0 hS hy9 (by omega) hL dL_law_1134 ?_
    obtain ⟨fs1135, ho36⟩ := hm.obj
    refine q_W1 (va_runV (As := [.int (x), .int (y)]) (rest := []) ⟨hx, hb, hml, hown, hts⟩ (c_X7_noiseOf l hm (x) (y)) (cwV 2 hts lg_X7_noiseOf rfl rfl rfl (by decide +kernel) ⟨Nat.le_of_ble_eq_true rfl, Nat.le_of_ble_eq_true rfl⟩) (q_preV hG hW hS ho36 rfl) rfl rfl hl.1 rfl (lv_room (Nat.le_of_ble_eq_true rfl)) dL_law_1135 ⟨by show _ ≤ 601024; omega, by show _ ≤ 7293034; omega⟩) hS (fun w_1135 H locs hp1135 hW hS => ?_)
    obtain ⟨hd, hfm⟩ := hp1135
    replace hs := hs.mod hfm
    replace h45 := (hfm 45 (by omega)).trans h45
    clear hm
    rcases hd with ⟨hc2, hm⟩ | ⟨hc2, hm⟩ | ⟨hc2, hm⟩
    · skip
      first | exact absurd hc hc2 | exact absurd hc2 hc | exact absurd hc.1 hc2 | exact absurd hc2.1 hc | exact absurd hc.2 hc2.2 | exact absurd hc2.2 hc.2 | (exact absurd hc.2 (by omega)) | (exact absurd hc (by omega)) | (exact absurd hc2.2 (by omega))
    · skip
      refine q_topv (v' := .int (nI 0)) (congrArg Value.int (if_neg (fun q9 => by first | exact hc2 q9 | exact hc2 q9.1 | exact absurd q9.2 (by omega) | exact hc2.2 q9.2 | exact q9.2 hc2.2 | omega))) ?_
      refine lv_istore (lv' := [(6, .int (nI 0)), (5, .int (nI 1)), (0, .ref (b0)), (1, .ref (b + 0)), (2, .ref (b + 36)), (3, .ref (b + 45)), (4, .int (nI i))]) hx hb dL_law_1138 hl (by decide) rfl (fun ls hl => ?_)
      refine lv_aload_n hx hb dL_law_1140 rfl (lv_at hl 4 rfl) ?_
      obtain ⟨fs1141, ho36⟩ := hm.obj
      refine q_R1 (va_runV (As := []) (rest := []) ⟨hx, hb, hml, hown, hts⟩ (c_thr l hm) (cwV 0 hts lg_X7_thrown rfl rfl rfl (by decide +kernel) ⟨Nat.le_of_ble_eq_true rfl, Nat.le_of_ble_eq_true rfl⟩) (q_preV hG hW hS ho36 rfl) rfl rfl hl.1 rfl (lv_room (Nat.le_of_ble_eq_true rfl)) dL_law_1141 ⟨by show _ ≤ 601024; omega, by show _ ≤ 7293034; omega⟩) ?_
      refine lv_iload hx hb dL_law_1144 (lv_at hl 1 rfl) ?_
      refine lv_icmp_eq (tgt := 1151) hx hb dL_law_1146 (by decide) (fun c_1146 => ?_) (fun c_1146 => ?_)
      · skip
        have c_1146 : 1 = 1 := (nI_eq (a := 1) (b := 1) (by omega) (by omega)).mp c_1146
        refine lv_iload hx hb dL_law_1151 (lv_at hl 1 rfl) ?_
        refine lv_if_ne (tgt := 1168) hx hb dL_law_1153 (by decide) (fun c_1153 => ?_) (fun c_1153 => ?_)
        · skip
          have c_1153 : ¬ (1 = 0) := fun h__ => c_1153 ((nI_eq0 (i := 1) (by omega)).mpr h__)
          refine lv_goto (tgt := 1597) hx hb dL_law_1168 (by decide) ?_
          exact W.widen (by omega) (by omega) (K _ _ _ _ _ ⟨hs, ⟨_, hm⟩, ⟨_, h45⟩, hW, hS⟩ (lv_sub hl [2, 3, 4, 5, 6] rfl))
        · skip
          have c_1153 : 1 = 0 := (nI_eq0 (i := 1) (by omega)).mp c_1153
          exact absurd c_1153 (by omega)
      · skip
        have c_1146 : ¬ (1 = 1) := fun h__ => c_1146 ((nI_eq (a := 1) (b := 1) (by omega) (by omega)).mpr h__)
        exact absurd c_1146 (by omega)
    · skip
      first | exact absurd hc hc2 | exact absurd hc2 hc | exact absurd hc.1 hc2 | exact absurd hc2.1 hc | exact absurd hc.2 hc2.2 | exact absurd hc2.2 hc.2 | (exact absurd hc.2 (by omega)) | (exact absurd hc (by omega)) | (exact absurd hc2.2 (by omega))
  · skip
    subst hr9
    refine lv_istore (lv' := [(5, .int (nI 2)), (0, .ref (b0)), (1, .ref (b + 0)), (2, .ref (b + 36)), (3, .ref (b + 45)), (4, .int (nI i))]) hx hb dL_law_1120 hl (by decide) rfl (fun ls hl => ?_)
    refine lv_aload_n hx hb dL_law_1122 rfl (lv_at hl 3 rfl) ?_
    refine lv_aload_n hx hb dL_law_1123 rfl (lv_at hl 1 rfl) ?_
    refine lv_iload hx hb dL_law_1124 (lv_at hl 5 rfl) ?_
    refine lv_iconst (v := nI 1) hx hb dL_law_1126 (by decide) ?_
    refine lv_iadd hx hb dL_law_1127 ?_
    refine q_top (y := nI (i + 1)) (nI_add _ _) ?_
    refine q_sld hx hb hX hbl hb0 hS hx9 (by omega) hL dL_law_1128 ?_
    refine lv_aload_n hx hb dL_law_1129 rfl (lv_at hl 1 rfl) ?_
    refine lv_iload hx hb dL_law_1130 (lv_at hl 5 rfl) ?_
    refine lv_iconst (v := nI 2) hx hb dL_law_1132 (by decide) ?_
    refine lv_iadd hx hb dL_law_1133 ?_
    refine q_top (y := nI (i + 2)) (nI_add _ _) ?_
    refine q_sld hx hb hX hbl hb0 hS hy9 (by omega) hL dL_law_1134 ?_
    obtain ⟨fs1135, ho36⟩ := hm.obj
    refine q_W1 (va_runV (As := [.int (x), .int (y)]) (rest := []) ⟨hx, hb, hml, hown, hts⟩ (c_X7_noiseOf l hm (x) (y)) (cwV 2 hts lg_X7_noiseOf rfl rfl rfl (by decide +kernel) ⟨Nat.le_of_ble_eq_true rfl, Nat.le_of_ble_eq_true rfl⟩) (q_preV hG hW hS ho36 rfl) rfl rfl hl.1 rfl (lv_room (Nat.le_of_ble_eq_true rfl)) dL_law_1135 ⟨by show _ ≤ 601024; omega, by show _ ≤ 7293034; omega⟩) hS (fun w_1135 H locs hp1135 hW hS => ?_)
    obtain ⟨hd, hfm⟩ := hp1135
    replace hs := hs.mod hfm
    replace h45 := (hfm 45 (by omega)).trans h45
    clear hm
    rcases hd with ⟨hc2, hm⟩ | ⟨hc2, hm⟩ | ⟨hc2, hm⟩
    · skip
      first | exact absurd hc hc2 | exact absurd hc2 hc | exact absurd hc.1 hc2 | exact absurd hc2.1 hc | exact absurd hc.2 hc2.2 | exact absurd hc2.2 hc.2 | (exact absurd hc.2 (by omega)) | (exact absurd hc (by omega)) | (exact absurd hc2.2 (by omega))
    · skip
      first | exact absurd hc hc2 | exact absurd hc2 hc | exact absurd hc.1 hc2 | exact absurd hc2.1 hc | exact absurd hc.2 hc2.2 | exact absurd hc2.2 hc.2 | (exact absurd hc.2 (by omega)) | (exact absurd hc (by omega)) | (exact absurd hc2.2 (by omega))
    · skip
      refine q_topv (v' := .int (nI 0)) (congrArg Value.int (if_neg (fun q9 => by first | exact hc2 q9 | exact hc2 q9.1 | exact absurd q9.2 (by omega) | exact hc2.2 q9.2 | exact q9.2 hc2.2 | omega))) ?_
      refine lv_istore (lv' := [(6, .int (nI 0)), (5, .int (nI 2)), (0, .ref (b0)), (1, .ref (b + 0)), (2, .ref (b + 36)), (3, .ref (b + 45)), (4, .int (nI i))]) hx hb dL_law_1138 hl (by decide) rfl (fun ls hl => ?_)
      refine lv_aload_n hx hb dL_law_1140 rfl (lv_at hl 4 rfl) ?_
      obtain ⟨fs1141, ho36⟩ := hm.obj
      refine q_R1 (va_runV (As := []) (rest := []) ⟨hx, hb, hml, hown, hts⟩ (c_thr l hm) (cwV 0 hts lg_X7_thrown rfl rfl rfl (by decide +kernel) ⟨Nat.le_of_ble_eq_true rfl, Nat.le_of_ble_eq_true rfl⟩) (q_preV hG hW hS ho36 rfl) rfl rfl hl.1 rfl (lv_room (Nat.le_of_ble_eq_true rfl)) dL_law_1141 ⟨by show _ ≤ 601024; omega, by show _ ≤ 7293034; omega⟩) ?_
      refine lv_iload hx hb dL_law_1144 (lv_at hl 1 rfl) ?_
      refine lv_icmp_eq (tgt := 1151) hx hb dL_law_1146 (by decide) (fun c_1146 => ?_) (fun c_1146 => ?_)
      · skip
        have c_1146 : 2 = 2 := (nI_eq (a := 2) (b := 2) (by omega) (by omega)).mp c_1146
        refine lv_iload hx hb dL_law_1151 (lv_at hl 1 rfl) ?_
        refine lv_if_ne (tgt := 1168) hx hb dL_law_1153 (by decide) (fun c_1153 => ?_) (fun c_1153 => ?_)
        · skip
          have c_1153 : ¬ (2 = 0) := fun h__ => c_1153 ((nI_eq0 (i := 2) (by omega)).mpr h__)
          refine lv_goto (tgt := 1597) hx hb dL_law_1168 (by decide) ?_
          exact W.widen (by omega) (by omega) (K _ _ _ _ _ ⟨hs, ⟨_, hm⟩, ⟨_, h45⟩, hW, hS⟩ (lv_sub hl [2, 3, 4, 5, 6] rfl))
        · skip
          have c_1153 : 2 = 0 := (nI_eq0 (i := 2) (by omega)).mp c_1153
          exact absurd c_1153 (by omega)
      · skip
        have c_1146 : ¬ (2 = 2) := fun h__ => c_1146 ((nI_eq (a := 2) (b := 2) (by omega) (by omega)).mpr h__)
        exact absurd c_1146 (by omega)

set_option maxHeartbeats 1000000 in
set_option maxRecDepth 100000 in
/-- case 17: second -/
theorem law_17 {p : Program} {l : Launch} {e : Env} {s : State} {m : MethodId} {args : Array Value} {below : List Frame} {meth : Method} {c : Code} {Q : State → Prop} {b0 L : Nat} {xs : Nat → Int32} {D : va_G} {dA : Nat → Nat} {b : Nat} (F9 : LWF p l s m args c b0 L xs D dA b) {w : Wd} {lo : Nat} {A : Sy} {H : Heap} {locs : List Loc} (V : LWV D dA b s w H locs lo A) {cells slots : Nat} (hcc : cells ≤ 600000) (hss : slots ≤ 7000000) {i : Nat} (hi : i + 5 ≤ L) {ls : Array Slot} (hl : LWL b b0 ls (nI i))
    (K : ∀ (w1 : Wd) (H1 : Heap) (locs1 : List Loc) (A1 : Sy) (ls1 : Array Slot), LWV D dA b s w1 H1 locs1 lo A1 → LWL b b0 ls1 (nI i) → W p l e room_1 s m args below meth c H1 locs1 (cells + 7) (slots + 116) Q (F0 m 1597 ls1 [])) : W p l e room_1 s m args below meth c H locs cells slots Q (F0 m 1171 ls []) := by
  obtain ⟨hl0, hx, hb, hml, hown, hts, hX, hbl, hb0, hG, hL⟩ := F9
  obtain ⟨hs, ⟨tt, hm⟩, ⟨O9, h45⟩, hW, hS⟩ := V
  obtain ⟨P, ⟨n, Hs⟩, SL, nc, C⟩ := A
  have hlo : 46 ≤ lo := hs.2.2.2.2.2.2.1
  have hP := sys_ok hs
  change okP P at hP
  have hl : lv_has ls 9 [(0, .ref b0), (1, .ref (b + 0)), (2, .ref (b + 36)), (3, .ref (b + 45)), (4, .int (nI i))] := hl
  obtain ⟨x, hx9⟩ : ∃ q : Int32, xs (i + 1) = q := ⟨_, rfl⟩
  obtain ⟨y, hy9⟩ : ∃ q : Int32, xs (i + 2) = q := ⟨_, rfl⟩
  refine lv_aload_n hx hb dL_law_1171 rfl (lv_at hl 1 rfl) ?_
  refine lv_aload_n hx hb dL_law_1172 rfl (lv_at hl 0 rfl) ?_
  refine lv_iload hx hb dL_law_1173 (lv_at hl 4 rfl) ?_
  refine lv_iconst (v := nI 1) hx hb dL_law_1175 (by decide) ?_
  refine lv_iadd hx hb dL_law_1176 ?_
  refine q_top (y := nI (i + 1)) (nI_add _ _) ?_
  refine q_sld hx hb hX hbl hb0 hS hx9 (by omega) hL dL_law_1177 ?_
  refine lv_aload_n hx hb dL_law_1178 rfl (lv_at hl 0 rfl) ?_
  refine lv_iload hx hb dL_law_1179 (lv_at hl 4 rfl) ?_
  refine lv_iconst (v := nI 2) hx hb dL_law_1181 (by decide) ?_
  refine lv_iadd hx hb dL_law_1182 ?_
  refine q_top (y := nI (i + 2)) (nI_add _ _) ?_
  refine q_sld hx hb hX hbl hb0 hS hy9 (by omega) hL dL_law_1183 ?_
  refine lv_aload_n hx hb dL_law_1184 rfl (lv_at hl 3 rfl) ?_
  refine q_XE1 (vx_runSX (As := [.ref (b + 0), .int (x), .int (y), .ref (b + 45)]) (rest := []) ⟨hx, hb, hml, hown, hts⟩ (c_L_second l hl0 hs h45 (x) (y)) (vx_cwSW 4 hts lg_L_second rfl rfl rfl (by decide +kernel) ⟨Nat.le_of_ble_eq_true rfl, Nat.le_of_ble_eq_true rfl⟩) (q_preS hG hW hS) rfl rfl hl.1 rfl (lv_room (Nat.le_of_ble_eq_true rfl)) dL_law_1185 ⟨by show _ ≤ 601024; omega, by show _ ≤ 7293034; omega⟩) hS (fun r1185 w_1185 H locs hp1185 hW hS => ?_)
  obtain ⟨hor, hf5⟩ := hp1185
  replace hm := hm.fr hf5
  clear hs h45
  rcases hor with ⟨hr9, hc, hs, h45⟩ | ⟨hr9, hc, hs, h45⟩ | ⟨hr9, hc, hs, h45⟩
  · skip
    subst hr9
    refine lv_istore (lv' := [(5, .int (nI 0)), (0, .ref (b0)), (1, .ref (b + 0)), (2, .ref (b + 36)), (3, .ref (b + 45)), (4, .int (nI i))]) hx hb dL_law_1188 hl (by decide) rfl (fun ls hl => ?_)
    refine lv_aload_n hx hb dL_law_1190 rfl (lv_at hl 3 rfl) ?_
    refine lv_aload_n hx hb dL_law_1191 rfl (lv_at hl 1 rfl) ?_
    refine lv_iload hx hb dL_law_1192 (lv_at hl 5 rfl) ?_
    refine lv_iconst (v := nI 1) hx hb dL_law_1194 (by decide) ?_
    refine lv_iadd hx hb dL_law_1195 ?_
    refine q_top (y := nI (i + 1)) (nI_add _ _) ?_
    refine q_sld hx hb hX hbl hb0 hS hx9 (by omega) hL dL_law_1196 ?_
    refine lv_aload_n hx hb dL_law_1197 rfl (lv_at hl 1 rfl) ?_
    refine lv_iload hx hb dL_law_1198 (lv_at hl 5 rfl) ?_
    refine lv_iconst (v := nI 2) hx hb dL_law_1200 (by decide) ?_
    refine lv_iadd hx hb dL_law_1201 ?_
    refine q_top (y := nI (i + 2)) (nI_add _ _) ?_
    refine q_sld hx hb hX hbl hb0 hS hy9 (by omega) hL dL_law_1202 ?_
    obtain ⟨fs1203, ho36⟩ := hm.obj
    refine q_W1 (va_runV (As := [.int (x), .int (y)]) (rest := []) ⟨hx, hb, hml, hown, hts⟩ (c_X7_second l hm (x) (y)) (cwV 2 hts lg_X7_second rfl rfl rfl (by decide +kernel) ⟨Nat.le_of_ble_eq_true rfl, Nat.le_of_ble_eq_true rfl⟩) (q_preV hG hW hS ho36 rfl) rfl rfl hl.1 rfl (lv_room (Nat.le_of_ble_eq_true rfl)) dL_law_1203 ⟨by show _ ≤ 601024; omega, by show _ ≤ 7293034; omega⟩) hS (fun w_1203 H locs hp1203 hW hS => ?_)
    obtain ⟨hd, hfm⟩ := hp1203
    replace hs := hs.mod hfm
    replace h45 := (hfm 45 (by omega)).trans h45
    clear hm
    rcases hd with ⟨hc2, hm⟩ | ⟨hc2, hm⟩ | ⟨hc2, hm⟩
    · skip
      refine q_topv (v' := .int (sof P (i32n x) (i32n y))) (congrArg Value.int (if_pos hc2)) ?_
      refine lv_istore (lv' := [(6, .int (sof P (i32n x) (i32n y))), (5, .int (nI 0)), (0, .ref (b0)), (1, .ref (b + 0)), (2, .ref (b + 36)), (3, .ref (b + 45)), (4, .int (nI i))]) hx hb dL_law_1206 hl (by decide) rfl (fun ls hl => ?_)
      refine lv_aload_n hx hb dL_law_1208 rfl (lv_at hl 4 rfl) ?_
      obtain ⟨fs1209, ho36⟩ := hm.obj
      refine q_R1 (va_runV (As := []) (rest := []) ⟨hx, hb, hml, hown, hts⟩ (c_thr l hm) (cwV 0 hts lg_X7_thrown rfl rfl rfl (by decide +kernel) ⟨Nat.le_of_ble_eq_true rfl, Nat.le_of_ble_eq_true rfl⟩) (q_preV hG hW hS ho36 rfl) rfl rfl hl.1 rfl (lv_room (Nat.le_of_ble_eq_true rfl)) dL_law_1209 ⟨by show _ ≤ 601024; omega, by show _ ≤ 7293034; omega⟩) ?_
      refine lv_iload hx hb dL_law_1212 (lv_at hl 1 rfl) ?_
      refine lv_icmp_eq (tgt := 1219) hx hb dL_law_1214 (by decide) (fun c_1214 => ?_) (fun c_1214 => ?_)
      · skip
        have c_1214 : 0 = 0 := (nI_eq (a := 0) (b := 0) (by omega) (by omega)).mp c_1214
        refine lv_iload hx hb dL_law_1219 (lv_at hl 1 rfl) ?_
        refine lv_if_ne (tgt := 1236) hx hb dL_law_1221 (by decide) (fun c_1221 => ?_) (fun c_1221 => ?_)
        · skip
          have c_1221 : ¬ (0 = 0) := fun h__ => c_1221 ((nI_eq0 (i := 0) (by omega)).mpr h__)
          exact absurd c_1221 (by omega)
        · skip
          have c_1221 : 0 = 0 := (nI_eq0 (i := 0) (by omega)).mp c_1221
          refine lv_aload_n hx hb dL_law_1224 rfl (lv_at hl 5 rfl) ?_
          refine lv_iconst (v := nI 0) hx hb dL_law_1225 (by decide) ?_
          refine q_lald hx hb hG hW h45 (by decide) (by decide) dL_law_1226 ?_
          refine q_topv (v' := .long ((sof P (i32n x) (i32n y)).toInt64)) (by rw [va_up_self]) ?_
          refine lv_iload hx hb dL_law_1227 (lv_at hl 0 rfl) ?_
          refine lv_i2l hx hb dL_law_1229 rfl ?_
          refine W.lcmp hx hb dL_law_1230 ?_
          refine q_topv (v' := .int (nI 0)) (congrArg Value.int (lg_cmp_self _)) ?_
          refine lv_if_eq (tgt := 1236) hx hb dL_law_1231 (by decide) (fun c_1231 => ?_) (fun c_1231 => ?_)
          · skip
            have c_1231 : 0 = 0 := (nI_eq0 (i := 0) (by omega)).mp c_1231
            refine lv_goto (tgt := 1597) hx hb dL_law_1236 (by decide) ?_
            exact W.widen (by omega) (by omega) (K _ _ _ _ _ ⟨hs, ⟨_, hm⟩, ⟨_, h45⟩, hW, hS⟩ (lv_sub hl [2, 3, 4, 5, 6] rfl))
          · skip
            have c_1231 : ¬ (0 = 0) := fun h__ => c_1231 ((nI_eq0 (i := 0) (by omega)).mpr h__)
            exact absurd c_1231 (by omega)
      · skip
        have c_1214 : ¬ (0 = 0) := fun h__ => c_1214 ((nI_eq (a := 0) (b := 0) (by omega) (by omega)).mpr h__)
        exact absurd c_1214 (by omega)
    · skip
      first | exact absurd hc hc2 | exact absurd hc2 hc | exact absurd hc.1 hc2 | exact absurd hc2.1 hc | exact absurd hc.2 hc2.2 | exact absurd hc2.2 hc.2 | (exact absurd hc.2 (by omega)) | (exact absurd hc (by omega)) | (exact absurd hc2.2 (by omega))
    · skip
      first | exact absurd hc hc2 | exact absurd hc2 hc | exact absurd hc.1 hc2 | exact absurd hc2.1 hc | exact absurd hc.2 hc2.2 | exact absurd hc2.2 hc.2 | (exact absurd hc.2 (by omega)) | (exact absurd hc (by omega)) | (exact absurd hc2.2 (by omega))
  · skip
    subst hr9
    refine lv_istore (lv' := [(5, .int (nI 1)), (0, .ref (b0)), (1, .ref (b + 0)), (2, .ref (b + 36)), (3, .ref (b + 45)), (4, .int (nI i))]) hx hb dL_law_1188 hl (by decide) rfl (fun ls hl => ?_)
    refine lv_aload_n hx hb dL_law_1190 rfl (lv_at hl 3 rfl) ?_
    refine lv_aload_n hx hb dL_law_1191 rfl (lv_at hl 1 rfl) ?_
    refine lv_iload hx hb dL_law_1192 (lv_at hl 5 rfl) ?_
    refine lv_iconst (v := nI 1) hx hb dL_law_1194 (by decide) ?_
    refine lv_iadd hx hb dL_law_1195 ?_
    refine q_top (y := nI (i + 1)) (nI_add _ _) ?_
    refine q_sld hx hb hX hbl hb0 hS hx9 (by omega) hL dL_law_1196 ?_
    refine lv_aload_n hx hb dL_law_1197 rfl (lv_at hl 1 rfl) ?_
    refine lv_iload hx hb dL_law_1198 (lv_at hl 5 rfl) ?_
    refine lv_iconst (v := nI 2) hx hb dL_law_1200 (by decide) ?_
    refine lv_iadd hx hb dL_law_1201 ?_
    refine q_top (y := nI (i + 2)) (nI_add _ _) ?_
    refine q_sld hx hb hX hbl hb0 hS hy9 (by omega) hL dL_law_1202 ?_
    obtain ⟨fs1203, ho36⟩ := hm.obj
    refine q_W1 (va_runV (As := [.int (x), .int (y)]) (rest := []) ⟨hx, hb, hml, hown, hts⟩ (c_X7_second l hm (x) (y)) (cwV 2 hts lg_X7_second rfl rfl rfl (by decide +kernel) ⟨Nat.le_of_ble_eq_true rfl, Nat.le_of_ble_eq_true rfl⟩) (q_preV hG hW hS ho36 rfl) rfl rfl hl.1 rfl (lv_room (Nat.le_of_ble_eq_true rfl)) dL_law_1203 ⟨by show _ ≤ 601024; omega, by show _ ≤ 7293034; omega⟩) hS (fun w_1203 H locs hp1203 hW hS => ?_)
    obtain ⟨hd, hfm⟩ := hp1203
    replace hs := hs.mod hfm
    replace h45 := (hfm 45 (by omega)).trans h45
    clear hm
    rcases hd with ⟨hc2, hm⟩ | ⟨hc2, hm⟩ | ⟨hc2, hm⟩
    · skip
      first | exact absurd hc hc2 | exact absurd hc2 hc | exact absurd hc.1 hc2 | exact absurd hc2.1 hc | exact absurd hc.2 hc2.2 | exact absurd hc2.2 hc.2 | (exact absurd hc.2 (by omega)) | (exact absurd hc (by omega)) | (exact absurd hc2.2 (by omega))
    · skip
      refine q_topv (v' := .int (nI 0)) (congrArg Value.int (if_neg (fun q9 => by first | exact hc2 q9 | exact hc2 q9.1 | exact absurd q9.2 (by omega) | exact hc2.2 q9.2 | exact q9.2 hc2.2 | omega))) ?_
      refine lv_istore (lv' := [(6, .int (nI 0)), (5, .int (nI 1)), (0, .ref (b0)), (1, .ref (b + 0)), (2, .ref (b + 36)), (3, .ref (b + 45)), (4, .int (nI i))]) hx hb dL_law_1206 hl (by decide) rfl (fun ls hl => ?_)
      refine lv_aload_n hx hb dL_law_1208 rfl (lv_at hl 4 rfl) ?_
      obtain ⟨fs1209, ho36⟩ := hm.obj
      refine q_R1 (va_runV (As := []) (rest := []) ⟨hx, hb, hml, hown, hts⟩ (c_thr l hm) (cwV 0 hts lg_X7_thrown rfl rfl rfl (by decide +kernel) ⟨Nat.le_of_ble_eq_true rfl, Nat.le_of_ble_eq_true rfl⟩) (q_preV hG hW hS ho36 rfl) rfl rfl hl.1 rfl (lv_room (Nat.le_of_ble_eq_true rfl)) dL_law_1209 ⟨by show _ ≤ 601024; omega, by show _ ≤ 7293034; omega⟩) ?_
      refine lv_iload hx hb dL_law_1212 (lv_at hl 1 rfl) ?_
      refine lv_icmp_eq (tgt := 1219) hx hb dL_law_1214 (by decide) (fun c_1214 => ?_) (fun c_1214 => ?_)
      · skip
        have c_1214 : 1 = 1 := (nI_eq (a := 1) (b := 1) (by omega) (by omega)).mp c_1214
        refine lv_iload hx hb dL_law_1219 (lv_at hl 1 rfl) ?_
        refine lv_if_ne (tgt := 1236) hx hb dL_law_1221 (by decide) (fun c_1221 => ?_) (fun c_1221 => ?_)
        · skip
          have c_1221 : ¬ (1 = 0) := fun h__ => c_1221 ((nI_eq0 (i := 1) (by omega)).mpr h__)
          refine lv_goto (tgt := 1597) hx hb dL_law_1236 (by decide) ?_
          exact W.widen (by omega) (by omega) (K _ _ _ _ _ ⟨hs, ⟨_, hm⟩, ⟨_, h45⟩, hW, hS⟩ (lv_sub hl [2, 3, 4, 5, 6] rfl))
        · skip
          have c_1221 : 1 = 0 := (nI_eq0 (i := 1) (by omega)).mp c_1221
          exact absurd c_1221 (by omega)
      · skip
        have c_1214 : ¬ (1 = 1) := fun h__ => c_1214 ((nI_eq (a := 1) (b := 1) (by omega) (by omega)).mpr h__)
        exact absurd c_1214 (by omega)
    · skip
      first | exact absurd hc hc2 | exact absurd hc2 hc | exact absurd hc.1 hc2 | exact absurd hc2.1 hc | exact absurd hc.2 hc2.2 | exact absurd hc2.2 hc.2 | (exact absurd hc.2 (by omega)) | (exact absurd hc (by omega)) | (exact absurd hc2.2 (by omega))
  · skip
    subst hr9
    refine lv_istore (lv' := [(5, .int (nI 2)), (0, .ref (b0)), (1, .ref (b + 0)), (2, .ref (b + 36)), (3, .ref (b + 45)), (4, .int (nI i))]) hx hb dL_law_1188 hl (by decide) rfl (fun ls hl => ?_)
    refine lv_aload_n hx hb dL_law_1190 rfl (lv_at hl 3 rfl) ?_
    refine lv_aload_n hx hb dL_law_1191 rfl (lv_at hl 1 rfl) ?_
    refine lv_iload hx hb dL_law_1192 (lv_at hl 5 rfl) ?_
    refine lv_iconst (v := nI 1) hx hb dL_law_1194 (by decide) ?_
    refine lv_iadd hx hb dL_law_1195 ?_
    refine q_top (y := nI (i + 1)) (nI_add _ _) ?_
    refine q_sld hx hb hX hbl hb0 hS hx9 (by omega) hL dL_law_1196 ?_
    refine lv_aload_n hx hb dL_law_1197 rfl (lv_at hl 1 rfl) ?_
    refine lv_iload hx hb dL_law_1198 (lv_at hl 5 rfl) ?_
    refine lv_iconst (v := nI 2) hx hb dL_law_1200 (by decide) ?_
    refine lv_iadd hx hb dL_law_1201 ?_
    refine q_top (y := nI (i + 2)) (nI_add _ _) ?_
    refine q_sld hx hb hX hbl hb0 hS hy9 (by omega) hL dL_law_1202 ?_
    obtain ⟨fs1203, ho36⟩ := hm.obj
    refine q_W1 (va_runV (As := [.int (x), .int (y)]) (rest := []) ⟨hx, hb, hml, hown, hts⟩ (c_X7_second l hm (x) (y)) (cwV 2 hts lg_X7_second rfl rfl rfl (by decide +kernel) ⟨Nat.le_of_ble_eq_true rfl, Nat.le_of_ble_eq_true rfl⟩) (q_preV hG hW hS ho36 rfl) rfl rfl hl.1 rfl (lv_room (Nat.le_of_ble_eq_true rfl)) dL_law_1203 ⟨by show _ ≤ 601024; omega, by show _ ≤ 7293034; omega⟩) hS (fun w_1203 H locs hp1203 hW hS => ?_)
    obtain ⟨hd, hfm⟩ := hp1203
    replace hs := hs.mod hfm
    replace h45 := (hfm 45 (by omega)).trans h45
    clear hm
    rcases hd with ⟨hc2, hm⟩ | ⟨hc2, hm⟩ | ⟨hc2, hm⟩
    · skip
      first | exact absurd hc hc2 | exact absurd hc2 hc | exact absurd hc.1 hc2 | exact absurd hc2.1 hc | exact absurd hc.2 hc2.2 | exact absurd hc2.2 hc.2 | (exact absurd hc.2 (by omega)) | (exact absurd hc (by omega)) | (exact absurd hc2.2 (by omega))
    · skip
      first | exact absurd hc hc2 | exact absurd hc2 hc | exact absurd hc.1 hc2 | exact absurd hc2.1 hc | exact absurd hc.2 hc2.2 | exact absurd hc2.2 hc.2 | (exact absurd hc.2 (by omega)) | (exact absurd hc (by omega)) | (exact absurd hc2.2 (by omega))
    · skip
      refine q_topv (v' := .int (nI 0)) (congrArg Value.int (if_neg (fun q9 => by first | exact hc2 q9 | exact hc2 q9.1 | exact absurd q9.2 (by omega) | exact hc2.2 q9.2 | exact q9.2 hc2.2 | omega))) ?_
      refine lv_istore (lv' := [(6, .int (nI 0)), (5, .int (nI 2)), (0, .ref (b0)), (1, .ref (b + 0)), (2, .ref (b + 36)), (3, .ref (b + 45)), (4, .int (nI i))]) hx hb dL_law_1206 hl (by decide) rfl (fun ls hl => ?_)
      refine lv_aload_n hx hb dL_law_1208 rfl (lv_at hl 4 rfl) ?_
      obtain ⟨fs1209, ho36⟩ := hm.obj
      refine q_R1 (va_runV (As := []) (rest := []) ⟨hx, hb, hml, hown, hts⟩ (c_thr l hm) (cwV 0 hts lg_X7_thrown rfl rfl rfl (by decide +kernel) ⟨Nat.le_of_ble_eq_true rfl, Nat.le_of_ble_eq_true rfl⟩) (q_preV hG hW hS ho36 rfl) rfl rfl hl.1 rfl (lv_room (Nat.le_of_ble_eq_true rfl)) dL_law_1209 ⟨by show _ ≤ 601024; omega, by show _ ≤ 7293034; omega⟩) ?_
      refine lv_iload hx hb dL_law_1212 (lv_at hl 1 rfl) ?_
      refine lv_icmp_eq (tgt := 1219) hx hb dL_law_1214 (by decide) (fun c_1214 => ?_) (fun c_1214 => ?_)
      · skip
        have c_1214 : 2 = 2 := (nI_eq (a := 2) (b := 2) (by omega) (by omega)).mp c_1214
        refine lv_iload hx hb dL_law_1219 (lv_at hl 1 rfl) ?_
        refine lv_if_ne (tgt := 1236) hx hb dL_law_1221 (by decide) (fun c_1221 => ?_) (fun c_1221 => ?_)
        · skip
          have c_1221 : ¬ (2 = 0) := fun h__ => c_1221 ((nI_eq0 (i := 2) (by omega)).mpr h__)
          refine lv_goto (tgt := 1597) hx hb dL_law_1236 (by decide) ?_
          exact W.widen (by omega) (by omega) (K _ _ _ _ _ ⟨hs, ⟨_, hm⟩, ⟨_, h45⟩, hW, hS⟩ (lv_sub hl [2, 3, 4, 5, 6] rfl))
        · skip
          have c_1221 : 2 = 0 := (nI_eq0 (i := 2) (by omega)).mp c_1221
          exact absurd c_1221 (by omega)
      · skip
        have c_1214 : ¬ (2 = 2) := fun h__ => c_1214 ((nI_eq (a := 2) (b := 2) (by omega) (by omega)).mpr h__)
        exact absurd c_1214 (by omega)

set_option maxHeartbeats 1000000 in
set_option maxRecDepth 100000 in
/-- case 18: total -/
theorem law_18 {p : Program} {l : Launch} {e : Env} {s : State} {m : MethodId} {args : Array Value} {below : List Frame} {meth : Method} {c : Code} {Q : State → Prop} {b0 L : Nat} {xs : Nat → Int32} {D : va_G} {dA : Nat → Nat} {b : Nat} (F9 : LWF p l s m args c b0 L xs D dA b) {w : Wd} {lo : Nat} {A : Sy} {H : Heap} {locs : List Loc} (V : LWV D dA b s w H locs lo A) {cells slots : Nat} (hcc : cells ≤ 600000) (hss : slots ≤ 7000000) {i : Nat} (hi : i + 5 ≤ L) {ls : Array Slot} (hl : LWL b b0 ls (nI i))
    (K : ∀ (w1 : Wd) (H1 : Heap) (locs1 : List Loc) (A1 : Sy) (ls1 : Array Slot), LWV D dA b s w1 H1 locs1 lo A1 → LWL b b0 ls1 (nI i) → W p l e room_1 s m args below meth c H1 locs1 (cells + 7) (slots + 116) Q (F0 m 1597 ls1 [])) : W p l e room_1 s m args below meth c H locs cells slots Q (F0 m 1239 ls []) := by
  obtain ⟨hl0, hx, hb, hml, hown, hts, hX, hbl, hb0, hG, hL⟩ := F9
  obtain ⟨hs, ⟨tt, hm⟩, ⟨O9, h45⟩, hW, hS⟩ := V
  obtain ⟨P, ⟨n, Hs⟩, SL, nc, C⟩ := A
  have hlo : 46 ≤ lo := hs.2.2.2.2.2.2.1
  have hP := sys_ok hs
  change okP P at hP
  have hl : lv_has ls 9 [(0, .ref b0), (1, .ref (b + 0)), (2, .ref (b + 36)), (3, .ref (b + 45)), (4, .int (nI i))] := hl
  obtain ⟨x, hx9⟩ : ∃ q : Int32, xs (i + 1) = q := ⟨_, rfl⟩
  refine lv_aload_n hx hb dL_law_1239 rfl (lv_at hl 1 rfl) ?_
  refine lv_aload_n hx hb dL_law_1240 rfl (lv_at hl 0 rfl) ?_
  refine lv_iload hx hb dL_law_1241 (lv_at hl 4 rfl) ?_
  refine lv_iconst (v := nI 1) hx hb dL_law_1243 (by decide) ?_
  refine lv_iadd hx hb dL_law_1244 ?_
  refine q_top (y := nI (i + 1)) (nI_add _ _) ?_
  refine q_sld hx hb hX hbl hb0 hS hx9 (by omega) hL dL_law_1245 ?_
  refine lv_aload_n hx hb dL_law_1246 rfl (lv_at hl 3 rfl) ?_
  refine q_XE1 (vx_runSX (As := [.ref (b + 0), .int (x), .ref (b + 45)]) (rest := []) ⟨hx, hb, hml, hown, hts⟩ (c_L_total l hl0 hs h45 (x)) (vx_cwSW 3 hts lg_L_total rfl rfl rfl (by decide +kernel) ⟨Nat.le_of_ble_eq_true rfl, Nat.le_of_ble_eq_true rfl⟩) (q_preS hG hW hS) rfl rfl hl.1 rfl (lv_room (Nat.le_of_ble_eq_true rfl)) dL_law_1247 ⟨by show _ ≤ 601024; omega, by show _ ≤ 7293034; omega⟩) hS (fun r1247 w_1247 H locs hp1247 hW hS => ?_)
  obtain ⟨hor, hf5⟩ := hp1247
  replace hm := hm.fr hf5
  clear hs h45
  rcases hor with ⟨hr9, hc, hs, h45⟩ | ⟨hr9, hc, hs, h45⟩
  · skip
    subst hr9
    refine lv_istore (lv' := [(5, .int (nI 0)), (0, .ref (b0)), (1, .ref (b + 0)), (2, .ref (b + 36)), (3, .ref (b + 45)), (4, .int (nI i))]) hx hb dL_law_1250 hl (by decide) rfl (fun ls hl => ?_)
    refine lv_aload_n hx hb dL_law_1252 rfl (lv_at hl 3 rfl) ?_
    refine lv_aload_n hx hb dL_law_1253 rfl (lv_at hl 1 rfl) ?_
    refine lv_iload hx hb dL_law_1254 (lv_at hl 5 rfl) ?_
    refine lv_iconst (v := nI 1) hx hb dL_law_1256 (by decide) ?_
    refine lv_iadd hx hb dL_law_1257 ?_
    refine q_top (y := nI (i + 1)) (nI_add _ _) ?_
    refine q_sld hx hb hX hbl hb0 hS hx9 (by omega) hL dL_law_1258 ?_
    obtain ⟨fs1259, ho36⟩ := hm.obj
    refine q_W1 (va_runV (As := [.int (x)]) (rest := []) ⟨hx, hb, hml, hown, hts⟩ (c_X7_total l hm (x)) (cwV 1 hts lg_X7_total rfl rfl rfl (by decide +kernel) ⟨Nat.le_of_ble_eq_true rfl, Nat.le_of_ble_eq_true rfl⟩) (q_preV hG hW hS ho36 rfl) rfl rfl hl.1 rfl (lv_room (Nat.le_of_ble_eq_true rfl)) dL_law_1259 ⟨by show _ ≤ 601024; omega, by show _ ≤ 7293034; omega⟩) hS (fun w_1259 H locs hp1259 hW hS => ?_)
    obtain ⟨hd, hfm⟩ := hp1259
    replace hs := hs.mod hfm
    replace h45 := (hfm 45 (by omega)).trans h45
    clear hm
    rcases hd with ⟨hc2, hm⟩ | ⟨hc2, hm⟩
    · skip
      refine q_topv (v' := .int (nI (ttc P))) (congrArg Value.int (if_pos hc2)) ?_
      refine lv_istore (lv' := [(6, .int (nI (ttc P))), (5, .int (nI 0)), (0, .ref (b0)), (1, .ref (b + 0)), (2, .ref (b + 36)), (3, .ref (b + 45)), (4, .int (nI i))]) hx hb dL_law_1262 hl (by decide) rfl (fun ls hl => ?_)
      refine lv_aload_n hx hb dL_law_1264 rfl (lv_at hl 4 rfl) ?_
      obtain ⟨fs1265, ho36⟩ := hm.obj
      refine q_R1 (va_runV (As := []) (rest := []) ⟨hx, hb, hml, hown, hts⟩ (c_thr l hm) (cwV 0 hts lg_X7_thrown rfl rfl rfl (by decide +kernel) ⟨Nat.le_of_ble_eq_true rfl, Nat.le_of_ble_eq_true rfl⟩) (q_preV hG hW hS ho36 rfl) rfl rfl hl.1 rfl (lv_room (Nat.le_of_ble_eq_true rfl)) dL_law_1265 ⟨by show _ ≤ 601024; omega, by show _ ≤ 7293034; omega⟩) ?_
      refine lv_iload hx hb dL_law_1268 (lv_at hl 1 rfl) ?_
      refine lv_icmp_eq (tgt := 1275) hx hb dL_law_1270 (by decide) (fun c_1270 => ?_) (fun c_1270 => ?_)
      · skip
        have c_1270 : 0 = 0 := (nI_eq (a := 0) (b := 0) (by omega) (by omega)).mp c_1270
        refine lv_iload hx hb dL_law_1275 (lv_at hl 1 rfl) ?_
        refine lv_if_ne (tgt := 1292) hx hb dL_law_1277 (by decide) (fun c_1277 => ?_) (fun c_1277 => ?_)
        · skip
          have c_1277 : ¬ (0 = 0) := fun h__ => c_1277 ((nI_eq0 (i := 0) (by omega)).mpr h__)
          exact absurd c_1277 (by omega)
        · skip
          have c_1277 : 0 = 0 := (nI_eq0 (i := 0) (by omega)).mp c_1277
          refine lv_aload_n hx hb dL_law_1280 rfl (lv_at hl 5 rfl) ?_
          refine lv_iconst (v := nI 0) hx hb dL_law_1281 (by decide) ?_
          refine q_lald hx hb hG hW h45 (by decide) (by decide) dL_law_1282 ?_
          refine q_topv (v' := .long ((nI (ttc P)).toInt64)) (by rw [va_up_self]; first | rfl | (by_cases e9 : i32n x = 1; (rw [if_pos e9]); (rw [if_neg e9, tt_eq hP]))) ?_
          refine lv_iload hx hb dL_law_1283 (lv_at hl 0 rfl) ?_
          refine lv_i2l hx hb dL_law_1285 rfl ?_
          refine W.lcmp hx hb dL_law_1286 ?_
          refine q_topv (v' := .int (nI 0)) (congrArg Value.int (lg_cmp_self _)) ?_
          refine lv_if_eq (tgt := 1292) hx hb dL_law_1287 (by decide) (fun c_1287 => ?_) (fun c_1287 => ?_)
          · skip
            have c_1287 : 0 = 0 := (nI_eq0 (i := 0) (by omega)).mp c_1287
            refine lv_goto (tgt := 1597) hx hb dL_law_1292 (by decide) ?_
            exact W.widen (by omega) (by omega) (K _ _ _ _ _ ⟨hs, ⟨_, hm⟩, ⟨_, h45⟩, hW, hS⟩ (lv_sub hl [2, 3, 4, 5, 6] rfl))
          · skip
            have c_1287 : ¬ (0 = 0) := fun h__ => c_1287 ((nI_eq0 (i := 0) (by omega)).mpr h__)
            exact absurd c_1287 (by omega)
      · skip
        have c_1270 : ¬ (0 = 0) := fun h__ => c_1270 ((nI_eq (a := 0) (b := 0) (by omega) (by omega)).mpr h__)
        exact absurd c_1270 (by omega)
    · skip
      first | exact absurd hc hc2 | exact absurd hc2 hc | exact absurd hc.1 hc2 | exact absurd hc2.1 hc | exact absurd hc.2 hc2.2 | exact absurd hc2.2 hc.2 | (exact absurd hc.2 (by omega)) | (exact absurd hc (by omega)) | (exact absurd hc2.2 (by omega))
  · skip
    subst hr9
    refine lv_istore (lv' := [(5, .int (nI 1)), (0, .ref (b0)), (1, .ref (b + 0)), (2, .ref (b + 36)), (3, .ref (b + 45)), (4, .int (nI i))]) hx hb dL_law_1250 hl (by decide) rfl (fun ls hl => ?_)
    refine lv_aload_n hx hb dL_law_1252 rfl (lv_at hl 3 rfl) ?_
    refine lv_aload_n hx hb dL_law_1253 rfl (lv_at hl 1 rfl) ?_
    refine lv_iload hx hb dL_law_1254 (lv_at hl 5 rfl) ?_
    refine lv_iconst (v := nI 1) hx hb dL_law_1256 (by decide) ?_
    refine lv_iadd hx hb dL_law_1257 ?_
    refine q_top (y := nI (i + 1)) (nI_add _ _) ?_
    refine q_sld hx hb hX hbl hb0 hS hx9 (by omega) hL dL_law_1258 ?_
    obtain ⟨fs1259, ho36⟩ := hm.obj
    refine q_W1 (va_runV (As := [.int (x)]) (rest := []) ⟨hx, hb, hml, hown, hts⟩ (c_X7_total l hm (x)) (cwV 1 hts lg_X7_total rfl rfl rfl (by decide +kernel) ⟨Nat.le_of_ble_eq_true rfl, Nat.le_of_ble_eq_true rfl⟩) (q_preV hG hW hS ho36 rfl) rfl rfl hl.1 rfl (lv_room (Nat.le_of_ble_eq_true rfl)) dL_law_1259 ⟨by show _ ≤ 601024; omega, by show _ ≤ 7293034; omega⟩) hS (fun w_1259 H locs hp1259 hW hS => ?_)
    obtain ⟨hd, hfm⟩ := hp1259
    replace hs := hs.mod hfm
    replace h45 := (hfm 45 (by omega)).trans h45
    clear hm
    rcases hd with ⟨hc2, hm⟩ | ⟨hc2, hm⟩
    · skip
      first | exact absurd hc hc2 | exact absurd hc2 hc | exact absurd hc.1 hc2 | exact absurd hc2.1 hc | exact absurd hc.2 hc2.2 | exact absurd hc2.2 hc.2 | (exact absurd hc.2 (by omega)) | (exact absurd hc (by omega)) | (exact absurd hc2.2 (by omega))
    · skip
      refine q_topv (v' := .int (nI 0)) (congrArg Value.int (if_neg (fun q9 => by first | exact hc2 q9 | exact hc2 q9.1 | exact absurd q9.2 (by omega) | exact hc2.2 q9.2 | exact q9.2 hc2.2 | omega))) ?_
      refine lv_istore (lv' := [(6, .int (nI 0)), (5, .int (nI 1)), (0, .ref (b0)), (1, .ref (b + 0)), (2, .ref (b + 36)), (3, .ref (b + 45)), (4, .int (nI i))]) hx hb dL_law_1262 hl (by decide) rfl (fun ls hl => ?_)
      refine lv_aload_n hx hb dL_law_1264 rfl (lv_at hl 4 rfl) ?_
      obtain ⟨fs1265, ho36⟩ := hm.obj
      refine q_R1 (va_runV (As := []) (rest := []) ⟨hx, hb, hml, hown, hts⟩ (c_thr l hm) (cwV 0 hts lg_X7_thrown rfl rfl rfl (by decide +kernel) ⟨Nat.le_of_ble_eq_true rfl, Nat.le_of_ble_eq_true rfl⟩) (q_preV hG hW hS ho36 rfl) rfl rfl hl.1 rfl (lv_room (Nat.le_of_ble_eq_true rfl)) dL_law_1265 ⟨by show _ ≤ 601024; omega, by show _ ≤ 7293034; omega⟩) ?_
      refine lv_iload hx hb dL_law_1268 (lv_at hl 1 rfl) ?_
      refine lv_icmp_eq (tgt := 1275) hx hb dL_law_1270 (by decide) (fun c_1270 => ?_) (fun c_1270 => ?_)
      · skip
        have c_1270 : 1 = 1 := (nI_eq (a := 1) (b := 1) (by omega) (by omega)).mp c_1270
        refine lv_iload hx hb dL_law_1275 (lv_at hl 1 rfl) ?_
        refine lv_if_ne (tgt := 1292) hx hb dL_law_1277 (by decide) (fun c_1277 => ?_) (fun c_1277 => ?_)
        · skip
          have c_1277 : ¬ (1 = 0) := fun h__ => c_1277 ((nI_eq0 (i := 1) (by omega)).mpr h__)
          refine lv_goto (tgt := 1597) hx hb dL_law_1292 (by decide) ?_
          exact W.widen (by omega) (by omega) (K _ _ _ _ _ ⟨hs, ⟨_, hm⟩, ⟨_, h45⟩, hW, hS⟩ (lv_sub hl [2, 3, 4, 5, 6] rfl))
        · skip
          have c_1277 : 1 = 0 := (nI_eq0 (i := 1) (by omega)).mp c_1277
          exact absurd c_1277 (by omega)
      · skip
        have c_1270 : ¬ (1 = 1) := fun h__ => c_1270 ((nI_eq (a := 1) (b := 1) (by omega) (by omega)).mpr h__)
        exact absurd c_1270 (by omega)

set_option maxHeartbeats 1000000 in
set_option maxRecDepth 100000 in
/-- case 19: count -/
theorem law_19 {p : Program} {l : Launch} {e : Env} {s : State} {m : MethodId} {args : Array Value} {below : List Frame} {meth : Method} {c : Code} {Q : State → Prop} {b0 L : Nat} {xs : Nat → Int32} {D : va_G} {dA : Nat → Nat} {b : Nat} (F9 : LWF p l s m args c b0 L xs D dA b) {w : Wd} {lo : Nat} {A : Sy} {H : Heap} {locs : List Loc} (V : LWV D dA b s w H locs lo A) {cells slots : Nat} (hcc : cells ≤ 600000) (hss : slots ≤ 7000000) {i : Nat} (hi : i + 5 ≤ L) {ls : Array Slot} (hl : LWL b b0 ls (nI i))
    (K : ∀ (w1 : Wd) (H1 : Heap) (locs1 : List Loc) (A1 : Sy) (ls1 : Array Slot), LWV D dA b s w1 H1 locs1 lo A1 → LWL b b0 ls1 (nI i) → W p l e room_1 s m args below meth c H1 locs1 (cells + 7) (slots + 116) Q (F0 m 1597 ls1 [])) : W p l e room_1 s m args below meth c H locs cells slots Q (F0 m 1295 ls []) := by
  obtain ⟨hl0, hx, hb, hml, hown, hts, hX, hbl, hb0, hG, hL⟩ := F9
  obtain ⟨hs, ⟨tt, hm⟩, ⟨O9, h45⟩, hW, hS⟩ := V
  obtain ⟨P, ⟨n, Hs⟩, SL, nc, C⟩ := A
  have hlo : 46 ≤ lo := hs.2.2.2.2.2.2.1
  have hP := sys_ok hs
  change okP P at hP
  have hl : lv_has ls 9 [(0, .ref b0), (1, .ref (b + 0)), (2, .ref (b + 36)), (3, .ref (b + 45)), (4, .int (nI i))] := hl
  obtain ⟨x, hx9⟩ : ∃ q : Int32, xs (i + 1) = q := ⟨_, rfl⟩
  refine lv_aload_n hx hb dL_law_1295 rfl (lv_at hl 1 rfl) ?_
  refine lv_aload_n hx hb dL_law_1296 rfl (lv_at hl 0 rfl) ?_
  refine lv_iload hx hb dL_law_1297 (lv_at hl 4 rfl) ?_
  refine lv_iconst (v := nI 1) hx hb dL_law_1299 (by decide) ?_
  refine lv_iadd hx hb dL_law_1300 ?_
  refine q_top (y := nI (i + 1)) (nI_add _ _) ?_
  refine q_sld hx hb hX hbl hb0 hS hx9 (by omega) hL dL_law_1301 ?_
  refine lv_aload_n hx hb dL_law_1302 rfl (lv_at hl 3 rfl) ?_
  refine q_XE1 (vx_runSX (As := [.ref (b + 0), .int (x), .ref (b + 45)]) (rest := []) ⟨hx, hb, hml, hown, hts⟩ (c_L_count l hl0 hs h45 (x)) (vx_cwSW 3 hts lg_L_count rfl rfl rfl (by decide +kernel) ⟨Nat.le_of_ble_eq_true rfl, Nat.le_of_ble_eq_true rfl⟩) (q_preS hG hW hS) rfl rfl hl.1 rfl (lv_room (Nat.le_of_ble_eq_true rfl)) dL_law_1303 ⟨by show _ ≤ 601024; omega, by show _ ≤ 7293034; omega⟩) hS (fun r1303 w_1303 H locs hp1303 hW hS => ?_)
  obtain ⟨hor, hf5⟩ := hp1303
  replace hm := hm.fr hf5
  clear hs h45
  rcases hor with ⟨hr9, hc, hs, h45⟩ | ⟨hr9, hc, hs, h45⟩
  · skip
    subst hr9
    refine lv_istore (lv' := [(5, .int (nI 0)), (0, .ref (b0)), (1, .ref (b + 0)), (2, .ref (b + 36)), (3, .ref (b + 45)), (4, .int (nI i))]) hx hb dL_law_1306 hl (by decide) rfl (fun ls hl => ?_)
    refine lv_aload_n hx hb dL_law_1308 rfl (lv_at hl 3 rfl) ?_
    refine lv_aload_n hx hb dL_law_1309 rfl (lv_at hl 1 rfl) ?_
    refine lv_iload hx hb dL_law_1310 (lv_at hl 5 rfl) ?_
    refine lv_iconst (v := nI 1) hx hb dL_law_1312 (by decide) ?_
    refine lv_iadd hx hb dL_law_1313 ?_
    refine q_top (y := nI (i + 1)) (nI_add _ _) ?_
    refine q_sld hx hb hX hbl hb0 hS hx9 (by omega) hL dL_law_1314 ?_
    obtain ⟨fs1315, ho36⟩ := hm.obj
    refine q_W1 (va_runV (As := [.int (x)]) (rest := []) ⟨hx, hb, hml, hown, hts⟩ (c_X7_count l hm (x)) (cwV 1 hts lg_X7_count rfl rfl rfl (by decide +kernel) ⟨Nat.le_of_ble_eq_true rfl, Nat.le_of_ble_eq_true rfl⟩) (q_preV hG hW hS ho36 rfl) rfl rfl hl.1 rfl (lv_room (Nat.le_of_ble_eq_true rfl)) dL_law_1315 ⟨by show _ ≤ 601024; omega, by show _ ≤ 7293034; omega⟩) hS (fun w_1315 H locs hp1315 hW hS => ?_)
    obtain ⟨hd, hfm⟩ := hp1315
    replace hs := hs.mod hfm
    replace h45 := (hfm 45 (by omega)).trans h45
    clear hm
    rcases hd with ⟨hc2, hm⟩ | ⟨hc2, hm⟩
    · skip
      refine q_topv (v' := .int (cof P n nc (i32n x))) (congrArg Value.int (if_pos hc2)) ?_
      refine lv_istore (lv' := [(6, .int (cof P n nc (i32n x))), (5, .int (nI 0)), (0, .ref (b0)), (1, .ref (b + 0)), (2, .ref (b + 36)), (3, .ref (b + 45)), (4, .int (nI i))]) hx hb dL_law_1318 hl (by decide) rfl (fun ls hl => ?_)
      refine lv_aload_n hx hb dL_law_1320 rfl (lv_at hl 4 rfl) ?_
      obtain ⟨fs1321, ho36⟩ := hm.obj
      refine q_R1 (va_runV (As := []) (rest := []) ⟨hx, hb, hml, hown, hts⟩ (c_thr l hm) (cwV 0 hts lg_X7_thrown rfl rfl rfl (by decide +kernel) ⟨Nat.le_of_ble_eq_true rfl, Nat.le_of_ble_eq_true rfl⟩) (q_preV hG hW hS ho36 rfl) rfl rfl hl.1 rfl (lv_room (Nat.le_of_ble_eq_true rfl)) dL_law_1321 ⟨by show _ ≤ 601024; omega, by show _ ≤ 7293034; omega⟩) ?_
      refine lv_iload hx hb dL_law_1324 (lv_at hl 1 rfl) ?_
      refine lv_icmp_eq (tgt := 1331) hx hb dL_law_1326 (by decide) (fun c_1326 => ?_) (fun c_1326 => ?_)
      · skip
        have c_1326 : 0 = 0 := (nI_eq (a := 0) (b := 0) (by omega) (by omega)).mp c_1326
        refine lv_iload hx hb dL_law_1331 (lv_at hl 1 rfl) ?_
        refine lv_if_ne (tgt := 1348) hx hb dL_law_1333 (by decide) (fun c_1333 => ?_) (fun c_1333 => ?_)
        · skip
          have c_1333 : ¬ (0 = 0) := fun h__ => c_1333 ((nI_eq0 (i := 0) (by omega)).mpr h__)
          exact absurd c_1333 (by omega)
        · skip
          have c_1333 : 0 = 0 := (nI_eq0 (i := 0) (by omega)).mp c_1333
          refine lv_aload_n hx hb dL_law_1336 rfl (lv_at hl 5 rfl) ?_
          refine lv_iconst (v := nI 0) hx hb dL_law_1337 (by decide) ?_
          refine q_lald hx hb hG hW h45 (by decide) (by decide) dL_law_1338 ?_
          refine q_topv (v' := .long ((cof P n nc (i32n x)).toInt64)) (by rw [va_up_self]) ?_
          refine lv_iload hx hb dL_law_1339 (lv_at hl 0 rfl) ?_
          refine lv_i2l hx hb dL_law_1341 rfl ?_
          refine W.lcmp hx hb dL_law_1342 ?_
          refine q_topv (v' := .int (nI 0)) (congrArg Value.int (lg_cmp_self _)) ?_
          refine lv_if_eq (tgt := 1348) hx hb dL_law_1343 (by decide) (fun c_1343 => ?_) (fun c_1343 => ?_)
          · skip
            have c_1343 : 0 = 0 := (nI_eq0 (i := 0) (by omega)).mp c_1343
            refine lv_goto (tgt := 1597) hx hb dL_law_1348 (by decide) ?_
            exact W.widen (by omega) (by omega) (K _ _ _ _ _ ⟨hs, ⟨_, hm⟩, ⟨_, h45⟩, hW, hS⟩ (lv_sub hl [2, 3, 4, 5, 6] rfl))
          · skip
            have c_1343 : ¬ (0 = 0) := fun h__ => c_1343 ((nI_eq0 (i := 0) (by omega)).mpr h__)
            exact absurd c_1343 (by omega)
      · skip
        have c_1326 : ¬ (0 = 0) := fun h__ => c_1326 ((nI_eq (a := 0) (b := 0) (by omega) (by omega)).mpr h__)
        exact absurd c_1326 (by omega)
    · skip
      first | exact absurd hc hc2 | exact absurd hc2 hc | exact absurd hc.1 hc2 | exact absurd hc2.1 hc | exact absurd hc.2 hc2.2 | exact absurd hc2.2 hc.2 | (exact absurd hc.2 (by omega)) | (exact absurd hc (by omega)) | (exact absurd hc2.2 (by omega))
  · skip
    subst hr9
    refine lv_istore (lv' := [(5, .int (nI 1)), (0, .ref (b0)), (1, .ref (b + 0)), (2, .ref (b + 36)), (3, .ref (b + 45)), (4, .int (nI i))]) hx hb dL_law_1306 hl (by decide) rfl (fun ls hl => ?_)
    refine lv_aload_n hx hb dL_law_1308 rfl (lv_at hl 3 rfl) ?_
    refine lv_aload_n hx hb dL_law_1309 rfl (lv_at hl 1 rfl) ?_
    refine lv_iload hx hb dL_law_1310 (lv_at hl 5 rfl) ?_
    refine lv_iconst (v := nI 1) hx hb dL_law_1312 (by decide) ?_
    refine lv_iadd hx hb dL_law_1313 ?_
    refine q_top (y := nI (i + 1)) (nI_add _ _) ?_
    refine q_sld hx hb hX hbl hb0 hS hx9 (by omega) hL dL_law_1314 ?_
    obtain ⟨fs1315, ho36⟩ := hm.obj
    refine q_W1 (va_runV (As := [.int (x)]) (rest := []) ⟨hx, hb, hml, hown, hts⟩ (c_X7_count l hm (x)) (cwV 1 hts lg_X7_count rfl rfl rfl (by decide +kernel) ⟨Nat.le_of_ble_eq_true rfl, Nat.le_of_ble_eq_true rfl⟩) (q_preV hG hW hS ho36 rfl) rfl rfl hl.1 rfl (lv_room (Nat.le_of_ble_eq_true rfl)) dL_law_1315 ⟨by show _ ≤ 601024; omega, by show _ ≤ 7293034; omega⟩) hS (fun w_1315 H locs hp1315 hW hS => ?_)
    obtain ⟨hd, hfm⟩ := hp1315
    replace hs := hs.mod hfm
    replace h45 := (hfm 45 (by omega)).trans h45
    clear hm
    rcases hd with ⟨hc2, hm⟩ | ⟨hc2, hm⟩
    · skip
      first | exact absurd hc hc2 | exact absurd hc2 hc | exact absurd hc.1 hc2 | exact absurd hc2.1 hc | exact absurd hc.2 hc2.2 | exact absurd hc2.2 hc.2 | (exact absurd hc.2 (by omega)) | (exact absurd hc (by omega)) | (exact absurd hc2.2 (by omega))
    · skip
      refine q_topv (v' := .int (nI 0)) (congrArg Value.int (if_neg (fun q9 => by first | exact hc2 q9 | exact hc2 q9.1 | exact absurd q9.2 (by omega) | exact hc2.2 q9.2 | exact q9.2 hc2.2 | omega))) ?_
      refine lv_istore (lv' := [(6, .int (nI 0)), (5, .int (nI 1)), (0, .ref (b0)), (1, .ref (b + 0)), (2, .ref (b + 36)), (3, .ref (b + 45)), (4, .int (nI i))]) hx hb dL_law_1318 hl (by decide) rfl (fun ls hl => ?_)
      refine lv_aload_n hx hb dL_law_1320 rfl (lv_at hl 4 rfl) ?_
      obtain ⟨fs1321, ho36⟩ := hm.obj
      refine q_R1 (va_runV (As := []) (rest := []) ⟨hx, hb, hml, hown, hts⟩ (c_thr l hm) (cwV 0 hts lg_X7_thrown rfl rfl rfl (by decide +kernel) ⟨Nat.le_of_ble_eq_true rfl, Nat.le_of_ble_eq_true rfl⟩) (q_preV hG hW hS ho36 rfl) rfl rfl hl.1 rfl (lv_room (Nat.le_of_ble_eq_true rfl)) dL_law_1321 ⟨by show _ ≤ 601024; omega, by show _ ≤ 7293034; omega⟩) ?_
      refine lv_iload hx hb dL_law_1324 (lv_at hl 1 rfl) ?_
      refine lv_icmp_eq (tgt := 1331) hx hb dL_law_1326 (by decide) (fun c_1326 => ?_) (fun c_1326 => ?_)
      · skip
        have c_1326 : 1 = 1 := (nI_eq (a := 1) (b := 1) (by omega) (by omega)).mp c_1326
        refine lv_iload hx hb dL_law_1331 (lv_at hl 1 rfl) ?_
        refine lv_if_ne (tgt := 1348) hx hb dL_law_1333 (by decide) (fun c_1333 => ?_) (fun c_1333 => ?_)
        · skip
          have c_1333 : ¬ (1 = 0) := fun h__ => c_1333 ((nI_eq0 (i := 1) (by omega)).mpr h__)
          refine lv_goto (tgt := 1597) hx hb dL_law_1348 (by decide) ?_
          exact W.widen (by omega) (by omega) (K _ _ _ _ _ ⟨hs, ⟨_, hm⟩, ⟨_, h45⟩, hW, hS⟩ (lv_sub hl [2, 3, 4, 5, 6] rfl))
        · skip
          have c_1333 : 1 = 0 := (nI_eq0 (i := 1) (by omega)).mp c_1333
          exact absurd c_1333 (by omega)
      · skip
        have c_1326 : ¬ (1 = 1) := fun h__ => c_1326 ((nI_eq (a := 1) (b := 1) (by omega) (by omega)).mpr h__)
        exact absurd c_1326 (by omega)
