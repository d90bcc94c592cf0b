set_option maxHeartbeats 1000000 in
set_option maxRecDepth 100000 in
/-- case 8: firstError -/
theorem law_8 {p : Program} {l : Launch} {e : Env} {s : State} {m : MethodId} {args : Array Value} {below : List Frame} {meth : Method} {c : Code} {Q : State → Prop} {b0 L : Nat} {xs : Nat → Int32} {D : va_G} {dA : Nat → Nat} {b : Nat} (F9 : LWF p l s m args c b0 L xs D dA b) {w : Wd} {lo : Nat} {A : Sy} {H : Heap} {locs : List Loc} (V : LWV D dA b s w H locs lo A) {cells slots : Nat} (hcc : cells ≤ 600000) (hss : slots ≤ 7000000) {i : Nat} (hi : i + 5 ≤ L) {ls : Array Slot} (hl : LWL b b0 ls (nI i))
    (K : ∀ (w1 : Wd) (H1 : Heap) (locs1 : List Loc) (A1 : Sy) (ls1 : Array Slot), LWV D dA b s w1 H1 locs1 lo A1 → LWL b b0 ls1 (nI i) → W p l e room_1 s m args below meth c H1 locs1 (cells + 7) (slots + 116) Q (F0 m 1597 ls1 [])) : W p l e room_1 s m args below meth c H locs cells slots Q (F0 m 753 ls []) := by
  obtain ⟨hl0, hx, hb, hml, hown, hts, hX, hbl, hb0, hG, hL⟩ := F9
  obtain ⟨hs, ⟨tt, hm⟩, ⟨O9, h45⟩, hW, hS⟩ := V
  obtain ⟨P, ⟨n, Hs⟩, SL, nc, C⟩ := A
  have hlo : 46 ≤ lo := hs.2.2.2.2.2.2.1
  have hP := sys_ok hs
  change okP P at hP
  have hl : lv_has ls 9 [(0, .ref b0), (1, .ref (b + 0)), (2, .ref (b + 36)), (3, .ref (b + 45)), (4, .int (nI i))] := hl
  refine lv_aload_n hx hb dL_law_753 rfl (lv_at hl 1 rfl) ?_
  refine q_W1 (va_runV (As := []) (rest := []) ⟨hx, hb, hml, hown, hts⟩ (c_X6_firstError l hs ) (cwV 0 hts lg_X6_firstError rfl rfl rfl (by decide +kernel) ⟨Nat.le_of_ble_eq_true rfl, Nat.le_of_ble_eq_true rfl⟩) (q_preV hG hW hS hs.1 rfl) rfl rfl hl.1 rfl (lv_room (Nat.le_of_ble_eq_true rfl)) dL_law_754 ⟨by show _ ≤ 601024; omega, by show _ ≤ 7293034; omega⟩) hS (fun w_754 H locs hp754 hW hS => ?_)
  obtain ⟨hs, hf5⟩ := hp754
  replace hm := hm.fr (fun id h8 h9 => hf5 id h8 (by omega))
  replace h45 := (hf5 45 (by omega) (by omega)).trans h45
  refine lv_aload_n hx hb dL_law_757 rfl (lv_at hl 2 rfl) ?_
  obtain ⟨fs758, ho36⟩ := hm.obj
  refine q_W1 (va_runV (As := []) (rest := [.int (nI (rerr nc C R0 nc))]) ⟨hx, hb, hml, hown, hts⟩ (c_X7_firstError l hm ) (cwV 0 hts lg_X7_firstError rfl rfl rfl (by decide +kernel) ⟨Nat.le_of_ble_eq_true rfl, Nat.le_of_ble_eq_true rfl⟩) (q_preV hG hW hS ho36 rfl) rfl rfl hl.1 rfl (lv_room (Nat.le_of_ble_eq_true rfl)) dL_law_758 ⟨by show _ ≤ 601024; omega, by show _ ≤ 7293034; omega⟩) hS (fun w_758 H locs hp758 hW hS => ?_)
  obtain ⟨hm, hfm⟩ := hp758
  replace hs := hs.mod hfm
  replace h45 := (hfm 45 (by omega)).trans h45
  refine lv_icmp_eq (tgt := 1597) hx hb dL_law_761 (by decide) (fun c_761 => ?_) (fun c_761 => ?_)
  · skip
    exact W.widen (by omega) (by omega) (K _ _ _ _ _ ⟨hs, ⟨_, hm⟩, ⟨_, h45⟩, hW, hS⟩ (lv_sub hl [0, 1, 2, 3, 4] rfl))
  · skip
    exact absurd rfl c_761

set_option maxHeartbeats 1000000 in
set_option maxRecDepth 100000 in
/-- case 9: read -/
theorem law_9 {p : Program} {l : Launch} {e : Env} {s : State} {m : MethodId} {args : Array Value} {below : List Frame} {meth : Method} {c : Code} {Q : State → Prop} {b0 L : Nat} {xs : Nat → Int32} {D : va_G} {dA : Nat → Nat} {b : Nat} (F9 : LWF p l s m args c b0 L xs D dA b) {w : Wd} {lo : Nat} {A : Sy} {H : Heap} {locs : List Loc} (V : LWV D dA b s w H locs lo A) {cells slots : Nat} (hcc : cells ≤ 600000) (hss : slots ≤ 7000000) {i : Nat} (hi : i + 5 ≤ L) {ls : Array Slot} (hl : LWL b b0 ls (nI i))
    (K : ∀ (w1 : Wd) (H1 : Heap) (locs1 : List Loc) (A1 : Sy) (ls1 : Array Slot), LWV D dA b s w1 H1 locs1 lo A1 → LWL b b0 ls1 (nI i) → W p l e room_1 s m args below meth c H1 locs1 (cells + 7) (slots + 116) Q (F0 m 1597 ls1 [])) : W p l e room_1 s m args below meth c H locs cells slots Q (F0 m 766 ls []) := by
  obtain ⟨hl0, hx, hb, hml, hown, hts, hX, hbl, hb0, hG, hL⟩ := F9
  obtain ⟨hs, ⟨tt, hm⟩, ⟨O9, h45⟩, hW, hS⟩ := V
  obtain ⟨P, ⟨n, Hs⟩, SL, nc, C⟩ := A
  have hlo : 46 ≤ lo := hs.2.2.2.2.2.2.1
  have hP := sys_ok hs
  change okP P at hP
  have hl : lv_has ls 9 [(0, .ref b0), (1, .ref (b + 0)), (2, .ref (b + 36)), (3, .ref (b + 45)), (4, .int (nI i))] := hl
  refine lv_aload_n hx hb dL_law_766 rfl (lv_at hl 1 rfl) ?_
  refine lv_aload_n hx hb dL_law_767 rfl (lv_at hl 3 rfl) ?_
  refine q_XE1 (vx_runSX (As := [.ref (b + 0), .ref (b + 45)]) (rest := []) ⟨hx, hb, hml, hown, hts⟩ (c_L_read l hl0 hs h45 ) (vx_cwSW 2 hts lg_L_read rfl rfl rfl (by decide +kernel) ⟨Nat.le_of_ble_eq_true rfl, Nat.le_of_ble_eq_true rfl⟩) (q_preS hG hW hS) rfl rfl hl.1 rfl (lv_room (Nat.le_of_ble_eq_true rfl)) dL_law_768 ⟨by show _ ≤ 601024; omega, by show _ ≤ 7293034; omega⟩) hS (fun r768 w_768 H locs hp768 hW hS => ?_)
  obtain ⟨hor, hf5⟩ := hp768
  replace hm := hm.fr hf5
  clear hs h45
  rcases hor with ⟨hr9, hc, hs, h45⟩ | ⟨hr9, hc, hs, h45⟩
  · skip
    subst hr9
    refine lv_istore (lv' := [(5, .int (nI 0)), (0, .ref (b0)), (1, .ref (b + 0)), (2, .ref (b + 36)), (3, .ref (b + 45)), (4, .int (nI i))]) hx hb dL_law_771 hl (by decide) rfl (fun ls hl => ?_)
    refine lv_aload_n hx hb dL_law_773 rfl (lv_at hl 3 rfl) ?_
    obtain ⟨fs774, ho36⟩ := hm.obj
    refine q_E1 (va_runV (As := []) (rest := []) ⟨hx, hb, hml, hown, hts⟩ (c_X7_read l hm ) (cwV 0 hts lg_X7_read rfl rfl rfl (by decide +kernel) ⟨Nat.le_of_ble_eq_true rfl, Nat.le_of_ble_eq_true rfl⟩) (q_preV hG hW hS ho36 rfl) rfl rfl hl.1 rfl (lv_room (Nat.le_of_ble_eq_true rfl)) dL_law_774 ⟨by show _ ≤ 601024; omega, by show _ ≤ 7293034; omega⟩) hS (fun r774 w_774 H locs hp774 hW hS => ?_)
    obtain ⟨hd, hfm⟩ := hp774
    replace hs := hs.mod hfm
    replace h45 := (hfm 45 (by omega)).trans h45
    clear hm
    rcases hd with ⟨hc2, hr2, hm⟩ | ⟨hc2, hm⟩
    · skip
      subst hr2
      refine lv_istore (lv' := [(6, .int (nI (rgo nc C R0 (nc + 1) P 0).2)), (5, .int (nI 0)), (0, .ref (b0)), (1, .ref (b + 0)), (2, .ref (b + 36)), (3, .ref (b + 45)), (4, .int (nI i))]) hx hb dL_law_777 hl (by decide) rfl (fun ls hl => ?_)
      refine lv_aload_n hx hb dL_law_779 rfl (lv_at hl 4 rfl) ?_
      obtain ⟨fs780, ho36⟩ := hm.obj
      refine q_R1 (va_runV (As := []) (rest := []) ⟨hx, hb, hml, hown, hts⟩ (c_thr l hm) (cwV 0 hts lg_X7_thrown rfl rfl rfl (by decide +kernel) ⟨Nat.le_of_ble_eq_true rfl, Nat.le_of_ble_eq_true rfl⟩) (q_preV hG hW hS ho36 rfl) rfl rfl hl.1 rfl (lv_room (Nat.le_of_ble_eq_true rfl)) dL_law_780 ⟨by show _ ≤ 601024; omega, by show _ ≤ 7293034; omega⟩) ?_
      refine lv_iload hx hb dL_law_783 (lv_at hl 1 rfl) ?_
      refine lv_icmp_eq (tgt := 790) hx hb dL_law_785 (by decide) (fun c_785 => ?_) (fun c_785 => ?_)
      · skip
        have c_785 : 0 = 0 := (nI_eq (a := 0) (b := 0) (by omega) (by omega)).mp c_785
        refine lv_iload hx hb dL_law_790 (lv_at hl 1 rfl) ?_
        refine lv_if_ne (tgt := 807) hx hb dL_law_792 (by decide) (fun c_792 => ?_) (fun c_792 => ?_)
        · skip
          have c_792 : ¬ (0 = 0) := fun h__ => c_792 ((nI_eq0 (i := 0) (by omega)).mpr h__)
          exact absurd c_792 (by omega)
        · skip
          have c_792 : 0 = 0 := (nI_eq0 (i := 0) (by omega)).mp c_792
          refine lv_aload_n hx hb dL_law_795 rfl (lv_at hl 5 rfl) ?_
          refine lv_iconst (v := nI 0) hx hb dL_law_796 (by decide) ?_
          refine q_lald hx hb hG hW h45 (by decide) (by decide) dL_law_797 ?_
          refine q_topv (v' := .long ((nI (rgo nc C R0 (nc + 1) P 0).2).toInt64)) (by rw [va_up_self]) ?_
          refine lv_iload hx hb dL_law_798 (lv_at hl 0 rfl) ?_
          refine lv_i2l hx hb dL_law_800 rfl ?_
          refine W.lcmp hx hb dL_law_801 ?_
          refine q_topv (v' := .int (nI 0)) (congrArg Value.int (lg_cmp_self _)) ?_
          refine lv_if_eq (tgt := 807) hx hb dL_law_802 (by decide) (fun c_802 => ?_) (fun c_802 => ?_)
          · skip
            have c_802 : 0 = 0 := (nI_eq0 (i := 0) (by omega)).mp c_802
            refine lv_goto (tgt := 1597) hx hb dL_law_807 (by decide) ?_
            exact W.widen (by omega) (by omega) (K _ _ _ _ _ ⟨hs, ⟨_, hm⟩, ⟨_, h45⟩, hW, hS⟩ (lv_sub hl [2, 3, 4, 5, 6] rfl))
          · skip
            have c_802 : ¬ (0 = 0) := fun h__ => c_802 ((nI_eq0 (i := 0) (by omega)).mpr h__)
            exact absurd c_802 (by omega)
      · skip
        have c_785 : ¬ (0 = 0) := fun h__ => c_785 ((nI_eq (a := 0) (b := 0) (by omega) (by omega)).mpr h__)
        exact absurd c_785 (by omega)
    · skip
      first | exact absurd hc hc2 | exact absurd hc2 hc | exact absurd hc.1 hc2 | exact absurd hc2.1 hc | exact absurd hc.2 hc2.2 | exact absurd hc2.2 hc.2 | (exact absurd hc.2 (by omega)) | (exact absurd hc (by omega)) | (exact absurd hc2.2 (by omega))
  · skip
    subst hr9
    refine lv_istore (lv' := [(5, .int (nI 1)), (0, .ref (b0)), (1, .ref (b + 0)), (2, .ref (b + 36)), (3, .ref (b + 45)), (4, .int (nI i))]) hx hb dL_law_771 hl (by decide) rfl (fun ls hl => ?_)
    refine lv_aload_n hx hb dL_law_773 rfl (lv_at hl 3 rfl) ?_
    obtain ⟨fs774, ho36⟩ := hm.obj
    refine q_E1 (va_runV (As := []) (rest := []) ⟨hx, hb, hml, hown, hts⟩ (c_X7_read l hm ) (cwV 0 hts lg_X7_read rfl rfl rfl (by decide +kernel) ⟨Nat.le_of_ble_eq_true rfl, Nat.le_of_ble_eq_true rfl⟩) (q_preV hG hW hS ho36 rfl) rfl rfl hl.1 rfl (lv_room (Nat.le_of_ble_eq_true rfl)) dL_law_774 ⟨by show _ ≤ 601024; omega, by show _ ≤ 7293034; omega⟩) hS (fun r774 w_774 H locs hp774 hW hS => ?_)
    obtain ⟨hd, hfm⟩ := hp774
    replace hs := hs.mod hfm
    replace h45 := (hfm 45 (by omega)).trans h45
    clear hm
    rcases hd with ⟨hc2, hr2, hm⟩ | ⟨hc2, hm⟩
    · skip
      first | exact absurd hc hc2 | exact absurd hc2 hc | exact absurd hc.1 hc2 | exact absurd hc2.1 hc | exact absurd hc.2 hc2.2 | exact absurd hc2.2 hc.2 | (exact absurd hc.2 (by omega)) | (exact absurd hc (by omega)) | (exact absurd hc2.2 (by omega))
    · skip
      refine lv_istore (lv' := [(6, .int (nI r774)), (5, .int (nI 1)), (0, .ref (b0)), (1, .ref (b + 0)), (2, .ref (b + 36)), (3, .ref (b + 45)), (4, .int (nI i))]) hx hb dL_law_777 hl (by decide) rfl (fun ls hl => ?_)
      refine lv_aload_n hx hb dL_law_779 rfl (lv_at hl 4 rfl) ?_
      obtain ⟨fs780, ho36⟩ := hm.obj
      refine q_R1 (va_runV (As := []) (rest := []) ⟨hx, hb, hml, hown, hts⟩ (c_thr l hm) (cwV 0 hts lg_X7_thrown rfl rfl rfl (by decide +kernel) ⟨Nat.le_of_ble_eq_true rfl, Nat.le_of_ble_eq_true rfl⟩) (q_preV hG hW hS ho36 rfl) rfl rfl hl.1 rfl (lv_room (Nat.le_of_ble_eq_true rfl)) dL_law_780 ⟨by show _ ≤ 601024; omega, by show _ ≤ 7293034; omega⟩) ?_
      refine lv_iload hx hb dL_law_783 (lv_at hl 1 rfl) ?_
      refine lv_icmp_eq (tgt := 790) hx hb dL_law_785 (by decide) (fun c_785 => ?_) (fun c_785 => ?_)
      · skip
        have c_785 : 1 = 1 := (nI_eq (a := 1) (b := 1) (by omega) (by omega)).mp c_785
        refine lv_iload hx hb dL_law_790 (lv_at hl 1 rfl) ?_
        refine lv_if_ne (tgt := 807) hx hb dL_law_792 (by decide) (fun c_792 => ?_) (fun c_792 => ?_)
        · skip
          have c_792 : ¬ (1 = 0) := fun h__ => c_792 ((nI_eq0 (i := 1) (by omega)).mpr h__)
          refine lv_goto (tgt := 1597) hx hb dL_law_807 (by decide) ?_
          exact W.widen (by omega) (by omega) (K _ _ _ _ _ ⟨hs, ⟨_, hm⟩, ⟨_, h45⟩, hW, hS⟩ (lv_sub hl [2, 3, 4, 5, 6] rfl))
        · skip
          have c_792 : 1 = 0 := (nI_eq0 (i := 1) (by omega)).mp c_792
          exact absurd c_792 (by omega)
      · skip
        have c_785 : ¬ (1 = 1) := fun h__ => c_785 ((nI_eq (a := 1) (b := 1) (by omega) (by omega)).mpr h__)
        exact absurd c_785 (by omega)

set_option maxHeartbeats 1000000 in
set_option maxRecDepth 100000 in
/-- case 10: write -/
theorem law_10 {p : Program} {l : Launch} {e : Env} {s : State} {m : MethodId} {args : Array Value} {below : List Frame} {meth : Method} {c : Code} {Q : State → Prop} {b0 L : Nat} {xs : Nat → Int32} {D : va_G} {dA : Nat → Nat} {b : Nat} (F9 : LWF p l s m args c b0 L xs D dA b) {w : Wd} {lo : Nat} {A : Sy} {H : Heap} {locs : List Loc} (V : LWV D dA b s w H locs lo A) {cells slots : Nat} (hcc : cells ≤ 600000) (hss : slots ≤ 7000000) {i : Nat} (hi : i + 5 ≤ L) {ls : Array Slot} (hl : LWL b b0 ls (nI i))
    (K : ∀ (w1 : Wd) (H1 : Heap) (locs1 : List Loc) (A1 : Sy) (ls1 : Array Slot), LWV D dA b s w1 H1 locs1 lo A1 → LWL b b0 ls1 (nI i) → W p l e room_1 s m args below meth c H1 locs1 (cells + 7) (slots + 116) Q (F0 m 1597 ls1 [])) : W p l e room_1 s m args below meth c H locs cells slots Q (F0 m 810 ls []) := by
  obtain ⟨hl0, hx, hb, hml, hown, hts, hX, hbl, hb0, hG, hL⟩ := F9
  obtain ⟨hs, ⟨tt, hm⟩, ⟨O9, h45⟩, hW, hS⟩ := V
  obtain ⟨P, ⟨n, Hs⟩, SL, nc, C⟩ := A
  have hlo : 46 ≤ lo := hs.2.2.2.2.2.2.1
  have hP := sys_ok hs
  change okP P at hP
  have hl : lv_has ls 9 [(0, .ref b0), (1, .ref (b + 0)), (2, .ref (b + 36)), (3, .ref (b + 45)), (4, .int (nI i))] := hl
  refine lv_aload_n hx hb dL_law_810 rfl (lv_at hl 1 rfl) ?_
  refine q_W1 (va_runV (As := []) (rest := []) ⟨hx, hb, hml, hown, hts⟩ (c_X6_write l hs ) (cwV 0 hts lg_X6_write rfl rfl rfl (by decide +kernel) ⟨Nat.le_of_ble_eq_true rfl, Nat.le_of_ble_eq_true rfl⟩) (q_preV hG hW hS hs.1 rfl) rfl rfl hl.1 rfl (lv_room (Nat.le_of_ble_eq_true rfl)) dL_law_811 ⟨by show _ ≤ 601024; omega, by show _ ≤ 7293034; omega⟩) hS (fun w_811 H locs hp811 hW hS => ?_)
  obtain ⟨hs, hf5⟩ := hp811
  replace hm := hm.fr (fun id h8 h9 => hf5 id h8 (by omega))
  replace h45 := (hf5 45 (by omega) (by omega)).trans h45
  refine lv_aload_n hx hb dL_law_814 rfl (lv_at hl 2 rfl) ?_
  obtain ⟨fs815, ho36⟩ := hm.obj
  refine q_W1 (va_runV (As := []) (rest := [.int (nI (wrt P C).2)]) ⟨hx, hb, hml, hown, hts⟩ (c_X7_write l hm ) (cwV 0 hts lg_X7_write rfl rfl rfl (by decide +kernel) ⟨Nat.le_of_ble_eq_true rfl, Nat.le_of_ble_eq_true rfl⟩) (q_preV hG hW hS ho36 rfl) rfl rfl hl.1 rfl (lv_room (Nat.le_of_ble_eq_true rfl)) dL_law_815 ⟨by show _ ≤ 601024; omega, by show _ ≤ 7293034; omega⟩) hS (fun w_815 H locs hp815 hW hS => ?_)
  obtain ⟨hm, hfm⟩ := hp815
  replace hs := hs.mod hfm
  replace h45 := (hfm 45 (by omega)).trans h45
  refine lv_icmp_eq (tgt := 1597) hx hb dL_law_818 (by decide) (fun c_818 => ?_) (fun c_818 => ?_)
  · skip
    exact W.widen (by omega) (by omega) (K _ _ _ _ _ ⟨hs, ⟨_, hm⟩, ⟨_, h45⟩, hW, hS⟩ (lv_sub hl [0, 1, 2, 3, 4] rfl))
  · skip
    exact absurd rfl c_818

set_option maxHeartbeats 1000000 in
set_option maxRecDepth 100000 in
/-- case 11: charAt -/
theorem law_11 {p : Program} {l : Launch} {e : Env} {s : State} {m : MethodId} {args : Array Value} {below : List Frame} {meth : Method} {c : Code} {Q : State → Prop} {b0 L : Nat} {xs : Nat → Int32} {D : va_G} {dA : Nat → Nat} {b : Nat} (F9 : LWF p l s m args c b0 L xs D dA b) {w : Wd} {lo : Nat} {A : Sy} {H : Heap} {locs : List Loc} (V : LWV D dA b s w H locs lo A) {cells slots : Nat} (hcc : cells ≤ 600000) (hss : slots ≤ 7000000) {i : Nat} (hi : i + 5 ≤ L) {ls : Array Slot} (hl : LWL b b0 ls (nI i))
    (K : ∀ (w1 : Wd) (H1 : Heap) (locs1 : List Loc) (A1 : Sy) (ls1 : Array Slot), LWV D dA b s w1 H1 locs1 lo A1 → LWL b b0 ls1 (nI i) → W p l e room_1 s m args below meth c H1 locs1 (cells + 7) (slots + 116) Q (F0 m 1597 ls1 [])) : W p l e room_1 s m args below meth c H locs cells slots Q (F0 m 823 ls []) := by
  obtain ⟨hl0, hx, hb, hml, hown, hts, hX, hbl, hb0, hG, hL⟩ := F9
  obtain ⟨hs, ⟨tt, hm⟩, ⟨O9, h45⟩, hW, hS⟩ := V
  obtain ⟨P, ⟨n, Hs⟩, SL, nc, C⟩ := A
  have hlo : 46 ≤ lo := hs.2.2.2.2.2.2.1
  have hP := sys_ok hs
  change okP P at hP
  have hl : lv_has ls 9 [(0, .ref b0), (1, .ref (b + 0)), (2, .ref (b + 36)), (3, .ref (b + 45)), (4, .int (nI i))] := hl
  obtain ⟨x, hx9⟩ : ∃ q : Int32, xs (i + 1) = q := ⟨_, rfl⟩
  refine lv_aload_n hx hb dL_law_823 rfl (lv_at hl 1 rfl) ?_
  refine lv_aload_n hx hb dL_law_824 rfl (lv_at hl 0 rfl) ?_
  refine lv_iload hx hb dL_law_825 (lv_at hl 4 rfl) ?_
  refine lv_iconst (v := nI 1) hx hb dL_law_827 (by decide) ?_
  refine lv_iadd hx hb dL_law_828 ?_
  refine q_top (y := nI (i + 1)) (nI_add _ _) ?_
  refine q_sld hx hb hX hbl hb0 hS hx9 (by omega) hL dL_law_829 ?_
  refine lv_aload_n hx hb dL_law_830 rfl (lv_at hl 3 rfl) ?_
  refine q_XE1 (vx_runSX (As := [.ref (b + 0), .int (x), .ref (b + 45)]) (rest := []) ⟨hx, hb, hml, hown, hts⟩ (c_L_charAt l hl0 hs h45 (x)) (vx_cwSW 3 hts lg_L_charAt rfl rfl rfl (by decide +kernel) ⟨Nat.le_of_ble_eq_true rfl, Nat.le_of_ble_eq_true rfl⟩) (q_preS hG hW hS) rfl rfl hl.1 rfl (lv_room (Nat.le_of_ble_eq_true rfl)) dL_law_831 ⟨by show _ ≤ 601024; omega, by show _ ≤ 7293034; omega⟩) hS (fun r831 w_831 H locs hp831 hW hS => ?_)
  obtain ⟨hor, hf5⟩ := hp831
  replace hm := hm.fr hf5
  clear hs h45
  rcases hor with ⟨hr9, hc, hs, h45⟩ | ⟨hr9, hc, hs, h45⟩
  · skip
    subst hr9
    refine lv_istore (lv' := [(5, .int (nI 0)), (0, .ref (b0)), (1, .ref (b + 0)), (2, .ref (b + 36)), (3, .ref (b + 45)), (4, .int (nI i))]) hx hb dL_law_834 hl (by decide) rfl (fun ls hl => ?_)
    refine lv_aload_n hx hb dL_law_836 rfl (lv_at hl 3 rfl) ?_
    refine lv_aload_n hx hb dL_law_837 rfl (lv_at hl 1 rfl) ?_
    refine lv_iload hx hb dL_law_838 (lv_at hl 5 rfl) ?_
    refine lv_iconst (v := nI 1) hx hb dL_law_840 (by decide) ?_
    refine lv_iadd hx hb dL_law_841 ?_
    refine q_top (y := nI (i + 1)) (nI_add _ _) ?_
    refine q_sld hx hb hX hbl hb0 hS hx9 (by omega) hL dL_law_842 ?_
    obtain ⟨fs843, ho36⟩ := hm.obj
    refine q_W1 (va_runV (As := [.int (x)]) (rest := []) ⟨hx, hb, hml, hown, hts⟩ (c_X7_charAt l hm (x)) (cwV 1 hts lg_X7_charAt rfl rfl rfl (by decide +kernel) ⟨Nat.le_of_ble_eq_true rfl, Nat.le_of_ble_eq_true rfl⟩) (q_preV hG hW hS ho36 rfl) rfl rfl hl.1 rfl (lv_room (Nat.le_of_ble_eq_true rfl)) dL_law_843 ⟨by show _ ≤ 601024; omega, by show _ ≤ 7293034; omega⟩) hS (fun w_843 H locs hp843 hW hS => ?_)
    obtain ⟨hd, hfm⟩ := hp843
    replace hs := hs.mod hfm
    replace h45 := (hfm 45 (by omega)).trans h45
    clear hm
    rcases hd with ⟨hc2, hm⟩ | ⟨hc2, hm⟩
    · skip
      refine q_topv (v' := .int (oI (cAt nc C (i32n x)))) (congrArg Value.int (if_pos hc2)) ?_
      refine lv_istore (lv' := [(6, .int (oI (cAt nc C (i32n x)))), (5, .int (nI 0)), (0, .ref (b0)), (1, .ref (b + 0)), (2, .ref (b + 36)), (3, .ref (b + 45)), (4, .int (nI i))]) hx hb dL_law_846 hl (by decide) rfl (fun ls hl => ?_)
      refine lv_aload_n hx hb dL_law_848 rfl (lv_at hl 4 rfl) ?_
      obtain ⟨fs849, ho36⟩ := hm.obj
      refine q_R1 (va_runV (As := []) (rest := []) ⟨hx, hb, hml, hown, hts⟩ (c_thr l hm) (cwV 0 hts lg_X7_thrown rfl rfl rfl (by decide +kernel) ⟨Nat.le_of_ble_eq_true rfl, Nat.le_of_ble_eq_true rfl⟩) (q_preV hG hW hS ho36 rfl) rfl rfl hl.1 rfl (lv_room (Nat.le_of_ble_eq_true rfl)) dL_law_849 ⟨by show _ ≤ 601024; omega, by show _ ≤ 7293034; omega⟩) ?_
      refine lv_iload hx hb dL_law_852 (lv_at hl 1 rfl) ?_
      refine lv_icmp_eq (tgt := 859) hx hb dL_law_854 (by decide) (fun c_854 => ?_) (fun c_854 => ?_)
      · skip
        have c_854 : 0 = 0 := (nI_eq (a := 0) (b := 0) (by omega) (by omega)).mp c_854
        refine lv_iload hx hb dL_law_859 (lv_at hl 1 rfl) ?_
        refine lv_if_ne (tgt := 876) hx hb dL_law_861 (by decide) (fun c_861 => ?_) (fun c_861 => ?_)
        · skip
          have c_861 : ¬ (0 = 0) := fun h__ => c_861 ((nI_eq0 (i := 0) (by omega)).mpr h__)
          exact absurd c_861 (by omega)
        · skip
          have c_861 : 0 = 0 := (nI_eq0 (i := 0) (by omega)).mp c_861
          refine lv_aload_n hx hb dL_law_864 rfl (lv_at hl 5 rfl) ?_
          refine lv_iconst (v := nI 0) hx hb dL_law_865 (by decide) ?_
          refine q_lald hx hb hG hW h45 (by decide) (by decide) dL_law_866 ?_
          refine q_topv (v' := .long ((oI (cAt nc C (i32n x))).toInt64)) (by rw [va_up_self]) ?_
          refine lv_iload hx hb dL_law_867 (lv_at hl 0 rfl) ?_
          refine lv_i2l hx hb dL_law_869 rfl ?_
          refine W.lcmp hx hb dL_law_870 ?_
          refine q_topv (v' := .int (nI 0)) (congrArg Value.int (lg_cmp_self _)) ?_
          refine lv_if_eq (tgt := 876) hx hb dL_law_871 (by decide) (fun c_871 => ?_) (fun c_871 => ?_)
          · skip
            have c_871 : 0 = 0 := (nI_eq0 (i := 0) (by omega)).mp c_871
            refine lv_goto (tgt := 1597) hx hb dL_law_876 (by decide) ?_
            exact W.widen (by omega) (by omega) (K _ _ _ _ _ ⟨hs, ⟨_, hm⟩, ⟨_, h45⟩, hW, hS⟩ (lv_sub hl [2, 3, 4, 5, 6] rfl))
          · skip
            have c_871 : ¬ (0 = 0) := fun h__ => c_871 ((nI_eq0 (i := 0) (by omega)).mpr h__)
            exact absurd c_871 (by omega)
      · skip
        have c_854 : ¬ (0 = 0) := fun h__ => c_854 ((nI_eq (a := 0) (b := 0) (by omega) (by omega)).mpr h__)
        exact absurd c_854 (by omega)
    · skip
      first | exact absurd hc hc2 | exact absurd hc2 hc | exact absurd hc.1 hc2 | exact absurd hc2.1 hc | exact absurd hc.2 hc2.2 | exact absurd hc2.2 hc.2 | (exact absurd hc.2 (by omega)) | (exact absurd hc (by omega)) | (exact absurd hc2.2 (by omega))
  · skip
    subst hr9
    refine lv_istore (lv' := [(5, .int (nI 1)), (0, .ref (b0)), (1, .ref (b + 0)), (2, .ref (b + 36)), (3, .ref (b + 45)), (4, .int (nI i))]) hx hb dL_law_834 hl (by decide) rfl (fun ls hl => ?_)
    refine lv_aload_n hx hb dL_law_836 rfl (lv_at hl 3 rfl) ?_
    refine lv_aload_n hx hb dL_law_837 rfl (lv_at hl 1 rfl) ?_
    refine lv_iload hx hb dL_law_838 (lv_at hl 5 rfl) ?_
    refine lv_iconst (v := nI 1) hx hb dL_law_840 (by decide) ?_
    refine lv_iadd hx hb dL_law_841 ?_
    refine q_top (y := nI (i + 1)) (nI_add _ _) ?_
    refine q_sld hx hb hX hbl hb0 hS hx9 (by omega) hL dL_law_842 ?_
    obtain ⟨fs843, ho36⟩ := hm.obj
    refine q_W1 (va_runV (As := [.int (x)]) (rest := []) ⟨hx, hb, hml, hown, hts⟩ (c_X7_charAt l hm (x)) (cwV 1 hts lg_X7_charAt rfl rfl rfl (by decide +kernel) ⟨Nat.le_of_ble_eq_true rfl, Nat.le_of_ble_eq_true rfl⟩) (q_preV hG hW hS ho36 rfl) rfl rfl hl.1 rfl (lv_room (Nat.le_of_ble_eq_true rfl)) dL_law_843 ⟨by show _ ≤ 601024; omega, by show _ ≤ 7293034; omega⟩) hS (fun w_843 H locs hp843 hW hS => ?_)
    obtain ⟨hd, hfm⟩ := hp843
    replace hs := hs.mod hfm
    replace h45 := (hfm 45 (by omega)).trans h45
    clear hm
    rcases hd with ⟨hc2, hm⟩ | ⟨hc2, hm⟩
    · skip
      first | exact absurd hc hc2 | exact absurd hc2 hc | exact absurd hc.1 hc2 | exact absurd hc2.1 hc | exact absurd hc.2 hc2.2 | exact absurd hc2.2 hc.2 | (exact absurd hc.2 (by omega)) | (exact absurd hc (by omega)) | (exact absurd hc2.2 (by omega))
    · skip
      refine q_topv (v' := .int (nI 0)) (congrArg Value.int (if_neg (fun q9 => by first | exact hc2 q9 | exact hc2 q9.1 | exact absurd q9.2 (by omega) | exact hc2.2 q9.2 | exact q9.2 hc2.2 | omega))) ?_
      refine lv_istore (lv' := [(6, .int (nI 0)), (5, .int (nI 1)), (0, .ref (b0)), (1, .ref (b + 0)), (2, .ref (b + 36)), (3, .ref (b + 45)), (4, .int (nI i))]) hx hb dL_law_846 hl (by decide) rfl (fun ls hl => ?_)
      refine lv_aload_n hx hb dL_law_848 rfl (lv_at hl 4 rfl) ?_
      obtain ⟨fs849, ho36⟩ := hm.obj
      refine q_R1 (va_runV (As := []) (rest := []) ⟨hx, hb, hml, hown, hts⟩ (c_thr l hm) (cwV 0 hts lg_X7_thrown rfl rfl rfl (by decide +kernel) ⟨Nat.le_of_ble_eq_true rfl, Nat.le_of_ble_eq_true rfl⟩) (q_preV hG hW hS ho36 rfl) rfl rfl hl.1 rfl (lv_room (Nat.le_of_ble_eq_true rfl)) dL_law_849 ⟨by show _ ≤ 601024; omega, by show _ ≤ 7293034; omega⟩) ?_
      refine lv_iload hx hb dL_law_852 (lv_at hl 1 rfl) ?_
      refine lv_icmp_eq (tgt := 859) hx hb dL_law_854 (by decide) (fun c_854 => ?_) (fun c_854 => ?_)
      · skip
        have c_854 : 1 = 1 := (nI_eq (a := 1) (b := 1) (by omega) (by omega)).mp c_854
        refine lv_iload hx hb dL_law_859 (lv_at hl 1 rfl) ?_
        refine lv_if_ne (tgt := 876) hx hb dL_law_861 (by decide) (fun c_861 => ?_) (fun c_861 => ?_)
        · skip
          have c_861 : ¬ (1 = 0) := fun h__ => c_861 ((nI_eq0 (i := 1) (by omega)).mpr h__)
          refine lv_goto (tgt := 1597) hx hb dL_law_876 (by decide) ?_
          exact W.widen (by omega) (by omega) (K _ _ _ _ _ ⟨hs, ⟨_, hm⟩, ⟨_, h45⟩, hW, hS⟩ (lv_sub hl [2, 3, 4, 5, 6] rfl))
        · skip
          have c_861 : 1 = 0 := (nI_eq0 (i := 1) (by omega)).mp c_861
          exact absurd c_861 (by omega)
      · skip
        have c_854 : ¬ (1 = 1) := fun h__ => c_854 ((nI_eq (a := 1) (b := 1) (by omega) (by omega)).mpr h__)
        exact absurd c_854 (by omega)

set_option maxHeartbeats 1000000 in
set_option maxRecDepth 100000 in
/-- case 12: undo -/
theorem law_12 {p : Program} {l : Launch} {e : Env} {s : State} {m : MethodId} {args : Array Value} {below : List Frame} {meth : Method} {c : Code} {Q : State → Prop} {b0 L : Nat} {xs : Nat → Int32} {D : va_G} {dA : Nat → Nat} {b : Nat} (F9 : LWF p l s m args c b0 L xs D dA b) {w : Wd} {lo : Nat} {A : Sy} {H : Heap} {locs : List Loc} (V : LWV D dA b s w H locs lo A) {cells slots : Nat} (hcc : cells ≤ 600000) (hss : slots ≤ 7000000) {i : Nat} (hi : i + 5 ≤ L) {ls : Array Slot} (hl : LWL b b0 ls (nI i))
    (K : ∀ (w1 : Wd) (H1 : Heap) (locs1 : List Loc) (A1 : Sy) (ls1 : Array Slot), LWV D dA b s w1 H1 locs1 lo A1 → LWL b b0 ls1 (nI i) → W p l e room_1 s m args below meth c H1 locs1 (cells + 7) (slots + 116) Q (F0 m 1597 ls1 [])) : W p l e room_1 s m args below meth c H locs cells slots Q (F0 m 879 ls []) := by
  obtain ⟨hl0, hx, hb, hml, hown, hts, hX, hbl, hb0, hG, hL⟩ := F9
  obtain ⟨hs, ⟨tt, hm⟩, ⟨O9, h45⟩, hW, hS⟩ := V
  obtain ⟨P, ⟨n, Hs⟩, SL, nc, C⟩ := A
  have hlo : 46 ≤ lo := hs.2.2.2.2.2.2.1
  have hP := sys_ok hs
  change okP P at hP
  have hl : lv_has ls 9 [(0, .ref b0), (1, .ref (b + 0)), (2, .ref (b + 36)), (3, .ref (b + 45)), (4, .int (nI i))] := hl
  refine lv_aload_n hx hb dL_law_879 rfl (lv_at hl 1 rfl) ?_
  refine lv_aload_n hx hb dL_law_880 rfl (lv_at hl 3 rfl) ?_
  refine q_XE1 (vx_runSX (As := [.ref (b + 0), .ref (b + 45)]) (rest := []) ⟨hx, hb, hml, hown, hts⟩ (c_L_undo l hl0 hs h45 ) (vx_cwSW 2 hts lg_L_undo rfl rfl rfl (by decide +kernel) ⟨Nat.le_of_ble_eq_true rfl, Nat.le_of_ble_eq_true rfl⟩) (q_preS hG hW hS) rfl rfl hl.1 rfl (lv_room (Nat.le_of_ble_eq_true rfl)) dL_law_881 ⟨by show _ ≤ 601024; omega, by show _ ≤ 7293034; omega⟩) hS (fun r881 w_881 H locs hp881 hW hS => ?_)
  obtain ⟨hor, hf5⟩ := hp881
  replace hm := hm.fr hf5
  clear hs h45
  rcases hor with ⟨hr9, hc, hs, h45⟩ | ⟨hr9, hc, hs, h45⟩
  · skip
    subst hr9
    refine lv_istore (lv' := [(5, .int (nI 0)), (0, .ref (b0)), (1, .ref (b + 0)), (2, .ref (b + 36)), (3, .ref (b + 45)), (4, .int (nI i))]) hx hb dL_law_884 hl (by decide) rfl (fun ls hl => ?_)
    refine lv_aload_n hx hb dL_law_886 rfl (lv_at hl 3 rfl) ?_
    obtain ⟨fs887, ho36⟩ := hm.obj
    refine q_W1 (va_runV (As := []) (rest := []) ⟨hx, hb, hml, hown, hts⟩ (c_X7_undo l hm ) (cwV 0 hts lg_X7_undo rfl rfl rfl (by decide +kernel) ⟨Nat.le_of_ble_eq_true rfl, Nat.le_of_ble_eq_true rfl⟩) (q_preV hG hW hS ho36 rfl) rfl rfl hl.1 rfl (lv_room (Nat.le_of_ble_eq_true rfl)) dL_law_887 ⟨by show _ ≤ 601024; omega, by show _ ≤ 7293034; omega⟩) hS (fun w_887 H locs hp887 hW hS => ?_)
    obtain ⟨hd, hfm⟩ := hp887
    replace hs := hs.mod hfm
    replace h45 := (hfm 45 (by omega)).trans h45
    clear hm
    rcases hd with ⟨hc2, hm⟩ | ⟨hc2, hm⟩
    · skip
      refine q_topv (v' := .int (nI (n - 1))) (congrArg Value.int (if_pos hc2)) ?_
      refine lv_istore (lv' := [(6, .int (nI (n - 1))), (5, .int (nI 0)), (0, .ref (b0)), (1, .ref (b + 0)), (2, .ref (b + 36)), (3, .ref (b + 45)), (4, .int (nI i))]) hx hb dL_law_890 hl (by decide) rfl (fun ls hl => ?_)
      refine lv_aload_n hx hb dL_law_892 rfl (lv_at hl 4 rfl) ?_
      obtain ⟨fs893, ho36⟩ := hm.obj
      refine q_R1 (va_runV (As := []) (rest := []) ⟨hx, hb, hml, hown, hts⟩ (c_thr l hm) (cwV 0 hts lg_X7_thrown rfl rfl rfl (by decide +kernel) ⟨Nat.le_of_ble_eq_true rfl, Nat.le_of_ble_eq_true rfl⟩) (q_preV hG hW hS ho36 rfl) rfl rfl hl.1 rfl (lv_room (Nat.le_of_ble_eq_true rfl)) dL_law_893 ⟨by show _ ≤ 601024; omega, by show _ ≤ 7293034; omega⟩) ?_
      refine lv_iload hx hb dL_law_896 (lv_at hl 1 rfl) ?_
      refine lv_icmp_eq (tgt := 903) hx hb dL_law_898 (by decide) (fun c_898 => ?_) (fun c_898 => ?_)
      · skip
        have c_898 : 0 = 0 := (nI_eq (a := 0) (b := 0) (by omega) (by omega)).mp c_898
        refine lv_iload hx hb dL_law_903 (lv_at hl 1 rfl) ?_
        refine lv_if_ne (tgt := 920) hx hb dL_law_905 (by decide) (fun c_905 => ?_) (fun c_905 => ?_)
        · skip
          have c_905 : ¬ (0 = 0) := fun h__ => c_905 ((nI_eq0 (i := 0) (by omega)).mpr h__)
          exact absurd c_905 (by omega)
        · skip
          have c_905 : 0 = 0 := (nI_eq0 (i := 0) (by omega)).mp c_905
          refine lv_aload_n hx hb dL_law_908 rfl (lv_at hl 5 rfl) ?_
          refine lv_iconst (v := nI 0) hx hb dL_law_909 (by decide) ?_
          refine q_lald hx hb hG hW h45 (by decide) (by decide) dL_law_910 ?_
          refine q_topv (v' := .long ((nI (n - 1)).toInt64)) (by rw [va_up_self]) ?_
          refine lv_iload hx hb dL_law_911 (lv_at hl 0 rfl) ?_
          refine lv_i2l hx hb dL_law_913 rfl ?_
          refine W.lcmp hx hb dL_law_914 ?_
          refine q_topv (v' := .int (nI 0)) (congrArg Value.int (lg_cmp_self _)) ?_
          refine lv_if_eq (tgt := 920) hx hb dL_law_915 (by decide) (fun c_915 => ?_) (fun c_915 => ?_)
          · skip
            have c_915 : 0 = 0 := (nI_eq0 (i := 0) (by omega)).mp c_915
            refine lv_goto (tgt := 1597) hx hb dL_law_920 (by decide) ?_
            exact W.widen (by omega) (by omega) (K _ _ _ _ _ ⟨hs, ⟨_, hm⟩, ⟨_, h45⟩, hW, hS⟩ (lv_sub hl [2, 3, 4, 5, 6] rfl))
          · skip
            have c_915 : ¬ (0 = 0) := fun h__ => c_915 ((nI_eq0 (i := 0) (by omega)).mpr h__)
            exact absurd c_915 (by omega)
      · skip
        have c_898 : ¬ (0 = 0) := fun h__ => c_898 ((nI_eq (a := 0) (b := 0) (by omega) (by omega)).mpr h__)
        exact absurd c_898 (by omega)
    · skip
      first | exact absurd hc hc2 | exact absurd hc2 hc | exact absurd hc.1 hc2 | exact absurd hc2.1 hc | exact absurd hc.2 hc2.2 | exact absurd hc2.2 hc.2 | (exact absurd hc.2 (by omega)) | (exact absurd hc (by omega)) | (exact absurd hc2.2 (by omega))
  · skip
    subst hr9
    refine lv_istore (lv' := [(5, .int (nI 1)), (0, .ref (b0)), (1, .ref (b + 0)), (2, .ref (b + 36)), (3, .ref (b + 45)), (4, .int (nI i))]) hx hb dL_law_884 hl (by decide) rfl (fun ls hl => ?_)
    refine lv_aload_n hx hb dL_law_886 rfl (lv_at hl 3 rfl) ?_
    obtain ⟨fs887, ho36⟩ := hm.obj
    refine q_W1 (va_runV (As := []) (rest := []) ⟨hx, hb, hml, hown, hts⟩ (c_X7_undo l hm ) (cwV 0 hts lg_X7_undo rfl rfl rfl (by decide +kernel) ⟨Nat.le_of_ble_eq_true rfl, Nat.le_of_ble_eq_true rfl⟩) (q_preV hG hW hS ho36 rfl) rfl rfl hl.1 rfl (lv_room (Nat.le_of_ble_eq_true rfl)) dL_law_887 ⟨by show _ ≤ 601024; omega, by show _ ≤ 7293034; omega⟩) hS (fun w_887 H locs hp887 hW hS => ?_)
    obtain ⟨hd, hfm⟩ := hp887
    replace hs := hs.mod hfm
    replace h45 := (hfm 45 (by omega)).trans h45
    clear hm
    rcases hd with ⟨hc2, hm⟩ | ⟨hc2, hm⟩
    · skip
      first | exact absurd hc hc2 | exact absurd hc2 hc | exact absurd hc.1 hc2 | exact absurd hc2.1 hc | exact absurd hc.2 hc2.2 | exact absurd hc2.2 hc.2 | (exact absurd hc.2 (by omega)) | (exact absurd hc (by omega)) | (exact absurd hc2.2 (by omega))
    · skip
      refine q_topv (v' := .int (nI 0)) (congrArg Value.int (if_neg (fun q9 => by first | exact hc2 q9 | exact hc2 q9.1 | exact absurd q9.2 (by omega) | exact hc2.2 q9.2 | exact q9.2 hc2.2 | omega))) ?_
      refine lv_istore (lv' := [(6, .int (nI 0)), (5, .int (nI 1)), (0, .ref (b0)), (1, .ref (b + 0)), (2, .ref (b + 36)), (3, .ref (b + 45)), (4, .int (nI i))]) hx hb dL_law_890 hl (by decide) rfl (fun ls hl => ?_)
      refine lv_aload_n hx hb dL_law_892 rfl (lv_at hl 4 rfl) ?_
      obtain ⟨fs893, ho36⟩ := hm.obj
      refine q_R1 (va_runV (As := []) (rest := []) ⟨hx, hb, hml, hown, hts⟩ (c_thr l hm) (cwV 0 hts lg_X7_thrown rfl rfl rfl (by decide +kernel) ⟨Nat.le_of_ble_eq_true rfl, Nat.le_of_ble_eq_true rfl⟩) (q_preV hG hW hS ho36 rfl) rfl rfl hl.1 rfl (lv_room (Nat.le_of_ble_eq_true rfl)) dL_law_893 ⟨by show _ ≤ 601024; omega, by show _ ≤ 7293034; omega⟩) ?_
      refine lv_iload hx hb dL_law_896 (lv_at hl 1 rfl) ?_
      refine lv_icmp_eq (tgt := 903) hx hb dL_law_898 (by decide) (fun c_898 => ?_) (fun c_898 => ?_)
      · skip
        have c_898 : 1 = 1 := (nI_eq (a := 1) (b := 1) (by omega) (by omega)).mp c_898
        refine lv_iload hx hb dL_law_903 (lv_at hl 1 rfl) ?_
        refine lv_if_ne (tgt := 920) hx hb dL_law_905 (by decide) (fun c_905 => ?_) (fun c_905 => ?_)
        · skip
          have c_905 : ¬ (1 = 0) := fun h__ => c_905 ((nI_eq0 (i := 1) (by omega)).mpr h__)
          refine lv_goto (tgt := 1597) hx hb dL_law_920 (by decide) ?_
          exact W.widen (by omega) (by omega) (K _ _ _ _ _ ⟨hs, ⟨_, hm⟩, ⟨_, h45⟩, hW, hS⟩ (lv_sub hl [2, 3, 4, 5, 6] rfl))
        · skip
          have c_905 : 1 = 0 := (nI_eq0 (i := 1) (by omega)).mp c_905
          exact absurd c_905 (by omega)
      · skip
        have c_898 : ¬ (1 = 1) := fun h__ => c_898 ((nI_eq (a := 1) (b := 1) (by omega) (by omega)).mpr h__)
        exact absurd c_898 (by omega)

set_option maxHeartbeats 1000000 in
set_option maxRecDepth 100000 in
/-- case 13: keep -/
theorem law_13 {p : Program} {l : Launch} {e : Env} {s : State} {m : MethodId} {args : Array Value} {below : List Frame} {meth : Method} {c : Code} {Q : State → Prop} {b0 L : Nat} {xs : Nat → Int32} {D : va_G} {dA : Nat → Nat} {b : Nat} (F9 : LWF p l s m args c b0 L xs D dA b) {w : Wd} {lo : Nat} {A : Sy} {H : Heap} {locs : List Loc} (V : LWV D dA b s w H locs lo A) {cells slots : Nat} (hcc : cells ≤ 600000) (hss : slots ≤ 7000000) {i : Nat} (hi : i + 5 ≤ L) {ls : Array Slot} (hl : LWL b b0 ls (nI i))
    (K : ∀ (w1 : Wd) (H1 : Heap) (locs1 : List Loc) (A1 : Sy) (ls1 : Array Slot), LWV D dA b s w1 H1 locs1 lo A1 → LWL b b0 ls1 (nI i) → W p l e room_1 s m args below meth c H1 locs1 (cells + 7) (slots + 116) Q (F0 m 1597 ls1 [])) : W p l e room_1 s m args below meth c H locs cells slots Q (F0 m 923 ls []) := by
  obtain ⟨hl0, hx, hb, hml, hown, hts, hX, hbl, hb0, hG, hL⟩ := F9
  obtain ⟨hs, ⟨tt, hm⟩, ⟨O9, h45⟩, hW, hS⟩ := V
  obtain ⟨P, ⟨n, Hs⟩, SL, nc, C⟩ := A
  have hlo : 46 ≤ lo := hs.2.2.2.2.2.2.1
  have hP := sys_ok hs
  change okP P at hP
  have hl : lv_has ls 9 [(0, .ref b0), (1, .ref (b + 0)), (2, .ref (b + 36)), (3, .ref (b + 45)), (4, .int (nI i))] := hl
  obtain ⟨x, hx9⟩ : ∃ q : Int32, xs (i + 1) = q := ⟨_, rfl⟩
  refine lv_aload_n hx hb dL_law_923 rfl (lv_at hl 1 rfl) ?_
  refine lv_aload_n hx hb dL_law_924 rfl (lv_at hl 0 rfl) ?_
  refine lv_iload hx hb dL_law_925 (lv_at hl 4 rfl) ?_
  refine lv_iconst (v := nI 1) hx hb dL_law_927 (by decide) ?_
  refine lv_iadd hx hb dL_law_928 ?_
  refine q_top (y := nI (i + 1)) (nI_add _ _) ?_
  refine q_sld hx hb hX hbl hb0 hS hx9 (by omega) hL dL_law_929 ?_
  refine lv_aload_n hx hb dL_law_930 rfl (lv_at hl 3 rfl) ?_
  refine q_XE1 (vx_runSX (As := [.ref (b + 0), .int (x), .ref (b + 45)]) (rest := []) ⟨hx, hb, hml, hown, hts⟩ (c_L_keep l hl0 hs h45 (x)) (vx_cwSW 3 hts lg_L_keep rfl rfl rfl (by decide +kernel) ⟨Nat.le_of_ble_eq_true rfl, Nat.le_of_ble_eq_true rfl⟩) (q_preS hG hW hS) rfl rfl hl.1 rfl (lv_room (Nat.le_of_ble_eq_true rfl)) dL_law_931 ⟨by show _ ≤ 601024; omega, by show _ ≤ 7293034; omega⟩) hS (fun r931 w_931 H locs hp931 hW hS => ?_)
  obtain ⟨hor, hf5⟩ := hp931
  replace hm := hm.fr hf5
  clear hs h45
  rcases hor with ⟨hr9, hc, hs, h45⟩ | ⟨hr9, hc, hs, h45⟩
  · skip
    subst hr9
    refine lv_istore (lv' := [(5, .int (nI 0)), (0, .ref (b0)), (1, .ref (b + 0)), (2, .ref (b + 36)), (3, .ref (b + 45)), (4, .int (nI i))]) hx hb dL_law_934 hl (by decide) rfl (fun ls hl => ?_)
    refine lv_aload_n hx hb dL_law_936 rfl (lv_at hl 3 rfl) ?_
    refine lv_aload_n hx hb dL_law_937 rfl (lv_at hl 1 rfl) ?_
    refine lv_iload hx hb dL_law_938 (lv_at hl 5 rfl) ?_
    refine lv_iconst (v := nI 1) hx hb dL_law_940 (by decide) ?_
    refine lv_iadd hx hb dL_law_941 ?_
    refine q_top (y := nI (i + 1)) (nI_add _ _) ?_
    refine q_sld hx hb hX hbl hb0 hS hx9 (by omega) hL dL_law_942 ?_
    obtain ⟨fs943, ho36⟩ := hm.obj
    refine q_W1 (va_runV (As := [.int (x)]) (rest := []) ⟨hx, hb, hml, hown, hts⟩ (c_X7_keep l hm (x)) (cwV 1 hts lg_X7_keep rfl rfl rfl (by decide +kernel) ⟨Nat.le_of_ble_eq_true rfl, Nat.le_of_ble_eq_true rfl⟩) (q_preV hG hW hS ho36 rfl) rfl rfl hl.1 rfl (lv_room (Nat.le_of_ble_eq_true rfl)) dL_law_943 ⟨by show _ ≤ 601024; omega, by show _ ≤ 7293034; omega⟩) hS (fun w_943 H locs hp943 hW hS => ?_)
    obtain ⟨hd, hfm⟩ := hp943
    replace hs := hs.mod hfm
    replace h45 := (hfm 45 (by omega)).trans h45
    clear hm
    rcases hd with ⟨hc2, hm⟩ | ⟨hc2, hm⟩
    · skip
      refine q_topv (v' := .int (nI P.w)) (congrArg Value.int (if_pos hc2)) ?_
      refine lv_istore (lv' := [(6, .int (nI P.w)), (5, .int (nI 0)), (0, .ref (b0)), (1, .ref (b + 0)), (2, .ref (b + 36)), (3, .ref (b + 45)), (4, .int (nI i))]) hx hb dL_law_946 hl (by decide) rfl (fun ls hl => ?_)
      refine lv_aload_n hx hb dL_law_948 rfl (lv_at hl 4 rfl) ?_
      obtain ⟨fs949, ho36⟩ := hm.obj
      refine q_R1 (va_runV (As := []) (rest := []) ⟨hx, hb, hml, hown, hts⟩ (c_thr l hm) (cwV 0 hts lg_X7_thrown rfl rfl rfl (by decide +kernel) ⟨Nat.le_of_ble_eq_true rfl, Nat.le_of_ble_eq_true rfl⟩) (q_preV hG hW hS ho36 rfl) rfl rfl hl.1 rfl (lv_room (Nat.le_of_ble_eq_true rfl)) dL_law_949 ⟨by show _ ≤ 601024; omega, by show _ ≤ 7293034; omega⟩) ?_
      refine lv_iload hx hb dL_law_952 (lv_at hl 1 rfl) ?_
      refine lv_icmp_eq (tgt := 959) hx hb dL_law_954 (by decide) (fun c_954 => ?_) (fun c_954 => ?_)
      · skip
        have c_954 : 0 = 0 := (nI_eq (a := 0) (b := 0) (by omega) (by omega)).mp c_954
        refine lv_iload hx hb dL_law_959 (lv_at hl 1 rfl) ?_
        refine lv_if_ne (tgt := 976) hx hb dL_law_961 (by decide) (fun c_961 => ?_) (fun c_961 => ?_)
        · skip
          have c_961 : ¬ (0 = 0) := fun h__ => c_961 ((nI_eq0 (i := 0) (by omega)).mpr h__)
          exact absurd c_961 (by omega)
        · skip
          have c_961 : 0 = 0 := (nI_eq0 (i := 0) (by omega)).mp c_961
          refine lv_aload_n hx hb dL_law_964 rfl (lv_at hl 5 rfl) ?_
          refine lv_iconst (v := nI 0) hx hb dL_law_965 (by decide) ?_
          refine q_lald hx hb hG hW h45 (by decide) (by decide) dL_law_966 ?_
          refine q_topv (v' := .long ((nI P.w).toInt64)) (by rw [va_up_self]) ?_
          refine lv_iload hx hb dL_law_967 (lv_at hl 0 rfl) ?_
          refine lv_i2l hx hb dL_law_969 rfl ?_
          refine W.lcmp hx hb dL_law_970 ?_
          refine q_topv (v' := .int (nI 0)) (congrArg Value.int (lg_cmp_self _)) ?_
          refine lv_if_eq (tgt := 976) hx hb dL_law_971 (by decide) (fun c_971 => ?_) (fun c_971 => ?_)
          · skip
            have c_971 : 0 = 0 := (nI_eq0 (i := 0) (by omega)).mp c_971
            refine lv_goto (tgt := 1597) hx hb dL_law_976 (by decide) ?_
            exact W.widen (by omega) (by omega) (K _ _ _ _ _ ⟨hs, ⟨_, hm⟩, ⟨_, h45⟩, hW, hS⟩ (lv_sub hl [2, 3, 4, 5, 6] rfl))
          · skip
            have c_971 : ¬ (0 = 0) := fun h__ => c_971 ((nI_eq0 (i := 0) (by omega)).mpr h__)
            exact absurd c_971 (by omega)
      · skip
        have c_954 : ¬ (0 = 0) := fun h__ => c_954 ((nI_eq (a := 0) (b := 0) (by omega) (by omega)).mpr h__)
        exact absurd c_954 (by omega)
    · skip
      first | exact absurd hc hc2 | exact absurd hc2 hc | exact absurd hc.1 hc2 | exact absurd hc2.1 hc | exact absurd hc.2 hc2.2 | exact absurd hc2.2 hc.2 | (exact absurd hc.2 (by omega)) | (exact absurd hc (by omega)) | (exact absurd hc2.2 (by omega))
  · skip
    subst hr9
    refine lv_istore (lv' := [(5, .int (nI 1)), (0, .ref (b0)), (1, .ref (b + 0)), (2, .ref (b + 36)), (3, .ref (b + 45)), (4, .int (nI i))]) hx hb dL_law_934 hl (by decide) rfl (fun ls hl => ?_)
    refine lv_aload_n hx hb dL_law_936 rfl (lv_at hl 3 rfl) ?_
    refine lv_aload_n hx hb dL_law_937 rfl (lv_at hl 1 rfl) ?_
    refine lv_iload hx hb dL_law_938 (lv_at hl 5 rfl) ?_
    refine lv_iconst (v := nI 1) hx hb dL_law_940 (by decide) ?_
    refine lv_iadd hx hb dL_law_941 ?_
    refine q_top (y := nI (i + 1)) (nI_add _ _) ?_
    refine q_sld hx hb hX hbl hb0 hS hx9 (by omega) hL dL_law_942 ?_
    obtain ⟨fs943, ho36⟩ := hm.obj
    refine q_W1 (va_runV (As := [.int (x)]) (rest := []) ⟨hx, hb, hml, hown, hts⟩ (c_X7_keep l hm (x)) (cwV 1 hts lg_X7_keep rfl rfl rfl (by decide +kernel) ⟨Nat.le_of_ble_eq_true rfl, Nat.le_of_ble_eq_true rfl⟩) (q_preV hG hW hS ho36 rfl) rfl rfl hl.1 rfl (lv_room (Nat.le_of_ble_eq_true rfl)) dL_law_943 ⟨by show _ ≤ 601024; omega, by show _ ≤ 7293034; omega⟩) hS (fun w_943 H locs hp943 hW hS => ?_)
    obtain ⟨hd, hfm⟩ := hp943
    replace hs := hs.mod hfm
    replace h45 := (hfm 45 (by omega)).trans h45
    clear hm
    rcases hd with ⟨hc2, hm⟩ | ⟨hc2, hm⟩
    · skip
      first | exact absurd hc hc2 | exact absurd hc2 hc | exact absurd hc.1 hc2 | exact absurd hc2.1 hc | exact absurd hc.2 hc2.2 | exact absurd hc2.2 hc.2 | (exact absurd hc.2 (by omega)) | (exact absurd hc (by omega)) | (exact absurd hc2.2 (by omega))
    · skip
      refine q_topv (v' := .int (nI 0)) (congrArg Value.int (if_neg (fun q9 => by first | exact hc2 q9 | exact hc2 q9.1 | exact absurd q9.2 (by omega) | exact hc2.2 q9.2 | exact q9.2 hc2.2 | omega))) ?_
      refine lv_istore (lv' := [(6, .int (nI 0)), (5, .int (nI 1)), (0, .ref (b0)), (1, .ref (b + 0)), (2, .ref (b + 36)), (3, .ref (b + 45)), (4, .int (nI i))]) hx hb dL_law_946 hl (by decide) rfl (fun ls hl => ?_)
      refine lv_aload_n hx hb dL_law_948 rfl (lv_at hl 4 rfl) ?_
      obtain ⟨fs949, ho36⟩ := hm.obj
      refine q_R1 (va_runV (As := []) (rest := []) ⟨hx, hb, hml, hown, hts⟩ (c_thr l hm) (cwV 0 hts lg_X7_thrown rfl rfl rfl (by decide +kernel) ⟨Nat.le_of_ble_eq_true rfl, Nat.le_of_ble_eq_true rfl⟩) (q_preV hG hW hS ho36 rfl) rfl rfl hl.1 rfl (lv_room (Nat.le_of_ble_eq_true rfl)) dL_law_949 ⟨by show _ ≤ 601024; omega, by show _ ≤ 7293034; omega⟩) ?_
      refine lv_iload hx hb dL_law_952 (lv_at hl 1 rfl) ?_
      refine lv_icmp_eq (tgt := 959) hx hb dL_law_954 (by decide) (fun c_954 => ?_) (fun c_954 => ?_)
      · skip
        have c_954 : 1 = 1 := (nI_eq (a := 1) (b := 1) (by omega) (by omega)).mp c_954
        refine lv_iload hx hb dL_law_959 (lv_at hl 1 rfl) ?_
        refine lv_if_ne (tgt := 976) hx hb dL_law_961 (by decide) (fun c_961 => ?_) (fun c_961 => ?_)
        · skip
          have c_961 : ¬ (1 = 0) := fun h__ => c_961 ((nI_eq0 (i := 1) (by omega)).mpr h__)
          refine lv_goto (tgt := 1597) hx hb dL_law_976 (by decide) ?_
          exact W.widen (by omega) (by omega) (K _ _ _ _ _ ⟨hs, ⟨_, hm⟩, ⟨_, h45⟩, hW, hS⟩ (lv_sub hl [2, 3, 4, 5, 6] rfl))
        · skip
          have c_961 : 1 = 0 := (nI_eq0 (i := 1) (by omega)).mp c_961
          exact absurd c_961 (by omega)
      · skip
        have c_954 : ¬ (1 = 1) := fun h__ => c_954 ((nI_eq (a := 1) (b := 1) (by omega) (by omega)).mpr h__)
        exact absurd c_954 (by omega)
