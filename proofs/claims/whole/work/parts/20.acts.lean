def sLo (i : Nat) : Nat := ([0, 1, 0, 0, 0] : List Nat).getD i 0
def sHi (i : Nat) : Nat := ([20, 20, 5, 10, 10] : List Nat).getD i 0
abbrev fitS (i : Nat) (v : Int32) : Prop := nI (sLo i) ≤ v ∧ v ≤ nI (sHi i)
theorem fitS_n {i : Nat} {v : Int32} (hi : i < 5) (h : fitS i v) : v = nI (i32n v) := by
  refine i32n_of (Int32.le_trans ?_ h.1)
  have : i = 0 ∨ i = 1 ∨ i = 2 ∨ i = 3 ∨ i = 4 := by omega
  rcases this with rfl | rfl | rfl | rfl | rfl <;> decide
theorem fitS_b {i : Nat} {v : Int32} (hi : i < 5) (h : fitS i v) : sLo i ≤ i32n v ∧ i32n v ≤ sHi i := by
  have e := fitS_n hi h
  obtain ⟨h1, h2⟩ := h
  rw [e] at h1 h2
  have hb : sLo i < 2 ^ 31 ∧ sHi i < 2 ^ 31 := by
    have : i = 0 ∨ i = 1 ∨ i = 2 ∨ i = 3 ∨ i = 4 := by omega
    rcases this with rfl | rfl | rfl | rfl | rfl <;> decide
  exact ⟨(nI_leI hb.1 (i32n_lt v)).mp h1, (nI_leI (i32n_lt v) hb.2).mp h2⟩
theorem okS_set {S : Nat → Nat} {i : Nat} {v : Int32} (hS : okS S) (hi : i < 5) (h : fitS i v) : okS (va_up S i (i32n v)) := by
  have hb := fitS_b hi h
  unfold okS at hS ⊢
  unfold va_up
  have : i = 0 ∨ i = 1 ∨ i = 2 ∨ i = 3 ∨ i = 4 := by omega
  rcases this with rfl | rfl | rfl | rfl | rfl <;> simp [sLo, sHi] at hb ⊢ <;> omega
theorem code_n {x : Int32} (h : 33 ≤ x ∧ x ≤ 126) : x = nI (i32n x) ∧ 33 ≤ i32n x ∧ i32n x ≤ 126 := by
  have e := i32n_of (Int32.le_trans (by decide) h.1)
  refine ⟨e, ?_⟩
  obtain ⟨h1, h2⟩ := h
  rw [e] at h1 h2
  exact ⟨(nI_leI (a := 33) (by omega) (i32n_lt x)).mp h1, (nI_leI (b := 126) (i32n_lt x) (by omega)).mp h2⟩

set_option maxHeartbeats 300000 in
set_option maxRecDepth 100000 in
/-- checkSetting -/
theorem c_X6_checkSetting (l : Launch) (hl0 : l.stackTraces = false) {D : va_G} {dA : Nat → Nat} {b : Nat} {w : Wd} (x y : Int32) : vx_Met l yX6_checkSetting wsX6_checkSetting ({ frames := 6, cells := 1, slots := 6, locals := 82 } : Room) (PC D dA b w [.int (x), .int (y)]) (QW D b (none) (fun w' => ((0 ≤ x ∧ x < nI 5) ∧ fitS (i32n x) y) ∧ w' = w)) (XW D b (fun E w' => ((E = IOE ∧ ¬ (0 ≤ x ∧ x < nI 5)) ∨ ((0 ≤ x ∧ x < nI 5) ∧ E = IAE ∧ ¬ fitS (i32n x) y)) ∧ w' = w)) 1 6 (Fb b) := by
  refine q_ofX (cc := cX6_checkSetting) (maxL := 2) (ret := none) (by decide) rfl rfl ?_
  intro p e s m args below meth c ls hx hb hr hml hts hown hlocks hxt hG hW hS hl
  have hown : s.vm.findClass RX6 = some m.cls := hown
  have hl : lv_has ls 2 [(0, .int (x)), (1, .int (y))] := hl
  refine lv_iload_n hx hb dX6_checkSetting_0 rfl (lv_at hl 0 rfl) ?_
  refine lv_if_lt (tgt := 9) hx hb dX6_checkSetting_1 (by decide) (fun c_1 => ?_) (fun c_1 => ?_)
  · skip
    exact q_thrSW hx hb hl0 (by rw [hml]; exact hl.1) hxt hlocks hown hG hW hS (by decide +kernel) (hts (.classLink RX6 206 "java/lang/IndexOutOfBoundsException") (List.mem_of_getElem? (i := 1) rfl)) (hts (.initialized "java/lang/IndexOutOfBoundsException") (List.mem_of_getElem? (i := 2) rfl)) 6 2 rfl rfl ngO otO (fun w h => hts w (List.mem_cons_of_mem _ (List.mem_append_left _ (List.mem_append_right _ h)))) dX6_checkSetting_9 dX6_checkSetting_12 dX6_checkSetting_13 dX6_checkSetting_16 dX6_checkSetting_19 (Nat.le_of_ble_eq_true rfl) (Nat.le_of_ble_eq_true rfl) (Nat.le_of_ble_eq_true rfl) (Nat.le_of_ble_eq_true rfl) (Nat.le_of_ble_eq_true rfl) (Nat.le_of_ble_eq_true rfl) (by first | exact ⟨Or.inl ⟨rfl, fun q9 => absurd q9.1 (Int32.not_le.mpr c_1)⟩, rfl⟩ | exact ⟨Or.inl ⟨rfl, fun q9 => c_6 q9.2⟩, rfl⟩)
  · skip
    refine lv_iload_n hx hb dX6_checkSetting_4 rfl (lv_at hl 0 rfl) ?_
    refine lv_iconst (v := nI 5) hx hb dX6_checkSetting_5 (by decide) ?_
    refine lv_icmp_lt (tgt := 20) hx hb dX6_checkSetting_6 (by decide) (fun c_6 => ?_) (fun c_6 => ?_)
    · skip
      obtain ⟨ex9, bx9⟩ := has_n (n := 5) (by decide) (Int32.not_lt.mp c_1) c_6
      have el_20 : x = nI (i32n x) := by exact ex9
      rw [el_20] at hl
      refine lv_iload_n hx hb dX6_checkSetting_20 rfl (lv_at hl 1 rfl) ?_
      refine va_gets hx hb (hG.2.2.1 3 _ rfl).1 hS hown (hts (.fieldLink RX6 253 "FoleyMixer" "LEAST_SETTINGS" "[I") (List.mem_of_getElem? (i := 5) rfl)) (fun _ h => h) dX6_checkSetting_21 ?_
      refine lv_iload_n hx hb dX6_checkSetting_24 rfl (lv_at hl 0 rfl) ?_
      refine q_R1 (va_runS (As := [.ref (dA 13), .int (nI (i32n x))]) (rest := [.int (y)]) ⟨hx, hb, hml, hown, hts⟩ (c_entry_in l (RD.st 3 rfl) (by decide) (i32n x) (by show i32n x < 5; exact bx9)) (va_cwS 2 hts gX6_checkSetting_X6_entry rfl rfl rfl (by decide +kernel) ⟨Nat.le_of_ble_eq_true rfl, Nat.le_of_ble_eq_true rfl⟩) (q_preS hG hW hS) rfl rfl hl.1 rfl (lv_room (Nat.le_of_ble_eq_true rfl)) dX6_checkSetting_25 ⟨Nat.le_of_ble_eq_true rfl, Nat.le_of_ble_eq_true rfl⟩) ?_
      refine lv_icmp_lt (tgt := 42) hx hb dX6_checkSetting_28 (by decide) (fun c_28 => ?_) (fun c_28 => ?_)
      · skip
        exact q_thrSW hx hb hl0 (by rw [hml]; exact hl.1) hxt hlocks hown hG hW hS (by decide +kernel) (hts (.classLink RX6 93 "java/lang/IllegalArgumentException") (List.mem_of_getElem? (i := 3) rfl)) (hts (.initialized "java/lang/IllegalArgumentException") (List.mem_of_getElem? (i := 4) rfl)) 7 0 rfl rfl ngA otA (fun w h => hts w (List.mem_cons_of_mem _ (List.mem_append_right _ h))) dX6_checkSetting_42 dX6_checkSetting_45 dX6_checkSetting_46 dX6_checkSetting_49 dX6_checkSetting_52 (Nat.le_of_ble_eq_true rfl) (Nat.le_of_ble_eq_true rfl) (Nat.le_of_ble_eq_true rfl) (Nat.le_of_ble_eq_true rfl) (Nat.le_of_ble_eq_true rfl) (Nat.le_of_ble_eq_true rfl) (by first | exact ⟨Or.inr ⟨⟨Int32.not_lt.mp c_1, c_6⟩, rfl, fun q9 => absurd q9.1 (Int32.not_le.mpr c_28)⟩, rfl⟩ | exact ⟨Or.inr ⟨⟨Int32.not_lt.mp c_1, c_6⟩, rfl, fun q9 => c_39 q9.2⟩, rfl⟩)
      · skip
        refine lv_iload_n hx hb dX6_checkSetting_31 rfl (lv_at hl 1 rfl) ?_
        refine va_gets hx hb (hG.2.2.1 4 _ rfl).1 hS hown (hts (.fieldLink RX6 256 "FoleyMixer" "MOST_SETTINGS" "[I") (List.mem_of_getElem? (i := 6) rfl)) (fun _ h => h) dX6_checkSetting_32 ?_
        refine lv_iload_n hx hb dX6_checkSetting_35 rfl (lv_at hl 0 rfl) ?_
        refine q_R1 (va_runS (As := [.ref (dA 14), .int (nI (i32n x))]) (rest := [.int (y)]) ⟨hx, hb, hml, hown, hts⟩ (c_entry_in l (RD.st 4 rfl) (by decide) (i32n x) (by show i32n x < 5; exact bx9)) (va_cwS 2 hts gX6_checkSetting_X6_entry rfl rfl rfl (by decide +kernel) ⟨Nat.le_of_ble_eq_true rfl, Nat.le_of_ble_eq_true rfl⟩) (q_preS hG hW hS) rfl rfl hl.1 rfl (lv_room (Nat.le_of_ble_eq_true rfl)) dX6_checkSetting_36 ⟨Nat.le_of_ble_eq_true rfl, Nat.le_of_ble_eq_true rfl⟩) ?_
        refine lv_icmp_le (tgt := 53) hx hb dX6_checkSetting_39 (by decide) (fun c_39 => ?_) (fun c_39 => ?_)
        · skip
          exact vx_ret (q_wv hx hb hr hlocks hW hS dX6_checkSetting_53 (by exact ⟨⟨⟨Int32.not_lt.mp c_1, c_6⟩, ⟨Int32.not_lt.mp c_28, c_39⟩⟩, rfl⟩) (by decide) (by decide))
        · skip
          exact q_thrSW hx hb hl0 (by rw [hml]; exact hl.1) hxt hlocks hown hG hW hS (by decide +kernel) (hts (.classLink RX6 93 "java/lang/IllegalArgumentException") (List.mem_of_getElem? (i := 3) rfl)) (hts (.initialized "java/lang/IllegalArgumentException") (List.mem_of_getElem? (i := 4) rfl)) 7 0 rfl rfl ngA otA (fun w h => hts w (List.mem_cons_of_mem _ (List.mem_append_right _ h))) dX6_checkSetting_42 dX6_checkSetting_45 dX6_checkSetting_46 dX6_checkSetting_49 dX6_checkSetting_52 (Nat.le_of_ble_eq_true rfl) (Nat.le_of_ble_eq_true rfl) (Nat.le_of_ble_eq_true rfl) (Nat.le_of_ble_eq_true rfl) (Nat.le_of_ble_eq_true rfl) (Nat.le_of_ble_eq_true rfl) (by first | exact ⟨Or.inr ⟨⟨Int32.not_lt.mp c_1, c_6⟩, rfl, fun q9 => absurd q9.1 (Int32.not_le.mpr c_28)⟩, rfl⟩ | exact ⟨Or.inr ⟨⟨Int32.not_lt.mp c_1, c_6⟩, rfl, fun q9 => c_39 q9.2⟩, rfl⟩)
    · skip
      exact q_thrSW hx hb hl0 (by rw [hml]; exact hl.1) hxt hlocks hown hG hW hS (by decide +kernel) (hts (.classLink RX6 206 "java/lang/IndexOutOfBoundsException") (List.mem_of_getElem? (i := 1) rfl)) (hts (.initialized "java/lang/IndexOutOfBoundsException") (List.mem_of_getElem? (i := 2) rfl)) 6 2 rfl rfl ngO otO (fun w h => hts w (List.mem_cons_of_mem _ (List.mem_append_left _ (List.mem_append_right _ h)))) dX6_checkSetting_9 dX6_checkSetting_12 dX6_checkSetting_13 dX6_checkSetting_16 dX6_checkSetting_19 (Nat.le_of_ble_eq_true rfl) (Nat.le_of_ble_eq_true rfl) (Nat.le_of_ble_eq_true rfl) (Nat.le_of_ble_eq_true rfl) (Nat.le_of_ble_eq_true rfl) (Nat.le_of_ble_eq_true rfl) (by first | exact ⟨Or.inl ⟨rfl, fun q9 => absurd q9.1 (Int32.not_le.mpr c_1)⟩, rfl⟩ | exact ⟨Or.inl ⟨rfl, fun q9 => c_6 q9.2⟩, rfl⟩)

set_option maxHeartbeats 300000 in
set_option maxRecDepth 100000 in
/-- set -/
theorem c_X6_set (l : Launch) (hl0 : l.stackTraces = false) {D : va_G} {dA : Nat → Nat} {b : Nat} {w : Wd} {lo n nc : Nat} {P : Pl} {Hs : Nat → Pl} {SL : Nat → Option Pl} {C : Nat → Nat} (hs : isSys dA b w lo (P, (n, Hs), SL, (nc, C))) (x y : Int32) : vx_Met l yX6_set wsX6_set ({ frames := 7, cells := 7, slots := 116, locals := 103 } : Room) (PC D dA b w [.ref (b + 0), .int (x), .int (y)]) (QW D b (some (.int (nI (P.S (i32n x))))) (fun w' => ((0 ≤ x ∧ x < nI 5) ∧ fitS (i32n x) y) ∧ isSys dA b w' lo (setS P (i32n x) (i32n y), (pshN n, psh n Hs P), SL, (nc, C)) ∧ ∀ id : Nat, 36 ≤ id → id < lo → w' id = w id)) (XW D b (fun E w' => ((E = IOE ∧ ¬ (0 ≤ x ∧ x < nI 5)) ∨ ((0 ≤ x ∧ x < nI 5) ∧ E = IAE ∧ ¬ fitS (i32n x) y)) ∧ w' = w)) 7 116 (Fb b) := by
  refine q_ofX (cc := cX6_set) (maxL := 4) (ret := (some .int)) (by decide) rfl rfl ?_
  intro p e s m args below meth c ls hx hb hr hml hts hown hlocks hxt hG hW hS hl
  have hown : s.vm.findClass RX6 = some m.cls := hown
  have hinX6 : ∀ w ∈ u_ws RX6 TX6 8, w ∈ wsX6_set := fun w h => (goodIn_r (big := wsX6_set) (u_ws RX6 TX6 8) [69, 70, 71, 72, 73, 74, 75, 76] (by decide +kernel) (by decide +kernel) w h).1
  have hl : lv_has ls 4 [(0, .ref (b + 0)), (1, .int (x)), (2, .int (y))] := hl
  obtain ⟨hs0, hp1, hbk, hhs, hsc, hrd, hlo, hex⟩ := id hs
  change isPlay dA b w 2 P at hp1
  change isHS dA b w lo n Hs SL at hhs
  change isScr dA b w 32 nc C at hsc
  have hP := hp1.ok
  have hn6 := HS_le hhs
  have hnc := hsc.2.2.1
  obtain ⟨hPw, hPn, hPW, hPN, hPS⟩ := id hP
  refine lv_iload_n hx hb dX6_set_0 rfl (lv_at hl 1 rfl) ?_
  refine lv_iload_n hx hb dX6_set_1 rfl (lv_at hl 2 rfl) ?_
  refine q_X0 (vx_runS (As := [.int (x), .int (y)]) (rest := []) ⟨hx, hb, hml, hown, hts⟩ (c_X6_checkSetting l hl0 (x) (y)) (va_cwS 2 hts gX6_set_X6_checkSetting rfl rfl rfl (by decide +kernel) ⟨Nat.le_of_ble_eq_true rfl, Nat.le_of_ble_eq_true rfl⟩) (q_preS hG hW hS) rfl rfl hl.1 rfl (lv_room (Nat.le_of_ble_eq_true rfl)) dX6_set_2 ⟨Nat.le_of_ble_eq_true rfl, Nat.le_of_ble_eq_true rfl⟩) hS (fun E9 w9 H9 L9 q9 ce9 hpx hW9 hS9 hce hcv hcl => q_prop hxt hlocks hW9 hS9 hce hcv hcl (by exact hpx) (Nat.le_of_ble_eq_true rfl) (Nat.le_of_ble_eq_true rfl)) (fun w_2 H locs hp2 hW hS => ?_)
  obtain ⟨ho2, hw9⟩ := hp2
  replace hw9 := hw9.symm
  subst hw9
  obtain ⟨ex9, bx9⟩ := has_n (n := 5) (by decide) ho2.1.1 ho2.1.2
  have ey9 := fitS_n bx9 ho2.2
  have oz9 := okS_set hPS bx9 ho2.2
  have el_5 : x = nI (i32n x) := by exact ex9
  rw [el_5] at hl
  have el_5 : y = nI (i32n y) := by exact ey9
  rw [el_5] at hl
  refine lv_aload_n hx hb dX6_set_5 rfl (lv_at hl 0 rfl) ?_
  refine q_get hx hb hts hinX6 hown hG hW hs0 rfl 2 (by decide) (hts (.fieldLink RX6 23 "FoleyMixer" "now" "LFoleyMixer$Play;") (List.mem_of_getElem? (i := 1) rfl)) rfl rfl dX6_set_6 ?_
  refine lv_iload_n hx hb dX6_set_9 rfl (lv_at hl 1 rfl) ?_
  refine q_R1 (va_runVN (As := [.int (nI (i32n x))]) (rest := []) ⟨hx, hb, hml, hown, hts⟩ (c_X4_settingOf l hp1 (i32n x) (by omega)) ⟨(va_cnB 1 hts gX6_set_X4_settingOf_n119 rfl rfl rfl (hG.nest 68 rfl) (hts (.initialized RX4) (List.mem_of_getElem? (i := 17) rfl)) (by decide +kernel) ⟨Nat.le_of_ble_eq_true rfl, Nat.le_of_ble_eq_true rfl⟩), (hts (.instanceMethod yX4_settingOf) (List.mem_of_getElem? (i := 16) rfl)), (hts (.selects RX4 yX4_settingOf yX4_settingOf) (List.mem_of_getElem? (i := 18) rfl))⟩ (q_preV hG hW hS (hp1).1 rfl) rfl rfl hl.1 rfl (lv_room (Nat.le_of_ble_eq_true rfl)) dX6_set_10 ⟨Nat.le_of_ble_eq_true rfl, Nat.le_of_ble_eq_true rfl⟩) ?_
  refine lv_istore_n (lv' := [(3, .int (nI (P.S (i32n x)))), (0, .ref (b + 0)), (1, .int (nI (i32n x))), (2, .int (nI (i32n y)))]) hx hb dX6_set_13 rfl hl (by decide) rfl (fun ls hl => ?_)
  refine lv_aload_n hx hb dX6_set_14 rfl (lv_at hl 1 rfl) ?_
  refine q_get hx hb hts hinX6 hown hG hW hs0 rfl 4 (by decide) (hts (.fieldLink RX6 32 "FoleyMixer" "history" "LFoleyMixer$History;") (List.mem_of_getElem? (i := 2) rfl)) rfl rfl dX6_set_15 ?_
  refine lv_aload_n hx hb dX6_set_18 rfl (lv_at hl 1 rfl) ?_
  refine q_get hx hb hts hinX6 hown hG hW hs0 rfl 2 (by decide) (hts (.fieldLink RX6 23 "FoleyMixer" "now" "LFoleyMixer$Play;") (List.mem_of_getElem? (i := 1) rfl)) rfl rfl dX6_set_19 ?_
  obtain ⟨mh9, a9, H9, gz9, hh9, hv2, hv3, hv4, hv5, hv6⟩ := id hhs
  refine q_W0 (va_runVN (As := [.ref (b + 2)]) (rest := []) ⟨hx, hb, hml, hown, hts⟩ (c_X2_push l hh9 hp1 (by omega) (by omega) (by omega) hex (by omega)) ⟨(va_cnB 1 hts gX6_set_X2_push_n79 rfl rfl rfl (hG.nest 61 rfl) (hts (.initialized RX2) (List.mem_of_getElem? (i := 22) rfl)) (by decide +kernel) ⟨Nat.le_of_ble_eq_true rfl, Nat.le_of_ble_eq_true rfl⟩), (hts (.instanceMethod yX2_push) (List.mem_of_getElem? (i := 21) rfl)), (hts (.selects RX2 yX2_push yX2_push) (List.mem_of_getElem? (i := 23) rfl))⟩ (q_preV hG hW hS hh9.1 rfl) rfl rfl hl.1 rfl (lv_room (Nat.le_of_ble_eq_true rfl)) dX6_set_22 ⟨Nat.le_of_ble_eq_true rfl, Nat.le_of_ble_eq_true rfl⟩) hS (fun w_22 H locs hp22 hW hS => ?_)
  replace hp22 := HS_push (by omega) hv2 hv3 hv4 hv5 hv6 (HS_le hhs) hp22
  obtain ⟨hhs, fr22⟩ := hp22
  replace hs0 : w_22 0 = some (sysO b) := (fr22 _ (by omega)).trans hs0
  replace hp1 : isPlay dA b w_22 2 P := hp1.fr (fun id9 h7 h8 => fr22 id9 (by omega))
  replace hbk : isBk dA b w_22 := hbk.fr (fun id9 h7 h8 => (fr22 id9 (by omega)))
  replace hsc : isScr dA b w_22 32 nc C := hsc.fr (fr22 _ (by omega)) (fr22 _ (by omega))
  replace hrd : ∃ R : Rd, isRdr dA b w_22 34 R := rdr_fr hrd (fun id9 h7 h8 => (fr22 id9 (by omega)))
  replace hex : ∃ e : va_E, w_22 (lo - 1) = some e := exw_fr hex (fr22 _ (by omega))
  refine lv_aload_n hx hb dX6_set_25 rfl (lv_at hl 1 rfl) ?_
  refine q_get hx hb hts hinX6 hown hG hW hs0 rfl 2 (by decide) (hts (.fieldLink RX6 23 "FoleyMixer" "now" "LFoleyMixer$Play;") (List.mem_of_getElem? (i := 1) rfl)) rfl rfl dX6_set_26 ?_
  refine lv_iload_n hx hb dX6_set_29 rfl (lv_at hl 2 rfl) ?_
  refine lv_iload_n hx hb dX6_set_30 rfl (lv_at hl 3 rfl) ?_
  refine q_W0 (va_runVN (As := [.int (nI (i32n x)), .int (nI (i32n y))]) (rest := []) ⟨hx, hb, hml, hown, hts⟩ (c_X4_change l hp1 (i32n x) (i32n y) (by omega) (by exact oz9)) ⟨(va_cnB 2 hts gX6_set_X4_change_n123 rfl rfl rfl (hG.nest 43 rfl) (hts (.initialized RX4) (List.mem_of_getElem? (i := 17) rfl)) (by decide +kernel) ⟨Nat.le_of_ble_eq_true rfl, Nat.le_of_ble_eq_true rfl⟩), (hts (.instanceMethod yX4_change) (List.mem_of_getElem? (i := 64) rfl)), (hts (.selects RX4 yX4_change yX4_change) (List.mem_of_getElem? (i := 65) rfl))⟩ (q_preV hG hW hS (hp1).1 rfl) rfl rfl hl.1 rfl (lv_room (Nat.le_of_ble_eq_true rfl)) dX6_set_31 ⟨Nat.le_of_ble_eq_true rfl, Nat.le_of_ble_eq_true rfl⟩) hS (fun w_31 H locs hp31 hW hS => ?_)
  obtain ⟨hp1, fr31⟩ := hp31
  replace hs0 : w_31 0 = some (sysO b) := (fr31 _ (by omega)).trans hs0
  replace hbk : isBk dA b w_31 := hbk.fr (fun id9 h7 h8 => (fr31 id9 (by omega)))
  replace hsc : isScr dA b w_31 32 nc C := hsc.fr (fr31 _ (by omega)) (fr31 _ (by omega))
  replace hrd : ∃ R : Rd, isRdr dA b w_31 34 R := rdr_fr hrd (fun id9 h7 h8 => (fr31 id9 (by omega)))
  replace hex : ∃ e : va_E, w_31 (lo - 1) = some e := exw_fr hex (fr31 _ (by omega))
  replace hhs : isHS dA b w_31 lo (pshN n) (psh n Hs P) SL := hhs.fr (fun id9 h7 => (fr31 id9 (by omega)))
  refine lv_iload_n hx hb dX6_set_34 rfl (lv_at hl 0 rfl) ?_
  exact vx_ret (q_wi hx hb hr hlocks hW hS dX6_set_35 (by rfl) (by exact ⟨ho2, ⟨hs0, hp1, hbk, hhs, hsc, hrd, hlo, hex⟩, by intro id h8 h9; rw [fr31 id (by omega)]; rw [fr22 id (by omega)]; try rfl⟩) (by decide) (by decide))

set_option maxHeartbeats 300000 in
set_option maxRecDepth 100000 in
/-- loud -/
theorem c_X6_loud_t (l : Launch) (hl0 : l.stackTraces = false) {D : va_G} {dA : Nat → Nat} {b : Nat} {w : Wd} {lo n nc : Nat} {P : Pl} {Hs : Nat → Pl} {SL : Nat → Option Pl} {C : Nat → Nat} (hs : isSys dA b w lo (P, (n, Hs), SL, (nc, C))) (x y : Int32) : vx_Met l yX6_loud wsX6_loud ({ frames := 7, cells := 7, slots := 116, locals := 103 } : Room) (PC D dA b w [.ref (b + 0), .int (nI 1), .int (x), .int (y)]) (QW D b (some (.int (nI (P.W (i32n x) 2)))) (fun w' => ((0 ≤ x ∧ x < nI P.w) ∧ fitI 2 y) ∧ isSys dA b w' lo ((P.w, setV P.W (i32n x) 2 (i32n y), P.n, P.N, P.S), (pshN n, psh n Hs P), SL, (nc, C)) ∧ ∀ id : Nat, 36 ≤ id → id < lo → w' id = w id)) (XW D b (fun E w' => ((E = IOE ∧ ¬ (0 ≤ x ∧ x < nI P.w)) ∨ ((0 ≤ x ∧ x < nI P.w) ∧ E = IAE ∧ ¬ fitI 2 y)) ∧ w' = w)) 7 116 (Fb b) := by
  refine q_ofX (cc := cX6_loud) (maxL := 6) (ret := (some .int)) (by decide) rfl rfl ?_
  intro p e s m args below meth c ls hx hb hr hml hts hown hlocks hxt hG hW hS hl
  have hown : s.vm.findClass RX6 = some m.cls := hown
  have hinX6 : ∀ w ∈ u_ws RX6 TX6 8, w ∈ wsX6_loud := fun w h => (goodIn_r (big := wsX6_loud) (u_ws RX6 TX6 8) [78, 79, 80, 81, 82, 83, 84, 85] (by decide +kernel) (by decide +kernel) w h).1
  have hl : lv_has ls 6 [(0, .ref (b + 0)), (1, .int (nI 1)), (2, .int (x)), (3, .int (y))] := hl
  obtain ⟨hs0, hp1, hbk, hhs, hsc, hrd, hlo, hex⟩ := id hs
  change isPlay dA b w 2 P at hp1
  change isHS dA b w lo n Hs SL at hhs
  change isScr dA b w 32 nc C at hsc
  have hP := hp1.ok
  have hn6 := HS_le hhs
  have hnc := hsc.2.2.1
  obtain ⟨hPw, hPn, hPW, hPN, hPS⟩ := id hP
  refine lv_aload_n hx hb dX6_loud_0 rfl (lv_at hl 0 rfl) ?_
  refine q_get hx hb hts hinX6 hown hG hW hs0 rfl 2 (by decide) (hts (.fieldLink RX6 23 "FoleyMixer" "now" "LFoleyMixer$Play;") (List.mem_of_getElem? (i := 3) rfl)) rfl rfl dX6_loud_1 ?_
  refine lv_iload_n hx hb dX6_loud_4 rfl (lv_at hl 1 rfl) ?_
  refine q_R1 (va_runVN (As := [.int (nI 1)]) (rest := []) ⟨hx, hb, hml, hown, hts⟩ (c_cuesOf_t l hp1) ⟨(va_cnB 1 hts gX6_loud_X4_cuesOf_n71 rfl rfl rfl (hG.nest 33 rfl) (hts (.initialized RX4) (List.mem_of_getElem? (i := 6) rfl)) (by decide +kernel) ⟨Nat.le_of_ble_eq_true rfl, Nat.le_of_ble_eq_true rfl⟩), (hts (.instanceMethod yX4_cuesOf) (List.mem_of_getElem? (i := 5) rfl)), (hts (.selects RX4 yX4_cuesOf yX4_cuesOf) (List.mem_of_getElem? (i := 7) rfl))⟩ (q_preV hG hW hS (hp1).1 rfl) rfl rfl hl.1 rfl (lv_room (Nat.le_of_ble_eq_true rfl)) dX6_loud_5 ⟨Nat.le_of_ble_eq_true rfl, Nat.le_of_ble_eq_true rfl⟩) ?_
  refine lv_astore (lv' := [(4, .ref (b + (2 + 1))), (0, .ref (b + 0)), (1, .int (nI 1)), (2, .int (x)), (3, .int (y))]) hx hb dX6_loud_8 hl (by decide) rfl (fun ls hl => ?_)
  refine lv_aload hx hb dX6_loud_10 (lv_at hl 0 rfl) ?_
  refine lv_iload_n hx hb dX6_loud_12 rfl (lv_at hl 3 rfl) ?_
  refine q_X0 (vx_runS (As := [.ref (b + (2 + 1)), .int (x)]) (rest := []) ⟨hx, hb, hml, hown, hts⟩ (c_X6_checkNumber l hl0 (hp1).2.1 (x)) (va_cwS 2 hts gX6_loud_X6_checkNumber rfl rfl rfl (by decide +kernel) ⟨Nat.le_of_ble_eq_true rfl, Nat.le_of_ble_eq_true rfl⟩) (q_preS hG hW hS) rfl rfl hl.1 rfl (lv_room (Nat.le_of_ble_eq_true rfl)) dX6_loud_13 ⟨Nat.le_of_ble_eq_true rfl, Nat.le_of_ble_eq_true rfl⟩) hS (fun E9 w9 H9 L9 q9 ce9 hpx hW9 hS9 hce hcv hcl => q_prop hxt hlocks hW9 hS9 hce hcv hcl (by exact ⟨Or.inl hpx.1, hpx.2⟩) (Nat.le_of_ble_eq_true rfl) (Nat.le_of_ble_eq_true rfl)) (fun w_13 H locs hp13 hW hS => ?_)
  obtain ⟨ho13, hw9⟩ := hp13
  replace hw9 := hw9.symm
  subst hw9
  refine lv_iconst (v := nI 2) hx hb dX6_loud_16 (by decide) ?_
  refine lv_iload_n hx hb dX6_loud_17 rfl (lv_at hl 4 rfl) ?_
  refine q_R1 (va_runS (As := [.int (nI 2), .int (y)]) (rest := []) ⟨hx, hb, hml, hown, hts⟩ (c_X6_fitsCue l (2) (by omega) (y)) (va_cwS 2 hts gX6_loud_X6_fitsCue rfl rfl rfl (by decide +kernel) ⟨Nat.le_of_ble_eq_true rfl, Nat.le_of_ble_eq_true rfl⟩) (q_preS hG hW hS) rfl rfl hl.1 rfl (lv_room (Nat.le_of_ble_eq_true rfl)) dX6_loud_18 ⟨Nat.le_of_ble_eq_true rfl, Nat.le_of_ble_eq_true rfl⟩) ?_
  refine lv_if_ne (tgt := 34) hx hb dX6_loud_21 (by decide) (fun c_21 => ?_) (fun c_21 => ?_)
  · skip
    have c_21 : fitI 2 (y) := Decidable.byContradiction (fun h__ => c_21 (pI_eq0.mpr h__))
    obtain ⟨ex9, bx9⟩ := has_n (by omega) ho13.1 ho13.2
    have el_34 : x = nI (i32n x) := by exact ex9
    rw [el_34] at hl
    have ey9 := (fitI_i32n (by omega) c_21).1
    have hb9 := (fitI_i32n (by omega) c_21).2
    have hb8 : cHi 2 = 30 := rfl
    have hb7 : cLo 2 = 1 := rfl
    have el_34 : y = nI (i32n y) := by exact ey9
    rw [el_34] at hl
    refine lv_aload hx hb dX6_loud_34 (lv_at hl 0 rfl) ?_
    refine lv_iload_n hx hb dX6_loud_36 rfl (lv_at hl 3 rfl) ?_
    refine lv_iconst (v := nI 2) hx hb dX6_loud_37 (by decide) ?_
    refine q_R1 (va_runVN (As := [.int (nI (i32n x)), .int (nI 2)]) (rest := []) ⟨hx, hb, hml, hown, hts⟩ (c_X1_numberOf l (hp1).2.1 (i32n x) (2) (by omega) (by omega)) ⟨(va_cnB 2 hts gX6_loud_X1_numberOf_n100 rfl rfl rfl (hG.nest 58 rfl) (hts (.initialized RX1) (List.mem_of_getElem? (i := 18) rfl)) (by decide +kernel) ⟨Nat.le_of_ble_eq_true rfl, Nat.le_of_ble_eq_true rfl⟩), (hts (.instanceMethod yX1_numberOf) (List.mem_of_getElem? (i := 30) rfl)), (hts (.selects RX1 yX1_numberOf yX1_numberOf) (List.mem_of_getElem? (i := 31) rfl))⟩ (q_preV hG hW hS (isCues.obj (hp1).2.1) rfl) rfl rfl hl.1 rfl (lv_room (Nat.le_of_ble_eq_true rfl)) dX6_loud_38 ⟨Nat.le_of_ble_eq_true rfl, Nat.le_of_ble_eq_true rfl⟩) ?_
    have q_38 := (hp1).2.1.2.2.2.1 (i32n x) (by omega)
    refine lv_istore (lv' := [(5, .int (nI (P.W (i32n x) 2))), (4, .ref (b + (2 + 1))), (0, .ref (b + 0)), (1, .int (nI 1)), (2, .int (nI (i32n x))), (3, .int (nI (i32n y)))]) hx hb dX6_loud_41 hl (by decide) rfl (fun ls hl => ?_)
    refine lv_aload_n hx hb dX6_loud_43 rfl (lv_at hl 2 rfl) ?_
    refine q_get hx hb hts hinX6 hown hG hW hs0 rfl 4 (by decide) (hts (.fieldLink RX6 32 "FoleyMixer" "history" "LFoleyMixer$History;") (List.mem_of_getElem? (i := 4) rfl)) rfl rfl dX6_loud_44 ?_
    refine lv_aload_n hx hb dX6_loud_47 rfl (lv_at hl 2 rfl) ?_
    refine q_get hx hb hts hinX6 hown hG hW hs0 rfl 2 (by decide) (hts (.fieldLink RX6 23 "FoleyMixer" "now" "LFoleyMixer$Play;") (List.mem_of_getElem? (i := 3) rfl)) rfl rfl dX6_loud_48 ?_
    obtain ⟨mh9, a9, H9, gz9, hh9, hv2, hv3, hv4, hv5, hv6⟩ := id hhs
    refine q_W0 (va_runVN (As := [.ref (b + 2)]) (rest := []) ⟨hx, hb, hml, hown, hts⟩ (c_X2_push l hh9 hp1 (by omega) (by omega) (by omega) hex (by omega)) ⟨(va_cnB 1 hts gX6_loud_X2_push_n79 rfl rfl rfl (hG.nest 61 rfl) (hts (.initialized RX2) (List.mem_of_getElem? (i := 35) rfl)) (by decide +kernel) ⟨Nat.le_of_ble_eq_true rfl, Nat.le_of_ble_eq_true rfl⟩), (hts (.instanceMethod yX2_push) (List.mem_of_getElem? (i := 34) rfl)), (hts (.selects RX2 yX2_push yX2_push) (List.mem_of_getElem? (i := 36) rfl))⟩ (q_preV hG hW hS hh9.1 rfl) rfl rfl hl.1 rfl (lv_room (Nat.le_of_ble_eq_true rfl)) dX6_loud_51 ⟨Nat.le_of_ble_eq_true rfl, Nat.le_of_ble_eq_true rfl⟩) hS (fun w_51 H locs hp51 hW hS => ?_)
    replace hp51 := HS_push (by omega) hv2 hv3 hv4 hv5 hv6 (HS_le hhs) hp51
    obtain ⟨hhs, fr51⟩ := hp51
    replace hs0 : w_51 0 = some (sysO b) := (fr51 _ (by omega)).trans hs0
    replace hp1 : isPlay dA b w_51 2 P := hp1.fr (fun id9 h7 h8 => fr51 id9 (by omega))
    replace hbk : isBk dA b w_51 := hbk.fr (fun id9 h7 h8 => (fr51 id9 (by omega)))
    replace hsc : isScr dA b w_51 32 nc C := hsc.fr (fr51 _ (by omega)) (fr51 _ (by omega))
    replace hrd : ∃ R : Rd, isRdr dA b w_51 34 R := rdr_fr hrd (fun id9 h7 h8 => (fr51 id9 (by omega)))
    replace hex : ∃ e : va_E, w_51 (lo - 1) = some e := exw_fr hex (fr51 _ (by omega))
    obtain ⟨hq0, hq1, hq3, hoS, hq5⟩ := id hp1
    refine lv_aload hx hb dX6_loud_54 (lv_at hl 1 rfl) ?_
    refine lv_iload_n hx hb dX6_loud_56 rfl (lv_at hl 4 rfl) ?_
    refine lv_iconst (v := nI 2) hx hb dX6_loud_57 (by decide) ?_
    refine lv_iload_n hx hb dX6_loud_58 rfl (lv_at hl 5 rfl) ?_
    refine q_W0 (va_runVN (As := [.int (nI (i32n x)), .int (nI 2), .int (nI (i32n y))]) (rest := []) ⟨hx, hb, hml, hown, hts⟩ (c_change_V l hq1 (i32n x) (2) (i32n y) (by omega) (by omega) (by omega)) ⟨(va_cnB 3 hts gX6_loud_X1_change_n110 rfl rfl rfl (hG.nest 67 rfl) (hts (.initialized RX1) (List.mem_of_getElem? (i := 18) rfl)) (by decide +kernel) ⟨Nat.le_of_ble_eq_true rfl, Nat.le_of_ble_eq_true rfl⟩), (hts (.instanceMethod yX1_change) (List.mem_of_getElem? (i := 73) rfl)), (hts (.selects RX1 yX1_change yX1_change) (List.mem_of_getElem? (i := 74) rfl))⟩ (q_preV hG hW hS (isCues.obj (hp1).2.1) rfl) rfl rfl hl.1 rfl (lv_room (Nat.le_of_ble_eq_true rfl)) dX6_loud_59 ⟨Nat.le_of_ble_eq_true rfl, Nat.le_of_ble_eq_true rfl⟩) hS (fun w_59 H locs hp59 hW hS => ?_)
    obtain ⟨hq1, fr59⟩ := hp59
    replace hs0 : w_59 0 = some (sysO b) := (fr59 _ (by omega)).trans hs0
    replace hbk : isBk dA b w_59 := hbk.fr (fun id9 h7 h8 => (fr59 id9 (by omega)))
    replace hsc : isScr dA b w_59 32 nc C := hsc.fr (fr59 _ (by omega)) (fr59 _ (by omega))
    replace hrd : ∃ R : Rd, isRdr dA b w_59 34 R := rdr_fr hrd (fun id9 h7 h8 => (fr59 id9 (by omega)))
    replace hex : ∃ e : va_E, w_59 (lo - 1) = some e := exw_fr hex (fr59 _ (by omega))
    replace hhs : isHS dA b w_59 lo (pshN n) (psh n Hs P) SL := hhs.fr (fun id9 h7 => (fr59 id9 (by omega)))
    replace hq0 : w_59 2 = some (.inr (4, [.ref (b + (2 + 1)), .ref (b + (2 + 3)), .ref (b + (2 + 5))])) := (fr59 _ (by omega)).trans hq0
    replace hq3 : isCues dA b w_59 (2 + 3) 12 P.n P.N := hq3.fr (fr59 _ (by omega)) (fr59 _ (by omega))
    replace hq5 : w_59 (2 + 5) = some (eN dA 5 P.S) := (fr59 _ (by omega)).trans hq5
    refine lv_iload hx hb dX6_loud_62 (lv_at hl 0 rfl) ?_
    exact vx_ret (q_wi hx hb hr hlocks hW hS dX6_loud_64 (by rfl) (by exact ⟨⟨ho13, c_21⟩, ⟨hs0, ⟨hq0, hq1, hq3, hoS, hq5⟩, hbk, hhs, hsc, hrd, hlo, hex⟩, by intro id h8 h9; rw [fr59 id (by omega)]; rw [fr51 id (by omega)]; try rfl⟩) (by decide) (by decide))
  · skip
    have c_21 : ¬ (fitI 2 (y)) := pI_eq0.mp c_21
    exact q_thrS hx hb hl0 (by rw [hml]; exact hl.1) hxt hlocks hown hG hW hS (by decide +kernel) (hts (.classLink RX6 93 "java/lang/IllegalArgumentException") (List.mem_of_getElem? (i := 1) rfl)) (hts (.initialized "java/lang/IllegalArgumentException") (List.mem_of_getElem? (i := 2) rfl)) 5 0 rfl rfl ngA otA (fun w h => hts w (List.mem_cons_of_mem _ (List.mem_append_left _ (List.mem_append_right _ h)))) dX6_loud_24 dX6_loud_27 dX6_loud_28 dX6_loud_30 dX6_loud_33 (Nat.le_of_ble_eq_true rfl) (Nat.le_of_ble_eq_true rfl) (Nat.le_of_ble_eq_true rfl) (Nat.le_of_ble_eq_true rfl) (Nat.le_of_ble_eq_true rfl) (Nat.le_of_ble_eq_true rfl) (by exact ⟨Or.inr ⟨ho13, rfl, c_21⟩, rfl⟩)

set_option maxHeartbeats 300000 in
set_option maxRecDepth 100000 in
/-- shift -/
theorem c_X6_shift_t (l : Launch) (hl0 : l.stackTraces = false) {D : va_G} {dA : Nat → Nat} {b : Nat} {w : Wd} {lo n nc : Nat} {P : Pl} {Hs : Nat → Pl} {SL : Nat → Option Pl} {C : Nat → Nat} (hs : isSys dA b w lo (P, (n, Hs), SL, (nc, C))) (x y : Int32) : vx_Met l yX6_shift wsX6_shift ({ frames := 7, cells := 7, slots := 116, locals := 103 } : Room) (PC D dA b w [.ref (b + 0), .int (nI 1), .int (x), .int (y)]) (QW D b (some (.int (nI (P.W (i32n x) 0) + y))) (fun w' => ((0 ≤ x ∧ x < nI P.w) ∧ (-99 ≤ y ∧ y ≤ 99) ∧ fitI 0 (nI (P.W (i32n x) 0) + y)) ∧ isSys dA b w' lo ((P.w, setV P.W (i32n x) 0 (i32n (nI (P.W (i32n x) 0) + y)), P.n, P.N, P.S), (pshN n, psh n Hs P), SL, (nc, C)) ∧ ∀ id : Nat, 36 ≤ id → id < lo → w' id = w id)) (XW D b (fun E w' => ((E = IOE ∧ ¬ (0 ≤ x ∧ x < nI P.w)) ∨ ((0 ≤ x ∧ x < nI P.w) ∧ E = IAE ∧ ¬ ((-99 ≤ y ∧ y ≤ 99) ∧ fitI 0 (nI (P.W (i32n x) 0) + y)))) ∧ w' = w)) 7 116 (Fb b) := by
  refine q_ofX (cc := cX6_shift) (maxL := 6) (ret := (some .int)) (by decide) rfl rfl ?_
  intro p e s m args below meth c ls hx hb hr hml hts hown hlocks hxt hG hW hS hl
  have hown : s.vm.findClass RX6 = some m.cls := hown
  have hinX6 : ∀ w ∈ u_ws RX6 TX6 8, w ∈ wsX6_shift := fun w h => (goodIn_r (big := wsX6_shift) (u_ws RX6 TX6 8) [78, 79, 80, 81, 82, 83, 84, 85] (by decide +kernel) (by decide +kernel) w h).1
  have hl : lv_has ls 6 [(0, .ref (b + 0)), (1, .int (nI 1)), (2, .int (x)), (3, .int (y))] := hl
  obtain ⟨hs0, hp1, hbk, hhs, hsc, hrd, hlo, hex⟩ := id hs
  change isPlay dA b w 2 P at hp1
  change isHS dA b w lo n Hs SL at hhs
  change isScr dA b w 32 nc C at hsc
  have hP := hp1.ok
  have hn6 := HS_le hhs
  have hnc := hsc.2.2.1
  obtain ⟨hPw, hPn, hPW, hPN, hPS⟩ := id hP
  refine lv_aload_n hx hb dX6_shift_0 rfl (lv_at hl 0 rfl) ?_
  refine q_get hx hb hts hinX6 hown hG hW hs0 rfl 2 (by decide) (hts (.fieldLink RX6 23 "FoleyMixer" "now" "LFoleyMixer$Play;") (List.mem_of_getElem? (i := 3) rfl)) rfl rfl dX6_shift_1 ?_
  refine lv_iload_n hx hb dX6_shift_4 rfl (lv_at hl 1 rfl) ?_
  refine q_R1 (va_runVN (As := [.int (nI 1)]) (rest := []) ⟨hx, hb, hml, hown, hts⟩ (c_cuesOf_t l hp1) ⟨(va_cnB 1 hts gX6_shift_X4_cuesOf_n71 rfl rfl rfl (hG.nest 33 rfl) (hts (.initialized RX4) (List.mem_of_getElem? (i := 6) rfl)) (by decide +kernel) ⟨Nat.le_of_ble_eq_true rfl, Nat.le_of_ble_eq_true rfl⟩), (hts (.instanceMethod yX4_cuesOf) (List.mem_of_getElem? (i := 5) rfl)), (hts (.selects RX4 yX4_cuesOf yX4_cuesOf) (List.mem_of_getElem? (i := 7) rfl))⟩ (q_preV hG hW hS (hp1).1 rfl) rfl rfl hl.1 rfl (lv_room (Nat.le_of_ble_eq_true rfl)) dX6_shift_5 ⟨Nat.le_of_ble_eq_true rfl, Nat.le_of_ble_eq_true rfl⟩) ?_
  refine lv_astore (lv' := [(4, .ref (b + (2 + 1))), (0, .ref (b + 0)), (1, .int (nI 1)), (2, .int (x)), (3, .int (y))]) hx hb dX6_shift_8 hl (by decide) rfl (fun ls hl => ?_)
  refine lv_aload hx hb dX6_shift_10 (lv_at hl 0 rfl) ?_
  refine lv_iload_n hx hb dX6_shift_12 rfl (lv_at hl 3 rfl) ?_
  refine q_X0 (vx_runS (As := [.ref (b + (2 + 1)), .int (x)]) (rest := []) ⟨hx, hb, hml, hown, hts⟩ (c_X6_checkNumber l hl0 (hp1).2.1 (x)) (va_cwS 2 hts gX6_shift_X6_checkNumber rfl rfl rfl (by decide +kernel) ⟨Nat.le_of_ble_eq_true rfl, Nat.le_of_ble_eq_true rfl⟩) (q_preS hG hW hS) rfl rfl hl.1 rfl (lv_room (Nat.le_of_ble_eq_true rfl)) dX6_shift_13 ⟨Nat.le_of_ble_eq_true rfl, Nat.le_of_ble_eq_true rfl⟩) hS (fun E9 w9 H9 L9 q9 ce9 hpx hW9 hS9 hce hcv hcl => q_prop hxt hlocks hW9 hS9 hce hcv hcl (by exact ⟨Or.inl hpx.1, hpx.2⟩) (Nat.le_of_ble_eq_true rfl) (Nat.le_of_ble_eq_true rfl)) (fun w_13 H locs hp13 hW hS => ?_)
  obtain ⟨ho13, hw9⟩ := hp13
  replace hw9 := hw9.symm
  subst hw9
  refine lv_iload_n hx hb dX6_shift_16 rfl (lv_at hl 4 rfl) ?_
  refine lv_bipush (v := (-99)) hx hb dX6_shift_17 (by decide) ?_
  refine lv_icmp_lt (tgt := 28) hx hb dX6_shift_19 (by decide) (fun c_19 => ?_) (fun c_19 => ?_)
  · skip
    exact q_thrS hx hb hl0 (by rw [hml]; exact hl.1) hxt hlocks hown hG hW hS (by decide +kernel) (hts (.classLink RX6 93 "java/lang/IllegalArgumentException") (List.mem_of_getElem? (i := 1) rfl)) (hts (.initialized "java/lang/IllegalArgumentException") (List.mem_of_getElem? (i := 2) rfl)) 3 0 rfl rfl ngA otA (fun w h => hts w (List.mem_cons_of_mem _ (List.mem_append_left _ (List.mem_append_right _ h)))) dX6_shift_28 dX6_shift_31 dX6_shift_32 dX6_shift_34 dX6_shift_37 (Nat.le_of_ble_eq_true rfl) (Nat.le_of_ble_eq_true rfl) (Nat.le_of_ble_eq_true rfl) (Nat.le_of_ble_eq_true rfl) (Nat.le_of_ble_eq_true rfl) (Nat.le_of_ble_eq_true rfl) (by first | exact ⟨Or.inr ⟨ho13, rfl, fun q9 => absurd q9.1.1 (Int32.not_le.mpr c_19)⟩, rfl⟩ | exact ⟨Or.inr ⟨ho13, rfl, fun q9 => c_25 q9.1.2⟩, rfl⟩)
  · skip
    refine lv_iload_n hx hb dX6_shift_22 rfl (lv_at hl 4 rfl) ?_
    refine lv_bipush (v := nI 99) hx hb dX6_shift_23 (by decide) ?_
    refine lv_icmp_le (tgt := 38) hx hb dX6_shift_25 (by decide) (fun c_25 => ?_) (fun c_25 => ?_)
    · skip
      obtain ⟨ex9, bx9⟩ := has_n (by omega) ho13.1 ho13.2
      have el_38 : x = nI (i32n x) := by exact ex9
      rw [el_38] at hl
      refine lv_aload hx hb dX6_shift_38 (lv_at hl 0 rfl) ?_
      refine lv_iload_n hx hb dX6_shift_40 rfl (lv_at hl 3 rfl) ?_
      refine lv_iconst (v := nI 0) hx hb dX6_shift_41 (by decide) ?_
      refine q_R1 (va_runVN (As := [.int (nI (i32n x)), .int (nI 0)]) (rest := []) ⟨hx, hb, hml, hown, hts⟩ (c_X1_numberOf l (hp1).2.1 (i32n x) (0) (by omega) (by omega)) ⟨(va_cnB 2 hts gX6_shift_X1_numberOf_n100 rfl rfl rfl (hG.nest 58 rfl) (hts (.initialized RX1) (List.mem_of_getElem? (i := 18) rfl)) (by decide +kernel) ⟨Nat.le_of_ble_eq_true rfl, Nat.le_of_ble_eq_true rfl⟩), (hts (.instanceMethod yX1_numberOf) (List.mem_of_getElem? (i := 22) rfl)), (hts (.selects RX1 yX1_numberOf yX1_numberOf) (List.mem_of_getElem? (i := 23) rfl))⟩ (q_preV hG hW hS (isCues.obj (hp1).2.1) rfl) rfl rfl hl.1 rfl (lv_room (Nat.le_of_ble_eq_true rfl)) dX6_shift_42 ⟨Nat.le_of_ble_eq_true rfl, Nat.le_of_ble_eq_true rfl⟩) ?_
      have q_42 := (hp1).2.1.2.2.2.1 (i32n x) (by omega)
      refine lv_iload_n hx hb dX6_shift_45 rfl (lv_at hl 4 rfl) ?_
      refine lv_iadd hx hb dX6_shift_46 ?_
      refine lv_istore (lv' := [(5, .int ((nI (P.W (i32n x) 0)) + y)), (4, .ref (b + (2 + 1))), (0, .ref (b + 0)), (1, .int (nI 1)), (2, .int (nI (i32n x))), (3, .int (y))]) hx hb dX6_shift_47 hl (by decide) rfl (fun ls hl => ?_)
      refine lv_iconst (v := nI 0) hx hb dX6_shift_49 (by decide) ?_
      refine lv_iload hx hb dX6_shift_50 (lv_at hl 0 rfl) ?_
      refine q_R1 (va_runS (As := [.int (nI 0), .int ((nI (P.W (i32n x) 0)) + y)]) (rest := []) ⟨hx, hb, hml, hown, hts⟩ (c_X6_fitsCue l (0) (by omega) ((nI (P.W (i32n x) 0)) + y)) (va_cwS 2 hts gX6_shift_X6_fitsCue rfl rfl rfl (by decide +kernel) ⟨Nat.le_of_ble_eq_true rfl, Nat.le_of_ble_eq_true rfl⟩) (q_preS hG hW hS) rfl rfl hl.1 rfl (lv_room (Nat.le_of_ble_eq_true rfl)) dX6_shift_52 ⟨Nat.le_of_ble_eq_true rfl, Nat.le_of_ble_eq_true rfl⟩) ?_
      refine lv_if_ne (tgt := 68) hx hb dX6_shift_55 (by decide) (fun c_55 => ?_) (fun c_55 => ?_)
      · skip
        have c_55 : fitI 0 ((nI (P.W (i32n x) 0)) + y) := Decidable.byContradiction (fun h__ => c_55 (pI_eq0.mpr h__))
        have ey9 := (fitI_i32n (by omega) c_55).1
        have hb9 := (fitI_i32n (by omega) c_55).2
        have hb8 : cHi 0 = 99 := rfl
        have hb7 : cLo 0 = 0 := rfl
        have el_68 : (nI (P.W (i32n x) 0)) + y = nI (i32n (nI (P.W (i32n x) 0) + y)) := by exact ey9
        rw [el_68] at hl
        refine lv_aload_n hx hb dX6_shift_68 rfl (lv_at hl 2 rfl) ?_
        refine q_get hx hb hts hinX6 hown hG hW hs0 rfl 4 (by decide) (hts (.fieldLink RX6 32 "FoleyMixer" "history" "LFoleyMixer$History;") (List.mem_of_getElem? (i := 4) rfl)) rfl rfl dX6_shift_69 ?_
        refine lv_aload_n hx hb dX6_shift_72 rfl (lv_at hl 2 rfl) ?_
        refine q_get hx hb hts hinX6 hown hG hW hs0 rfl 2 (by decide) (hts (.fieldLink RX6 23 "FoleyMixer" "now" "LFoleyMixer$Play;") (List.mem_of_getElem? (i := 3) rfl)) rfl rfl dX6_shift_73 ?_
        obtain ⟨mh9, a9, H9, gz9, hh9, hv2, hv3, hv4, hv5, hv6⟩ := id hhs
        refine q_W0 (va_runVN (As := [.ref (b + 2)]) (rest := []) ⟨hx, hb, hml, hown, hts⟩ (c_X2_push l hh9 hp1 (by omega) (by omega) (by omega) hex (by omega)) ⟨(va_cnB 1 hts gX6_shift_X2_push_n79 rfl rfl rfl (hG.nest 61 rfl) (hts (.initialized RX2) (List.mem_of_getElem? (i := 35) rfl)) (by decide +kernel) ⟨Nat.le_of_ble_eq_true rfl, Nat.le_of_ble_eq_true rfl⟩), (hts (.instanceMethod yX2_push) (List.mem_of_getElem? (i := 34) rfl)), (hts (.selects RX2 yX2_push yX2_push) (List.mem_of_getElem? (i := 36) rfl))⟩ (q_preV hG hW hS hh9.1 rfl) rfl rfl hl.1 rfl (lv_room (Nat.le_of_ble_eq_true rfl)) dX6_shift_76 ⟨Nat.le_of_ble_eq_true rfl, Nat.le_of_ble_eq_true rfl⟩) hS (fun w_76 H locs hp76 hW hS => ?_)
        replace hp76 := HS_push (by omega) hv2 hv3 hv4 hv5 hv6 (HS_le hhs) hp76
        obtain ⟨hhs, fr76⟩ := hp76
        replace hs0 : w_76 0 = some (sysO b) := (fr76 _ (by omega)).trans hs0
        replace hp1 : isPlay dA b w_76 2 P := hp1.fr (fun id9 h7 h8 => fr76 id9 (by omega))
        replace hbk : isBk dA b w_76 := hbk.fr (fun id9 h7 h8 => (fr76 id9 (by omega)))
        replace hsc : isScr dA b w_76 32 nc C := hsc.fr (fr76 _ (by omega)) (fr76 _ (by omega))
        replace hrd : ∃ R : Rd, isRdr dA b w_76 34 R := rdr_fr hrd (fun id9 h7 h8 => (fr76 id9 (by omega)))
        replace hex : ∃ e : va_E, w_76 (lo - 1) = some e := exw_fr hex (fr76 _ (by omega))
        obtain ⟨hq0, hq1, hq3, hoS, hq5⟩ := id hp1
        refine lv_aload hx hb dX6_shift_79 (lv_at hl 1 rfl) ?_
        refine lv_iload_n hx hb dX6_shift_81 rfl (lv_at hl 4 rfl) ?_
        refine lv_iconst (v := nI 0) hx hb dX6_shift_82 (by decide) ?_
        refine lv_iload hx hb dX6_shift_83 (lv_at hl 0 rfl) ?_
        refine q_W0 (va_runVN (As := [.int (nI (i32n x)), .int (nI 0), .int (nI (i32n (nI (P.W (i32n x) 0) + y)))]) (rest := []) ⟨hx, hb, hml, hown, hts⟩ (c_change_V l hq1 (i32n x) (0) (i32n (nI (P.W (i32n x) 0) + y)) (by omega) (by omega) (by omega)) ⟨(va_cnB 3 hts gX6_shift_X1_change_n110 rfl rfl rfl (hG.nest 67 rfl) (hts (.initialized RX1) (List.mem_of_getElem? (i := 18) rfl)) (by decide +kernel) ⟨Nat.le_of_ble_eq_true rfl, Nat.le_of_ble_eq_true rfl⟩), (hts (.instanceMethod yX1_change) (List.mem_of_getElem? (i := 73) rfl)), (hts (.selects RX1 yX1_change yX1_change) (List.mem_of_getElem? (i := 74) rfl))⟩ (q_preV hG hW hS (isCues.obj (hp1).2.1) rfl) rfl rfl hl.1 rfl (lv_room (Nat.le_of_ble_eq_true rfl)) dX6_shift_85 ⟨Nat.le_of_ble_eq_true rfl, Nat.le_of_ble_eq_true rfl⟩) hS (fun w_85 H locs hp85 hW hS => ?_)
        obtain ⟨hq1, fr85⟩ := hp85
        replace hs0 : w_85 0 = some (sysO b) := (fr85 _ (by omega)).trans hs0
        replace hbk : isBk dA b w_85 := hbk.fr (fun id9 h7 h8 => (fr85 id9 (by omega)))
        replace hsc : isScr dA b w_85 32 nc C := hsc.fr (fr85 _ (by omega)) (fr85 _ (by omega))
        replace hrd : ∃ R : Rd, isRdr dA b w_85 34 R := rdr_fr hrd (fun id9 h7 h8 => (fr85 id9 (by omega)))
        replace hex : ∃ e : va_E, w_85 (lo - 1) = some e := exw_fr hex (fr85 _ (by omega))
        replace hhs : isHS dA b w_85 lo (pshN n) (psh n Hs P) SL := hhs.fr (fun id9 h7 => (fr85 id9 (by omega)))
        replace hq0 : w_85 2 = some (.inr (4, [.ref (b + (2 + 1)), .ref (b + (2 + 3)), .ref (b + (2 + 5))])) := (fr85 _ (by omega)).trans hq0
        replace hq3 : isCues dA b w_85 (2 + 3) 12 P.n P.N := hq3.fr (fr85 _ (by omega)) (fr85 _ (by omega))
        replace hq5 : w_85 (2 + 5) = some (eN dA 5 P.S) := (fr85 _ (by omega)).trans hq5
        refine lv_iload hx hb dX6_shift_88 (lv_at hl 0 rfl) ?_
        exact vx_ret (q_wi hx hb hr hlocks hW hS dX6_shift_90 (by exact ey9.symm) (by exact ⟨⟨ho13, ⟨Int32.not_lt.mp c_19, c_25⟩, c_55⟩, ⟨hs0, ⟨hq0, hq1, hq3, hoS, hq5⟩, hbk, hhs, hsc, hrd, hlo, hex⟩, by intro id h8 h9; rw [fr85 id (by omega)]; rw [fr76 id (by omega)]; try rfl⟩) (by decide) (by decide))
      · skip
        have c_55 : ¬ (fitI 0 ((nI (P.W (i32n x) 0)) + y)) := pI_eq0.mp c_55
        exact q_thrS hx hb hl0 (by rw [hml]; exact hl.1) hxt hlocks hown hG hW hS (by decide +kernel) (hts (.classLink RX6 93 "java/lang/IllegalArgumentException") (List.mem_of_getElem? (i := 1) rfl)) (hts (.initialized "java/lang/IllegalArgumentException") (List.mem_of_getElem? (i := 2) rfl)) 4 0 rfl rfl ngA otA (fun w h => hts w (List.mem_cons_of_mem _ (List.mem_append_left _ (List.mem_append_right _ h)))) dX6_shift_58 dX6_shift_61 dX6_shift_62 dX6_shift_64 dX6_shift_67 (Nat.le_of_ble_eq_true rfl) (Nat.le_of_ble_eq_true rfl) (Nat.le_of_ble_eq_true rfl) (Nat.le_of_ble_eq_true rfl) (Nat.le_of_ble_eq_true rfl) (Nat.le_of_ble_eq_true rfl) (by exact ⟨Or.inr ⟨ho13, rfl, fun q9 => c_55 q9.2⟩, rfl⟩)
    · skip
      exact q_thrS hx hb hl0 (by rw [hml]; exact hl.1) hxt hlocks hown hG hW hS (by decide +kernel) (hts (.classLink RX6 93 "java/lang/IllegalArgumentException") (List.mem_of_getElem? (i := 1) rfl)) (hts (.initialized "java/lang/IllegalArgumentException") (List.mem_of_getElem? (i := 2) rfl)) 3 0 rfl rfl ngA otA (fun w h => hts w (List.mem_cons_of_mem _ (List.mem_append_left _ (List.mem_append_right _ h)))) dX6_shift_28 dX6_shift_31 dX6_shift_32 dX6_shift_34 dX6_shift_37 (Nat.le_of_ble_eq_true rfl) (Nat.le_of_ble_eq_true rfl) (Nat.le_of_ble_eq_true rfl) (Nat.le_of_ble_eq_true rfl) (Nat.le_of_ble_eq_true rfl) (Nat.le_of_ble_eq_true rfl) (by first | exact ⟨Or.inr ⟨ho13, rfl, fun q9 => absurd q9.1.1 (Int32.not_le.mpr c_19)⟩, rfl⟩ | exact ⟨Or.inr ⟨ho13, rfl, fun q9 => c_25 q9.1.2⟩, rfl⟩)

set_option maxHeartbeats 300000 in
set_option maxRecDepth 100000 in
/-- loud -/
theorem c_X6_loud_f (l : Launch) (hl0 : l.stackTraces = false) {D : va_G} {dA : Nat → Nat} {b : Nat} {w : Wd} {lo n nc : Nat} {P : Pl} {Hs : Nat → Pl} {SL : Nat → Option Pl} {C : Nat → Nat} (hs : isSys dA b w lo (P, (n, Hs), SL, (nc, C))) (x y : Int32) : vx_Met l yX6_loud wsX6_loud ({ frames := 7, cells := 7, slots := 116, locals := 103 } : Room) (PC D dA b w [.ref (b + 0), .int (nI 0), .int (x), .int (y)]) (QW D b (some (.int (nI (P.N (i32n x) 2)))) (fun w' => ((0 ≤ x ∧ x < nI P.n) ∧ fitI 2 y) ∧ isSys dA b w' lo ((P.w, P.W, P.n, setV P.N (i32n x) 2 (i32n y), P.S), (pshN n, psh n Hs P), SL, (nc, C)) ∧ ∀ id : Nat, 36 ≤ id → id < lo → w' id = w id)) (XW D b (fun E w' => ((E = IOE ∧ ¬ (0 ≤ x ∧ x < nI P.n)) ∨ ((0 ≤ x ∧ x < nI P.n) ∧ E = IAE ∧ ¬ fitI 2 y)) ∧ w' = w)) 7 116 (Fb b) := by
  refine q_ofX (cc := cX6_loud) (maxL := 6) (ret := (some .int)) (by decide) rfl rfl ?_
  intro p e s m args below meth c ls hx hb hr hml hts hown hlocks hxt hG hW hS hl
  have hown : s.vm.findClass RX6 = some m.cls := hown
  have hinX6 : ∀ w ∈ u_ws RX6 TX6 8, w ∈ wsX6_loud := fun w h => (goodIn_r (big := wsX6_loud) (u_ws RX6 TX6 8) [78, 79, 80, 81, 82, 83, 84, 85] (by decide +kernel) (by decide +kernel) w h).1
  have hl : lv_has ls 6 [(0, .ref (b + 0)), (1, .int (nI 0)), (2, .int (x)), (3, .int (y))] := hl
  obtain ⟨hs0, hp1, hbk, hhs, hsc, hrd, hlo, hex⟩ := id hs
  change isPlay dA b w 2 P at hp1
  change isHS dA b w lo n Hs SL at hhs
  change isScr dA b w 32 nc C at hsc
  have hP := hp1.ok
  have hn6 := HS_le hhs
  have hnc := hsc.2.2.1
  obtain ⟨hPw, hPn, hPW, hPN, hPS⟩ := id hP
  refine lv_aload_n hx hb dX6_loud_0 rfl (lv_at hl 0 rfl) ?_
  refine q_get hx hb hts hinX6 hown hG hW hs0 rfl 2 (by decide) (hts (.fieldLink RX6 23 "FoleyMixer" "now" "LFoleyMixer$Play;") (List.mem_of_getElem? (i := 3) rfl)) rfl rfl dX6_loud_1 ?_
  refine lv_iload_n hx hb dX6_loud_4 rfl (lv_at hl 1 rfl) ?_
  refine q_R1 (va_runVN (As := [.int (nI 0)]) (rest := []) ⟨hx, hb, hml, hown, hts⟩ (c_cuesOf_f l hp1) ⟨(va_cnB 1 hts gX6_loud_X4_cuesOf_n71 rfl rfl rfl (hG.nest 33 rfl) (hts (.initialized RX4) (List.mem_of_getElem? (i := 6) rfl)) (by decide +kernel) ⟨Nat.le_of_ble_eq_true rfl, Nat.le_of_ble_eq_true rfl⟩), (hts (.instanceMethod yX4_cuesOf) (List.mem_of_getElem? (i := 5) rfl)), (hts (.selects RX4 yX4_cuesOf yX4_cuesOf) (List.mem_of_getElem? (i := 7) rfl))⟩ (q_preV hG hW hS (hp1).1 rfl) rfl rfl hl.1 rfl (lv_room (Nat.le_of_ble_eq_true rfl)) dX6_loud_5 ⟨Nat.le_of_ble_eq_true rfl, Nat.le_of_ble_eq_true rfl⟩) ?_
  refine lv_astore (lv' := [(4, .ref (b + (2 + 3))), (0, .ref (b + 0)), (1, .int (nI 0)), (2, .int (x)), (3, .int (y))]) hx hb dX6_loud_8 hl (by decide) rfl (fun ls hl => ?_)
  refine lv_aload hx hb dX6_loud_10 (lv_at hl 0 rfl) ?_
  refine lv_iload_n hx hb dX6_loud_12 rfl (lv_at hl 3 rfl) ?_
  refine q_X0 (vx_runS (As := [.ref (b + (2 + 3)), .int (x)]) (rest := []) ⟨hx, hb, hml, hown, hts⟩ (c_X6_checkNumber l hl0 (hp1).2.2.1 (x)) (va_cwS 2 hts gX6_loud_X6_checkNumber rfl rfl rfl (by decide +kernel) ⟨Nat.le_of_ble_eq_true rfl, Nat.le_of_ble_eq_true rfl⟩) (q_preS hG hW hS) rfl rfl hl.1 rfl (lv_room (Nat.le_of_ble_eq_true rfl)) dX6_loud_13 ⟨Nat.le_of_ble_eq_true rfl, Nat.le_of_ble_eq_true rfl⟩) hS (fun E9 w9 H9 L9 q9 ce9 hpx hW9 hS9 hce hcv hcl => q_prop hxt hlocks hW9 hS9 hce hcv hcl (by exact ⟨Or.inl hpx.1, hpx.2⟩) (Nat.le_of_ble_eq_true rfl) (Nat.le_of_ble_eq_true rfl)) (fun w_13 H locs hp13 hW hS => ?_)
  obtain ⟨ho13, hw9⟩ := hp13
  replace hw9 := hw9.symm
  subst hw9
  refine lv_iconst (v := nI 2) hx hb dX6_loud_16 (by decide) ?_
  refine lv_iload_n hx hb dX6_loud_17 rfl (lv_at hl 4 rfl) ?_
  refine q_R1 (va_runS (As := [.int (nI 2), .int (y)]) (rest := []) ⟨hx, hb, hml, hown, hts⟩ (c_X6_fitsCue l (2) (by omega) (y)) (va_cwS 2 hts gX6_loud_X6_fitsCue rfl rfl rfl (by decide +kernel) ⟨Nat.le_of_ble_eq_true rfl, Nat.le_of_ble_eq_true rfl⟩) (q_preS hG hW hS) rfl rfl hl.1 rfl (lv_room (Nat.le_of_ble_eq_true rfl)) dX6_loud_18 ⟨Nat.le_of_ble_eq_true rfl, Nat.le_of_ble_eq_true rfl⟩) ?_
  refine lv_if_ne (tgt := 34) hx hb dX6_loud_21 (by decide) (fun c_21 => ?_) (fun c_21 => ?_)
  · skip
    have c_21 : fitI 2 (y) := Decidable.byContradiction (fun h__ => c_21 (pI_eq0.mpr h__))
    obtain ⟨ex9, bx9⟩ := has_n (by omega) ho13.1 ho13.2
    have el_34 : x = nI (i32n x) := by exact ex9
    rw [el_34] at hl
    have ey9 := (fitI_i32n (by omega) c_21).1
    have hb9 := (fitI_i32n (by omega) c_21).2
    have hb8 : cHi 2 = 30 := rfl
    have hb7 : cLo 2 = 1 := rfl
    have el_34 : y = nI (i32n y) := by exact ey9
    rw [el_34] at hl
    refine lv_aload hx hb dX6_loud_34 (lv_at hl 0 rfl) ?_
    refine lv_iload_n hx hb dX6_loud_36 rfl (lv_at hl 3 rfl) ?_
    refine lv_iconst (v := nI 2) hx hb dX6_loud_37 (by decide) ?_
    refine q_R1 (va_runVN (As := [.int (nI (i32n x)), .int (nI 2)]) (rest := []) ⟨hx, hb, hml, hown, hts⟩ (c_X1_numberOf l (hp1).2.2.1 (i32n x) (2) (by omega) (by omega)) ⟨(va_cnB 2 hts gX6_loud_X1_numberOf_n100 rfl rfl rfl (hG.nest 58 rfl) (hts (.initialized RX1) (List.mem_of_getElem? (i := 18) rfl)) (by decide +kernel) ⟨Nat.le_of_ble_eq_true rfl, Nat.le_of_ble_eq_true rfl⟩), (hts (.instanceMethod yX1_numberOf) (List.mem_of_getElem? (i := 30) rfl)), (hts (.selects RX1 yX1_numberOf yX1_numberOf) (List.mem_of_getElem? (i := 31) rfl))⟩ (q_preV hG hW hS (isCues.obj (hp1).2.2.1) rfl) rfl rfl hl.1 rfl (lv_room (Nat.le_of_ble_eq_true rfl)) dX6_loud_38 ⟨Nat.le_of_ble_eq_true rfl, Nat.le_of_ble_eq_true rfl⟩) ?_
    have q_38 := (hp1).2.2.1.2.2.2.1 (i32n x) (by omega)
    refine lv_istore (lv' := [(5, .int (nI (P.N (i32n x) 2))), (4, .ref (b + (2 + 3))), (0, .ref (b + 0)), (1, .int (nI 0)), (2, .int (nI (i32n x))), (3, .int (nI (i32n y)))]) hx hb dX6_loud_41 hl (by decide) rfl (fun ls hl => ?_)
    refine lv_aload_n hx hb dX6_loud_43 rfl (lv_at hl 2 rfl) ?_
    refine q_get hx hb hts hinX6 hown hG hW hs0 rfl 4 (by decide) (hts (.fieldLink RX6 32 "FoleyMixer" "history" "LFoleyMixer$History;") (List.mem_of_getElem? (i := 4) rfl)) rfl rfl dX6_loud_44 ?_
    refine lv_aload_n hx hb dX6_loud_47 rfl (lv_at hl 2 rfl) ?_
    refine q_get hx hb hts hinX6 hown hG hW hs0 rfl 2 (by decide) (hts (.fieldLink RX6 23 "FoleyMixer" "now" "LFoleyMixer$Play;") (List.mem_of_getElem? (i := 3) rfl)) rfl rfl dX6_loud_48 ?_
    obtain ⟨mh9, a9, H9, gz9, hh9, hv2, hv3, hv4, hv5, hv6⟩ := id hhs
    refine q_W0 (va_runVN (As := [.ref (b + 2)]) (rest := []) ⟨hx, hb, hml, hown, hts⟩ (c_X2_push l hh9 hp1 (by omega) (by omega) (by omega) hex (by omega)) ⟨(va_cnB 1 hts gX6_loud_X2_push_n79 rfl rfl rfl (hG.nest 61 rfl) (hts (.initialized RX2) (List.mem_of_getElem? (i := 35) rfl)) (by decide +kernel) ⟨Nat.le_of_ble_eq_true rfl, Nat.le_of_ble_eq_true rfl⟩), (hts (.instanceMethod yX2_push) (List.mem_of_getElem? (i := 34) rfl)), (hts (.selects RX2 yX2_push yX2_push) (List.mem_of_getElem? (i := 36) rfl))⟩ (q_preV hG hW hS hh9.1 rfl) rfl rfl hl.1 rfl (lv_room (Nat.le_of_ble_eq_true rfl)) dX6_loud_51 ⟨Nat.le_of_ble_eq_true rfl, Nat.le_of_ble_eq_true rfl⟩) hS (fun w_51 H locs hp51 hW hS => ?_)
    replace hp51 := HS_push (by omega) hv2 hv3 hv4 hv5 hv6 (HS_le hhs) hp51
    obtain ⟨hhs, fr51⟩ := hp51
    replace hs0 : w_51 0 = some (sysO b) := (fr51 _ (by omega)).trans hs0
    replace hp1 : isPlay dA b w_51 2 P := hp1.fr (fun id9 h7 h8 => fr51 id9 (by omega))
    replace hbk : isBk dA b w_51 := hbk.fr (fun id9 h7 h8 => (fr51 id9 (by omega)))
    replace hsc : isScr dA b w_51 32 nc C := hsc.fr (fr51 _ (by omega)) (fr51 _ (by omega))
    replace hrd : ∃ R : Rd, isRdr dA b w_51 34 R := rdr_fr hrd (fun id9 h7 h8 => (fr51 id9 (by omega)))
    replace hex : ∃ e : va_E, w_51 (lo - 1) = some e := exw_fr hex (fr51 _ (by omega))
    obtain ⟨hq0, hq1, hq3, hoS, hq5⟩ := id hp1
    refine lv_aload hx hb dX6_loud_54 (lv_at hl 1 rfl) ?_
    refine lv_iload_n hx hb dX6_loud_56 rfl (lv_at hl 4 rfl) ?_
    refine lv_iconst (v := nI 2) hx hb dX6_loud_57 (by decide) ?_
    refine lv_iload_n hx hb dX6_loud_58 rfl (lv_at hl 5 rfl) ?_
    refine q_W0 (va_runVN (As := [.int (nI (i32n x)), .int (nI 2), .int (nI (i32n y))]) (rest := []) ⟨hx, hb, hml, hown, hts⟩ (c_change_V l hq3 (i32n x) (2) (i32n y) (by omega) (by omega) (by omega)) ⟨(va_cnB 3 hts gX6_loud_X1_change_n110 rfl rfl rfl (hG.nest 67 rfl) (hts (.initialized RX1) (List.mem_of_getElem? (i := 18) rfl)) (by decide +kernel) ⟨Nat.le_of_ble_eq_true rfl, Nat.le_of_ble_eq_true rfl⟩), (hts (.instanceMethod yX1_change) (List.mem_of_getElem? (i := 73) rfl)), (hts (.selects RX1 yX1_change yX1_change) (List.mem_of_getElem? (i := 74) rfl))⟩ (q_preV hG hW hS (isCues.obj (hp1).2.2.1) rfl) rfl rfl hl.1 rfl (lv_room (Nat.le_of_ble_eq_true rfl)) dX6_loud_59 ⟨Nat.le_of_ble_eq_true rfl, Nat.le_of_ble_eq_true rfl⟩) hS (fun w_59 H locs hp59 hW hS => ?_)
    obtain ⟨hq3, fr59⟩ := hp59
    replace hs0 : w_59 0 = some (sysO b) := (fr59 _ (by omega)).trans hs0
    replace hbk : isBk dA b w_59 := hbk.fr (fun id9 h7 h8 => (fr59 id9 (by omega)))
    replace hsc : isScr dA b w_59 32 nc C := hsc.fr (fr59 _ (by omega)) (fr59 _ (by omega))
    replace hrd : ∃ R : Rd, isRdr dA b w_59 34 R := rdr_fr hrd (fun id9 h7 h8 => (fr59 id9 (by omega)))
    replace hex : ∃ e : va_E, w_59 (lo - 1) = some e := exw_fr hex (fr59 _ (by omega))
    replace hhs : isHS dA b w_59 lo (pshN n) (psh n Hs P) SL := hhs.fr (fun id9 h7 => (fr59 id9 (by omega)))
    replace hq0 : w_59 2 = some (.inr (4, [.ref (b + (2 + 1)), .ref (b + (2 + 3)), .ref (b + (2 + 5))])) := (fr59 _ (by omega)).trans hq0
    replace hq1 : isCues dA b w_59 (2 + 1) 10 P.w P.W := hq1.fr (fr59 _ (by omega)) (fr59 _ (by omega))
    replace hq5 : w_59 (2 + 5) = some (eN dA 5 P.S) := (fr59 _ (by omega)).trans hq5
    refine lv_iload hx hb dX6_loud_62 (lv_at hl 0 rfl) ?_
    exact vx_ret (q_wi hx hb hr hlocks hW hS dX6_loud_64 (by rfl) (by exact ⟨⟨ho13, c_21⟩, ⟨hs0, ⟨hq0, hq1, hq3, hoS, hq5⟩, hbk, hhs, hsc, hrd, hlo, hex⟩, by intro id h8 h9; rw [fr59 id (by omega)]; rw [fr51 id (by omega)]; try rfl⟩) (by decide) (by decide))
  · skip
    have c_21 : ¬ (fitI 2 (y)) := pI_eq0.mp c_21
    exact q_thrS hx hb hl0 (by rw [hml]; exact hl.1) hxt hlocks hown hG hW hS (by decide +kernel) (hts (.classLink RX6 93 "java/lang/IllegalArgumentException") (List.mem_of_getElem? (i := 1) rfl)) (hts (.initialized "java/lang/IllegalArgumentException") (List.mem_of_getElem? (i := 2) rfl)) 5 0 rfl rfl ngA otA (fun w h => hts w (List.mem_cons_of_mem _ (List.mem_append_left _ (List.mem_append_right _ h)))) dX6_loud_24 dX6_loud_27 dX6_loud_28 dX6_loud_30 dX6_loud_33 (Nat.le_of_ble_eq_true rfl) (Nat.le_of_ble_eq_true rfl) (Nat.le_of_ble_eq_true rfl) (Nat.le_of_ble_eq_true rfl) (Nat.le_of_ble_eq_true rfl) (Nat.le_of_ble_eq_true rfl) (by exact ⟨Or.inr ⟨ho13, rfl, c_21⟩, rfl⟩)

set_option maxHeartbeats 300000 in
set_option maxRecDepth 100000 in
/-- shift -/
theorem c_X6_shift_f (l : Launch) (hl0 : l.stackTraces = false) {D : va_G} {dA : Nat → Nat} {b : Nat} {w : Wd} {lo n nc : Nat} {P : Pl} {Hs : Nat → Pl} {SL : Nat → Option Pl} {C : Nat → Nat} (hs : isSys dA b w lo (P, (n, Hs), SL, (nc, C))) (x y : Int32) : vx_Met l yX6_shift wsX6_shift ({ frames := 7, cells := 7, slots := 116, locals := 103 } : Room) (PC D dA b w [.ref (b + 0), .int (nI 0), .int (x), .int (y)]) (QW D b (some (.int (nI (P.N (i32n x) 0) + y))) (fun w' => ((0 ≤ x ∧ x < nI P.n) ∧ (-99 ≤ y ∧ y ≤ 99) ∧ fitI 0 (nI (P.N (i32n x) 0) + y)) ∧ isSys dA b w' lo ((P.w, P.W, P.n, setV P.N (i32n x) 0 (i32n (nI (P.N (i32n x) 0) + y)), P.S), (pshN n, psh n Hs P), SL, (nc, C)) ∧ ∀ id : Nat, 36 ≤ id → id < lo → w' id = w id)) (XW D b (fun E w' => ((E = IOE ∧ ¬ (0 ≤ x ∧ x < nI P.n)) ∨ ((0 ≤ x ∧ x < nI P.n) ∧ E = IAE ∧ ¬ ((-99 ≤ y ∧ y ≤ 99) ∧ fitI 0 (nI (P.N (i32n x) 0) + y)))) ∧ w' = w)) 7 116 (Fb b) := by
  refine q_ofX (cc := cX6_shift) (maxL := 6) (ret := (some .int)) (by decide) rfl rfl ?_
  intro p e s m args below meth c ls hx hb hr hml hts hown hlocks hxt hG hW hS hl
  have hown : s.vm.findClass RX6 = some m.cls := hown
  have hinX6 : ∀ w ∈ u_ws RX6 TX6 8, w ∈ wsX6_shift := fun w h => (goodIn_r (big := wsX6_shift) (u_ws RX6 TX6 8) [78, 79, 80, 81, 82, 83, 84, 85] (by decide +kernel) (by decide +kernel) w h).1
  have hl : lv_has ls 6 [(0, .ref (b + 0)), (1, .int (nI 0)), (2, .int (x)), (3, .int (y))] := hl
  obtain ⟨hs0, hp1, hbk, hhs, hsc, hrd, hlo, hex⟩ := id hs
  change isPlay dA b w 2 P at hp1
  change isHS dA b w lo n Hs SL at hhs
  change isScr dA b w 32 nc C at hsc
  have hP := hp1.ok
  have hn6 := HS_le hhs
  have hnc := hsc.2.2.1
  obtain ⟨hPw, hPn, hPW, hPN, hPS⟩ := id hP
  refine lv_aload_n hx hb dX6_shift_0 rfl (lv_at hl 0 rfl) ?_
  refine q_get hx hb hts hinX6 hown hG hW hs0 rfl 2 (by decide) (hts (.fieldLink RX6 23 "FoleyMixer" "now" "LFoleyMixer$Play;") (List.mem_of_getElem? (i := 3) rfl)) rfl rfl dX6_shift_1 ?_
  refine lv_iload_n hx hb dX6_shift_4 rfl (lv_at hl 1 rfl) ?_
  refine q_R1 (va_runVN (As := [.int (nI 0)]) (rest := []) ⟨hx, hb, hml, hown, hts⟩ (c_cuesOf_f l hp1) ⟨(va_cnB 1 hts gX6_shift_X4_cuesOf_n71 rfl rfl rfl (hG.nest 33 rfl) (hts (.initialized RX4) (List.mem_of_getElem? (i := 6) rfl)) (by decide +kernel) ⟨Nat.le_of_ble_eq_true rfl, Nat.le_of_ble_eq_true rfl⟩), (hts (.instanceMethod yX4_cuesOf) (List.mem_of_getElem? (i := 5) rfl)), (hts (.selects RX4 yX4_cuesOf yX4_cuesOf) (List.mem_of_getElem? (i := 7) rfl))⟩ (q_preV hG hW hS (hp1).1 rfl) rfl rfl hl.1 rfl (lv_room (Nat.le_of_ble_eq_true rfl)) dX6_shift_5 ⟨Nat.le_of_ble_eq_true rfl, Nat.le_of_ble_eq_true rfl⟩) ?_
  refine lv_astore (lv' := [(4, .ref (b + (2 + 3))), (0, .ref (b + 0)), (1, .int (nI 0)), (2, .int (x)), (3, .int (y))]) hx hb dX6_shift_8 hl (by decide) rfl (fun ls hl => ?_)
  refine lv_aload hx hb dX6_shift_10 (lv_at hl 0 rfl) ?_
  refine lv_iload_n hx hb dX6_shift_12 rfl (lv_at hl 3 rfl) ?_
  refine q_X0 (vx_runS (As := [.ref (b + (2 + 3)), .int (x)]) (rest := []) ⟨hx, hb, hml, hown, hts⟩ (c_X6_checkNumber l hl0 (hp1).2.2.1 (x)) (va_cwS 2 hts gX6_shift_X6_checkNumber rfl rfl rfl (by decide +kernel) ⟨Nat.le_of_ble_eq_true rfl, Nat.le_of_ble_eq_true rfl⟩) (q_preS hG hW hS) rfl rfl hl.1 rfl (lv_room (Nat.le_of_ble_eq_true rfl)) dX6_shift_13 ⟨Nat.le_of_ble_eq_true rfl, Nat.le_of_ble_eq_true rfl⟩) hS (fun E9 w9 H9 L9 q9 ce9 hpx hW9 hS9 hce hcv hcl => q_prop hxt hlocks hW9 hS9 hce hcv hcl (by exact ⟨Or.inl hpx.1, hpx.2⟩) (Nat.le_of_ble_eq_true rfl) (Nat.le_of_ble_eq_true rfl)) (fun w_13 H locs hp13 hW hS => ?_)
  obtain ⟨ho13, hw9⟩ := hp13
  replace hw9 := hw9.symm
  subst hw9
  refine lv_iload_n hx hb dX6_shift_16 rfl (lv_at hl 4 rfl) ?_
  refine lv_bipush (v := (-99)) hx hb dX6_shift_17 (by decide) ?_
  refine lv_icmp_lt (tgt := 28) hx hb dX6_shift_19 (by decide) (fun c_19 => ?_) (fun c_19 => ?_)
  · skip
    exact q_thrS hx hb hl0 (by rw [hml]; exact hl.1) hxt hlocks hown hG hW hS (by decide +kernel) (hts (.classLink RX6 93 "java/lang/IllegalArgumentException") (List.mem_of_getElem? (i := 1) rfl)) (hts (.initialized "java/lang/IllegalArgumentException") (List.mem_of_getElem? (i := 2) rfl)) 3 0 rfl rfl ngA otA (fun w h => hts w (List.mem_cons_of_mem _ (List.mem_append_left _ (List.mem_append_right _ h)))) dX6_shift_28 dX6_shift_31 dX6_shift_32 dX6_shift_34 dX6_shift_37 (Nat.le_of_ble_eq_true rfl) (Nat.le_of_ble_eq_true rfl) (Nat.le_of_ble_eq_true rfl) (Nat.le_of_ble_eq_true rfl) (Nat.le_of_ble_eq_true rfl) (Nat.le_of_ble_eq_true rfl) (by first | exact ⟨Or.inr ⟨ho13, rfl, fun q9 => absurd q9.1.1 (Int32.not_le.mpr c_19)⟩, rfl⟩ | exact ⟨Or.inr ⟨ho13, rfl, fun q9 => c_25 q9.1.2⟩, rfl⟩)
  · skip
    refine lv_iload_n hx hb dX6_shift_22 rfl (lv_at hl 4 rfl) ?_
    refine lv_bipush (v := nI 99) hx hb dX6_shift_23 (by decide) ?_
    refine lv_icmp_le (tgt := 38) hx hb dX6_shift_25 (by decide) (fun c_25 => ?_) (fun c_25 => ?_)
    · skip
      obtain ⟨ex9, bx9⟩ := has_n (by omega) ho13.1 ho13.2
      have el_38 : x = nI (i32n x) := by exact ex9
      rw [el_38] at hl
      refine lv_aload hx hb dX6_shift_38 (lv_at hl 0 rfl) ?_
      refine lv_iload_n hx hb dX6_shift_40 rfl (lv_at hl 3 rfl) ?_
      refine lv_iconst (v := nI 0) hx hb dX6_shift_41 (by decide) ?_
      refine q_R1 (va_runVN (As := [.int (nI (i32n x)), .int (nI 0)]) (rest := []) ⟨hx, hb, hml, hown, hts⟩ (c_X1_numberOf l (hp1).2.2.1 (i32n x) (0) (by omega) (by omega)) ⟨(va_cnB 2 hts gX6_shift_X1_numberOf_n100 rfl rfl rfl (hG.nest 58 rfl) (hts (.initialized RX1) (List.mem_of_getElem? (i := 18) rfl)) (by decide +kernel) ⟨Nat.le_of_ble_eq_true rfl, Nat.le_of_ble_eq_true rfl⟩), (hts (.instanceMethod yX1_numberOf) (List.mem_of_getElem? (i := 22) rfl)), (hts (.selects RX1 yX1_numberOf yX1_numberOf) (List.mem_of_getElem? (i := 23) rfl))⟩ (q_preV hG hW hS (isCues.obj (hp1).2.2.1) rfl) rfl rfl hl.1 rfl (lv_room (Nat.le_of_ble_eq_true rfl)) dX6_shift_42 ⟨Nat.le_of_ble_eq_true rfl, Nat.le_of_ble_eq_true rfl⟩) ?_
      have q_42 := (hp1).2.2.1.2.2.2.1 (i32n x) (by omega)
      refine lv_iload_n hx hb dX6_shift_45 rfl (lv_at hl 4 rfl) ?_
      refine lv_iadd hx hb dX6_shift_46 ?_
      refine lv_istore (lv' := [(5, .int ((nI (P.N (i32n x) 0)) + y)), (4, .ref (b + (2 + 3))), (0, .ref (b + 0)), (1, .int (nI 0)), (2, .int (nI (i32n x))), (3, .int (y))]) hx hb dX6_shift_47 hl (by decide) rfl (fun ls hl => ?_)
      refine lv_iconst (v := nI 0) hx hb dX6_shift_49 (by decide) ?_
      refine lv_iload hx hb dX6_shift_50 (lv_at hl 0 rfl) ?_
      refine q_R1 (va_runS (As := [.int (nI 0), .int ((nI (P.N (i32n x) 0)) + y)]) (rest := []) ⟨hx, hb, hml, hown, hts⟩ (c_X6_fitsCue l (0) (by omega) ((nI (P.N (i32n x) 0)) + y)) (va_cwS 2 hts gX6_shift_X6_fitsCue rfl rfl rfl (by decide +kernel) ⟨Nat.le_of_ble_eq_true rfl, Nat.le_of_ble_eq_true rfl⟩) (q_preS hG hW hS) rfl rfl hl.1 rfl (lv_room (Nat.le_of_ble_eq_true rfl)) dX6_shift_52 ⟨Nat.le_of_ble_eq_true rfl, Nat.le_of_ble_eq_true rfl⟩) ?_
      refine lv_if_ne (tgt := 68) hx hb dX6_shift_55 (by decide) (fun c_55 => ?_) (fun c_55 => ?_)
      · skip
        have c_55 : fitI 0 ((nI (P.N (i32n x) 0)) + y) := Decidable.byContradiction (fun h__ => c_55 (pI_eq0.mpr h__))
        have ey9 := (fitI_i32n (by omega) c_55).1
        have hb9 := (fitI_i32n (by omega) c_55).2
        have hb8 : cHi 0 = 99 := rfl
        have hb7 : cLo 0 = 0 := rfl
        have el_68 : (nI (P.N (i32n x) 0)) + y = nI (i32n (nI (P.N (i32n x) 0) + y)) := by exact ey9
        rw [el_68] at hl
        refine lv_aload_n hx hb dX6_shift_68 rfl (lv_at hl 2 rfl) ?_
        refine q_get hx hb hts hinX6 hown hG hW hs0 rfl 4 (by decide) (hts (.fieldLink RX6 32 "FoleyMixer" "history" "LFoleyMixer$History;") (List.mem_of_getElem? (i := 4) rfl)) rfl rfl dX6_shift_69 ?_
        refine lv_aload_n hx hb dX6_shift_72 rfl (lv_at hl 2 rfl) ?_
        refine q_get hx hb hts hinX6 hown hG hW hs0 rfl 2 (by decide) (hts (.fieldLink RX6 23 "FoleyMixer" "now" "LFoleyMixer$Play;") (List.mem_of_getElem? (i := 3) rfl)) rfl rfl dX6_shift_73 ?_
        obtain ⟨mh9, a9, H9, gz9, hh9, hv2, hv3, hv4, hv5, hv6⟩ := id hhs
        refine q_W0 (va_runVN (As := [.ref (b + 2)]) (rest := []) ⟨hx, hb, hml, hown, hts⟩ (c_X2_push l hh9 hp1 (by omega) (by omega) (by omega) hex (by omega)) ⟨(va_cnB 1 hts gX6_shift_X2_push_n79 rfl rfl rfl (hG.nest 61 rfl) (hts (.initialized RX2) (List.mem_of_getElem? (i := 35) rfl)) (by decide +kernel) ⟨Nat.le_of_ble_eq_true rfl, Nat.le_of_ble_eq_true rfl⟩), (hts (.instanceMethod yX2_push) (List.mem_of_getElem? (i := 34) rfl)), (hts (.selects RX2 yX2_push yX2_push) (List.mem_of_getElem? (i := 36) rfl))⟩ (q_preV hG hW hS hh9.1 rfl) rfl rfl hl.1 rfl (lv_room (Nat.le_of_ble_eq_true rfl)) dX6_shift_76 ⟨Nat.le_of_ble_eq_true rfl, Nat.le_of_ble_eq_true rfl⟩) hS (fun w_76 H locs hp76 hW hS => ?_)
        replace hp76 := HS_push (by omega) hv2 hv3 hv4 hv5 hv6 (HS_le hhs) hp76
        obtain ⟨hhs, fr76⟩ := hp76
        replace hs0 : w_76 0 = some (sysO b) := (fr76 _ (by omega)).trans hs0
        replace hp1 : isPlay dA b w_76 2 P := hp1.fr (fun id9 h7 h8 => fr76 id9 (by omega))
        replace hbk : isBk dA b w_76 := hbk.fr (fun id9 h7 h8 => (fr76 id9 (by omega)))
        replace hsc : isScr dA b w_76 32 nc C := hsc.fr (fr76 _ (by omega)) (fr76 _ (by omega))
        replace hrd : ∃ R : Rd, isRdr dA b w_76 34 R := rdr_fr hrd (fun id9 h7 h8 => (fr76 id9 (by omega)))
        replace hex : ∃ e : va_E, w_76 (lo - 1) = some e := exw_fr hex (fr76 _ (by omega))
        obtain ⟨hq0, hq1, hq3, hoS, hq5⟩ := id hp1
        refine lv_aload hx hb dX6_shift_79 (lv_at hl 1 rfl) ?_
        refine lv_iload_n hx hb dX6_shift_81 rfl (lv_at hl 4 rfl) ?_
        refine lv_iconst (v := nI 0) hx hb dX6_shift_82 (by decide) ?_
        refine lv_iload hx hb dX6_shift_83 (lv_at hl 0 rfl) ?_
        refine q_W0 (va_runVN (As := [.int (nI (i32n x)), .int (nI 0), .int (nI (i32n (nI (P.N (i32n x) 0) + y)))]) (rest := []) ⟨hx, hb, hml, hown, hts⟩ (c_change_V l hq3 (i32n x) (0) (i32n (nI (P.N (i32n x) 0) + y)) (by omega) (by omega) (by omega)) ⟨(va_cnB 3 hts gX6_shift_X1_change_n110 rfl rfl rfl (hG.nest 67 rfl) (hts (.initialized RX1) (List.mem_of_getElem? (i := 18) rfl)) (by decide +kernel) ⟨Nat.le_of_ble_eq_true rfl, Nat.le_of_ble_eq_true rfl⟩), (hts (.instanceMethod yX1_change) (List.mem_of_getElem? (i := 73) rfl)), (hts (.selects RX1 yX1_change yX1_change) (List.mem_of_getElem? (i := 74) rfl))⟩ (q_preV hG hW hS (isCues.obj (hp1).2.2.1) rfl) rfl rfl hl.1 rfl (lv_room (Nat.le_of_ble_eq_true rfl)) dX6_shift_85 ⟨Nat.le_of_ble_eq_true rfl, Nat.le_of_ble_eq_true rfl⟩) hS (fun w_85 H locs hp85 hW hS => ?_)
        obtain ⟨hq3, fr85⟩ := hp85
        replace hs0 : w_85 0 = some (sysO b) := (fr85 _ (by omega)).trans hs0
        replace hbk : isBk dA b w_85 := hbk.fr (fun id9 h7 h8 => (fr85 id9 (by omega)))
        replace hsc : isScr dA b w_85 32 nc C := hsc.fr (fr85 _ (by omega)) (fr85 _ (by omega))
        replace hrd : ∃ R : Rd, isRdr dA b w_85 34 R := rdr_fr hrd (fun id9 h7 h8 => (fr85 id9 (by omega)))
        replace hex : ∃ e : va_E, w_85 (lo - 1) = some e := exw_fr hex (fr85 _ (by omega))
        replace hhs : isHS dA b w_85 lo (pshN n) (psh n Hs P) SL := hhs.fr (fun id9 h7 => (fr85 id9 (by omega)))
        replace hq0 : w_85 2 = some (.inr (4, [.ref (b + (2 + 1)), .ref (b + (2 + 3)), .ref (b + (2 + 5))])) := (fr85 _ (by omega)).trans hq0
        replace hq1 : isCues dA b w_85 (2 + 1) 10 P.w P.W := hq1.fr (fr85 _ (by omega)) (fr85 _ (by omega))
        replace hq5 : w_85 (2 + 5) = some (eN dA 5 P.S) := (fr85 _ (by omega)).trans hq5
        refine lv_iload hx hb dX6_shift_88 (lv_at hl 0 rfl) ?_
        exact vx_ret (q_wi hx hb hr hlocks hW hS dX6_shift_90 (by exact ey9.symm) (by exact ⟨⟨ho13, ⟨Int32.not_lt.mp c_19, c_25⟩, c_55⟩, ⟨hs0, ⟨hq0, hq1, hq3, hoS, hq5⟩, hbk, hhs, hsc, hrd, hlo, hex⟩, by intro id h8 h9; rw [fr85 id (by omega)]; rw [fr76 id (by omega)]; try rfl⟩) (by decide) (by decide))
      · skip
        have c_55 : ¬ (fitI 0 ((nI (P.N (i32n x) 0)) + y)) := pI_eq0.mp c_55
        exact q_thrS hx hb hl0 (by rw [hml]; exact hl.1) hxt hlocks hown hG hW hS (by decide +kernel) (hts (.classLink RX6 93 "java/lang/IllegalArgumentException") (List.mem_of_getElem? (i := 1) rfl)) (hts (.initialized "java/lang/IllegalArgumentException") (List.mem_of_getElem? (i := 2) rfl)) 4 0 rfl rfl ngA otA (fun w h => hts w (List.mem_cons_of_mem _ (List.mem_append_left _ (List.mem_append_right _ h)))) dX6_shift_58 dX6_shift_61 dX6_shift_62 dX6_shift_64 dX6_shift_67 (Nat.le_of_ble_eq_true rfl) (Nat.le_of_ble_eq_true rfl) (Nat.le_of_ble_eq_true rfl) (Nat.le_of_ble_eq_true rfl) (Nat.le_of_ble_eq_true rfl) (Nat.le_of_ble_eq_true rfl) (by exact ⟨Or.inr ⟨ho13, rfl, fun q9 => c_55 q9.2⟩, rfl⟩)
    · skip
      exact q_thrS hx hb hl0 (by rw [hml]; exact hl.1) hxt hlocks hown hG hW hS (by decide +kernel) (hts (.classLink RX6 93 "java/lang/IllegalArgumentException") (List.mem_of_getElem? (i := 1) rfl)) (hts (.initialized "java/lang/IllegalArgumentException") (List.mem_of_getElem? (i := 2) rfl)) 3 0 rfl rfl ngA otA (fun w h => hts w (List.mem_cons_of_mem _ (List.mem_append_left _ (List.mem_append_right _ h)))) dX6_shift_28 dX6_shift_31 dX6_shift_32 dX6_shift_34 dX6_shift_37 (Nat.le_of_ble_eq_true rfl) (Nat.le_of_ble_eq_true rfl) (Nat.le_of_ble_eq_true rfl) (Nat.le_of_ble_eq_true rfl) (Nat.le_of_ble_eq_true rfl) (Nat.le_of_ble_eq_true rfl) (by first | exact ⟨Or.inr ⟨ho13, rfl, fun q9 => absurd q9.1.1 (Int32.not_le.mpr c_19)⟩, rfl⟩ | exact ⟨Or.inr ⟨ho13, rfl, fun q9 => c_25 q9.1.2⟩, rfl⟩)

set_option maxHeartbeats 300000 in
set_option maxRecDepth 100000 in
/-- append -/
theorem c_X6_append (l : Launch) (hl0 : l.stackTraces = false) {D : va_G} {dA : Nat → Nat} {b : Nat} {w : Wd} {lo n nc : Nat} {P : Pl} {Hs : Nat → Pl} {SL : Nat → Option Pl} {C : Nat → Nat} (hs : isSys dA b w lo (P, (n, Hs), SL, (nc, C))) (x : Int32) : vx_Met l yX6_append wsX6_append ({ frames := 6, cells := 1, slots := 6, locals := 82 } : Room) (PC D dA b w [.ref (b + 0), .int (x)]) (QW D b (some (.int (nI (nc + 1)))) (fun w' => ((33 ≤ x ∧ x ≤ 126) ∧ nc < 80) ∧ isSys dA b w' lo (P, (n, Hs), SL, (nc + 1, va_up C nc (i32n x))) ∧ ∀ id : Nat, 36 ≤ id → id < lo → w' id = w id)) (XW D b (fun E w' => ((E = IAE ∧ ¬ (33 ≤ x ∧ x ≤ 126)) ∨ ((33 ≤ x ∧ x ≤ 126) ∧ E = ISE ∧ 80 ≤ nc)) ∧ w' = w)) 1 6 (Fb b) := by
  refine q_ofX (cc := cX6_append) (maxL := 2) (ret := (some .int)) (by decide) rfl rfl ?_
  intro p e s m args below meth c ls hx hb hr hml hts hown hlocks hxt hG hW hS hl
  have hown : s.vm.findClass RX6 = some m.cls := hown
  have hinX6 : ∀ w ∈ u_ws RX6 TX6 8, w ∈ wsX6_append := fun w h => (goodIn_r (big := wsX6_append) (u_ws RX6 TX6 8) [18, 19, 20, 21, 22, 23, 24, 25] (by decide +kernel) (by decide +kernel) w h).1
  have hl : lv_has ls 2 [(0, .ref (b + 0)), (1, .int (x))] := hl
  obtain ⟨hs0, hp1, hbk, hhs, hsc, hrd, hlo, hex⟩ := id hs
  change isPlay dA b w 2 P at hp1
  change isHS dA b w lo n Hs SL at hhs
  change isScr dA b w 32 nc C at hsc
  have hP := hp1.ok
  have hn6 := HS_le hhs
  have hnc := hsc.2.2.1
  obtain ⟨hPw, hPn, hPW, hPN, hPS⟩ := id hP
  refine lv_iload_n hx hb dX6_append_0 rfl (lv_at hl 1 rfl) ?_
  refine lv_bipush (v := nI 33) hx hb dX6_append_1 (by decide) ?_
  refine lv_icmp_lt (tgt := 12) hx hb dX6_append_3 (by decide) (fun c_3 => ?_) (fun c_3 => ?_)
  · skip
    exact q_thrS hx hb hl0 (by rw [hml]; exact hl.1) hxt hlocks hown hG hW hS (by decide +kernel) (hts (.classLink RX6 93 "java/lang/IllegalArgumentException") (List.mem_of_getElem? (i := 1) rfl)) (hts (.initialized "java/lang/IllegalArgumentException") (List.mem_of_getElem? (i := 2) rfl)) 8 0 rfl rfl ngA otA (fun w h => hts w (List.mem_cons_of_mem _ (List.mem_append_left _ (List.mem_append_right _ h)))) dX6_append_12 dX6_append_15 dX6_append_16 dX6_append_18 dX6_append_21 (Nat.le_of_ble_eq_true rfl) (Nat.le_of_ble_eq_true rfl) (Nat.le_of_ble_eq_true rfl) (Nat.le_of_ble_eq_true rfl) (Nat.le_of_ble_eq_true rfl) (Nat.le_of_ble_eq_true rfl) (by first | exact ⟨Or.inl ⟨rfl, fun q9 => absurd q9.1 (Int32.not_le.mpr c_3)⟩, rfl⟩ | exact ⟨Or.inl ⟨rfl, fun q9 => c_9 q9.2⟩, rfl⟩)
  · skip
    refine lv_iload_n hx hb dX6_append_6 rfl (lv_at hl 1 rfl) ?_
    refine lv_bipush (v := nI 126) hx hb dX6_append_7 (by decide) ?_
    refine lv_icmp_le (tgt := 22) hx hb dX6_append_9 (by decide) (fun c_9 => ?_) (fun c_9 => ?_)
    · skip
      have ho9 : 33 ≤ x ∧ x ≤ 126 := ⟨Int32.not_lt.mp c_3, c_9⟩
      obtain ⟨ex9, bx9⟩ := code_n ho9
      have el_22 : x = nI (i32n x) := by exact ex9
      rw [el_22] at hl
      refine lv_aload_n hx hb dX6_append_22 rfl (lv_at hl 0 rfl) ?_
      refine q_get hx hb hts hinX6 hown hG hW hs0 rfl 6 (by decide) (hts (.fieldLink RX6 45 "FoleyMixer" "script" "LFoleyMixer$Script;") (List.mem_of_getElem? (i := 5) rfl)) rfl rfl dX6_append_23 ?_
      refine q_R1 (va_runVN (As := []) (rest := []) ⟨hx, hb, hml, hown, hts⟩ (c_X5_isFull l hsc) ⟨(va_cnB 0 hts gX6_append_X5_isFull_n127 rfl rfl rfl (hG.nest 69 rfl) (hts (.initialized RX5) (List.mem_of_getElem? (i := 7) rfl)) (by decide +kernel) ⟨Nat.le_of_ble_eq_true rfl, Nat.le_of_ble_eq_true rfl⟩), (hts (.instanceMethod yX5_isFull) (List.mem_of_getElem? (i := 6) rfl)), (hts (.selects RX5 yX5_isFull yX5_isFull) (List.mem_of_getElem? (i := 8) rfl))⟩ (q_preV hG hW hS (hsc).1 rfl) rfl rfl hl.1 rfl (lv_room (Nat.le_of_ble_eq_true rfl)) dX6_append_26 ⟨Nat.le_of_ble_eq_true rfl, Nat.le_of_ble_eq_true rfl⟩) ?_
      refine lv_if_eq (tgt := 42) hx hb dX6_append_29 (by decide) (fun c_29 => ?_) (fun c_29 => ?_)
      · skip
        have c_29 : ¬ (80 ≤ nc) := pI_eq0.mp c_29
        refine lv_aload_n hx hb dX6_append_42 rfl (lv_at hl 0 rfl) ?_
        refine q_get hx hb hts hinX6 hown hG hW hs0 rfl 6 (by decide) (hts (.fieldLink RX6 45 "FoleyMixer" "script" "LFoleyMixer$Script;") (List.mem_of_getElem? (i := 5) rfl)) rfl rfl dX6_append_43 ?_
        refine lv_iload_n hx hb dX6_append_46 rfl (lv_at hl 1 rfl) ?_
        refine q_W0 (va_runVN (As := [.int (nI (i32n x))]) (rest := []) ⟨hx, hb, hml, hown, hts⟩ (c_X5_add l hsc (i32n x) (by omega) (by omega)) ⟨(va_cnB 1 hts gX6_append_X5_add_n136 rfl rfl rfl (hG.nest 70 rfl) (hts (.initialized RX5) (List.mem_of_getElem? (i := 7) rfl)) (by decide +kernel) ⟨Nat.le_of_ble_eq_true rfl, Nat.le_of_ble_eq_true rfl⟩), (hts (.instanceMethod yX5_add) (List.mem_of_getElem? (i := 12) rfl)), (hts (.selects RX5 yX5_add yX5_add) (List.mem_of_getElem? (i := 13) rfl))⟩ (q_preV hG hW hS (hsc).1 rfl) rfl rfl hl.1 rfl (lv_room (Nat.le_of_ble_eq_true rfl)) dX6_append_47 ⟨Nat.le_of_ble_eq_true rfl, Nat.le_of_ble_eq_true rfl⟩) hS (fun w_47 H locs hp47 hW hS => ?_)
        obtain ⟨hsc, fr47⟩ := hp47
        replace hs0 : w_47 0 = some (sysO b) := (fr47 _ (by omega) (by omega)).trans hs0
        replace hp1 : isPlay dA b w_47 2 P := hp1.fr (fun id9 h7 h8 => fr47 id9 (by omega) (by omega))
        replace hbk : isBk dA b w_47 := hbk.fr (fun id9 h7 h8 => (fr47 id9 (by omega) (by omega)))
        replace hhs : isHS dA b w_47 lo n Hs SL := hhs.fr (fun id9 h7 => (fr47 id9 (by omega) (by omega)))
        replace hrd : ∃ R : Rd, isRdr dA b w_47 34 R := rdr_fr hrd (fun id9 h7 h8 => (fr47 id9 (by omega) (by omega)))
        replace hex : ∃ e : va_E, w_47 (lo - 1) = some e := exw_fr hex (fr47 _ (by omega) (by omega))
        refine lv_aload_n hx hb dX6_append_50 rfl (lv_at hl 0 rfl) ?_
        refine q_get hx hb hts hinX6 hown hG hW hs0 rfl 6 (by decide) (hts (.fieldLink RX6 45 "FoleyMixer" "script" "LFoleyMixer$Script;") (List.mem_of_getElem? (i := 5) rfl)) rfl rfl dX6_append_51 ?_
        refine q_R1 (va_runVN (As := []) (rest := []) ⟨hx, hb, hml, hown, hts⟩ (c_X5_size l hsc) ⟨(va_cnB 0 hts gX6_append_X5_size_n139 rfl rfl rfl (hG.nest 23 rfl) (hts (.initialized RX5) (List.mem_of_getElem? (i := 7) rfl)) (by decide +kernel) ⟨Nat.le_of_ble_eq_true rfl, Nat.le_of_ble_eq_true rfl⟩), (hts (.instanceMethod yX5_size) (List.mem_of_getElem? (i := 15) rfl)), (hts (.selects RX5 yX5_size yX5_size) (List.mem_of_getElem? (i := 16) rfl))⟩ (q_preV hG hW hS (hsc).1 rfl) rfl rfl hl.1 rfl (lv_room (Nat.le_of_ble_eq_true rfl)) dX6_append_54 ⟨Nat.le_of_ble_eq_true rfl, Nat.le_of_ble_eq_true rfl⟩) ?_
        exact vx_ret (q_wi hx hb hr hlocks hW hS dX6_append_57 (by rfl) (by exact ⟨⟨ho9, by omega⟩, ⟨hs0, hp1, hbk, hhs, hsc, hrd, hlo, hex⟩, by intro id h8 h9; rw [fr47 id (by omega) (by omega)]; try rfl⟩) (by decide) (by decide))
      · skip
        have c_29 : 80 ≤ nc := Decidable.byContradiction (fun h__ => c_29 (pI_eq0.mpr h__))
        exact q_thrS hx hb hl0 (by rw [hml]; exact hl.1) hxt hlocks hown hG hW hS (by decide +kernel) (hts (.classLink RX6 131 "java/lang/IllegalStateException") (List.mem_of_getElem? (i := 3) rfl)) (hts (.initialized "java/lang/IllegalStateException") (List.mem_of_getElem? (i := 4) rfl)) 9 1 rfl rfl ngS otS (fun w h => hts w (List.mem_cons_of_mem _ (List.mem_append_right _ h))) dX6_append_32 dX6_append_35 dX6_append_36 dX6_append_38 dX6_append_41 (Nat.le_of_ble_eq_true rfl) (Nat.le_of_ble_eq_true rfl) (Nat.le_of_ble_eq_true rfl) (Nat.le_of_ble_eq_true rfl) (Nat.le_of_ble_eq_true rfl) (Nat.le_of_ble_eq_true rfl) (by exact ⟨Or.inr ⟨ho9, rfl, c_29⟩, rfl⟩)
    · skip
      exact q_thrS hx hb hl0 (by rw [hml]; exact hl.1) hxt hlocks hown hG hW hS (by decide +kernel) (hts (.classLink RX6 93 "java/lang/IllegalArgumentException") (List.mem_of_getElem? (i := 1) rfl)) (hts (.initialized "java/lang/IllegalArgumentException") (List.mem_of_getElem? (i := 2) rfl)) 8 0 rfl rfl ngA otA (fun w h => hts w (List.mem_cons_of_mem _ (List.mem_append_left _ (List.mem_append_right _ h)))) dX6_append_12 dX6_append_15 dX6_append_16 dX6_append_18 dX6_append_21 (Nat.le_of_ble_eq_true rfl) (Nat.le_of_ble_eq_true rfl) (Nat.le_of_ble_eq_true rfl) (Nat.le_of_ble_eq_true rfl) (Nat.le_of_ble_eq_true rfl) (Nat.le_of_ble_eq_true rfl) (by first | exact ⟨Or.inl ⟨rfl, fun q9 => absurd q9.1 (Int32.not_le.mpr c_3)⟩, rfl⟩ | exact ⟨Or.inl ⟨rfl, fun q9 => c_9 q9.2⟩, rfl⟩)

set_option maxHeartbeats 300000 in
set_option maxRecDepth 100000 in
/-- clearBuffer -/
theorem c_X6_clearBuffer (l : Launch) {D : va_G} {dA : Nat → Nat} {b : Nat} {w : Wd} {lo n nc : Nat} {P : Pl} {Hs : Nat → Pl} {SL : Nat → Option Pl} {C : Nat → Nat} (hs : isSys dA b w lo (P, (n, Hs), SL, (nc, C))) : Met l yX6_clearBuffer wsX6_clearBuffer ({ frames := 1, cells := 0, slots := 0, locals := 20 } : Room) (PC D dA b w [.ref (b + 0)]) (QW D b (some (.int (nI nc))) (fun w' => isSys dA b w' lo (P, (n, Hs), SL, (0, C)) ∧ ∀ id : Nat, 36 ≤ id → id < lo → w' id = w id)) 0 0 (Fb b) := by
  refine q_of (cc := cX6_clearBuffer) (maxL := 2) (ret := (some .int)) (by decide) rfl rfl ?_
  intro p e s m args below meth c ls hx hb hr hml hts hown hlocks hG hW hS hl
  have hown : s.vm.findClass RX6 = some m.cls := hown
  have hinX6 : ∀ w ∈ u_ws RX6 TX6 8, w ∈ wsX6_clearBuffer := fun w h => (goodIn_r (big := wsX6_clearBuffer) (u_ws RX6 TX6 8) [10, 11, 12, 13, 14, 15, 16, 17] (by decide +kernel) (by decide +kernel) w h).1
  have hl : lv_has ls 2 [(0, .ref (b + 0))] := hl
  obtain ⟨hs0, hp1, hbk, hhs, hsc, hrd, hlo, hex⟩ := id hs
  change isPlay dA b w 2 P at hp1
  change isHS dA b w lo n Hs SL at hhs
  change isScr dA b w 32 nc C at hsc
  have hP := hp1.ok
  have hn6 := HS_le hhs
  have hnc := hsc.2.2.1
  obtain ⟨hPw, hPn, hPW, hPN, hPS⟩ := id hP
  refine lv_aload_n hx hb dX6_clearBuffer_0 rfl (lv_at hl 0 rfl) ?_
  refine q_get hx hb hts hinX6 hown hG hW hs0 rfl 6 (by decide) (hts (.fieldLink RX6 45 "FoleyMixer" "script" "LFoleyMixer$Script;") (List.mem_of_getElem? (i := 1) rfl)) rfl rfl dX6_clearBuffer_1 ?_
  refine q_R1 (va_runVN (As := []) (rest := []) ⟨hx, hb, hml, hown, hts⟩ (c_X5_size l hsc) ⟨(va_cnB 0 hts gX6_clearBuffer_X5_size_n139 rfl rfl rfl (hG.nest 23 rfl) (hts (.initialized RX5) (List.mem_of_getElem? (i := 3) rfl)) (by decide +kernel) ⟨Nat.le_of_ble_eq_true rfl, Nat.le_of_ble_eq_true rfl⟩), (hts (.instanceMethod yX5_size) (List.mem_of_getElem? (i := 2) rfl)), (hts (.selects RX5 yX5_size yX5_size) (List.mem_of_getElem? (i := 4) rfl))⟩ (q_preV hG hW hS (hsc).1 rfl) rfl rfl hl.1 rfl (lv_room (Nat.le_of_ble_eq_true rfl)) dX6_clearBuffer_4 ⟨Nat.le_of_ble_eq_true rfl, Nat.le_of_ble_eq_true rfl⟩) ?_
  refine lv_istore_n (lv' := [(1, .int (nI nc)), (0, .ref (b + 0))]) hx hb dX6_clearBuffer_7 rfl hl (by decide) rfl (fun ls hl => ?_)
  refine lv_aload_n hx hb dX6_clearBuffer_8 rfl (lv_at hl 1 rfl) ?_
  refine q_get hx hb hts hinX6 hown hG hW hs0 rfl 6 (by decide) (hts (.fieldLink RX6 45 "FoleyMixer" "script" "LFoleyMixer$Script;") (List.mem_of_getElem? (i := 1) rfl)) rfl rfl dX6_clearBuffer_9 ?_
  refine q_W0 (va_runVN (As := []) (rest := []) ⟨hx, hb, hml, hown, hts⟩ (c_X5_clear l hsc) ⟨(va_cnB 0 hts gX6_clearBuffer_X5_clear_n140 rfl rfl rfl (hG.nest 24 rfl) (hts (.initialized RX5) (List.mem_of_getElem? (i := 3) rfl)) (by decide +kernel) ⟨Nat.le_of_ble_eq_true rfl, Nat.le_of_ble_eq_true rfl⟩), (hts (.instanceMethod yX5_clear) (List.mem_of_getElem? (i := 7) rfl)), (hts (.selects RX5 yX5_clear yX5_clear) (List.mem_of_getElem? (i := 8) rfl))⟩ (q_preV hG hW hS (hsc).1 rfl) rfl rfl hl.1 rfl (lv_room (Nat.le_of_ble_eq_true rfl)) dX6_clearBuffer_12 ⟨Nat.le_of_ble_eq_true rfl, Nat.le_of_ble_eq_true rfl⟩) hS (fun w_12 H locs hp12 hW hS => ?_)
  obtain ⟨hsc, fr12⟩ := hp12
  replace hs0 : w_12 0 = some (sysO b) := (fr12 _ (by omega)).trans hs0
  replace hp1 : isPlay dA b w_12 2 P := hp1.fr (fun id9 h7 h8 => fr12 id9 (by omega))
  replace hbk : isBk dA b w_12 := hbk.fr (fun id9 h7 h8 => (fr12 id9 (by omega)))
  replace hhs : isHS dA b w_12 lo n Hs SL := hhs.fr (fun id9 h7 => (fr12 id9 (by omega)))
  replace hrd : ∃ R : Rd, isRdr dA b w_12 34 R := rdr_fr hrd (fun id9 h7 h8 => (fr12 id9 (by omega)))
  replace hex : ∃ e : va_E, w_12 (lo - 1) = some e := exw_fr hex (fr12 _ (by omega))
  refine lv_iload_n hx hb dX6_clearBuffer_15 rfl (lv_at hl 0 rfl) ?_
  exact q_wi hx hb hr hlocks hW hS dX6_clearBuffer_16 (by rfl) (by exact ⟨⟨hs0, hp1, hbk, hhs, hsc, hrd, hlo, hex⟩, by intro id h8 h9; rw [fr12 id (by omega)]; try rfl⟩) (by decide) (by decide)

set_option maxHeartbeats 300000 in
set_option maxRecDepth 100000 in
/-- charAt -/
theorem c_X6_charAt (l : Launch) (hl0 : l.stackTraces = false) {D : va_G} {dA : Nat → Nat} {b : Nat} {w : Wd} {lo n nc : Nat} {P : Pl} {Hs : Nat → Pl} {SL : Nat → Option Pl} {C : Nat → Nat} (hs : isSys dA b w lo (P, (n, Hs), SL, (nc, C))) (x : Int32) : vx_Met l yX6_charAt wsX6_charAt ({ frames := 6, cells := 1, slots := 6, locals := 82 } : Room) (PC D dA b w [.ref (b + 0), .int (x)]) (QW D b (some (.int (oI (cAt nc C (i32n x))))) (fun w' => 0 ≤ x ∧ w' = w)) (XW D b (fun E w' => (E = IAE ∧ ¬ 0 ≤ x) ∧ w' = w)) 1 6 (Fb b) := by
  refine q_ofX (cc := cX6_charAt) (maxL := 2) (ret := (some .int)) (by decide) rfl rfl ?_
  intro p e s m args below meth c ls hx hb hr hml hts hown hlocks hxt hG hW hS hl
  have hown : s.vm.findClass RX6 = some m.cls := hown
  have hinX6 : ∀ w ∈ u_ws RX6 TX6 8, w ∈ wsX6_charAt := fun w h => (goodIn_r (big := wsX6_charAt) (u_ws RX6 TX6 8) [13, 14, 15, 16, 17, 18, 19, 20] (by decide +kernel) (by decide +kernel) w h).1
  have hl : lv_has ls 2 [(0, .ref (b + 0)), (1, .int (x))] := hl
  obtain ⟨hs0, hp1, hbk, hhs, hsc, hrd, hlo, hex⟩ := id hs
  change isPlay dA b w 2 P at hp1
  change isHS dA b w lo n Hs SL at hhs
  change isScr dA b w 32 nc C at hsc
  have hP := hp1.ok
  have hn6 := HS_le hhs
  have hnc := hsc.2.2.1
  obtain ⟨hPw, hPn, hPW, hPN, hPS⟩ := id hP
  refine lv_iload_n hx hb dX6_charAt_0 rfl (lv_at hl 1 rfl) ?_
  refine lv_if_ge (tgt := 14) hx hb dX6_charAt_1 (by decide) (fun c_1 => ?_) (fun c_1 => ?_)
  · skip
    have bx9 := i32n_lt x
    have el_14 : x = nI (i32n x) := by exact i32n_of c_1
    rw [el_14] at hl
    refine lv_aload_n hx hb dX6_charAt_14 rfl (lv_at hl 0 rfl) ?_
    refine q_get hx hb hts hinX6 hown hG hW hs0 rfl 6 (by decide) (hts (.fieldLink RX6 45 "FoleyMixer" "script" "LFoleyMixer$Script;") (List.mem_of_getElem? (i := 3) rfl)) rfl rfl dX6_charAt_15 ?_
    refine lv_iload_n hx hb dX6_charAt_18 rfl (lv_at hl 1 rfl) ?_
    refine q_R1 (va_runVN (As := [.int (nI (i32n x))]) (rest := []) ⟨hx, hb, hml, hown, hts⟩ (c_X5_codeAt l hsc (i32n x) (by omega)) ⟨(va_cnB 1 hts gX6_charAt_X5_codeAt_n161 rfl rfl rfl (hG.nest 73 rfl) (hts (.initialized RX5) (List.mem_of_getElem? (i := 5) rfl)) (by decide +kernel) ⟨Nat.le_of_ble_eq_true rfl, Nat.le_of_ble_eq_true rfl⟩), (hts (.instanceMethod yX5_codeAt) (List.mem_of_getElem? (i := 4) rfl)), (hts (.selects RX5 yX5_codeAt yX5_codeAt) (List.mem_of_getElem? (i := 6) rfl))⟩ (q_preV hG hW hS (hsc).1 rfl) rfl rfl hl.1 rfl (lv_room (Nat.le_of_ble_eq_true rfl)) dX6_charAt_19 ⟨Nat.le_of_ble_eq_true rfl, Nat.le_of_ble_eq_true rfl⟩) ?_
    exact vx_ret (q_wi hx hb hr hlocks hW hS dX6_charAt_22 (by rfl) (by exact ⟨c_1, rfl⟩) (by decide) (by decide))
  · skip
    exact q_thrS hx hb hl0 (by rw [hml]; exact hl.1) hxt hlocks hown hG hW hS (by decide +kernel) (hts (.classLink RX6 93 "java/lang/IllegalArgumentException") (List.mem_of_getElem? (i := 1) rfl)) (hts (.initialized "java/lang/IllegalArgumentException") (List.mem_of_getElem? (i := 2) rfl)) 11 0 rfl rfl ngA otA (fun w h => hts w (List.mem_cons_of_mem _ (List.mem_append_right _ h))) dX6_charAt_4 dX6_charAt_7 dX6_charAt_8 dX6_charAt_10 dX6_charAt_13 (Nat.le_of_ble_eq_true rfl) (Nat.le_of_ble_eq_true rfl) (Nat.le_of_ble_eq_true rfl) (Nat.le_of_ble_eq_true rfl) (Nat.le_of_ble_eq_true rfl) (Nat.le_of_ble_eq_true rfl) (by exact ⟨⟨rfl, c_1⟩, rfl⟩)

