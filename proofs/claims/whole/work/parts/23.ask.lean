theorem le_n {k : Nat} {x : Int32} (hk : k < 2 ^ 31) (h0 : 0 ≤ x) (h1 : x ≤ nI k) : x = nI (i32n x) ∧ i32n x ≤ k := by
  have e := i32n_of h0
  refine ⟨e, ?_⟩
  rw [e] at h1
  exact (nI_leI (i32n_lt x) hk).mp h1
/-- what wordOf tells -/
def wof (P : Pl) (i y : Nat) : Int32 := if y ≤ 2 then nI (P.W i y) else if y = 3 then nI (P.W i 1) - nI (mse P i) else if y = 4 then fmd P i 0 120 else if y = 5 then (if mse P i ≤ P.S 4 then 1 else 0) else nI (gcv P i (P.W i 0) (P.W i 1))
/-- what noiseOf tells -/
def nof (P : Pl) (i y : Nat) : Nat := if y ≤ 3 then P.N i y else if y = 4 then sm (fun d => stg P i (P.N i 0 + d)) (P.N i 1) else if y = 5 then ct (fun d => mmk P (P.N i 0 + d) ≠ 0) (P.N i 1) else ct (fun d => stg P i (P.N i 0 + d) < P.N i 2) (P.N i 1)
/-- what second tells -/
def sof (P : Pl) (t y : Nat) : Int32 := if y = 0 then nI (dk P t) else if y = 1 then nI (wmk P.W P.w t) else if y = 2 then nI (wmk P.N P.n t) else if y = 3 then nI (lvl P (gst P t P.n) (gct P t P.n)) else if y = 4 then nI (mmk P t) else gfi P t P.n
/-- what count tells -/
def cof (P : Pl) (n nc y : Nat) : Int32 := if 9 ≤ y then nI (P.S (y - 9)) else if y = 0 then nI P.w else if y = 1 then nI P.n else if y = 2 then nI (und P) else if y = 3 then nI (ams P) else if y = 4 then lst P 120 else if y = 5 then nI (sls P) else if y = 6 then (gmk P P.n).1 else if y = 7 then nI n else nI nc
/-- the loudness of all, by cues and by seconds -/
def ttc (P : Pl) : Nat := sm (fun j => P.W j 1 * P.W j 2) P.w + sm (fun j => P.N j 1 * P.N j 2) P.n
def tts (P : Pl) : Nat := sm (fun t => sm (fun j => if snd P.W j t then P.W j 2 else 0) P.w + sm (fun j => if snd P.N j t then P.N j 2 else 0) P.n) 120

set_option maxHeartbeats 300000 in
set_option maxRecDepth 100000 in
/-- checkWhat -/
theorem c_X6_checkWhat (l : Launch) (hl0 : l.stackTraces = false) {D : va_G} {dA : Nat → Nat} {b : Nat} {w : Wd} (x : Int32) (k9 : Nat) : vx_Met l yX6_checkWhat wsX6_checkWhat ({ frames := 6, cells := 1, slots := 6, locals := 82 } : Room) (PC D dA b w [.int (x), .int (nI k9)]) (QW D b (none) (fun w' => (0 ≤ x ∧ x ≤ nI k9) ∧ w' = w)) (XW D b (fun E w' => (E = IAE ∧ ¬ (0 ≤ x ∧ x ≤ nI k9)) ∧ w' = w)) 1 6 (Fb b) := by
  refine q_ofX (cc := cX6_checkWhat) (maxL := 2) (ret := none) (by decide) rfl rfl ?_
  intro p e s m args below meth c ls hx hb hr hml hts hown hlocks hxt hG hW hS hl
  have hown : s.vm.findClass RX6 = some m.cls := hown
  have hl : lv_has ls 2 [(0, .int (x)), (1, .int (nI k9))] := hl
  refine lv_iload_n hx hb dX6_checkWhat_0 rfl (lv_at hl 0 rfl) ?_
  refine lv_if_lt (tgt := 9) hx hb dX6_checkWhat_1 (by decide) (fun c_1 => ?_) (fun c_1 => ?_)
  · skip
    exact q_thrSW hx hb hl0 (by rw [hml]; exact hl.1) hxt hlocks hown hG hW hS (by decide +kernel) (hts (.classLink RX6 93 "java/lang/IllegalArgumentException") (List.mem_of_getElem? (i := 1) rfl)) (hts (.initialized "java/lang/IllegalArgumentException") (List.mem_of_getElem? (i := 2) rfl)) 15 0 rfl rfl ngA otA (fun w h => hts w (List.mem_cons_of_mem _ (List.mem_append_right _ h))) dX6_checkWhat_9 dX6_checkWhat_12 dX6_checkWhat_13 dX6_checkWhat_16 dX6_checkWhat_19 (Nat.le_of_ble_eq_true rfl) (Nat.le_of_ble_eq_true rfl) (Nat.le_of_ble_eq_true rfl) (Nat.le_of_ble_eq_true rfl) (Nat.le_of_ble_eq_true rfl) (Nat.le_of_ble_eq_true rfl) (by first | exact ⟨⟨rfl, fun q9 => absurd q9.1 (Int32.not_le.mpr c_1)⟩, rfl⟩ | exact ⟨⟨rfl, fun q9 => c_6 q9.2⟩, rfl⟩)
  · skip
    refine lv_iload_n hx hb dX6_checkWhat_4 rfl (lv_at hl 0 rfl) ?_
    refine lv_iload_n hx hb dX6_checkWhat_5 rfl (lv_at hl 1 rfl) ?_
    refine lv_icmp_le (tgt := 20) hx hb dX6_checkWhat_6 (by decide) (fun c_6 => ?_) (fun c_6 => ?_)
    · skip
      exact vx_ret (q_wv hx hb hr hlocks hW hS dX6_checkWhat_20 (by exact ⟨⟨Int32.not_lt.mp c_1, c_6⟩, rfl⟩) (by decide) (by decide))
    · skip
      exact q_thrSW hx hb hl0 (by rw [hml]; exact hl.1) hxt hlocks hown hG hW hS (by decide +kernel) (hts (.classLink RX6 93 "java/lang/IllegalArgumentException") (List.mem_of_getElem? (i := 1) rfl)) (hts (.initialized "java/lang/IllegalArgumentException") (List.mem_of_getElem? (i := 2) rfl)) 15 0 rfl rfl ngA otA (fun w h => hts w (List.mem_cons_of_mem _ (List.mem_append_right _ h))) dX6_checkWhat_9 dX6_checkWhat_12 dX6_checkWhat_13 dX6_checkWhat_16 dX6_checkWhat_19 (Nat.le_of_ble_eq_true rfl) (Nat.le_of_ble_eq_true rfl) (Nat.le_of_ble_eq_true rfl) (Nat.le_of_ble_eq_true rfl) (Nat.le_of_ble_eq_true rfl) (Nat.le_of_ble_eq_true rfl) (by first | exact ⟨⟨rfl, fun q9 => absurd q9.1 (Int32.not_le.mpr c_1)⟩, rfl⟩ | exact ⟨⟨rfl, fun q9 => c_6 q9.2⟩, rfl⟩)

set_option maxHeartbeats 300000 in
set_option maxRecDepth 100000 in
/-- wordOf -/
theorem c_X6_wordOf (l : Launch) (hl0 : l.stackTraces = false) {D : va_G} {dA : Nat → Nat} {b : Nat} {w : Wd} {lo n nc : Nat} {P : Pl} {Hs : Nat → Pl} {SL : Nat → Option Pl} {C : Nat → Nat} (hs : isSys dA b w lo (P, (n, Hs), SL, (nc, C))) (x y : Int32) : vx_Met l yX6_wordOf wsX6_wordOf ({ frames := 7, cells := 2, slots := 12, locals := 115 } : Room) (PC D dA b w [.ref (b + 0), .int (x), .int (y)]) (QW D b (some (.int (wof P (i32n x) (i32n y)))) (fun w' => ((0 ≤ x ∧ x < nI P.w) ∧ (0 ≤ y ∧ y ≤ nI 6)) ∧ isSys dA b w' lo (P, (n, Hs), SL, (nc, C)) ∧ ∀ id : Nat, 36 ≤ id → id < lo → w' id = w id)) (XW D b (fun E w' => ((E = IOE ∧ ¬ (0 ≤ x ∧ x < nI P.w)) ∨ ((0 ≤ x ∧ x < nI P.w) ∧ E = IAE ∧ ¬ (0 ≤ y ∧ y ≤ nI 6))) ∧ w' = w)) 2 12 (Fb b) := by
  refine q_ofX (cc := cX6_wordOf) (maxL := 3) (ret := (some .int)) (by decide) rfl rfl ?_
  intro p e s m args below meth c ls hx hb hr hml hts hown hlocks hxt hG hW hS hl
  have hown : s.vm.findClass RX6 = some m.cls := hown
  have hinX4 : ∀ w ∈ u_ws RX4 TX4 3, w ∈ wsX6_wordOf := fun w h => (goodIn_r (big := wsX6_wordOf) (u_ws RX4 TX4 3) [109, 110, 111] (by decide +kernel) (by decide +kernel) w h).1
  have hinX6 : ∀ w ∈ u_ws RX6 TX6 8, w ∈ wsX6_wordOf := fun w h => (goodIn_r (big := wsX6_wordOf) (u_ws RX6 TX6 8) [101, 102, 103, 104, 105, 106, 107, 108] (by decide +kernel) (by decide +kernel) w h).1
  have hl : lv_has ls 3 [(0, .ref (b + 0)), (1, .int (x)), (2, .int (y))] := hl
  obtain ⟨hs0, hp1, hbk, hhs, hsc, hrd, hlo, hex⟩ := id hs
  change isPlay dA b w 2 P at hp1
  change isHS dA b w lo n Hs SL at hhs
  change isScr dA b w 32 nc C at hsc
  have hP := hp1.ok
  have hn6 := HS_le hhs
  have hnc := hsc.2.2.1
  obtain ⟨hPw, hPn, hPW, hPN, hPS⟩ := id hP
  refine lv_aload_n hx hb dX6_wordOf_0 rfl (lv_at hl 0 rfl) ?_
  refine q_get hx hb hts hinX6 hown hG hW hs0 rfl 2 (by decide) (hts (.fieldLink RX6 23 "FoleyMixer" "now" "LFoleyMixer$Play;") (List.mem_of_getElem? (i := 1) rfl)) rfl rfl dX6_wordOf_1 ?_
  refine q_getN hx hb hts hinX4 hown hG hW (hp1).1 rfl 0 (by decide) (hG.nest 11 rfl) rfl rfl dX6_wordOf_4 ?_
  refine lv_iload_n hx hb dX6_wordOf_7 rfl (lv_at hl 1 rfl) ?_
  refine q_X0 (vx_runS (As := [.ref (b + (2 + 1)), .int (x)]) (rest := []) ⟨hx, hb, hml, hown, hts⟩ (c_X6_checkNumber l hl0 (hp1).2.1 (x)) (va_cwS 2 hts gX6_wordOf_X6_checkNumber rfl rfl rfl (by decide +kernel) ⟨Nat.le_of_ble_eq_true rfl, Nat.le_of_ble_eq_true rfl⟩) (q_preS hG hW hS) rfl rfl hl.1 rfl (lv_room (Nat.le_of_ble_eq_true rfl)) dX6_wordOf_8 ⟨Nat.le_of_ble_eq_true rfl, Nat.le_of_ble_eq_true rfl⟩) hS (fun E9 w9 H9 L9 q9 ce9 hpx hW9 hS9 hce hcv hcl => q_prop hxt hlocks hW9 hS9 hce hcv hcl (by exact ⟨Or.inl hpx.1, hpx.2⟩) (Nat.le_of_ble_eq_true rfl) (Nat.le_of_ble_eq_true rfl)) (fun w_8 H locs hp8 hW hS => ?_)
  obtain ⟨ho8, hw9⟩ := hp8
  replace hw9 := hw9.symm
  subst hw9
  obtain ⟨exx9, bxx9⟩ := has_n (by omega) ho8.1 ho8.2
  have el_11 : x = nI (i32n x) := by exact exx9
  rw [el_11] at hl
  refine lv_iload_n hx hb dX6_wordOf_11 rfl (lv_at hl 2 rfl) ?_
  refine lv_bipush (v := nI 6) hx hb dX6_wordOf_12 (by decide) ?_
  refine q_X0 (vx_runS (As := [.int (y), .int (nI 6)]) (rest := []) ⟨hx, hb, hml, hown, hts⟩ (c_X6_checkWhat l hl0 (y) 6) (va_cwS 2 hts gX6_wordOf_X6_checkWhat rfl rfl rfl (by decide +kernel) ⟨Nat.le_of_ble_eq_true rfl, Nat.le_of_ble_eq_true rfl⟩) (q_preS hG hW hS) rfl rfl hl.1 rfl (lv_room (Nat.le_of_ble_eq_true rfl)) dX6_wordOf_14 ⟨Nat.le_of_ble_eq_true rfl, Nat.le_of_ble_eq_true rfl⟩) hS (fun E9 w9 H9 L9 q9 ce9 hpx hW9 hS9 hce hcv hcl => q_prop hxt hlocks hW9 hS9 hce hcv hcl (by exact ⟨Or.inr ⟨ho8, hpx.1⟩, hpx.2⟩) (Nat.le_of_ble_eq_true rfl) (Nat.le_of_ble_eq_true rfl)) (fun w_14 H locs hp14 hW hS => ?_)
  obtain ⟨ho14, hw9⟩ := hp14
  replace hw9 := hw9.symm
  subst hw9
  obtain ⟨exy9, bxy9⟩ := le_n (k := 6) (by decide) ho14.1 ho14.2
  have el_17 : y = nI (i32n y) := by exact exy9
  rw [el_17] at hl
  refine lv_iload_n hx hb dX6_wordOf_17 rfl (lv_at hl 2 rfl) ?_
  refine lv_iconst (v := nI 2) hx hb dX6_wordOf_18 (by decide) ?_
  refine lv_icmp_gt (tgt := 35) hx hb dX6_wordOf_19 (by decide) (fun c_19 => ?_) (fun c_19 => ?_)
  · skip
    have c_19 : 2 < i32n y := (nI_ltI (a := 2) (b := i32n y) (by omega) (by omega)).mp c_19
    obtain ⟨⟨PT, hp7⟩, hm13, hm21⟩ := id hbk
    refine lv_aload_n hx hb dX6_wordOf_35 rfl (lv_at hl 0 rfl) ?_
    refine q_get hx hb hts hinX6 hown hG hW hs0 rfl 0 (by decide) (hts (.fieldLink RX6 10 "FoleyMixer" "mix" "LFoleyMixer$Mix;") (List.mem_of_getElem? (i := 2) rfl)) rfl rfl dX6_wordOf_36 ?_
    refine q_W0 (va_runVN (As := []) (rest := []) ⟨hx, hb, hml, hown, hts⟩ (c_X3_refresh l hm13 hp1 (by omega)) ⟨(va_cnB 0 hts gX6_wordOf_X3_refresh_n181 rfl rfl rfl (hG.nest 45 rfl) (hts (.initialized RX3) (List.mem_of_getElem? (i := 24) rfl)) (by decide +kernel) ⟨Nat.le_of_ble_eq_true rfl, Nat.le_of_ble_eq_true rfl⟩), (hts (.instanceMethod yX3_refresh) (List.mem_of_getElem? (i := 23) rfl)), (hts (.selects RX3 yX3_refresh yX3_refresh) (List.mem_of_getElem? (i := 25) rfl))⟩ (q_preV hG hW hS (hm13).1 rfl) rfl rfl hl.1 rfl (lv_room (Nat.le_of_ble_eq_true rfl)) dX6_wordOf_39 ⟨Nat.le_of_ble_eq_true rfl, Nat.le_of_ble_eq_true rfl⟩) hS (fun w_39 H locs hp39 hW hS => ?_)
    obtain ⟨hm13, fr39⟩ := hp39
    replace hs0 : w_39 0 = some (sysO b) := (fr39 _ (by omega)).trans hs0
    replace hp1 : isPlay dA b w_39 2 P := hp1.fr (fun id9 h7 h8 => fr39 id9 (by omega))
    replace hhs : isHS dA b w_39 lo n Hs SL := hhs.fr (fun id9 h7 => (fr39 id9 (by omega)))
    replace hsc : isScr dA b w_39 32 nc C := hsc.fr (fr39 _ (by omega)) (fr39 _ (by omega))
    replace hrd : ∃ R : Rd, isRdr dA b w_39 34 R := rdr_fr hrd (fun id9 h7 h8 => (fr39 id9 (by omega)))
    replace hex : ∃ e : va_E, w_39 (lo - 1) = some e := exw_fr hex (fr39 _ (by omega))
    replace hp7 : isPlay dA b w_39 16 PT := hp7.fr (fun id9 h7 h8 => fr39 id9 (by omega))
    replace hm21 : anyMix dA b w_39 15 16 := hm21.fr (fun id9 h7 h8 => (fr39 id9 (by omega)))
    refine lv_iload_n hx hb dX6_wordOf_42 rfl (lv_at hl 2 rfl) ?_
    rcases (show i32n y = 3 ∨ i32n y = 4 ∨ i32n y = 5 ∨ i32n y = 6 by omega) with sw43 | sw43 | sw43 | sw43
    · skip
      refine q_top (y := nI 3) (congrArg nI sw43) ?_
      refine lv_tableIn (tgt := 68) (off := 25) hx hb dX6_wordOf_43 (by decide) (by decide) rfl (by decide) ?_
      refine lv_aload_n hx hb dX6_wordOf_68 rfl (lv_at hl 0 rfl) ?_
      refine q_get hx hb hts hinX6 hown hG hW hs0 rfl 2 (by decide) (hts (.fieldLink RX6 23 "FoleyMixer" "now" "LFoleyMixer$Play;") (List.mem_of_getElem? (i := 1) rfl)) rfl rfl dX6_wordOf_69 ?_
      refine q_getN hx hb hts hinX4 hown hG hW (hp1).1 rfl 0 (by decide) (hG.nest 11 rfl) rfl rfl dX6_wordOf_72 ?_
      refine lv_iload_n hx hb dX6_wordOf_75 rfl (lv_at hl 1 rfl) ?_
      refine lv_iconst (v := nI 1) hx hb dX6_wordOf_76 (by decide) ?_
      refine q_R1 (va_runVN (As := [.int (nI (i32n x)), .int (nI 1)]) (rest := []) ⟨hx, hb, hml, hown, hts⟩ (c_X1_numberOf l (hp1).2.1 (i32n x) (1) (by omega) (by omega)) ⟨(va_cnB 2 hts gX6_wordOf_X1_numberOf_n100 rfl rfl rfl (hG.nest 58 rfl) (hts (.initialized RX1) (List.mem_of_getElem? (i := 10) rfl)) (by decide +kernel) ⟨Nat.le_of_ble_eq_true rfl, Nat.le_of_ble_eq_true rfl⟩), (hts (.instanceMethod yX1_numberOf) (List.mem_of_getElem? (i := 19) rfl)), (hts (.selects RX1 yX1_numberOf yX1_numberOf) (List.mem_of_getElem? (i := 20) rfl))⟩ (q_preV hG hW hS (isCues.obj (hp1).2.1) rfl) rfl rfl hl.1 rfl (lv_room (Nat.le_of_ble_eq_true rfl)) dX6_wordOf_77 ⟨Nat.le_of_ble_eq_true rfl, Nat.le_of_ble_eq_true rfl⟩) ?_
      have q_77 := (hp1).2.1.2.2.2.1 (i32n x) (by omega)
      refine lv_aload_n hx hb dX6_wordOf_80 rfl (lv_at hl 0 rfl) ?_
      refine q_get hx hb hts hinX6 hown hG hW hs0 rfl 0 (by decide) (hts (.fieldLink RX6 10 "FoleyMixer" "mix" "LFoleyMixer$Mix;") (List.mem_of_getElem? (i := 2) rfl)) rfl rfl dX6_wordOf_81 ?_
      refine lv_iload_n hx hb dX6_wordOf_84 rfl (lv_at hl 1 rfl) ?_
      refine q_R1 (va_runVN (As := [.int (nI (i32n x))]) (rest := [.int (nI (P.W (i32n x) 1))]) ⟨hx, hb, hml, hown, hts⟩ (c_X3_maskedSecondsOf l hm13 hp1 (i32n x) (by omega)) ⟨(va_cnB 1 hts gX6_wordOf_X3_maskedSecondsOf_n184 rfl rfl rfl (hG.nest 80 rfl) (hts (.initialized RX3) (List.mem_of_getElem? (i := 24) rfl)) (by decide +kernel) ⟨Nat.le_of_ble_eq_true rfl, Nat.le_of_ble_eq_true rfl⟩), (hts (.instanceMethod yX3_maskedSecondsOf) (List.mem_of_getElem? (i := 88) rfl)), (hts (.selects RX3 yX3_maskedSecondsOf yX3_maskedSecondsOf) (List.mem_of_getElem? (i := 89) rfl))⟩ (q_preV hG hW hS (hm13).1 rfl) rfl rfl hl.1 rfl (lv_room (Nat.le_of_ble_eq_true rfl)) dX6_wordOf_85 ⟨Nat.le_of_ble_eq_true rfl, Nat.le_of_ble_eq_true rfl⟩) ?_
      have q_85 := mse_le P (i32n x)
      refine lv_isub hx hb dX6_wordOf_88 ?_
      exact vx_ret (q_wi hx hb hr hlocks hW hS dX6_wordOf_89 (by unfold wof; rw [sw43]; rfl) (by exact ⟨⟨ho8, ho14⟩, ⟨hs0, hp1, ⟨⟨_, hp7⟩, (isMix.any hm13), hm21⟩, hhs, hsc, hrd, hlo, hex⟩, by intro id h8 h9; rw [fr39 id (by omega)]; try rfl⟩) (by decide) (by decide))
    · skip
      refine q_top (y := nI 4) (congrArg nI sw43) ?_
      refine lv_tableIn (tgt := 90) (off := 47) hx hb dX6_wordOf_43 (by decide) (by decide) rfl (by decide) ?_
      refine lv_aload_n hx hb dX6_wordOf_90 rfl (lv_at hl 0 rfl) ?_
      refine q_get hx hb hts hinX6 hown hG hW hs0 rfl 0 (by decide) (hts (.fieldLink RX6 10 "FoleyMixer" "mix" "LFoleyMixer$Mix;") (List.mem_of_getElem? (i := 2) rfl)) rfl rfl dX6_wordOf_91 ?_
      refine lv_iload_n hx hb dX6_wordOf_94 rfl (lv_at hl 1 rfl) ?_
      refine q_R1 (va_runVN (As := [.int (nI (i32n x))]) (rest := []) ⟨hx, hb, hml, hown, hts⟩ (c_X3_firstMaskedOf l hm13 hp1 (i32n x) (by omega)) ⟨(va_cnB 1 hts gX6_wordOf_X3_firstMaskedOf_n187 rfl rfl rfl (hG.nest 81 rfl) (hts (.initialized RX3) (List.mem_of_getElem? (i := 24) rfl)) (by decide +kernel) ⟨Nat.le_of_ble_eq_true rfl, Nat.le_of_ble_eq_true rfl⟩), (hts (.instanceMethod yX3_firstMaskedOf) (List.mem_of_getElem? (i := 91) rfl)), (hts (.selects RX3 yX3_firstMaskedOf yX3_firstMaskedOf) (List.mem_of_getElem? (i := 92) rfl))⟩ (q_preV hG hW hS (hm13).1 rfl) rfl rfl hl.1 rfl (lv_room (Nat.le_of_ble_eq_true rfl)) dX6_wordOf_95 ⟨Nat.le_of_ble_eq_true rfl, Nat.le_of_ble_eq_true rfl⟩) ?_
      exact vx_ret (q_wi hx hb hr hlocks hW hS dX6_wordOf_98 (by unfold wof; rw [sw43]; rfl) (by exact ⟨⟨ho8, ho14⟩, ⟨hs0, hp1, ⟨⟨_, hp7⟩, (isMix.any hm13), hm21⟩, hhs, hsc, hrd, hlo, hex⟩, by intro id h8 h9; rw [fr39 id (by omega)]; try rfl⟩) (by decide) (by decide))
    · skip
      refine q_top (y := nI 5) (congrArg nI sw43) ?_
      refine lv_tableIn (tgt := 99) (off := 56) hx hb dX6_wordOf_43 (by decide) (by decide) rfl (by decide) ?_
      refine lv_aload_n hx hb dX6_wordOf_99 rfl (lv_at hl 0 rfl) ?_
      refine q_get hx hb hts hinX6 hown hG hW hs0 rfl 0 (by decide) (hts (.fieldLink RX6 10 "FoleyMixer" "mix" "LFoleyMixer$Mix;") (List.mem_of_getElem? (i := 2) rfl)) rfl rfl dX6_wordOf_100 ?_
      refine lv_iload_n hx hb dX6_wordOf_103 rfl (lv_at hl 1 rfl) ?_
      refine q_R1 (va_runVN (As := [.int (nI (i32n x))]) (rest := []) ⟨hx, hb, hml, hown, hts⟩ (c_X3_isUnderstood l hm13 hp1 (i32n x) (by omega)) ⟨(va_cnB 1 hts gX6_wordOf_X3_isUnderstood_n190 rfl rfl rfl (hG.nest 82 rfl) (hts (.initialized RX3) (List.mem_of_getElem? (i := 24) rfl)) (by decide +kernel) ⟨Nat.le_of_ble_eq_true rfl, Nat.le_of_ble_eq_true rfl⟩), (hts (.instanceMethod yX3_isUnderstood) (List.mem_of_getElem? (i := 94) rfl)), (hts (.selects RX3 yX3_isUnderstood yX3_isUnderstood) (List.mem_of_getElem? (i := 95) rfl))⟩ (q_preV hG hW hS (hm13).1 rfl) rfl rfl hl.1 rfl (lv_room (Nat.le_of_ble_eq_true rfl)) dX6_wordOf_104 ⟨Nat.le_of_ble_eq_true rfl, Nat.le_of_ble_eq_true rfl⟩) ?_
      refine lv_if_eq (tgt := 114) hx hb dX6_wordOf_107 (by decide) (fun c_107 => ?_) (fun c_107 => ?_)
      · skip
        have c_107 : ¬ (mse P (i32n x) ≤ P.S 4) := pI_eq0.mp c_107
        refine lv_iconst (v := nI 0) hx hb dX6_wordOf_114 (by decide) ?_
        exact vx_ret (q_wi hx hb hr hlocks hW hS dX6_wordOf_115 (by unfold wof; rw [sw43]; show _ = (if mse P (i32n x) ≤ P.S 4 then 1 else 0); first | (rw [if_pos c_107]; rfl) | (rw [if_neg c_107]; rfl)) (by exact ⟨⟨ho8, ho14⟩, ⟨hs0, hp1, ⟨⟨_, hp7⟩, (isMix.any hm13), hm21⟩, hhs, hsc, hrd, hlo, hex⟩, by intro id h8 h9; rw [fr39 id (by omega)]; try rfl⟩) (by decide) (by decide))
      · skip
        have c_107 : mse P (i32n x) ≤ P.S 4 := Decidable.byContradiction (fun h__ => c_107 (pI_eq0.mpr h__))
        refine lv_iconst (v := nI 1) hx hb dX6_wordOf_110 (by decide) ?_
        refine lv_goto (tgt := 115) hx hb dX6_wordOf_111 (by decide) ?_
        exact vx_ret (q_wi hx hb hr hlocks hW hS dX6_wordOf_115 (by unfold wof; rw [sw43]; show _ = (if mse P (i32n x) ≤ P.S 4 then 1 else 0); first | (rw [if_pos c_107]; rfl) | (rw [if_neg c_107]; rfl)) (by exact ⟨⟨ho8, ho14⟩, ⟨hs0, hp1, ⟨⟨_, hp7⟩, (isMix.any hm13), hm21⟩, hhs, hsc, hrd, hlo, hex⟩, by intro id h8 h9; rw [fr39 id (by omega)]; try rfl⟩) (by decide) (by decide))
    · skip
      refine q_top (y := nI 6) (congrArg nI sw43) ?_
      refine lv_tableOut (tgt := 116) hx hb dX6_wordOf_43 (by decide) (by decide) ?_
      refine lv_aload_n hx hb dX6_wordOf_116 rfl (lv_at hl 0 rfl) ?_
      refine q_get hx hb hts hinX6 hown hG hW hs0 rfl 0 (by decide) (hts (.fieldLink RX6 10 "FoleyMixer" "mix" "LFoleyMixer$Mix;") (List.mem_of_getElem? (i := 2) rfl)) rfl rfl dX6_wordOf_117 ?_
      refine lv_iload_n hx hb dX6_wordOf_120 rfl (lv_at hl 1 rfl) ?_
      refine q_R1 (va_runVN (As := [.int (nI (i32n x))]) (rest := []) ⟨hx, hb, hml, hown, hts⟩ (c_X3_greatestCoverOf l hm13 hp1 (i32n x) (by omega)) ⟨(va_cnB 1 hts gX6_wordOf_X3_greatestCoverOf_n194 rfl rfl rfl (hG.nest 83 rfl) (hts (.initialized RX3) (List.mem_of_getElem? (i := 24) rfl)) (by decide +kernel) ⟨Nat.le_of_ble_eq_true rfl, Nat.le_of_ble_eq_true rfl⟩), (hts (.instanceMethod yX3_greatestCoverOf) (List.mem_of_getElem? (i := 98) rfl)), (hts (.selects RX3 yX3_greatestCoverOf yX3_greatestCoverOf) (List.mem_of_getElem? (i := 99) rfl))⟩ (q_preV hG hW hS (hm13).1 rfl) rfl rfl hl.1 rfl (lv_room (Nat.le_of_ble_eq_true rfl)) dX6_wordOf_121 ⟨Nat.le_of_ble_eq_true rfl, Nat.le_of_ble_eq_true rfl⟩) ?_
      exact vx_ret (q_wi hx hb hr hlocks hW hS dX6_wordOf_124 (by unfold wof; rw [sw43]; rfl) (by exact ⟨⟨ho8, ho14⟩, ⟨hs0, hp1, ⟨⟨_, hp7⟩, (isMix.any hm13), hm21⟩, hhs, hsc, hrd, hlo, hex⟩, by intro id h8 h9; rw [fr39 id (by omega)]; try rfl⟩) (by decide) (by decide))
  · skip
    have c_19 : ¬ (2 < i32n y) := fun h__ => c_19 ((nI_ltI (a := 2) (b := i32n y) (by omega) (by omega)).mpr h__)
    refine lv_aload_n hx hb dX6_wordOf_22 rfl (lv_at hl 0 rfl) ?_
    refine q_get hx hb hts hinX6 hown hG hW hs0 rfl 2 (by decide) (hts (.fieldLink RX6 23 "FoleyMixer" "now" "LFoleyMixer$Play;") (List.mem_of_getElem? (i := 1) rfl)) rfl rfl dX6_wordOf_23 ?_
    refine q_getN hx hb hts hinX4 hown hG hW (hp1).1 rfl 0 (by decide) (hG.nest 11 rfl) rfl rfl dX6_wordOf_26 ?_
    refine lv_iload_n hx hb dX6_wordOf_29 rfl (lv_at hl 1 rfl) ?_
    refine lv_iload_n hx hb dX6_wordOf_30 rfl (lv_at hl 2 rfl) ?_
    refine q_R1 (va_runVN (As := [.int (nI (i32n x)), .int (nI (i32n y))]) (rest := []) ⟨hx, hb, hml, hown, hts⟩ (c_X1_numberOf l (hp1).2.1 (i32n x) (i32n y) (by omega) (by omega)) ⟨(va_cnB 2 hts gX6_wordOf_X1_numberOf_n100 rfl rfl rfl (hG.nest 58 rfl) (hts (.initialized RX1) (List.mem_of_getElem? (i := 10) rfl)) (by decide +kernel) ⟨Nat.le_of_ble_eq_true rfl, Nat.le_of_ble_eq_true rfl⟩), (hts (.instanceMethod yX1_numberOf) (List.mem_of_getElem? (i := 19) rfl)), (hts (.selects RX1 yX1_numberOf yX1_numberOf) (List.mem_of_getElem? (i := 20) rfl))⟩ (q_preV hG hW hS (isCues.obj (hp1).2.1) rfl) rfl rfl hl.1 rfl (lv_room (Nat.le_of_ble_eq_true rfl)) dX6_wordOf_31 ⟨Nat.le_of_ble_eq_true rfl, Nat.le_of_ble_eq_true rfl⟩) ?_
    have q_31 := (hp1).2.1.2.2.2.1 (i32n x) (by omega)
    exact vx_ret (q_wi hx hb hr hlocks hW hS dX6_wordOf_34 (by unfold wof; rw [if_pos (by omega)]) (by exact ⟨⟨ho8, ho14⟩, ⟨hs0, hp1, hbk, hhs, hsc, hrd, hlo, hex⟩, by intro id h8 h9; try rfl⟩) (by decide) (by decide))

set_option maxHeartbeats 300000 in
set_option maxRecDepth 100000 in
/-- noiseOf -/
theorem c_X6_noiseOf (l : Launch) (hl0 : l.stackTraces = false) {D : va_G} {dA : Nat → Nat} {b : Nat} {w : Wd} {lo n nc : Nat} {P : Pl} {Hs : Nat → Pl} {SL : Nat → Option Pl} {C : Nat → Nat} (hs : isSys dA b w lo (P, (n, Hs), SL, (nc, C))) (x y : Int32) : vx_Met l yX6_noiseOf wsX6_noiseOf ({ frames := 7, cells := 2, slots := 12, locals := 115 } : Room) (PC D dA b w [.ref (b + 0), .int (x), .int (y)]) (QW D b (some (.int (nI (nof P (i32n x) (i32n y))))) (fun w' => ((0 ≤ x ∧ x < nI P.n) ∧ (0 ≤ y ∧ y ≤ nI 6)) ∧ isSys dA b w' lo (P, (n, Hs), SL, (nc, C)) ∧ ∀ id : Nat, 36 ≤ id → id < lo → w' id = w id)) (XW D b (fun E w' => ((E = IOE ∧ ¬ (0 ≤ x ∧ x < nI P.n)) ∨ ((0 ≤ x ∧ x < nI P.n) ∧ E = IAE ∧ ¬ (0 ≤ y ∧ y ≤ nI 6))) ∧ w' = w)) 2 12 (Fb b) := by
  refine q_ofX (cc := cX6_noiseOf) (maxL := 3) (ret := (some .int)) (by decide) rfl rfl ?_
  intro p e s m args below meth c ls hx hb hr hml hts hown hlocks hxt hG hW hS hl
  have hown : s.vm.findClass RX6 = some m.cls := hown
  have hinX4 : ∀ w ∈ u_ws RX4 TX4 3, w ∈ wsX6_noiseOf := fun w h => (goodIn_r (big := wsX6_noiseOf) (u_ws RX4 TX4 3) [105, 106, 107] (by decide +kernel) (by decide +kernel) w h).1
  have hinX6 : ∀ w ∈ u_ws RX6 TX6 8, w ∈ wsX6_noiseOf := fun w h => (goodIn_r (big := wsX6_noiseOf) (u_ws RX6 TX6 8) [97, 98, 99, 100, 101, 102, 103, 104] (by decide +kernel) (by decide +kernel) w h).1
  have hl : lv_has ls 3 [(0, .ref (b + 0)), (1, .int (x)), (2, .int (y))] := hl
  obtain ⟨hs0, hp1, hbk, hhs, hsc, hrd, hlo, hex⟩ := id hs
  change isPlay dA b w 2 P at hp1
  change isHS dA b w lo n Hs SL at hhs
  change isScr dA b w 32 nc C at hsc
  have hP := hp1.ok
  have hn6 := HS_le hhs
  have hnc := hsc.2.2.1
  obtain ⟨hPw, hPn, hPW, hPN, hPS⟩ := id hP
  refine lv_aload_n hx hb dX6_noiseOf_0 rfl (lv_at hl 0 rfl) ?_
  refine q_get hx hb hts hinX6 hown hG hW hs0 rfl 2 (by decide) (hts (.fieldLink RX6 23 "FoleyMixer" "now" "LFoleyMixer$Play;") (List.mem_of_getElem? (i := 1) rfl)) rfl rfl dX6_noiseOf_1 ?_
  refine q_getN hx hb hts hinX4 hown hG hW (hp1).1 rfl 1 (by decide) (hG.nest 13 rfl) rfl rfl dX6_noiseOf_4 ?_
  refine lv_iload_n hx hb dX6_noiseOf_7 rfl (lv_at hl 1 rfl) ?_
  refine q_X0 (vx_runS (As := [.ref (b + (2 + 3)), .int (x)]) (rest := []) ⟨hx, hb, hml, hown, hts⟩ (c_X6_checkNumber l hl0 (hp1).2.2.1 (x)) (va_cwS 2 hts gX6_noiseOf_X6_checkNumber rfl rfl rfl (by decide +kernel) ⟨Nat.le_of_ble_eq_true rfl, Nat.le_of_ble_eq_true rfl⟩) (q_preS hG hW hS) rfl rfl hl.1 rfl (lv_room (Nat.le_of_ble_eq_true rfl)) dX6_noiseOf_8 ⟨Nat.le_of_ble_eq_true rfl, Nat.le_of_ble_eq_true rfl⟩) hS (fun E9 w9 H9 L9 q9 ce9 hpx hW9 hS9 hce hcv hcl => q_prop hxt hlocks hW9 hS9 hce hcv hcl (by exact ⟨Or.inl hpx.1, hpx.2⟩) (Nat.le_of_ble_eq_true rfl) (Nat.le_of_ble_eq_true rfl)) (fun w_8 H locs hp8 hW hS => ?_)
  obtain ⟨ho8, hw9⟩ := hp8
  replace hw9 := hw9.symm
  subst hw9
  obtain ⟨exx9, bxx9⟩ := has_n (by omega) ho8.1 ho8.2
  have el_11 : x = nI (i32n x) := by exact exx9
  rw [el_11] at hl
  refine lv_iload_n hx hb dX6_noiseOf_11 rfl (lv_at hl 2 rfl) ?_
  refine lv_bipush (v := nI 6) hx hb dX6_noiseOf_12 (by decide) ?_
  refine q_X0 (vx_runS (As := [.int (y), .int (nI 6)]) (rest := []) ⟨hx, hb, hml, hown, hts⟩ (c_X6_checkWhat l hl0 (y) 6) (va_cwS 2 hts gX6_noiseOf_X6_checkWhat rfl rfl rfl (by decide +kernel) ⟨Nat.le_of_ble_eq_true rfl, Nat.le_of_ble_eq_true rfl⟩) (q_preS hG hW hS) rfl rfl hl.1 rfl (lv_room (Nat.le_of_ble_eq_true rfl)) dX6_noiseOf_14 ⟨Nat.le_of_ble_eq_true rfl, Nat.le_of_ble_eq_true rfl⟩) hS (fun E9 w9 H9 L9 q9 ce9 hpx hW9 hS9 hce hcv hcl => q_prop hxt hlocks hW9 hS9 hce hcv hcl (by exact ⟨Or.inr ⟨ho8, hpx.1⟩, hpx.2⟩) (Nat.le_of_ble_eq_true rfl) (Nat.le_of_ble_eq_true rfl)) (fun w_14 H locs hp14 hW hS => ?_)
  obtain ⟨ho14, hw9⟩ := hp14
  replace hw9 := hw9.symm
  subst hw9
  obtain ⟨exy9, bxy9⟩ := le_n (k := 6) (by decide) ho14.1 ho14.2
  have el_17 : y = nI (i32n y) := by exact exy9
  rw [el_17] at hl
  refine lv_iload_n hx hb dX6_noiseOf_17 rfl (lv_at hl 2 rfl) ?_
  refine lv_iconst (v := nI 3) hx hb dX6_noiseOf_18 (by decide) ?_
  refine lv_icmp_gt (tgt := 35) hx hb dX6_noiseOf_19 (by decide) (fun c_19 => ?_) (fun c_19 => ?_)
  · skip
    have c_19 : 3 < i32n y := (nI_ltI (a := 3) (b := i32n y) (by omega) (by omega)).mp c_19
    obtain ⟨⟨PT, hp7⟩, hm13, hm21⟩ := id hbk
    refine lv_aload_n hx hb dX6_noiseOf_35 rfl (lv_at hl 0 rfl) ?_
    refine q_get hx hb hts hinX6 hown hG hW hs0 rfl 0 (by decide) (hts (.fieldLink RX6 10 "FoleyMixer" "mix" "LFoleyMixer$Mix;") (List.mem_of_getElem? (i := 2) rfl)) rfl rfl dX6_noiseOf_36 ?_
    refine q_W0 (va_runVN (As := []) (rest := []) ⟨hx, hb, hml, hown, hts⟩ (c_X3_refresh l hm13 hp1 (by omega)) ⟨(va_cnB 0 hts gX6_noiseOf_X3_refresh_n181 rfl rfl rfl (hG.nest 45 rfl) (hts (.initialized RX3) (List.mem_of_getElem? (i := 24) rfl)) (by decide +kernel) ⟨Nat.le_of_ble_eq_true rfl, Nat.le_of_ble_eq_true rfl⟩), (hts (.instanceMethod yX3_refresh) (List.mem_of_getElem? (i := 23) rfl)), (hts (.selects RX3 yX3_refresh yX3_refresh) (List.mem_of_getElem? (i := 25) rfl))⟩ (q_preV hG hW hS (hm13).1 rfl) rfl rfl hl.1 rfl (lv_room (Nat.le_of_ble_eq_true rfl)) dX6_noiseOf_39 ⟨Nat.le_of_ble_eq_true rfl, Nat.le_of_ble_eq_true rfl⟩) hS (fun w_39 H locs hp39 hW hS => ?_)
    obtain ⟨hm13, fr39⟩ := hp39
    replace hs0 : w_39 0 = some (sysO b) := (fr39 _ (by omega)).trans hs0
    replace hp1 : isPlay dA b w_39 2 P := hp1.fr (fun id9 h7 h8 => fr39 id9 (by omega))
    replace hhs : isHS dA b w_39 lo n Hs SL := hhs.fr (fun id9 h7 => (fr39 id9 (by omega)))
    replace hsc : isScr dA b w_39 32 nc C := hsc.fr (fr39 _ (by omega)) (fr39 _ (by omega))
    replace hrd : ∃ R : Rd, isRdr dA b w_39 34 R := rdr_fr hrd (fun id9 h7 h8 => (fr39 id9 (by omega)))
    replace hex : ∃ e : va_E, w_39 (lo - 1) = some e := exw_fr hex (fr39 _ (by omega))
    replace hp7 : isPlay dA b w_39 16 PT := hp7.fr (fun id9 h7 h8 => fr39 id9 (by omega))
    replace hm21 : anyMix dA b w_39 15 16 := hm21.fr (fun id9 h7 h8 => (fr39 id9 (by omega)))
    refine lv_iload_n hx hb dX6_noiseOf_42 rfl (lv_at hl 2 rfl) ?_
    rcases (show i32n y = 4 ∨ i32n y = 5 ∨ i32n y = 6 by omega) with sw43 | sw43 | sw43
    · skip
      refine q_top (y := nI 4) (congrArg nI sw43) ?_
      refine lv_lookup (tgt := 68) (off := 25) hx hb dX6_noiseOf_43 (by decide) (by decide) (by decide) ?_
      refine lv_aload_n hx hb dX6_noiseOf_68 rfl (lv_at hl 0 rfl) ?_
      refine q_get hx hb hts hinX6 hown hG hW hs0 rfl 0 (by decide) (hts (.fieldLink RX6 10 "FoleyMixer" "mix" "LFoleyMixer$Mix;") (List.mem_of_getElem? (i := 2) rfl)) rfl rfl dX6_noiseOf_69 ?_
      refine lv_iload_n hx hb dX6_noiseOf_72 rfl (lv_at hl 1 rfl) ?_
      refine q_R1 (va_runVN (As := [.int (nI (i32n x))]) (rest := []) ⟨hx, hb, hml, hown, hts⟩ (c_X3_strengthSumOf l hm13 hp1 (i32n x) (by omega)) ⟨(va_cnB 1 hts gX6_noiseOf_X3_strengthSumOf_n197 rfl rfl rfl (hG.nest 85 rfl) (hts (.initialized RX3) (List.mem_of_getElem? (i := 24) rfl)) (by decide +kernel) ⟨Nat.le_of_ble_eq_true rfl, Nat.le_of_ble_eq_true rfl⟩), (hts (.instanceMethod yX3_strengthSumOf) (List.mem_of_getElem? (i := 88) rfl)), (hts (.selects RX3 yX3_strengthSumOf yX3_strengthSumOf) (List.mem_of_getElem? (i := 89) rfl))⟩ (q_preV hG hW hS (hm13).1 rfl) rfl rfl hl.1 rfl (lv_room (Nat.le_of_ble_eq_true rfl)) dX6_noiseOf_73 ⟨Nat.le_of_ble_eq_true rfl, Nat.le_of_ble_eq_true rfl⟩) ?_
      exact vx_ret (q_wi hx hb hr hlocks hW hS dX6_noiseOf_76 (by unfold nof; rw [sw43]; rfl) (by exact ⟨⟨ho8, ho14⟩, ⟨hs0, hp1, ⟨⟨_, hp7⟩, (isMix.any hm13), hm21⟩, hhs, hsc, hrd, hlo, hex⟩, by intro id h8 h9; rw [fr39 id (by omega)]; try rfl⟩) (by decide) (by decide))
    · skip
      refine q_top (y := nI 5) (congrArg nI sw43) ?_
      refine lv_lookup (tgt := 77) (off := 34) hx hb dX6_noiseOf_43 (by decide) (by decide) (by decide) ?_
      refine lv_aload_n hx hb dX6_noiseOf_77 rfl (lv_at hl 0 rfl) ?_
      refine q_get hx hb hts hinX6 hown hG hW hs0 rfl 0 (by decide) (hts (.fieldLink RX6 10 "FoleyMixer" "mix" "LFoleyMixer$Mix;") (List.mem_of_getElem? (i := 2) rfl)) rfl rfl dX6_noiseOf_78 ?_
      refine lv_iload_n hx hb dX6_noiseOf_81 rfl (lv_at hl 1 rfl) ?_
      refine q_R1 (va_runVN (As := [.int (nI (i32n x))]) (rest := []) ⟨hx, hb, hml, hown, hts⟩ (c_X3_maskingSecondsOf l hm13 hp1 (i32n x) (by omega)) ⟨(va_cnB 1 hts gX6_noiseOf_X3_maskingSecondsOf_n200 rfl rfl rfl (hG.nest 86 rfl) (hts (.initialized RX3) (List.mem_of_getElem? (i := 24) rfl)) (by decide +kernel) ⟨Nat.le_of_ble_eq_true rfl, Nat.le_of_ble_eq_true rfl⟩), (hts (.instanceMethod yX3_maskingSecondsOf) (List.mem_of_getElem? (i := 91) rfl)), (hts (.selects RX3 yX3_maskingSecondsOf yX3_maskingSecondsOf) (List.mem_of_getElem? (i := 92) rfl))⟩ (q_preV hG hW hS (hm13).1 rfl) rfl rfl hl.1 rfl (lv_room (Nat.le_of_ble_eq_true rfl)) dX6_noiseOf_82 ⟨Nat.le_of_ble_eq_true rfl, Nat.le_of_ble_eq_true rfl⟩) ?_
      exact vx_ret (q_wi hx hb hr hlocks hW hS dX6_noiseOf_85 (by unfold nof; rw [sw43]; rfl) (by exact ⟨⟨ho8, ho14⟩, ⟨hs0, hp1, ⟨⟨_, hp7⟩, (isMix.any hm13), hm21⟩, hhs, hsc, hrd, hlo, hex⟩, by intro id h8 h9; rw [fr39 id (by omega)]; try rfl⟩) (by decide) (by decide))
    · skip
      refine q_top (y := nI 6) (congrArg nI sw43) ?_
      refine lv_lookup (tgt := 86) (off := 43) hx hb dX6_noiseOf_43 (by decide) (by decide) (by decide) ?_
      refine lv_aload_n hx hb dX6_noiseOf_86 rfl (lv_at hl 0 rfl) ?_
      refine q_get hx hb hts hinX6 hown hG hW hs0 rfl 0 (by decide) (hts (.fieldLink RX6 10 "FoleyMixer" "mix" "LFoleyMixer$Mix;") (List.mem_of_getElem? (i := 2) rfl)) rfl rfl dX6_noiseOf_87 ?_
      refine lv_iload_n hx hb dX6_noiseOf_90 rfl (lv_at hl 1 rfl) ?_
      refine q_R1 (va_runVN (As := [.int (nI (i32n x))]) (rest := []) ⟨hx, hb, hml, hown, hts⟩ (c_X3_duckedSecondsOf l hm13 hp1 (i32n x) (by omega)) ⟨(va_cnB 1 hts gX6_noiseOf_X3_duckedSecondsOf_n203 rfl rfl rfl (hG.nest 87 rfl) (hts (.initialized RX3) (List.mem_of_getElem? (i := 24) rfl)) (by decide +kernel) ⟨Nat.le_of_ble_eq_true rfl, Nat.le_of_ble_eq_true rfl⟩), (hts (.instanceMethod yX3_duckedSecondsOf) (List.mem_of_getElem? (i := 94) rfl)), (hts (.selects RX3 yX3_duckedSecondsOf yX3_duckedSecondsOf) (List.mem_of_getElem? (i := 95) rfl))⟩ (q_preV hG hW hS (hm13).1 rfl) rfl rfl hl.1 rfl (lv_room (Nat.le_of_ble_eq_true rfl)) dX6_noiseOf_91 ⟨Nat.le_of_ble_eq_true rfl, Nat.le_of_ble_eq_true rfl⟩) ?_
      exact vx_ret (q_wi hx hb hr hlocks hW hS dX6_noiseOf_94 (by unfold nof; rw [sw43]; rfl) (by exact ⟨⟨ho8, ho14⟩, ⟨hs0, hp1, ⟨⟨_, hp7⟩, (isMix.any hm13), hm21⟩, hhs, hsc, hrd, hlo, hex⟩, by intro id h8 h9; rw [fr39 id (by omega)]; try rfl⟩) (by decide) (by decide))
  · skip
    have c_19 : ¬ (3 < i32n y) := fun h__ => c_19 ((nI_ltI (a := 3) (b := i32n y) (by omega) (by omega)).mpr h__)
    refine lv_aload_n hx hb dX6_noiseOf_22 rfl (lv_at hl 0 rfl) ?_
    refine q_get hx hb hts hinX6 hown hG hW hs0 rfl 2 (by decide) (hts (.fieldLink RX6 23 "FoleyMixer" "now" "LFoleyMixer$Play;") (List.mem_of_getElem? (i := 1) rfl)) rfl rfl dX6_noiseOf_23 ?_
    refine q_getN hx hb hts hinX4 hown hG hW (hp1).1 rfl 1 (by decide) (hG.nest 13 rfl) rfl rfl dX6_noiseOf_26 ?_
    refine lv_iload_n hx hb dX6_noiseOf_29 rfl (lv_at hl 1 rfl) ?_
    refine lv_iload_n hx hb dX6_noiseOf_30 rfl (lv_at hl 2 rfl) ?_
    refine q_R1 (va_runVN (As := [.int (nI (i32n x)), .int (nI (i32n y))]) (rest := []) ⟨hx, hb, hml, hown, hts⟩ (c_X1_numberOf l (hp1).2.2.1 (i32n x) (i32n y) (by omega) (by omega)) ⟨(va_cnB 2 hts gX6_noiseOf_X1_numberOf_n100 rfl rfl rfl (hG.nest 58 rfl) (hts (.initialized RX1) (List.mem_of_getElem? (i := 10) rfl)) (by decide +kernel) ⟨Nat.le_of_ble_eq_true rfl, Nat.le_of_ble_eq_true rfl⟩), (hts (.instanceMethod yX1_numberOf) (List.mem_of_getElem? (i := 19) rfl)), (hts (.selects RX1 yX1_numberOf yX1_numberOf) (List.mem_of_getElem? (i := 20) rfl))⟩ (q_preV hG hW hS (isCues.obj (hp1).2.2.1) rfl) rfl rfl hl.1 rfl (lv_room (Nat.le_of_ble_eq_true rfl)) dX6_noiseOf_31 ⟨Nat.le_of_ble_eq_true rfl, Nat.le_of_ble_eq_true rfl⟩) ?_
    have q_31 := (hp1).2.2.1.2.2.2.1 (i32n x) (by omega)
    exact vx_ret (q_wi hx hb hr hlocks hW hS dX6_noiseOf_34 (by unfold nof; rw [if_pos (by omega)]) (by exact ⟨⟨ho8, ho14⟩, ⟨hs0, hp1, hbk, hhs, hsc, hrd, hlo, hex⟩, by intro id h8 h9; try rfl⟩) (by decide) (by decide))

set_option maxHeartbeats 300000 in
set_option maxRecDepth 100000 in
/-- second -/
theorem c_X6_second (l : Launch) (hl0 : l.stackTraces = false) {D : va_G} {dA : Nat → Nat} {b : Nat} {w : Wd} {lo n nc : Nat} {P : Pl} {Hs : Nat → Pl} {SL : Nat → Option Pl} {C : Nat → Nat} (hs : isSys dA b w lo (P, (n, Hs), SL, (nc, C))) (x y : Int32) : vx_Met l yX6_second wsX6_second ({ frames := 7, cells := 1, slots := 6, locals := 115 } : Room) (PC D dA b w [.ref (b + 0), .int (x), .int (y)]) (QW D b (some (.int (sof P (i32n x) (i32n y)))) (fun w' => ((0 ≤ x ∧ x < 120) ∧ (0 ≤ y ∧ y ≤ nI 5)) ∧ isSys dA b w' lo (P, (n, Hs), SL, (nc, C)) ∧ ∀ id : Nat, 36 ≤ id → id < lo → w' id = w id)) (XW D b (fun E w' => ((E = IOE ∧ ¬ (0 ≤ x ∧ x < 120)) ∨ ((0 ≤ x ∧ x < 120) ∧ E = IAE ∧ ¬ (0 ≤ y ∧ y ≤ nI 5))) ∧ w' = w)) 1 6 (Fb b) := by
  refine q_ofX (cc := cX6_second) (maxL := 3) (ret := (some .int)) (by decide) rfl rfl ?_
  intro p e s m args below meth c ls hx hb hr hml hts hown hlocks hxt hG hW hS hl
  have hown : s.vm.findClass RX6 = some m.cls := hown
  have hinX3 : ∀ w ∈ u_ws RX3 TX3 8, w ∈ wsX6_second := fun w h => (goodIn_r (big := wsX6_second) (u_ws RX3 TX3 8) [93, 94, 95, 96, 97, 98, 99, 100] (by decide +kernel) (by decide +kernel) w h).1
  have hinX6 : ∀ w ∈ u_ws RX6 TX6 8, w ∈ wsX6_second := fun w h => (goodIn_r (big := wsX6_second) (u_ws RX6 TX6 8) [85, 86, 87, 88, 89, 90, 91, 92] (by decide +kernel) (by decide +kernel) w h).1
  have hl : lv_has ls 3 [(0, .ref (b + 0)), (1, .int (x)), (2, .int (y))] := hl
  obtain ⟨hs0, hp1, hbk, hhs, hsc, hrd, hlo, hex⟩ := id hs
  change isPlay dA b w 2 P at hp1
  change isHS dA b w lo n Hs SL at hhs
  change isScr dA b w 32 nc C at hsc
  have hP := hp1.ok
  have hn6 := HS_le hhs
  have hnc := hsc.2.2.1
  obtain ⟨hPw, hPn, hPW, hPN, hPS⟩ := id hP
  refine lv_iload_n hx hb dX6_second_0 rfl (lv_at hl 1 rfl) ?_
  refine lv_if_lt (tgt := 10) hx hb dX6_second_1 (by decide) (fun c_1 => ?_) (fun c_1 => ?_)
  · skip
    exact q_thrS hx hb hl0 (by rw [hml]; exact hl.1) hxt hlocks hown hG hW hS (by decide +kernel) (hts (.classLink RX6 206 "java/lang/IndexOutOfBoundsException") (List.mem_of_getElem? (i := 1) rfl)) (hts (.initialized "java/lang/IndexOutOfBoundsException") (List.mem_of_getElem? (i := 2) rfl)) 16 2 rfl rfl ngO otO (fun w h => hts w (List.mem_cons_of_mem _ (List.mem_append_left _ (List.mem_append_right _ h)))) dX6_second_10 dX6_second_13 dX6_second_14 dX6_second_16 dX6_second_19 (Nat.le_of_ble_eq_true rfl) (Nat.le_of_ble_eq_true rfl) (Nat.le_of_ble_eq_true rfl) (Nat.le_of_ble_eq_true rfl) (Nat.le_of_ble_eq_true rfl) (Nat.le_of_ble_eq_true rfl) (by first | exact ⟨Or.inl ⟨rfl, fun q9 => absurd q9.1 (Int32.not_le.mpr c_1)⟩, rfl⟩ | exact ⟨Or.inl ⟨rfl, fun q9 => c_7 q9.2⟩, rfl⟩)
  · skip
    refine lv_iload_n hx hb dX6_second_4 rfl (lv_at hl 1 rfl) ?_
    refine lv_bipush (v := nI 120) hx hb dX6_second_5 (by decide) ?_
    refine lv_icmp_lt (tgt := 20) hx hb dX6_second_7 (by decide) (fun c_7 => ?_) (fun c_7 => ?_)
    · skip
      have ho9 : (0 ≤ x ∧ x < 120) := ⟨Int32.not_lt.mp c_1, c_7⟩
      obtain ⟨exx9, bxx9⟩ := has_n (n := 120) (by decide) ho9.1 ho9.2
      have el_20 : x = nI (i32n x) := by exact exx9
      rw [el_20] at hl
      refine lv_iload_n hx hb dX6_second_20 rfl (lv_at hl 2 rfl) ?_
      refine lv_iconst (v := nI 5) hx hb dX6_second_21 (by decide) ?_
      refine q_X0 (vx_runS (As := [.int (y), .int (nI 5)]) (rest := []) ⟨hx, hb, hml, hown, hts⟩ (c_X6_checkWhat l hl0 (y) 5) (va_cwS 2 hts gX6_second_X6_checkWhat rfl rfl rfl (by decide +kernel) ⟨Nat.le_of_ble_eq_true rfl, Nat.le_of_ble_eq_true rfl⟩) (q_preS hG hW hS) rfl rfl hl.1 rfl (lv_room (Nat.le_of_ble_eq_true rfl)) dX6_second_22 ⟨Nat.le_of_ble_eq_true rfl, Nat.le_of_ble_eq_true rfl⟩) hS (fun E9 w9 H9 L9 q9 ce9 hpx hW9 hS9 hce hcv hcl => q_prop hxt hlocks hW9 hS9 hce hcv hcl (by exact ⟨Or.inr ⟨ho9, hpx.1⟩, hpx.2⟩) (Nat.le_of_ble_eq_true rfl) (Nat.le_of_ble_eq_true rfl)) (fun w_22 H locs hp22 hW hS => ?_)
      obtain ⟨ho22, hw9⟩ := hp22
      replace hw9 := hw9.symm
      subst hw9
      obtain ⟨exy9, bxy9⟩ := le_n (k := 5) (by decide) ho22.1 ho22.2
      have el_25 : y = nI (i32n y) := by exact exy9
      rw [el_25] at hl
      obtain ⟨⟨PT, hp7⟩, hm13, hm21⟩ := id hbk
      refine lv_aload_n hx hb dX6_second_25 rfl (lv_at hl 0 rfl) ?_
      refine q_get hx hb hts hinX6 hown hG hW hs0 rfl 0 (by decide) (hts (.fieldLink RX6 10 "FoleyMixer" "mix" "LFoleyMixer$Mix;") (List.mem_of_getElem? (i := 3) rfl)) rfl rfl dX6_second_26 ?_
      refine q_W0 (va_runVN (As := []) (rest := []) ⟨hx, hb, hml, hown, hts⟩ (c_X3_refresh l hm13 hp1 (by omega)) ⟨(va_cnB 0 hts gX6_second_X3_refresh_n181 rfl rfl rfl (hG.nest 45 rfl) (hts (.initialized RX3) (List.mem_of_getElem? (i := 11) rfl)) (by decide +kernel) ⟨Nat.le_of_ble_eq_true rfl, Nat.le_of_ble_eq_true rfl⟩), (hts (.instanceMethod yX3_refresh) (List.mem_of_getElem? (i := 10) rfl)), (hts (.selects RX3 yX3_refresh yX3_refresh) (List.mem_of_getElem? (i := 12) rfl))⟩ (q_preV hG hW hS (hm13).1 rfl) rfl rfl hl.1 rfl (lv_room (Nat.le_of_ble_eq_true rfl)) dX6_second_29 ⟨Nat.le_of_ble_eq_true rfl, Nat.le_of_ble_eq_true rfl⟩) hS (fun w_29 H locs hp29 hW hS => ?_)
      obtain ⟨hm13, fr29⟩ := hp29
      replace hs0 : w_29 0 = some (sysO b) := (fr29 _ (by omega)).trans hs0
      replace hp1 : isPlay dA b w_29 2 P := hp1.fr (fun id9 h7 h8 => fr29 id9 (by omega))
      replace hhs : isHS dA b w_29 lo n Hs SL := hhs.fr (fun id9 h7 => (fr29 id9 (by omega)))
      replace hsc : isScr dA b w_29 32 nc C := hsc.fr (fr29 _ (by omega)) (fr29 _ (by omega))
      replace hrd : ∃ R : Rd, isRdr dA b w_29 34 R := rdr_fr hrd (fun id9 h7 h8 => (fr29 id9 (by omega)))
      replace hex : ∃ e : va_E, w_29 (lo - 1) = some e := exw_fr hex (fr29 _ (by omega))
      replace hp7 : isPlay dA b w_29 16 PT := hp7.fr (fun id9 h7 h8 => fr29 id9 (by omega))
      replace hm21 : anyMix dA b w_29 15 16 := hm21.fr (fun id9 h7 h8 => (fr29 id9 (by omega)))
      refine lv_iload_n hx hb dX6_second_32 rfl (lv_at hl 2 rfl) ?_
      rcases (show i32n y = 0 ∨ i32n y = 1 ∨ i32n y = 2 ∨ i32n y = 3 ∨ i32n y = 4 ∨ i32n y = 5 by omega) with sw33 | sw33 | sw33 | sw33 | sw33 | sw33
      · skip
        refine q_top (y := nI 0) (congrArg nI sw33) ?_
        refine lv_tableIn (tgt := 68) (off := 35) hx hb dX6_second_33 (by decide) (by decide) rfl (by decide) ?_
        refine lv_aload_n hx hb dX6_second_68 rfl (lv_at hl 0 rfl) ?_
        refine q_get hx hb hts hinX6 hown hG hW hs0 rfl 0 (by decide) (hts (.fieldLink RX6 10 "FoleyMixer" "mix" "LFoleyMixer$Mix;") (List.mem_of_getElem? (i := 3) rfl)) rfl rfl dX6_second_69 ?_
        refine q_getN hx hb hts hinX3 hown hG hW (hm13).1 rfl 3 (by decide) (hG.nest 17 rfl) rfl rfl dX6_second_72 ?_
        refine lv_iload_n hx hb dX6_second_75 rfl (lv_at hl 1 rfl) ?_
        refine q_R1 (va_runS (As := [.ref (b + (1 + 9)), .int (nI (i32n x))]) (rest := []) ⟨hx, hb, hml, hown, hts⟩ (c_entry_in l (RD.own (hm13).2.2.2.1 (by decide)) (by decide) (i32n x) (by omega)) (va_cwS 2 hts gX6_second_X6_entry rfl rfl rfl (by decide +kernel) ⟨Nat.le_of_ble_eq_true rfl, Nat.le_of_ble_eq_true rfl⟩) (q_preS hG hW hS) rfl rfl hl.1 rfl (lv_room (Nat.le_of_ble_eq_true rfl)) dX6_second_76 ⟨Nat.le_of_ble_eq_true rfl, Nat.le_of_ble_eq_true rfl⟩) ?_
        exact vx_ret (q_wi hx hb hr hlocks hW hS dX6_second_79 (by unfold sof; rw [sw33]; rfl) (by exact ⟨⟨ho9, ho22⟩, ⟨hs0, hp1, ⟨⟨_, hp7⟩, (isMix.any hm13), hm21⟩, hhs, hsc, hrd, hlo, hex⟩, by intro id h8 h9; rw [fr29 id (by omega)]; try rfl⟩) (by decide) (by decide))
      · skip
        refine q_top (y := nI 1) (congrArg nI sw33) ?_
        refine lv_tableIn (tgt := 80) (off := 47) hx hb dX6_second_33 (by decide) (by decide) rfl (by decide) ?_
        refine lv_aload_n hx hb dX6_second_80 rfl (lv_at hl 0 rfl) ?_
        refine q_get hx hb hts hinX6 hown hG hW hs0 rfl 0 (by decide) (hts (.fieldLink RX6 10 "FoleyMixer" "mix" "LFoleyMixer$Mix;") (List.mem_of_getElem? (i := 3) rfl)) rfl rfl dX6_second_81 ?_
        refine q_getN hx hb hts hinX3 hown hG hW (hm13).1 rfl 1 (by decide) (hG.nest 15 rfl) rfl rfl dX6_second_84 ?_
        refine lv_iload_n hx hb dX6_second_87 rfl (lv_at hl 1 rfl) ?_
        refine q_R1 (va_runS (As := [.ref (b + (1 + 7)), .int (nI (i32n x))]) (rest := []) ⟨hx, hb, hml, hown, hts⟩ (c_entry_in l (RD.own (hm13).2.1 (by decide)) (by decide) (i32n x) (by omega)) (va_cwS 2 hts gX6_second_X6_entry rfl rfl rfl (by decide +kernel) ⟨Nat.le_of_ble_eq_true rfl, Nat.le_of_ble_eq_true rfl⟩) (q_preS hG hW hS) rfl rfl hl.1 rfl (lv_room (Nat.le_of_ble_eq_true rfl)) dX6_second_88 ⟨Nat.le_of_ble_eq_true rfl, Nat.le_of_ble_eq_true rfl⟩) ?_
        exact vx_ret (q_wi hx hb hr hlocks hW hS dX6_second_91 (by unfold sof; rw [sw33]; rfl) (by exact ⟨⟨ho9, ho22⟩, ⟨hs0, hp1, ⟨⟨_, hp7⟩, (isMix.any hm13), hm21⟩, hhs, hsc, hrd, hlo, hex⟩, by intro id h8 h9; rw [fr29 id (by omega)]; try rfl⟩) (by decide) (by decide))
      · skip
        refine q_top (y := nI 2) (congrArg nI sw33) ?_
        refine lv_tableIn (tgt := 92) (off := 59) hx hb dX6_second_33 (by decide) (by decide) rfl (by decide) ?_
        refine lv_aload_n hx hb dX6_second_92 rfl (lv_at hl 0 rfl) ?_
        refine q_get hx hb hts hinX6 hown hG hW hs0 rfl 0 (by decide) (hts (.fieldLink RX6 10 "FoleyMixer" "mix" "LFoleyMixer$Mix;") (List.mem_of_getElem? (i := 3) rfl)) rfl rfl dX6_second_93 ?_
        refine q_getN hx hb hts hinX3 hown hG hW (hm13).1 rfl 2 (by decide) (hG.nest 16 rfl) rfl rfl dX6_second_96 ?_
        refine lv_iload_n hx hb dX6_second_99 rfl (lv_at hl 1 rfl) ?_
        refine q_R1 (va_runS (As := [.ref (b + (1 + 8)), .int (nI (i32n x))]) (rest := []) ⟨hx, hb, hml, hown, hts⟩ (c_entry_in l (RD.own (hm13).2.2.1 (by decide)) (by decide) (i32n x) (by omega)) (va_cwS 2 hts gX6_second_X6_entry rfl rfl rfl (by decide +kernel) ⟨Nat.le_of_ble_eq_true rfl, Nat.le_of_ble_eq_true rfl⟩) (q_preS hG hW hS) rfl rfl hl.1 rfl (lv_room (Nat.le_of_ble_eq_true rfl)) dX6_second_100 ⟨Nat.le_of_ble_eq_true rfl, Nat.le_of_ble_eq_true rfl⟩) ?_
        exact vx_ret (q_wi hx hb hr hlocks hW hS dX6_second_103 (by unfold sof; rw [sw33]; rfl) (by exact ⟨⟨ho9, ho22⟩, ⟨hs0, hp1, ⟨⟨_, hp7⟩, (isMix.any hm13), hm21⟩, hhs, hsc, hrd, hlo, hex⟩, by intro id h8 h9; rw [fr29 id (by omega)]; try rfl⟩) (by decide) (by decide))
      · skip
        refine q_top (y := nI 3) (congrArg nI sw33) ?_
        refine lv_tableIn (tgt := 104) (off := 71) hx hb dX6_second_33 (by decide) (by decide) rfl (by decide) ?_
        refine lv_aload_n hx hb dX6_second_104 rfl (lv_at hl 0 rfl) ?_
        refine q_get hx hb hts hinX6 hown hG hW hs0 rfl 0 (by decide) (hts (.fieldLink RX6 10 "FoleyMixer" "mix" "LFoleyMixer$Mix;") (List.mem_of_getElem? (i := 3) rfl)) rfl rfl dX6_second_105 ?_
        refine lv_iload_n hx hb dX6_second_108 rfl (lv_at hl 1 rfl) ?_
        refine q_R1 (va_runVN (As := [.int (nI (i32n x))]) (rest := []) ⟨hx, hb, hml, hown, hts⟩ (c_X3_noiseLevel l hm13.1 hp1 hm13.2.2.2.2.2.1 hm13.2.2.2.2.2.2.1 (i32n x) (by omega)) ⟨(va_cnB 1 hts gX6_second_X3_noiseLevel_n223 rfl rfl rfl (hG.nest 88 rfl) (hts (.initialized RX3) (List.mem_of_getElem? (i := 11) rfl)) (by decide +kernel) ⟨Nat.le_of_ble_eq_true rfl, Nat.le_of_ble_eq_true rfl⟩), (hts (.instanceMethod yX3_noiseLevel) (List.mem_of_getElem? (i := 82) rfl)), (hts (.selects RX3 yX3_noiseLevel yX3_noiseLevel) (List.mem_of_getElem? (i := 83) rfl))⟩ (q_preV hG hW hS (hm13).1 rfl) rfl rfl hl.1 rfl (lv_room (Nat.le_of_ble_eq_true rfl)) dX6_second_109 ⟨Nat.le_of_ble_eq_true rfl, Nat.le_of_ble_eq_true rfl⟩) ?_
        exact vx_ret (q_wi hx hb hr hlocks hW hS dX6_second_112 (by unfold sof; rw [sw33]; rfl) (by exact ⟨⟨ho9, ho22⟩, ⟨hs0, hp1, ⟨⟨_, hp7⟩, (isMix.any hm13), hm21⟩, hhs, hsc, hrd, hlo, hex⟩, by intro id h8 h9; rw [fr29 id (by omega)]; try rfl⟩) (by decide) (by decide))
      · skip
        refine q_top (y := nI 4) (congrArg nI sw33) ?_
        refine lv_tableIn (tgt := 113) (off := 80) hx hb dX6_second_33 (by decide) (by decide) rfl (by decide) ?_
        refine lv_aload_n hx hb dX6_second_113 rfl (lv_at hl 0 rfl) ?_
        refine q_get hx hb hts hinX6 hown hG hW hs0 rfl 0 (by decide) (hts (.fieldLink RX6 10 "FoleyMixer" "mix" "LFoleyMixer$Mix;") (List.mem_of_getElem? (i := 3) rfl)) rfl rfl dX6_second_114 ?_
        refine q_getN hx hb hts hinX3 hown hG hW (hm13).1 rfl 7 (by decide) (hG.nest 19 rfl) rfl rfl dX6_second_117 ?_
        refine lv_iload_n hx hb dX6_second_120 rfl (lv_at hl 1 rfl) ?_
        refine q_R1 (va_runS (As := [.ref (b + (1 + 13)), .int (nI (i32n x))]) (rest := []) ⟨hx, hb, hml, hown, hts⟩ (c_entry_in l (RD.own (hm13).2.2.2.2.2.2.2 (by decide)) (by decide) (i32n x) (by omega)) (va_cwS 2 hts gX6_second_X6_entry rfl rfl rfl (by decide +kernel) ⟨Nat.le_of_ble_eq_true rfl, Nat.le_of_ble_eq_true rfl⟩) (q_preS hG hW hS) rfl rfl hl.1 rfl (lv_room (Nat.le_of_ble_eq_true rfl)) dX6_second_121 ⟨Nat.le_of_ble_eq_true rfl, Nat.le_of_ble_eq_true rfl⟩) ?_
        exact vx_ret (q_wi hx hb hr hlocks hW hS dX6_second_124 (by unfold sof; rw [sw33]; rfl) (by exact ⟨⟨ho9, ho22⟩, ⟨hs0, hp1, ⟨⟨_, hp7⟩, (isMix.any hm13), hm21⟩, hhs, hsc, hrd, hlo, hex⟩, by intro id h8 h9; rw [fr29 id (by omega)]; try rfl⟩) (by decide) (by decide))
      · skip
        refine q_top (y := nI 5) (congrArg nI sw33) ?_
        refine lv_tableOut (tgt := 125) hx hb dX6_second_33 (by decide) (by decide) ?_
        refine lv_aload_n hx hb dX6_second_125 rfl (lv_at hl 0 rfl) ?_
        refine q_get hx hb hts hinX6 hown hG hW hs0 rfl 0 (by decide) (hts (.fieldLink RX6 10 "FoleyMixer" "mix" "LFoleyMixer$Mix;") (List.mem_of_getElem? (i := 3) rfl)) rfl rfl dX6_second_126 ?_
        refine q_getN hx hb hts hinX3 hown hG hW (hm13).1 rfl 4 (by decide) (hG.nest 18 rfl) rfl rfl dX6_second_129 ?_
        refine lv_iload_n hx hb dX6_second_132 rfl (lv_at hl 1 rfl) ?_
        refine q_R1 (va_runS (As := [.ref (b + (1 + 10)), .int (nI (i32n x))]) (rest := []) ⟨hx, hb, hml, hown, hts⟩ (c_entry_in l (RD.own (hm13).2.2.2.2.1 (by decide)) (by decide) (i32n x) (by omega)) (va_cwS 2 hts gX6_second_X6_entry rfl rfl rfl (by decide +kernel) ⟨Nat.le_of_ble_eq_true rfl, Nat.le_of_ble_eq_true rfl⟩) (q_preS hG hW hS) rfl rfl hl.1 rfl (lv_room (Nat.le_of_ble_eq_true rfl)) dX6_second_133 ⟨Nat.le_of_ble_eq_true rfl, Nat.le_of_ble_eq_true rfl⟩) ?_
        exact vx_ret (q_wi hx hb hr hlocks hW hS dX6_second_136 (by unfold sof; rw [sw33]; rfl) (by exact ⟨⟨ho9, ho22⟩, ⟨hs0, hp1, ⟨⟨_, hp7⟩, (isMix.any hm13), hm21⟩, hhs, hsc, hrd, hlo, hex⟩, by intro id h8 h9; rw [fr29 id (by omega)]; try rfl⟩) (by decide) (by decide))
    · skip
      exact q_thrS hx hb hl0 (by rw [hml]; exact hl.1) hxt hlocks hown hG hW hS (by decide +kernel) (hts (.classLink RX6 206 "java/lang/IndexOutOfBoundsException") (List.mem_of_getElem? (i := 1) rfl)) (hts (.initialized "java/lang/IndexOutOfBoundsException") (List.mem_of_getElem? (i := 2) rfl)) 16 2 rfl rfl ngO otO (fun w h => hts w (List.mem_cons_of_mem _ (List.mem_append_left _ (List.mem_append_right _ h)))) dX6_second_10 dX6_second_13 dX6_second_14 dX6_second_16 dX6_second_19 (Nat.le_of_ble_eq_true rfl) (Nat.le_of_ble_eq_true rfl) (Nat.le_of_ble_eq_true rfl) (Nat.le_of_ble_eq_true rfl) (Nat.le_of_ble_eq_true rfl) (Nat.le_of_ble_eq_true rfl) (by first | exact ⟨Or.inl ⟨rfl, fun q9 => absurd q9.1 (Int32.not_le.mpr c_1)⟩, rfl⟩ | exact ⟨Or.inl ⟨rfl, fun q9 => c_7 q9.2⟩, rfl⟩)

set_option maxHeartbeats 300000 in
set_option maxRecDepth 100000 in
/-- count -/
theorem c_X6_count (l : Launch) (hl0 : l.stackTraces = false) {D : va_G} {dA : Nat → Nat} {b : Nat} {w : Wd} {lo n nc : Nat} {P : Pl} {Hs : Nat → Pl} {SL : Nat → Option Pl} {C : Nat → Nat} (hs : isSys dA b w lo (P, (n, Hs), SL, (nc, C))) (x : Int32) : vx_Met l yX6_count wsX6_count ({ frames := 7, cells := 1, slots := 6, locals := 115 } : Room) (PC D dA b w [.ref (b + 0), .int (x)]) (QW D b (some (.int (cof P n nc (i32n x)))) (fun w' => (0 ≤ x ∧ x ≤ nI 13) ∧ isSys dA b w' lo (P, (n, Hs), SL, (nc, C)) ∧ ∀ id : Nat, 36 ≤ id → id < lo → w' id = w id)) (XW D b (fun E w' => (E = IAE ∧ ¬ (0 ≤ x ∧ x ≤ nI 13)) ∧ w' = w)) 1 6 (Fb b) := by
  refine q_ofX (cc := cX6_count) (maxL := 2) (ret := (some .int)) (by decide) rfl rfl ?_
  intro p e s m args below meth c ls hx hb hr hml hts hown hlocks hxt hG hW hS hl
  have hown : s.vm.findClass RX6 = some m.cls := hown
  have hinX4 : ∀ w ∈ u_ws RX4 TX4 3, w ∈ wsX6_count := fun w h => (goodIn_r (big := wsX6_count) (u_ws RX4 TX4 3) [135, 136, 137] (by decide +kernel) (by decide +kernel) w h).1
  have hinX6 : ∀ w ∈ u_ws RX6 TX6 8, w ∈ wsX6_count := fun w h => (goodIn_r (big := wsX6_count) (u_ws RX6 TX6 8) [127, 128, 129, 130, 131, 132, 133, 134] (by decide +kernel) (by decide +kernel) w h).1
  have hl : lv_has ls 2 [(0, .ref (b + 0)), (1, .int (x))] := hl
  obtain ⟨hs0, hp1, hbk, hhs, hsc, hrd, hlo, hex⟩ := id hs
  change isPlay dA b w 2 P at hp1
  change isHS dA b w lo n Hs SL at hhs
  change isScr dA b w 32 nc C at hsc
  have hP := hp1.ok
  have hn6 := HS_le hhs
  have hnc := hsc.2.2.1
  obtain ⟨hPw, hPn, hPW, hPN, hPS⟩ := id hP
  refine lv_iload_n hx hb dX6_count_0 rfl (lv_at hl 1 rfl) ?_
  refine lv_bipush (v := nI 13) hx hb dX6_count_1 (by decide) ?_
  refine q_X0 (vx_runS (As := [.int (x), .int (nI 13)]) (rest := []) ⟨hx, hb, hml, hown, hts⟩ (c_X6_checkWhat l hl0 (x) 13) (va_cwS 2 hts gX6_count_X6_checkWhat rfl rfl rfl (by decide +kernel) ⟨Nat.le_of_ble_eq_true rfl, Nat.le_of_ble_eq_true rfl⟩) (q_preS hG hW hS) rfl rfl hl.1 rfl (lv_room (Nat.le_of_ble_eq_true rfl)) dX6_count_3 ⟨Nat.le_of_ble_eq_true rfl, Nat.le_of_ble_eq_true rfl⟩) hS (fun E9 w9 H9 L9 q9 ce9 hpx hW9 hS9 hce hcv hcl => q_prop hxt hlocks hW9 hS9 hce hcv hcl (by exact hpx) (Nat.le_of_ble_eq_true rfl) (Nat.le_of_ble_eq_true rfl)) (fun w_3 H locs hp3 hW hS => ?_)
  obtain ⟨ho3, hw9⟩ := hp3
  replace hw9 := hw9.symm
  subst hw9
  obtain ⟨exx9, bxx9⟩ := le_n (k := 13) (by decide) ho3.1 ho3.2
  have el_6 : x = nI (i32n x) := by exact exx9
  rw [el_6] at hl
  refine lv_iload_n hx hb dX6_count_6 rfl (lv_at hl 1 rfl) ?_
  refine lv_bipush (v := nI 9) hx hb dX6_count_7 (by decide) ?_
  refine lv_icmp_lt (tgt := 24) hx hb dX6_count_9 (by decide) (fun c_9 => ?_) (fun c_9 => ?_)
  · skip
    have c_9 : i32n x < 9 := (nI_ltI (a := i32n x) (b := 9) (by omega) (by omega)).mp c_9
    obtain ⟨⟨PT, hp7⟩, hm13, hm21⟩ := id hbk
    refine lv_aload_n hx hb dX6_count_24 rfl (lv_at hl 0 rfl) ?_
    refine q_get hx hb hts hinX6 hown hG hW hs0 rfl 0 (by decide) (hts (.fieldLink RX6 10 "FoleyMixer" "mix" "LFoleyMixer$Mix;") (List.mem_of_getElem? (i := 2) rfl)) rfl rfl dX6_count_25 ?_
    refine q_W0 (va_runVN (As := []) (rest := []) ⟨hx, hb, hml, hown, hts⟩ (c_X3_refresh l hm13 hp1 (by omega)) ⟨(va_cnB 0 hts gX6_count_X3_refresh_n181 rfl rfl rfl (hG.nest 45 rfl) (hts (.initialized RX3) (List.mem_of_getElem? (i := 17) rfl)) (by decide +kernel) ⟨Nat.le_of_ble_eq_true rfl, Nat.le_of_ble_eq_true rfl⟩), (hts (.instanceMethod yX3_refresh) (List.mem_of_getElem? (i := 16) rfl)), (hts (.selects RX3 yX3_refresh yX3_refresh) (List.mem_of_getElem? (i := 18) rfl))⟩ (q_preV hG hW hS (hm13).1 rfl) rfl rfl hl.1 rfl (lv_room (Nat.le_of_ble_eq_true rfl)) dX6_count_28 ⟨Nat.le_of_ble_eq_true rfl, Nat.le_of_ble_eq_true rfl⟩) hS (fun w_28 H locs hp28 hW hS => ?_)
    obtain ⟨hm13, fr28⟩ := hp28
    replace hs0 : w_28 0 = some (sysO b) := (fr28 _ (by omega)).trans hs0
    replace hp1 : isPlay dA b w_28 2 P := hp1.fr (fun id9 h7 h8 => fr28 id9 (by omega))
    replace hhs : isHS dA b w_28 lo n Hs SL := hhs.fr (fun id9 h7 => (fr28 id9 (by omega)))
    replace hsc : isScr dA b w_28 32 nc C := hsc.fr (fr28 _ (by omega)) (fr28 _ (by omega))
    replace hrd : ∃ R : Rd, isRdr dA b w_28 34 R := rdr_fr hrd (fun id9 h7 h8 => (fr28 id9 (by omega)))
    replace hex : ∃ e : va_E, w_28 (lo - 1) = some e := exw_fr hex (fr28 _ (by omega))
    replace hp7 : isPlay dA b w_28 16 PT := hp7.fr (fun id9 h7 h8 => fr28 id9 (by omega))
    replace hm21 : anyMix dA b w_28 15 16 := hm21.fr (fun id9 h7 h8 => (fr28 id9 (by omega)))
    refine lv_iload_n hx hb dX6_count_31 rfl (lv_at hl 1 rfl) ?_
    rcases (show i32n x = 0 ∨ i32n x = 1 ∨ i32n x = 2 ∨ i32n x = 3 ∨ i32n x = 4 ∨ i32n x = 5 ∨ i32n x = 6 ∨ i32n x = 7 ∨ i32n x = 8 by omega) with sw32 | sw32 | sw32 | sw32 | sw32 | sw32 | sw32 | sw32 | sw32
    · skip
      refine q_top (y := nI 0) (congrArg nI sw32) ?_
      refine lv_tableIn (tgt := 80) (off := 48) hx hb dX6_count_32 (by decide) (by decide) rfl (by decide) ?_
      refine lv_aload_n hx hb dX6_count_80 rfl (lv_at hl 0 rfl) ?_
      refine q_get hx hb hts hinX6 hown hG hW hs0 rfl 2 (by decide) (hts (.fieldLink RX6 23 "FoleyMixer" "now" "LFoleyMixer$Play;") (List.mem_of_getElem? (i := 1) rfl)) rfl rfl dX6_count_81 ?_
      refine q_getN hx hb hts hinX4 hown hG hW (hp1).1 rfl 0 (by decide) (hG.nest 11 rfl) rfl rfl dX6_count_84 ?_
      refine q_R1 (va_runVN (As := []) (rest := []) ⟨hx, hb, hml, hown, hts⟩ (c_X1_size l (hp1).2.1) ⟨(va_cnB 0 hts gX6_count_X1_size_n89 rfl rfl rfl (hG.nest 34 rfl) (hts (.initialized RX1) (List.mem_of_getElem? (i := 24) rfl)) (by decide +kernel) ⟨Nat.le_of_ble_eq_true rfl, Nat.le_of_ble_eq_true rfl⟩), (hts (.instanceMethod yX1_size) (List.mem_of_getElem? (i := 57) rfl)), (hts (.selects RX1 yX1_size yX1_size) (List.mem_of_getElem? (i := 58) rfl))⟩ (q_preV hG hW hS (isCues.obj (hp1).2.1) rfl) rfl rfl hl.1 rfl (lv_room (Nat.le_of_ble_eq_true rfl)) dX6_count_87 ⟨Nat.le_of_ble_eq_true rfl, Nat.le_of_ble_eq_true rfl⟩) ?_
      exact vx_ret (q_wi hx hb hr hlocks hW hS dX6_count_90 (by unfold cof; rw [sw32]; rfl) (by exact ⟨ho3, ⟨hs0, hp1, ⟨⟨_, hp7⟩, (isMix.any hm13), hm21⟩, hhs, hsc, hrd, hlo, hex⟩, by intro id h8 h9; rw [fr28 id (by omega)]; try rfl⟩) (by decide) (by decide))
    · skip
      refine q_top (y := nI 1) (congrArg nI sw32) ?_
      refine lv_tableIn (tgt := 91) (off := 59) hx hb dX6_count_32 (by decide) (by decide) rfl (by decide) ?_
      refine lv_aload_n hx hb dX6_count_91 rfl (lv_at hl 0 rfl) ?_
      refine q_get hx hb hts hinX6 hown hG hW hs0 rfl 2 (by decide) (hts (.fieldLink RX6 23 "FoleyMixer" "now" "LFoleyMixer$Play;") (List.mem_of_getElem? (i := 1) rfl)) rfl rfl dX6_count_92 ?_
      refine q_getN hx hb hts hinX4 hown hG hW (hp1).1 rfl 1 (by decide) (hG.nest 13 rfl) rfl rfl dX6_count_95 ?_
      refine q_R1 (va_runVN (As := []) (rest := []) ⟨hx, hb, hml, hown, hts⟩ (c_X1_size l (hp1).2.2.1) ⟨(va_cnB 0 hts gX6_count_X1_size_n89 rfl rfl rfl (hG.nest 34 rfl) (hts (.initialized RX1) (List.mem_of_getElem? (i := 24) rfl)) (by decide +kernel) ⟨Nat.le_of_ble_eq_true rfl, Nat.le_of_ble_eq_true rfl⟩), (hts (.instanceMethod yX1_size) (List.mem_of_getElem? (i := 57) rfl)), (hts (.selects RX1 yX1_size yX1_size) (List.mem_of_getElem? (i := 58) rfl))⟩ (q_preV hG hW hS (isCues.obj (hp1).2.2.1) rfl) rfl rfl hl.1 rfl (lv_room (Nat.le_of_ble_eq_true rfl)) dX6_count_98 ⟨Nat.le_of_ble_eq_true rfl, Nat.le_of_ble_eq_true rfl⟩) ?_
      exact vx_ret (q_wi hx hb hr hlocks hW hS dX6_count_101 (by unfold cof; rw [sw32]; rfl) (by exact ⟨ho3, ⟨hs0, hp1, ⟨⟨_, hp7⟩, (isMix.any hm13), hm21⟩, hhs, hsc, hrd, hlo, hex⟩, by intro id h8 h9; rw [fr28 id (by omega)]; try rfl⟩) (by decide) (by decide))
    · skip
      refine q_top (y := nI 2) (congrArg nI sw32) ?_
      refine lv_tableIn (tgt := 102) (off := 70) hx hb dX6_count_32 (by decide) (by decide) rfl (by decide) ?_
      refine lv_aload_n hx hb dX6_count_102 rfl (lv_at hl 0 rfl) ?_
      refine q_get hx hb hts hinX6 hown hG hW hs0 rfl 0 (by decide) (hts (.fieldLink RX6 10 "FoleyMixer" "mix" "LFoleyMixer$Mix;") (List.mem_of_getElem? (i := 2) rfl)) rfl rfl dX6_count_103 ?_
      refine q_R1 (va_runVN (As := []) (rest := []) ⟨hx, hb, hml, hown, hts⟩ (c_X3_understood l hm13 hp1) ⟨(va_cnB 0 hts gX6_count_X3_understood_n238 rfl rfl rfl (hG.nest 56 rfl) (hts (.initialized RX3) (List.mem_of_getElem? (i := 17) rfl)) (by decide +kernel) ⟨Nat.le_of_ble_eq_true rfl, Nat.le_of_ble_eq_true rfl⟩), (hts (.instanceMethod yX3_understood) (List.mem_of_getElem? (i := 82) rfl)), (hts (.selects RX3 yX3_understood yX3_understood) (List.mem_of_getElem? (i := 83) rfl))⟩ (q_preV hG hW hS (hm13).1 rfl) rfl rfl hl.1 rfl (lv_room (Nat.le_of_ble_eq_true rfl)) dX6_count_106 ⟨Nat.le_of_ble_eq_true rfl, Nat.le_of_ble_eq_true rfl⟩) ?_
      exact vx_ret (q_wi hx hb hr hlocks hW hS dX6_count_109 (by unfold cof; rw [sw32]; rfl) (by exact ⟨ho3, ⟨hs0, hp1, ⟨⟨_, hp7⟩, (isMix.any hm13), hm21⟩, hhs, hsc, hrd, hlo, hex⟩, by intro id h8 h9; rw [fr28 id (by omega)]; try rfl⟩) (by decide) (by decide))
    · skip
      refine q_top (y := nI 3) (congrArg nI sw32) ?_
      refine lv_tableIn (tgt := 110) (off := 78) hx hb dX6_count_32 (by decide) (by decide) rfl (by decide) ?_
      refine lv_aload_n hx hb dX6_count_110 rfl (lv_at hl 0 rfl) ?_
      refine q_get hx hb hts hinX6 hown hG hW hs0 rfl 0 (by decide) (hts (.fieldLink RX6 10 "FoleyMixer" "mix" "LFoleyMixer$Mix;") (List.mem_of_getElem? (i := 2) rfl)) rfl rfl dX6_count_111 ?_
      refine q_R1 (va_runVN (As := []) (rest := []) ⟨hx, hb, hml, hown, hts⟩ (c_X3_maskedSeconds l hm13 hp1) ⟨(va_cnB 0 hts gX6_count_X3_maskedSeconds_n241 rfl rfl rfl (hG.nest 59 rfl) (hts (.initialized RX3) (List.mem_of_getElem? (i := 17) rfl)) (by decide +kernel) ⟨Nat.le_of_ble_eq_true rfl, Nat.le_of_ble_eq_true rfl⟩), (hts (.instanceMethod yX3_maskedSeconds) (List.mem_of_getElem? (i := 93) rfl)), (hts (.selects RX3 yX3_maskedSeconds yX3_maskedSeconds) (List.mem_of_getElem? (i := 94) rfl))⟩ (q_preV hG hW hS (hm13).1 rfl) rfl rfl hl.1 rfl (lv_room (Nat.le_of_ble_eq_true rfl)) dX6_count_114 ⟨Nat.le_of_ble_eq_true rfl, Nat.le_of_ble_eq_true rfl⟩) ?_
      exact vx_ret (q_wi hx hb hr hlocks hW hS dX6_count_117 (by unfold cof; rw [sw32]; rfl) (by exact ⟨ho3, ⟨hs0, hp1, ⟨⟨_, hp7⟩, (isMix.any hm13), hm21⟩, hhs, hsc, hrd, hlo, hex⟩, by intro id h8 h9; rw [fr28 id (by omega)]; try rfl⟩) (by decide) (by decide))
    · skip
      refine q_top (y := nI 4) (congrArg nI sw32) ?_
      refine lv_tableIn (tgt := 118) (off := 86) hx hb dX6_count_32 (by decide) (by decide) rfl (by decide) ?_
      refine lv_aload_n hx hb dX6_count_118 rfl (lv_at hl 0 rfl) ?_
      refine q_get hx hb hts hinX6 hown hG hW hs0 rfl 0 (by decide) (hts (.fieldLink RX6 10 "FoleyMixer" "mix" "LFoleyMixer$Mix;") (List.mem_of_getElem? (i := 2) rfl)) rfl rfl dX6_count_119 ?_
      refine q_R1 (va_runVN (As := []) (rest := []) ⟨hx, hb, hml, hown, hts⟩ (c_X3_lastSound l hm13 hp1) ⟨(va_cnB 0 hts gX6_count_X3_lastSound_n244 rfl rfl rfl (hG.nest 91 rfl) (hts (.initialized RX3) (List.mem_of_getElem? (i := 17) rfl)) (by decide +kernel) ⟨Nat.le_of_ble_eq_true rfl, Nat.le_of_ble_eq_true rfl⟩), (hts (.instanceMethod yX3_lastSound) (List.mem_of_getElem? (i := 103) rfl)), (hts (.selects RX3 yX3_lastSound yX3_lastSound) (List.mem_of_getElem? (i := 104) rfl))⟩ (q_preV hG hW hS (hm13).1 rfl) rfl rfl hl.1 rfl (lv_room (Nat.le_of_ble_eq_true rfl)) dX6_count_122 ⟨Nat.le_of_ble_eq_true rfl, Nat.le_of_ble_eq_true rfl⟩) ?_
      exact vx_ret (q_wi hx hb hr hlocks hW hS dX6_count_125 (by unfold cof; rw [sw32]; rfl) (by exact ⟨ho3, ⟨hs0, hp1, ⟨⟨_, hp7⟩, (isMix.any hm13), hm21⟩, hhs, hsc, hrd, hlo, hex⟩, by intro id h8 h9; rw [fr28 id (by omega)]; try rfl⟩) (by decide) (by decide))
    · skip
      refine q_top (y := nI 5) (congrArg nI sw32) ?_
      refine lv_tableIn (tgt := 126) (off := 94) hx hb dX6_count_32 (by decide) (by decide) rfl (by decide) ?_
      refine lv_aload_n hx hb dX6_count_126 rfl (lv_at hl 0 rfl) ?_
      refine q_get hx hb hts hinX6 hown hG hW hs0 rfl 0 (by decide) (hts (.fieldLink RX6 10 "FoleyMixer" "mix" "LFoleyMixer$Mix;") (List.mem_of_getElem? (i := 2) rfl)) rfl rfl dX6_count_127 ?_
      refine q_R1 (va_runVN (As := []) (rest := []) ⟨hx, hb, hml, hown, hts⟩ (c_X3_silentSeconds l hm13 hp1) ⟨(va_cnB 0 hts gX6_count_X3_silentSeconds_n247 rfl rfl rfl (hG.nest 92 rfl) (hts (.initialized RX3) (List.mem_of_getElem? (i := 17) rfl)) (by decide +kernel) ⟨Nat.le_of_ble_eq_true rfl, Nat.le_of_ble_eq_true rfl⟩), (hts (.instanceMethod yX3_silentSeconds) (List.mem_of_getElem? (i := 110) rfl)), (hts (.selects RX3 yX3_silentSeconds yX3_silentSeconds) (List.mem_of_getElem? (i := 111) rfl))⟩ (q_preV hG hW hS (hm13).1 rfl) rfl rfl hl.1 rfl (lv_room (Nat.le_of_ble_eq_true rfl)) dX6_count_130 ⟨Nat.le_of_ble_eq_true rfl, Nat.le_of_ble_eq_true rfl⟩) ?_
      exact vx_ret (q_wi hx hb hr hlocks hW hS dX6_count_133 (by unfold cof; rw [sw32]; rfl) (by exact ⟨ho3, ⟨hs0, hp1, ⟨⟨_, hp7⟩, (isMix.any hm13), hm21⟩, hhs, hsc, hrd, hlo, hex⟩, by intro id h8 h9; rw [fr28 id (by omega)]; try rfl⟩) (by decide) (by decide))
    · skip
      refine q_top (y := nI 6) (congrArg nI sw32) ?_
      refine lv_tableIn (tgt := 134) (off := 102) hx hb dX6_count_32 (by decide) (by decide) rfl (by decide) ?_
      refine lv_aload_n hx hb dX6_count_134 rfl (lv_at hl 0 rfl) ?_
      refine q_get hx hb hts hinX6 hown hG hW hs0 rfl 0 (by decide) (hts (.fieldLink RX6 10 "FoleyMixer" "mix" "LFoleyMixer$Mix;") (List.mem_of_getElem? (i := 2) rfl)) rfl rfl dX6_count_135 ?_
      refine q_R1 (va_runVN (As := []) (rest := []) ⟨hx, hb, hml, hown, hts⟩ (c_X3_greatestMasker l hm13 hp1) ⟨(va_cnB 0 hts gX6_count_X3_greatestMasker_n250 rfl rfl rfl (hG.nest 93 rfl) (hts (.initialized RX3) (List.mem_of_getElem? (i := 17) rfl)) (by decide +kernel) ⟨Nat.le_of_ble_eq_true rfl, Nat.le_of_ble_eq_true rfl⟩), (hts (.instanceMethod yX3_greatestMasker) (List.mem_of_getElem? (i := 114) rfl)), (hts (.selects RX3 yX3_greatestMasker yX3_greatestMasker) (List.mem_of_getElem? (i := 115) rfl))⟩ (q_preV hG hW hS (hm13).1 rfl) rfl rfl hl.1 rfl (lv_room (Nat.le_of_ble_eq_true rfl)) dX6_count_138 ⟨Nat.le_of_ble_eq_true rfl, Nat.le_of_ble_eq_true rfl⟩) ?_
      exact vx_ret (q_wi hx hb hr hlocks hW hS dX6_count_141 (by unfold cof; rw [sw32]; rfl) (by exact ⟨ho3, ⟨hs0, hp1, ⟨⟨_, hp7⟩, (isMix.any hm13), hm21⟩, hhs, hsc, hrd, hlo, hex⟩, by intro id h8 h9; rw [fr28 id (by omega)]; try rfl⟩) (by decide) (by decide))
    · skip
      refine q_top (y := nI 7) (congrArg nI sw32) ?_
      refine lv_tableIn (tgt := 142) (off := 110) hx hb dX6_count_32 (by decide) (by decide) rfl (by decide) ?_
      refine lv_aload_n hx hb dX6_count_142 rfl (lv_at hl 0 rfl) ?_
      refine q_get hx hb hts hinX6 hown hG hW hs0 rfl 4 (by decide) (hts (.fieldLink RX6 32 "FoleyMixer" "history" "LFoleyMixer$History;") (List.mem_of_getElem? (i := 3) rfl)) rfl rfl dX6_count_143 ?_
      obtain ⟨mh9, a9, H9, gz9, hh9, hv2, hv3, hv4, hv5, hv6⟩ := id hhs
      refine q_R1 (va_runVN (As := []) (rest := []) ⟨hx, hb, hml, hown, hts⟩ (c_X2_size l hh9.1) ⟨(va_cnB 0 hts gX6_count_X2_size_n164 rfl rfl rfl (hG.nest 77 rfl) (hts (.initialized RX2) (List.mem_of_getElem? (i := 118) rfl)) (by decide +kernel) ⟨Nat.le_of_ble_eq_true rfl, Nat.le_of_ble_eq_true rfl⟩), (hts (.instanceMethod yX2_size) (List.mem_of_getElem? (i := 117) rfl)), (hts (.selects RX2 yX2_size yX2_size) (List.mem_of_getElem? (i := 119) rfl))⟩ (q_preV hG hW hS hh9.1 rfl) rfl rfl hl.1 rfl (lv_room (Nat.le_of_ble_eq_true rfl)) dX6_count_146 ⟨Nat.le_of_ble_eq_true rfl, Nat.le_of_ble_eq_true rfl⟩) ?_
      exact vx_ret (q_wi hx hb hr hlocks hW hS dX6_count_149 (by unfold cof; rw [sw32]; rfl) (by exact ⟨ho3, ⟨hs0, hp1, ⟨⟨_, hp7⟩, (isMix.any hm13), hm21⟩, hhs, hsc, hrd, hlo, hex⟩, by intro id h8 h9; rw [fr28 id (by omega)]; try rfl⟩) (by decide) (by decide))
    · skip
      refine q_top (y := nI 8) (congrArg nI sw32) ?_
      refine lv_tableOut (tgt := 150) hx hb dX6_count_32 (by decide) (by decide) ?_
      refine lv_aload_n hx hb dX6_count_150 rfl (lv_at hl 0 rfl) ?_
      refine q_get hx hb hts hinX6 hown hG hW hs0 rfl 6 (by decide) (hts (.fieldLink RX6 45 "FoleyMixer" "script" "LFoleyMixer$Script;") (List.mem_of_getElem? (i := 4) rfl)) rfl rfl dX6_count_151 ?_
      refine q_R1 (va_runVN (As := []) (rest := []) ⟨hx, hb, hml, hown, hts⟩ (c_X5_size l hsc) ⟨(va_cnB 0 hts gX6_count_X5_size_n139 rfl rfl rfl (hG.nest 23 rfl) (hts (.initialized RX5) (List.mem_of_getElem? (i := 123) rfl)) (by decide +kernel) ⟨Nat.le_of_ble_eq_true rfl, Nat.le_of_ble_eq_true rfl⟩), (hts (.instanceMethod yX5_size) (List.mem_of_getElem? (i := 122) rfl)), (hts (.selects RX5 yX5_size yX5_size) (List.mem_of_getElem? (i := 124) rfl))⟩ (q_preV hG hW hS (hsc).1 rfl) rfl rfl hl.1 rfl (lv_room (Nat.le_of_ble_eq_true rfl)) dX6_count_154 ⟨Nat.le_of_ble_eq_true rfl, Nat.le_of_ble_eq_true rfl⟩) ?_
      exact vx_ret (q_wi hx hb hr hlocks hW hS dX6_count_157 (by unfold cof; rw [sw32]; rfl) (by exact ⟨ho3, ⟨hs0, hp1, ⟨⟨_, hp7⟩, (isMix.any hm13), hm21⟩, hhs, hsc, hrd, hlo, hex⟩, by intro id h8 h9; rw [fr28 id (by omega)]; try rfl⟩) (by decide) (by decide))
  · skip
    have c_9 : ¬ (i32n x < 9) := fun h__ => c_9 ((nI_ltI (a := i32n x) (b := 9) (by omega) (by omega)).mpr h__)
    refine lv_aload_n hx hb dX6_count_12 rfl (lv_at hl 0 rfl) ?_
    refine q_get hx hb hts hinX6 hown hG hW hs0 rfl 2 (by decide) (hts (.fieldLink RX6 23 "FoleyMixer" "now" "LFoleyMixer$Play;") (List.mem_of_getElem? (i := 1) rfl)) rfl rfl dX6_count_13 ?_
    refine lv_iload_n hx hb dX6_count_16 rfl (lv_at hl 1 rfl) ?_
    refine lv_bipush (v := nI 9) hx hb dX6_count_17 (by decide) ?_
    refine lv_isub hx hb dX6_count_19 ?_
    refine q_top (y := nI ((i32n x) - 9)) (nI_sub (by omega)) ?_
    refine q_R1 (va_runVN (As := [.int (nI ((i32n x) - 9))]) (rest := []) ⟨hx, hb, hml, hown, hts⟩ (c_X4_settingOf l hp1 ((i32n x) - 9) (by omega)) ⟨(va_cnB 1 hts gX6_count_X4_settingOf_n119 rfl rfl rfl (hG.nest 68 rfl) (hts (.initialized RX4) (List.mem_of_getElem? (i := 12) rfl)) (by decide +kernel) ⟨Nat.le_of_ble_eq_true rfl, Nat.le_of_ble_eq_true rfl⟩), (hts (.instanceMethod yX4_settingOf) (List.mem_of_getElem? (i := 11) rfl)), (hts (.selects RX4 yX4_settingOf yX4_settingOf) (List.mem_of_getElem? (i := 13) rfl))⟩ (q_preV hG hW hS (hp1).1 rfl) rfl rfl hl.1 rfl (lv_room (Nat.le_of_ble_eq_true rfl)) dX6_count_20 ⟨Nat.le_of_ble_eq_true rfl, Nat.le_of_ble_eq_true rfl⟩) ?_
    exact vx_ret (q_wi hx hb hr hlocks hW hS dX6_count_23 (by unfold cof; rw [if_pos (by omega)]) (by exact ⟨ho3, ⟨hs0, hp1, hbk, hhs, hsc, hrd, hlo, hex⟩, by intro id h8 h9; try rfl⟩) (by decide) (by decide))

set_option maxHeartbeats 300000 in
set_option maxRecDepth 100000 in
/-- total -/
theorem c_X6_total (l : Launch) (hl0 : l.stackTraces = false) {D : va_G} {dA : Nat → Nat} {b : Nat} {w : Wd} {lo n nc : Nat} {P : Pl} {Hs : Nat → Pl} {SL : Nat → Option Pl} {C : Nat → Nat} (hs : isSys dA b w lo (P, (n, Hs), SL, (nc, C))) (x : Int32) : vx_Met l yX6_total wsX6_total ({ frames := 7, cells := 1, slots := 6, locals := 103 } : Room) (PC D dA b w [.ref (b + 0), .int (x)]) (QW D b (some (.int (nI (if i32n x = 1 then ttc P else tts P)))) (fun w' => (0 ≤ x ∧ x ≤ nI 1) ∧ isSys dA b w' lo (P, (n, Hs), SL, (nc, C)) ∧ ∀ id : Nat, 36 ≤ id → id < lo → w' id = w id)) (XW D b (fun E w' => (E = IAE ∧ ¬ (0 ≤ x ∧ x ≤ nI 1)) ∧ w' = w)) 1 6 (Fb b) := by
  refine q_ofX (cc := cX6_total) (maxL := 4) (ret := (some .int)) (by decide) rfl rfl ?_
  intro p e s m args below meth c ls hx hb hr hml hts hown hlocks hxt hG hW hS hl
  have hown : s.vm.findClass RX6 = some m.cls := hown
  have hinX4 : ∀ w ∈ u_ws RX4 TX4 3, w ∈ wsX6_total := fun w h => (goodIn_r (big := wsX6_total) (u_ws RX4 TX4 3) [37, 38, 39] (by decide +kernel) (by decide +kernel) w h).1
  have hinX6 : ∀ w ∈ u_ws RX6 TX6 8, w ∈ wsX6_total := fun w h => (goodIn_r (big := wsX6_total) (u_ws RX6 TX6 8) [29, 30, 31, 32, 33, 34, 35, 36] (by decide +kernel) (by decide +kernel) w h).1
  have hl : lv_has ls 4 [(0, .ref (b + 0)), (1, .int (x))] := hl
  obtain ⟨hs0, hp1, hbk, hhs, hsc, hrd, hlo, hex⟩ := id hs
  change isPlay dA b w 2 P at hp1
  change isHS dA b w lo n Hs SL at hhs
  change isScr dA b w 32 nc C at hsc
  have hP := hp1.ok
  have hn6 := HS_le hhs
  have hnc := hsc.2.2.1
  obtain ⟨hPw, hPn, hPW, hPN, hPS⟩ := id hP
  refine lv_iload_n hx hb dX6_total_0 rfl (lv_at hl 1 rfl) ?_
  refine lv_iconst (v := nI 1) hx hb dX6_total_1 (by decide) ?_
  refine q_X0 (vx_runS (As := [.int (x), .int (nI 1)]) (rest := []) ⟨hx, hb, hml, hown, hts⟩ (c_X6_checkWhat l hl0 (x) 1) (va_cwS 2 hts gX6_total_X6_checkWhat rfl rfl rfl (by decide +kernel) ⟨Nat.le_of_ble_eq_true rfl, Nat.le_of_ble_eq_true rfl⟩) (q_preS hG hW hS) rfl rfl hl.1 rfl (lv_room (Nat.le_of_ble_eq_true rfl)) dX6_total_2 ⟨Nat.le_of_ble_eq_true rfl, Nat.le_of_ble_eq_true rfl⟩) hS (fun E9 w9 H9 L9 q9 ce9 hpx hW9 hS9 hce hcv hcl => q_prop hxt hlocks hW9 hS9 hce hcv hcl (by exact hpx) (Nat.le_of_ble_eq_true rfl) (Nat.le_of_ble_eq_true rfl)) (fun w_2 H locs hp2 hW hS => ?_)
  obtain ⟨ho2, hw9⟩ := hp2
  replace hw9 := hw9.symm
  subst hw9
  obtain ⟨exx9, bxx9⟩ := le_n (k := 1) (by decide) ho2.1 ho2.2
  have el_5 : x = nI (i32n x) := by exact exx9
  rw [el_5] at hl
  refine lv_iload_n hx hb dX6_total_5 rfl (lv_at hl 1 rfl) ?_
  refine lv_iconst (v := nI 1) hx hb dX6_total_6 (by decide) ?_
  refine lv_icmp_ne (tgt := 32) hx hb dX6_total_7 (by decide) (fun c_7 => ?_) (fun c_7 => ?_)
  · skip
    have c_7 : ¬ (i32n x = 1) := fun h__ => c_7 ((nI_eq (a := i32n x) (b := 1) (by omega) (by omega)).mpr h__)
    refine lv_iconst (v := nI 0) hx hb dX6_total_32 (by decide) ?_
    refine lv_istore_n (lv' := [(2, .int (nI 0)), (0, .ref (b + 0)), (1, .int (nI (i32n x)))]) hx hb dX6_total_33 rfl hl (by decide) rfl (fun ls hl => ?_)
    refine lv_iconst (v := nI 0) hx hb dX6_total_34 (by decide) ?_
    refine lv_istore_n (lv' := [(3, .int (nI 0)), (2, .int (nI 0)), (0, .ref (b + 0)), (1, .int (nI (i32n x)))]) hx hb dX6_total_35 rfl hl (by decide) rfl (fun ls hl => ?_)
    have L36 : ∀ (n36 : Nat) (u : Nat), u ≤ 120 → 120 - u < n36 → ∀ (x36_2 : Int32) (x36_3 : Int32), x36_2 = nI (sm (fun t => sm (fun j => if snd P.W j t then P.W j 2 else 0) P.w + sm (fun j => if snd P.N j t then P.N j 2 else 0) P.n) u) → x36_3 = nI (u) → ∀ (ls : Array Slot), lv_has ls 4 [(0, .ref (b + 0)), (1, .int (nI (i32n x))), (2, .int x36_2), (3, .int x36_3)] → W p l e ({ frames := 7, cells := 1, slots := 6, locals := 103 } : Room) s m args below meth c H locs 1 6 (vx_MQ below (QW D b (some (.int (nI (if i32n x = 1 then ttc P else tts P)))) (fun w' => (0 ≤ x ∧ x ≤ nI 1) ∧ isSys dA b w' lo (P, (n, Hs), SL, (nc, C)) ∧ ∀ id : Nat, 36 ≤ id → id < lo → w' id = w id)) (XW D b (fun E w' => (E = IAE ∧ ¬ (0 ≤ x ∧ x ≤ nI 1)) ∧ w' = w)) args s 1 6 (Fb b)) (F0 m 36 ls []) := by
      intro n36
      induction n36 with
      | zero =>
        intro u hj0 hn36 x36_2 x36_3 ex36_2 ex36_3 ls hl
        exact absurd hn36 (Nat.not_lt_zero _)
      | succ n36 ih36 =>
        intro u hj0 hn36 x36_2 x36_3 ex36_2 ex36_3 ls hl
        subst ex36_2 ex36_3
        refine lv_iload_n hx hb dX6_total_36 rfl (lv_at hl 3 rfl) ?_
        refine lv_bipush (v := nI 120) hx hb dX6_total_37 (by decide) ?_
        refine lv_icmp_ge (tgt := 74) hx hb dX6_total_39 (by decide) (fun c_39 => ?_) (fun c_39 => ?_)
        · skip
          have c_39 : 120 ≤ u := (nI_leI (a := 120) (b := u) (by omega) (by omega)).mp c_39
          refine lv_iload_n hx hb dX6_total_74 rfl (lv_at hl 2 rfl) ?_
          exact vx_ret (q_wi hx hb hr hlocks hW hS dX6_total_75 (by rw [if_neg (by omega), show u = 120 by omega]; rfl) (by exact ⟨ho2, ⟨hs0, hp1, hbk, hhs, hsc, hrd, hlo, hex⟩, by intro id h8 h9; try rfl⟩) (by decide) (by decide))
        · skip
          have c_39 : ¬ (120 ≤ u) := fun h__ => c_39 ((nI_leI (a := 120) (b := u) (by omega) (by omega)).mpr h__)
          refine lv_iload_n hx hb dX6_total_42 rfl (lv_at hl 2 rfl) ?_
          refine lv_aload_n hx hb dX6_total_43 rfl (lv_at hl 0 rfl) ?_
          refine q_get hx hb hts hinX6 hown hG hW hs0 rfl 2 (by decide) (hts (.fieldLink RX6 23 "FoleyMixer" "now" "LFoleyMixer$Play;") (List.mem_of_getElem? (i := 1) rfl)) rfl rfl dX6_total_44 ?_
          refine q_getN hx hb hts hinX4 hown hG hW (hp1).1 rfl 0 (by decide) (hG.nest 11 rfl) rfl rfl dX6_total_47 ?_
          refine lv_iload_n hx hb dX6_total_50 rfl (lv_at hl 3 rfl) ?_
          refine q_R1 (va_runVN (As := [.int (nI u)]) (rest := [.int (nI (sm (fun t => sm (fun j => if snd P.W j t then P.W j 2 else 0) P.w + sm (fun j => if snd P.N j t then P.N j 2 else 0) P.n) u))]) ⟨hx, hb, hml, hown, hts⟩ (c_X1_loudnessAt l (hp1).2.1 (u) (by omega)) ⟨(va_cnB 1 hts gX6_total_X1_loudnessAt_n235 rfl rfl rfl (hG.nest 90 rfl) (hts (.initialized RX1) (List.mem_of_getElem? (i := 9) rfl)) (by decide +kernel) ⟨Nat.le_of_ble_eq_true rfl, Nat.le_of_ble_eq_true rfl⟩), (hts (.instanceMethod yX1_loudnessAt) (List.mem_of_getElem? (i := 18) rfl)), (hts (.selects RX1 yX1_loudnessAt yX1_loudnessAt) (List.mem_of_getElem? (i := 19) rfl))⟩ (q_preV hG hW hS (isCues.obj (hp1).2.1) rfl) rfl rfl hl.1 rfl (lv_room (Nat.le_of_ble_eq_true rfl)) dX6_total_51 ⟨Nat.le_of_ble_eq_true rfl, Nat.le_of_ble_eq_true rfl⟩) ?_
          refine lv_aload_n hx hb dX6_total_54 rfl (lv_at hl 0 rfl) ?_
          refine q_get hx hb hts hinX6 hown hG hW hs0 rfl 2 (by decide) (hts (.fieldLink RX6 23 "FoleyMixer" "now" "LFoleyMixer$Play;") (List.mem_of_getElem? (i := 1) rfl)) rfl rfl dX6_total_55 ?_
          refine q_getN hx hb hts hinX4 hown hG hW (hp1).1 rfl 1 (by decide) (hG.nest 13 rfl) rfl rfl dX6_total_58 ?_
          refine lv_iload_n hx hb dX6_total_61 rfl (lv_at hl 3 rfl) ?_
          refine q_R1 (va_runVN (As := [.int (nI u)]) (rest := [.int (nI (sm (fun j => if snd P.W j u then P.W j 2 else 0) P.w)), .int (nI (sm (fun t => sm (fun j => if snd P.W j t then P.W j 2 else 0) P.w + sm (fun j => if snd P.N j t then P.N j 2 else 0) P.n) u))]) ⟨hx, hb, hml, hown, hts⟩ (c_X1_loudnessAt l (hp1).2.2.1 (u) (by omega)) ⟨(va_cnB 1 hts gX6_total_X1_loudnessAt_n235 rfl rfl rfl (hG.nest 90 rfl) (hts (.initialized RX1) (List.mem_of_getElem? (i := 9) rfl)) (by decide +kernel) ⟨Nat.le_of_ble_eq_true rfl, Nat.le_of_ble_eq_true rfl⟩), (hts (.instanceMethod yX1_loudnessAt) (List.mem_of_getElem? (i := 18) rfl)), (hts (.selects RX1 yX1_loudnessAt yX1_loudnessAt) (List.mem_of_getElem? (i := 19) rfl))⟩ (q_preV hG hW hS (isCues.obj (hp1).2.2.1) rfl) rfl rfl hl.1 rfl (lv_room (Nat.le_of_ble_eq_true rfl)) dX6_total_62 ⟨Nat.le_of_ble_eq_true rfl, Nat.le_of_ble_eq_true rfl⟩) ?_
          refine lv_iadd hx hb dX6_total_65 ?_
          refine q_top (y := nI ((sm (fun j => if snd P.W j u then P.W j 2 else 0) P.w) + (sm (fun j => if snd P.N j u then P.N j 2 else 0) P.n))) (nI_add _ _) ?_
          refine lv_iadd hx hb dX6_total_66 ?_
          refine q_top (y := nI ((sm (fun t => sm (fun j => if snd P.W j t then P.W j 2 else 0) P.w + sm (fun j => if snd P.N j t then P.N j 2 else 0) P.n) u) + ((sm (fun j => if snd P.W j u then P.W j 2 else 0) P.w) + (sm (fun j => if snd P.N j u then P.N j 2 else 0) P.n)))) (nI_add _ _) ?_
          refine lv_istore_n (lv' := [(2, .int (nI ((sm (fun t => sm (fun j => if snd P.W j t then P.W j 2 else 0) P.w + sm (fun j => if snd P.N j t then P.N j 2 else 0) P.n) u) + ((sm (fun j => if snd P.W j u then P.W j 2 else 0) P.w) + (sm (fun j => if snd P.N j u then P.N j 2 else 0) P.n))))), (0, .ref (b + 0)), (1, .int (nI (i32n x))), (3, .int (nI u))]) hx hb dX6_total_67 rfl hl (by decide) rfl (fun ls hl => ?_)
          refine lv_iinc (v := nI (u + 1)) (lv' := [(3, .int (nI (u + 1))), (2, .int (nI ((sm (fun t => sm (fun j => if snd P.W j t then P.W j 2 else 0) P.w + sm (fun j => if snd P.N j t then P.N j 2 else 0) P.n) u) + ((sm (fun j => if snd P.W j u then P.W j 2 else 0) P.w) + (sm (fun j => if snd P.N j u then P.N j 2 else 0) P.n))))), (0, .ref (b + 0)), (1, .int (nI (i32n x)))]) hx hb dX6_total_68 hl (k := 3) rfl (nI_add _ 1) (by decide) rfl (fun ls hl => ?_)
          refine lv_goto (tgt := 36) hx hb dX6_total_71 (by decide) ?_
          exact ih36 (u + 1) (by omega) (by omega) _ _ (by refine congrArg nI ?_; rw [sm]) (by first | rfl | (congr 1; omega)) _ (lv_sub hl [2, 3, 1, 0] rfl)
    exact L36 ((120 - 0) + 1) 0 (by omega) (Nat.lt_succ_self _) _ _ (by first | rfl | (congr 1; omega)) (by first | rfl | (congr 1; omega)) _ (lv_sub hl [2, 3, 1, 0] rfl)
  · skip
    have c_7 : i32n x = 1 := (nI_eq (a := i32n x) (b := 1) (by omega) (by omega)).mp c_7
    refine lv_aload_n hx hb dX6_total_10 rfl (lv_at hl 0 rfl) ?_
    refine q_get hx hb hts hinX6 hown hG hW hs0 rfl 2 (by decide) (hts (.fieldLink RX6 23 "FoleyMixer" "now" "LFoleyMixer$Play;") (List.mem_of_getElem? (i := 1) rfl)) rfl rfl dX6_total_11 ?_
    refine q_getN hx hb hts hinX4 hown hG hW (hp1).1 rfl 0 (by decide) (hG.nest 11 rfl) rfl rfl dX6_total_14 ?_
    refine q_R1 (va_runVN (As := []) (rest := []) ⟨hx, hb, hml, hown, hts⟩ (c_X1_loudnessByCue l (hp1).2.1) ⟨(va_cnB 0 hts gX6_total_X1_loudnessByCue_n232 rfl rfl rfl (hG.nest 89 rfl) (hts (.initialized RX1) (List.mem_of_getElem? (i := 9) rfl)) (by decide +kernel) ⟨Nat.le_of_ble_eq_true rfl, Nat.le_of_ble_eq_true rfl⟩), (hts (.instanceMethod yX1_loudnessByCue) (List.mem_of_getElem? (i := 8) rfl)), (hts (.selects RX1 yX1_loudnessByCue yX1_loudnessByCue) (List.mem_of_getElem? (i := 10) rfl))⟩ (q_preV hG hW hS (isCues.obj (hp1).2.1) rfl) rfl rfl hl.1 rfl (lv_room (Nat.le_of_ble_eq_true rfl)) dX6_total_17 ⟨Nat.le_of_ble_eq_true rfl, Nat.le_of_ble_eq_true rfl⟩) ?_
    refine lv_aload_n hx hb dX6_total_20 rfl (lv_at hl 0 rfl) ?_
    refine q_get hx hb hts hinX6 hown hG hW hs0 rfl 2 (by decide) (hts (.fieldLink RX6 23 "FoleyMixer" "now" "LFoleyMixer$Play;") (List.mem_of_getElem? (i := 1) rfl)) rfl rfl dX6_total_21 ?_
    refine q_getN hx hb hts hinX4 hown hG hW (hp1).1 rfl 1 (by decide) (hG.nest 13 rfl) rfl rfl dX6_total_24 ?_
    refine q_R1 (va_runVN (As := []) (rest := [.int (nI (sm (fun j => P.W j 1 * P.W j 2) P.w))]) ⟨hx, hb, hml, hown, hts⟩ (c_X1_loudnessByCue l (hp1).2.2.1) ⟨(va_cnB 0 hts gX6_total_X1_loudnessByCue_n232 rfl rfl rfl (hG.nest 89 rfl) (hts (.initialized RX1) (List.mem_of_getElem? (i := 9) rfl)) (by decide +kernel) ⟨Nat.le_of_ble_eq_true rfl, Nat.le_of_ble_eq_true rfl⟩), (hts (.instanceMethod yX1_loudnessByCue) (List.mem_of_getElem? (i := 8) rfl)), (hts (.selects RX1 yX1_loudnessByCue yX1_loudnessByCue) (List.mem_of_getElem? (i := 10) rfl))⟩ (q_preV hG hW hS (isCues.obj (hp1).2.2.1) rfl) rfl rfl hl.1 rfl (lv_room (Nat.le_of_ble_eq_true rfl)) dX6_total_27 ⟨Nat.le_of_ble_eq_true rfl, Nat.le_of_ble_eq_true rfl⟩) ?_
    refine lv_iadd hx hb dX6_total_30 ?_
    refine q_top (y := nI ((sm (fun j => P.W j 1 * P.W j 2) P.w) + (sm (fun j => P.N j 1 * P.N j 2) P.n))) (nI_add _ _) ?_
    exact vx_ret (q_wi hx hb hr hlocks hW hS dX6_total_31 (by rw [if_pos (by omega)]; rfl) (by exact ⟨ho2, ⟨hs0, hp1, hbk, hhs, hsc, hrd, hlo, hex⟩, by intro id h8 h9; try rfl⟩) (by decide) (by decide))

