set_option maxHeartbeats 300000 in
set_option maxRecDepth 100000 in
/-- Play.cuesOf(true) -/
theorem c_cuesOf_t (l : Launch) {D : va_G} {dA : Nat → Nat} {b : Nat} {w : Wd} {k : Nat} {P : Pl} (hp : isPlay dA b w k P) : Met l yX4_cuesOf wsX4_cuesOf ({ frames := 0, cells := 0, slots := 0, locals := 0 } : Room) (PC D dA b w [.ref (b + k), .int (nI 1)]) (QR (some (.ref (b + (k + 1))))) 0 0 Fno := by
  refine q_of (cc := cX4_cuesOf) (maxL := 2) (ret := (some (.object "FoleyMixer$Cues"))) (by decide) rfl rfl ?_
  intro p e s m args below meth c ls hx hb hr hml hts hown hlocks hG hW hS hl
  have hown : s.vm.findClass RX4 = some m.cls := hown
  have hinX4 : ∀ w ∈ u_ws RX4 TX4 3, w ∈ wsX4_cuesOf := fun w h => (goodIn_r (big := wsX4_cuesOf) (u_ws RX4 TX4 3) [3, 4, 5] (by decide +kernel) (by decide +kernel) w h).1
  have hl : lv_has ls 2 [(0, .ref (b + k)), (1, .int (nI 1))] := hl
  obtain ⟨hq0, hq1, hq3, hoS, hq5⟩ := id hp
  refine lv_iload_n hx hb dX4_cuesOf_0 rfl (lv_at hl 1 rfl) ?_
  refine lv_if_eq (tgt := 11) hx hb dX4_cuesOf_1 (by decide) (fun c_1 => ?_) (fun c_1 => ?_)
  · skip
    have c_1 : 1 = 0 := (nI_eq0 (i := 1) (by omega)).mp c_1
    exact absurd c_1 (by decide)
  · skip
    have c_1 : ¬ (1 = 0) := fun h__ => c_1 ((nI_eq0 (i := 1) (by omega)).mpr h__)
    refine lv_aload_n hx hb dX4_cuesOf_4 rfl (lv_at hl 0 rfl) ?_
    refine q_get hx hb hts hinX4 hown hG hW hq0 rfl 0 (by decide) (hts (.fieldLink RX4 14 "FoleyMixer$Play" "words" "LFoleyMixer$Cues;") (List.mem_of_getElem? (i := 1) rfl)) rfl rfl dX4_cuesOf_5 ?_
    refine lv_goto (tgt := 15) hx hb dX4_cuesOf_8 (by decide) ?_
    exact q_ra hx hb hr hlocks dX4_cuesOf_15 (by rfl)

set_option maxHeartbeats 300000 in
set_option maxRecDepth 100000 in
/-- Play.cuesOf(false) -/
theorem c_cuesOf_f (l : Launch) {D : va_G} {dA : Nat → Nat} {b : Nat} {w : Wd} {k : Nat} {P : Pl} (hp : isPlay dA b w k P) : Met l yX4_cuesOf wsX4_cuesOf ({ frames := 0, cells := 0, slots := 0, locals := 0 } : Room) (PC D dA b w [.ref (b + k), .int (nI 0)]) (QR (some (.ref (b + (k + 3))))) 0 0 Fno := by
  refine q_of (cc := cX4_cuesOf) (maxL := 2) (ret := (some (.object "FoleyMixer$Cues"))) (by decide) rfl rfl ?_
  intro p e s m args below meth c ls hx hb hr hml hts hown hlocks hG hW hS hl
  have hown : s.vm.findClass RX4 = some m.cls := hown
  have hinX4 : ∀ w ∈ u_ws RX4 TX4 3, w ∈ wsX4_cuesOf := fun w h => (goodIn_r (big := wsX4_cuesOf) (u_ws RX4 TX4 3) [3, 4, 5] (by decide +kernel) (by decide +kernel) w h).1
  have hl : lv_has ls 2 [(0, .ref (b + k)), (1, .int (nI 0))] := hl
  obtain ⟨hq0, hq1, hq3, hoS, hq5⟩ := id hp
  refine lv_iload_n hx hb dX4_cuesOf_0 rfl (lv_at hl 1 rfl) ?_
  refine lv_if_eq (tgt := 11) hx hb dX4_cuesOf_1 (by decide) (fun c_1 => ?_) (fun c_1 => ?_)
  · skip
    have c_1 : 0 = 0 := (nI_eq0 (i := 0) (by omega)).mp c_1
    refine lv_aload_n hx hb dX4_cuesOf_11 rfl (lv_at hl 0 rfl) ?_
    refine q_get hx hb hts hinX4 hown hG hW hq0 rfl 1 (by decide) (hts (.fieldLink RX4 20 "FoleyMixer$Play" "noises" "LFoleyMixer$Cues;") (List.mem_of_getElem? (i := 2) rfl)) rfl rfl dX4_cuesOf_12 ?_
    exact q_ra hx hb hr hlocks dX4_cuesOf_15 (by rfl)
  · skip
    have c_1 : ¬ (0 = 0) := fun h__ => c_1 ((nI_eq0 (i := 0) (by omega)).mpr h__)
    exact absurd rfl c_1

set_option maxHeartbeats 300000 in
set_option maxRecDepth 100000 in
/-- Play.settingOf(setting) -/
theorem c_X4_settingOf (l : Launch) {D : va_G} {dA : Nat → Nat} {b : Nat} {w : Wd} {k : Nat} {P : Pl} (hp : isPlay dA b w k P) (i : Nat) (hi : i < 5) : Met l yX4_settingOf wsX4_settingOf ({ frames := 0, cells := 0, slots := 0, locals := 0 } : Room) (PC D dA b w [.ref (b + k), .int (nI i)]) (QR (some (.int (nI (P.S i))))) 0 0 Fno := by
  refine q_of (cc := cX4_settingOf) (maxL := 2) (ret := (some .int)) (by decide) rfl rfl ?_
  intro p e s m args below meth c ls hx hb hr hml hts hown hlocks hG hW hS hl
  have hown : s.vm.findClass RX4 = some m.cls := hown
  have hinX4 : ∀ w ∈ u_ws RX4 TX4 3, w ∈ wsX4_settingOf := fun w h => (goodIn_r (big := wsX4_settingOf) (u_ws RX4 TX4 3) [2, 3, 4] (by decide +kernel) (by decide +kernel) w h).1
  have hl : lv_has ls 2 [(0, .ref (b + k)), (1, .int (nI i))] := hl
  obtain ⟨hq0, hq1, hq3, hoS, hq5⟩ := id hp
  refine lv_iload_n hx hb dX4_settingOf_0 rfl (lv_at hl 1 rfl) ?_
  refine lv_if_lt (tgt := 22) hx hb dX4_settingOf_1 (by decide) (fun c_1 => ?_) (fun c_1 => ?_)
  · skip
    have c_1 : i < 0 := (nI_lt0 (i := i) (by omega)).mp c_1
    exact absurd c_1 (by omega)
  · skip
    have c_1 : ¬ (i < 0) := fun h__ => c_1 ((nI_lt0 (i := i) (by omega)).mpr h__)
    refine lv_iload_n hx hb dX4_settingOf_4 rfl (lv_at hl 1 rfl) ?_
    refine lv_aload_n hx hb dX4_settingOf_5 rfl (lv_at hl 0 rfl) ?_
    refine q_get hx hb hts hinX4 hown hG hW hq0 rfl 2 (by decide) (hts (.fieldLink RX4 32 "FoleyMixer$Play" "settings" "[I") (List.mem_of_getElem? (i := 1) rfl)) rfl rfl dX4_settingOf_6 ?_
    refine q_alen hx hb (hW.ar hG hq5 (by omega)) dX4_settingOf_9 ?_
    refine lv_icmp_ge (tgt := 22) hx hb dX4_settingOf_10 (by decide) (fun c_10 => ?_) (fun c_10 => ?_)
    · skip
      have c_10 : 5 ≤ i := (nI_leI (a := 5) (b := i) (by omega) (by omega)).mp c_10
      exact absurd c_10 (by omega)
    · skip
      have c_10 : ¬ (5 ≤ i) := fun h__ => c_10 ((nI_leI (a := 5) (b := i) (by omega) (by omega)).mpr h__)
      refine lv_aload_n hx hb dX4_settingOf_13 rfl (lv_at hl 0 rfl) ?_
      refine q_get hx hb hts hinX4 hown hG hW hq0 rfl 2 (by decide) (hts (.fieldLink RX4 32 "FoleyMixer$Play" "settings" "[I") (List.mem_of_getElem? (i := 1) rfl)) rfl rfl dX4_settingOf_14 ?_
      refine lv_iload_n hx hb dX4_settingOf_17 rfl (lv_at hl 1 rfl) ?_
      refine q_iald hx hb hG hW hq5 (by omega) (by omega) dX4_settingOf_18 ?_
      refine lv_goto (tgt := 23) hx hb dX4_settingOf_19 (by decide) ?_
      exact q_ri hx hb hr hlocks dX4_settingOf_23 (by rfl)

/-- a play with one setting set -/
def setS (P : Pl) (i x : Nat) : Pl := (P.w, P.W, P.n, P.N, va_up P.S i x)
set_option maxHeartbeats 300000 in
set_option maxRecDepth 100000 in
/-- Play.change(setting, value) -/
theorem c_X4_change (l : Launch) {D : va_G} {dA : Nat → Nat} {b : Nat} {w : Wd} {k : Nat} {P : Pl} (hp : isPlay dA b w k P) (i x : Nat) (hi : i < 5) (hx9 : okS (va_up P.S i x)) : Met l yX4_change wsX4_change ({ frames := 1, cells := 0, slots := 0, locals := 22 } : Room) (PC D dA b w [.ref (b + k), .int (nI i), .int (nI x)]) (QW D b (none) (fun w' => isPlay dA b w' k (setS P i x) ∧ ∀ id : Nat, id ≠ k + 5 → w' id = w id)) 0 0 (Fb b) := by
  refine q_of (cc := cX4_change) (maxL := 3) (ret := none) (by decide) rfl rfl ?_
  intro p e s m args below meth c ls hx hb hr hml hts hown hlocks hG hW hS hl
  have hown : s.vm.findClass RX4 = some m.cls := hown
  have hinX4 : ∀ w ∈ u_ws RX4 TX4 3, w ∈ wsX4_change := fun w h => (goodIn_r (big := wsX4_change) (u_ws RX4 TX4 3) [5, 6, 7] (by decide +kernel) (by decide +kernel) w h).1
  have hl : lv_has ls 3 [(0, .ref (b + k)), (1, .int (nI i)), (2, .int (nI x))] := hl
  obtain ⟨hq0, hq1, hq3, hoS, hq5⟩ := id hp
  refine lv_aload_n hx hb dX4_change_0 rfl (lv_at hl 0 rfl) ?_
  refine q_get hx hb hts hinX4 hown hG hW hq0 rfl 2 (by decide) (hts (.fieldLink RX4 32 "FoleyMixer$Play" "settings" "[I") (List.mem_of_getElem? (i := 1) rfl)) rfl rfl dX4_change_1 ?_
  refine lv_iload_n hx hb dX4_change_4 rfl (lv_at hl 1 rfl) ?_
  refine lv_iload_n hx hb dX4_change_5 rfl (lv_at hl 2 rfl) ?_
  refine q_W0 (va_runSN (As := [.ref (b + (k + 5)), .int (nI i), .int (nI x)]) (rest := []) ⟨hx, hb, hml, hown, hts⟩ (c_put_n l hq5 (by decide) (i) (by omega) (x)) ⟨(va_cnB 3 hts gX4_change_X6_put_n35 rfl rfl rfl (hG.nest 44 rfl) (hts (.initialized RX6) (List.mem_of_getElem? (i := 3) rfl)) (by decide +kernel) ⟨Nat.le_of_ble_eq_true rfl, Nat.le_of_ble_eq_true rfl⟩), (hts (.static yX6_put) (List.mem_of_getElem? (i := 2) rfl)), trivial⟩ (q_preS hG hW hS) rfl rfl hl.1 rfl (lv_room (Nat.le_of_ble_eq_true rfl)) dX4_change_6 ⟨Nat.le_of_ble_eq_true rfl, Nat.le_of_ble_eq_true rfl⟩) hS (fun w_6 H locs hp6 hW hS => ?_)
  obtain ⟨hq5, fr6⟩ := hp6
  replace hq0 : w_6 k = some (.inr (4, [.ref (b + (k + 1)), .ref (b + (k + 3)), .ref (b + (k + 5))])) := (fr6 _ (by omega)).trans hq0
  replace hq1 : isCues dA b w_6 (k + 1) 10 P.w P.W := hq1.fr (fr6 _ (by omega)) (fr6 _ (by omega))
  replace hq3 : isCues dA b w_6 (k + 3) 12 P.n P.N := hq3.fr (fr6 _ (by omega)) (fr6 _ (by omega))
  exact q_wv hx hb hr hlocks hW hS dX4_change_9 (by exact ⟨⟨hq0, hq1, hq3, hx9, hq5⟩, by intro id h9; rw [fr6 id (by omega)]; try rfl⟩) (by decide) (by decide)

set_option maxHeartbeats 300000 in
set_option maxRecDepth 100000 in
/-- Cues.copyFrom(other) -/
theorem c_X1_copyFrom (l : Launch) {D : va_G} {dA : Nat → Nat} {b : Nat} {w : Wd} {k lim n : Nat} {V : Nat → Nat → Nat} (hc : isCues dA b w k lim n V) {k2 n2 : Nat} {V2 : Nat → Nat → Nat} (hc2 : isCues dA b w k2 lim n2 V2) (hkk : k2 ≠ k ∧ k2 + 1 ≠ k ∧ k2 ≠ k + 1) : Met l yX1_copyFrom wsX1_copyFrom ({ frames := 1, cells := 0, slots := 0, locals := 22 } : Room) (PC D dA b w [.ref (b + k), .ref (b + k2)]) (QW D b (none) (fun w' => isCues dA b w' k lim n2 V2 ∧ ∀ id : Nat, id ≠ k → id ≠ k + 1 → w' id = w id)) 0 0 (Fb b) := by
  refine q_of (cc := cX1_copyFrom) (maxL := 2) (ret := none) (by decide) rfl rfl ?_
  intro p e s m args below meth c ls hx hb hr hml hts hown hlocks hG hW hS hl
  have hown : s.vm.findClass RX1 = some m.cls := hown
  have hinX1 : ∀ w ∈ u_ws RX1 TX1 3, w ∈ wsX1_copyFrom := fun w h => (goodIn_r (big := wsX1_copyFrom) (u_ws RX1 TX1 3) [6, 7, 8] (by decide +kernel) (by decide +kernel) w h).1
  have hl : lv_has ls 2 [(0, .ref (b + k)), (1, .ref (b + k2))] := hl
  obtain ⟨hk0, hnl, hl12, hok, f, hk1, hf⟩ := id hc
  obtain ⟨hj0, hnl2, hl122, hok2, f2, hj1, hf2⟩ := id hc2
  refine lv_aload_n hx hb dX1_copyFrom_0 rfl (lv_at hl 1 rfl) ?_
  refine q_get hx hb hts hinX1 hown hG hW hj0 rfl 1 (by decide) (hts (.fieldLink RX1 9 "FoleyMixer$Cues" "numbers" "[I") (List.mem_of_getElem? (i := 1) rfl)) rfl rfl dX1_copyFrom_1 ?_
  refine lv_aload_n hx hb dX1_copyFrom_4 rfl (lv_at hl 0 rfl) ?_
  refine q_get hx hb hts hinX1 hown hG hW hk0 rfl 1 (by decide) (hts (.fieldLink RX1 9 "FoleyMixer$Cues" "numbers" "[I") (List.mem_of_getElem? (i := 1) rfl)) rfl rfl dX1_copyFrom_5 ?_
  refine q_W0 (va_runSN (As := [.ref (b + (k2 + 1)), .ref (b + (k + 1))]) (rest := []) ⟨hx, hb, hml, hown, hts⟩ (c_X6_copyRow l (f := f2) (fun w9 h9 => RD.own ((h9 (k2 + 1) (by omega)).trans hj1) (by decide)) hk1 (by decide)) ⟨(va_cnB 2 hts gX1_copyFrom_X6_copyRow_n46 rfl rfl rfl (hG.nest 41 rfl) (hts (.initialized RX6) (List.mem_of_getElem? (i := 4) rfl)) (by decide +kernel) ⟨Nat.le_of_ble_eq_true rfl, Nat.le_of_ble_eq_true rfl⟩), (hts (.static yX6_copyRow) (List.mem_of_getElem? (i := 3) rfl)), trivial⟩ (q_preS hG hW hS) rfl rfl hl.1 rfl (lv_room (Nat.le_of_ble_eq_true rfl)) dX1_copyFrom_8 ⟨Nat.le_of_ble_eq_true rfl, Nat.le_of_ble_eq_true rfl⟩) hS (fun w_8 H locs hp8 hW hS => ?_)
  obtain ⟨hk1, fr8⟩ := hp8
  replace hk0 : w_8 k = some (.inr (1, [.int (nI lim), .ref (b + (k + 1)), .int (nI n)])) := (fr8 _ (by omega)).trans hk0
  replace hj0 : w_8 k2 = some (.inr (1, [.int (nI lim), .ref (b + (k2 + 1)), .int (nI n2)])) := (fr8 _ (by omega)).trans hj0
  replace hj1 : w_8 (k2 + 1) = some (eN dA 48 f2) := (fr8 _ (by omega)).trans hj1
  refine lv_aload_n hx hb dX1_copyFrom_11 rfl (lv_at hl 0 rfl) ?_
  refine lv_aload_n hx hb dX1_copyFrom_12 rfl (lv_at hl 1 rfl) ?_
  refine q_get hx hb hts hinX1 hown hG hW hj0 rfl 2 (by decide) (hts (.fieldLink RX1 15 "FoleyMixer$Cues" "size" "I") (List.mem_of_getElem? (i := 2) rfl)) rfl rfl dX1_copyFrom_13 ?_
  refine q_put hx hb hts hinX1 tyX1_ok nmX1 hown hG hW hS hk0 rfl 2 (by decide) (hts (.fieldLink RX1 15 "FoleyMixer$Cues" "size" "I") (List.mem_of_getElem? (i := 2) rfl)) rfl rfl rfl rfl (Nat.le_of_ble_eq_true rfl) dX1_copyFrom_16 (fun H locs hW hS hz16 => ?_)
  obtain ⟨w1, ew1⟩ : ∃ wq__ : Wd, wq__ = va_up w_8 k (some (.inr (1, [.int (nI lim), .ref (b + (k + 1)), .int (nI n2)]))) := ⟨_, rfl⟩
  replace hW : WP D b w1 H := by rw [ew1]; exact hW
  have frw1 : ∀ id : Nat, id ≠ k → w1 id = w_8 id := fun id h9 => by rw [ew1, up_ne h9]
  replace hj0 : w1 k2 = some (.inr (1, [.int (nI lim), .ref (b + (k2 + 1)), .int (nI n2)])) := (frw1 _ (by omega)).trans hj0
  replace hj1 : w1 (k2 + 1) = some (eN dA 48 f2) := (frw1 _ (by omega)).trans hj1
  replace hk1 : w1 (k + 1) = some (eN dA 48 f2) := (frw1 _ (by omega)).trans hk1
  replace hk0 : w1 k = some (.inr (1, [.int (nI lim), .ref (b + (k + 1)), .int (nI n2)])) := by rw [ew1]; exact up_eq
  exact q_wv hx hb hr hlocks hW hS dX1_copyFrom_19 (by exact ⟨⟨hk0, hnl2, hl12, hok2, _, hk1, hf2⟩, by intro id h9 h8; rw [frw1 id (by omega)]; rw [fr8 id (by omega)]; try rfl⟩) (by decide) (by decide)

set_option maxHeartbeats 300000 in
set_option maxRecDepth 100000 in
/-- Play.copyFrom(other) -/
theorem c_X4_copyFrom (l : Launch) {D : va_G} {dA : Nat → Nat} {b : Nat} {w : Wd} {k : Nat} {P : Pl} (hp : isPlay dA b w k P) {k2 : Nat} {P2 : Pl} (hp2 : isPlay dA b w k2 P2) (hkk : k2 + 6 ≤ k ∨ k + 6 ≤ k2) : Met l yX4_copyFrom wsX4_copyFrom ({ frames := 2, cells := 0, slots := 0, locals := 43 } : Room) (PC D dA b w [.ref (b + k), .ref (b + k2)]) (QW D b (none) (fun w' => isPlay dA b w' k P2 ∧ ∀ id : Nat, (id < k ∨ k + 6 ≤ id) → w' id = w id)) 0 0 (Fb b) := by
  refine q_of (cc := cX4_copyFrom) (maxL := 2) (ret := none) (by decide) rfl rfl ?_
  intro p e s m args below meth c ls hx hb hr hml hts hown hlocks hG hW hS hl
  have hown : s.vm.findClass RX4 = some m.cls := hown
  have hinX4 : ∀ w ∈ u_ws RX4 TX4 3, w ∈ wsX4_copyFrom := fun w h => (goodIn_r (big := wsX4_copyFrom) (u_ws RX4 TX4 3) [13, 14, 15] (by decide +kernel) (by decide +kernel) w h).1
  have hl : lv_has ls 2 [(0, .ref (b + k)), (1, .ref (b + k2))] := hl
  obtain ⟨hq0, hq1, hq3, hoS, hq5⟩ := id hp
  obtain ⟨hr0, hr1, hr3, hoS2, hr5⟩ := id hp2
  refine lv_aload_n hx hb dX4_copyFrom_0 rfl (lv_at hl 0 rfl) ?_
  refine q_get hx hb hts hinX4 hown hG hW hq0 rfl 0 (by decide) (hts (.fieldLink RX4 14 "FoleyMixer$Play" "words" "LFoleyMixer$Cues;") (List.mem_of_getElem? (i := 1) rfl)) rfl rfl dX4_copyFrom_1 ?_
  refine lv_aload_n hx hb dX4_copyFrom_4 rfl (lv_at hl 1 rfl) ?_
  refine q_get hx hb hts hinX4 hown hG hW hr0 rfl 0 (by decide) (hts (.fieldLink RX4 14 "FoleyMixer$Play" "words" "LFoleyMixer$Cues;") (List.mem_of_getElem? (i := 1) rfl)) rfl rfl dX4_copyFrom_5 ?_
  refine q_W0 (va_runVN (As := [.ref (b + (k2 + 1))]) (rest := []) ⟨hx, hb, hml, hown, hts⟩ (c_X1_copyFrom l hq1 hr1 (by omega)) ⟨(va_cnB 1 hts gX4_copyFrom_X1_copyFrom_n39 rfl rfl rfl (hG.nest 40 rfl) (hts (.initialized RX1) (List.mem_of_getElem? (i := 5) rfl)) (by decide +kernel) ⟨Nat.le_of_ble_eq_true rfl, Nat.le_of_ble_eq_true rfl⟩), (hts (.instanceMethod yX1_copyFrom) (List.mem_of_getElem? (i := 4) rfl)), (hts (.selects RX1 yX1_copyFrom yX1_copyFrom) (List.mem_of_getElem? (i := 6) rfl))⟩ (q_preV hG hW hS (isCues.obj hq1) rfl) rfl rfl hl.1 rfl (lv_room (Nat.le_of_ble_eq_true rfl)) dX4_copyFrom_8 ⟨Nat.le_of_ble_eq_true rfl, Nat.le_of_ble_eq_true rfl⟩) hS (fun w_8 H locs hp8 hW hS => ?_)
  obtain ⟨hq1, fr8⟩ := hp8
  replace hq0 : w_8 k = some (.inr (4, [.ref (b + (k + 1)), .ref (b + (k + 3)), .ref (b + (k + 5))])) := (fr8 _ (by omega) (by omega)).trans hq0
  replace hq3 : isCues dA b w_8 (k + 3) 12 P.n P.N := hq3.fr (fr8 _ (by omega) (by omega)) (fr8 _ (by omega) (by omega))
  replace hq5 : w_8 (k + 5) = some (eN dA 5 P.S) := (fr8 _ (by omega) (by omega)).trans hq5
  replace hr0 : w_8 k2 = some (.inr (4, [.ref (b + (k2 + 1)), .ref (b + (k2 + 3)), .ref (b + (k2 + 5))])) := (fr8 _ (by omega) (by omega)).trans hr0
  replace hr1 : isCues dA b w_8 (k2 + 1) 10 P2.w P2.W := hr1.fr (fr8 _ (by omega) (by omega)) (fr8 _ (by omega) (by omega))
  replace hr3 : isCues dA b w_8 (k2 + 3) 12 P2.n P2.N := hr3.fr (fr8 _ (by omega) (by omega)) (fr8 _ (by omega) (by omega))
  replace hr5 : w_8 (k2 + 5) = some (eN dA 5 P2.S) := (fr8 _ (by omega) (by omega)).trans hr5
  refine lv_aload_n hx hb dX4_copyFrom_11 rfl (lv_at hl 0 rfl) ?_
  refine q_get hx hb hts hinX4 hown hG hW hq0 rfl 1 (by decide) (hts (.fieldLink RX4 20 "FoleyMixer$Play" "noises" "LFoleyMixer$Cues;") (List.mem_of_getElem? (i := 2) rfl)) rfl rfl dX4_copyFrom_12 ?_
  refine lv_aload_n hx hb dX4_copyFrom_15 rfl (lv_at hl 1 rfl) ?_
  refine q_get hx hb hts hinX4 hown hG hW hr0 rfl 1 (by decide) (hts (.fieldLink RX4 20 "FoleyMixer$Play" "noises" "LFoleyMixer$Cues;") (List.mem_of_getElem? (i := 2) rfl)) rfl rfl dX4_copyFrom_16 ?_
  refine q_W0 (va_runVN (As := [.ref (b + (k2 + 3))]) (rest := []) ⟨hx, hb, hml, hown, hts⟩ (c_X1_copyFrom l hq3 hr3 (by omega)) ⟨(va_cnB 1 hts gX4_copyFrom_X1_copyFrom_n39 rfl rfl rfl (hG.nest 40 rfl) (hts (.initialized RX1) (List.mem_of_getElem? (i := 5) rfl)) (by decide +kernel) ⟨Nat.le_of_ble_eq_true rfl, Nat.le_of_ble_eq_true rfl⟩), (hts (.instanceMethod yX1_copyFrom) (List.mem_of_getElem? (i := 4) rfl)), (hts (.selects RX1 yX1_copyFrom yX1_copyFrom) (List.mem_of_getElem? (i := 6) rfl))⟩ (q_preV hG hW hS (isCues.obj hq3) rfl) rfl rfl hl.1 rfl (lv_room (Nat.le_of_ble_eq_true rfl)) dX4_copyFrom_19 ⟨Nat.le_of_ble_eq_true rfl, Nat.le_of_ble_eq_true rfl⟩) hS (fun w_19 H locs hp19 hW hS => ?_)
  obtain ⟨hq3, fr19⟩ := hp19
  replace hq0 : w_19 k = some (.inr (4, [.ref (b + (k + 1)), .ref (b + (k + 3)), .ref (b + (k + 5))])) := (fr19 _ (by omega) (by omega)).trans hq0
  replace hq5 : w_19 (k + 5) = some (eN dA 5 P.S) := (fr19 _ (by omega) (by omega)).trans hq5
  replace hr0 : w_19 k2 = some (.inr (4, [.ref (b + (k2 + 1)), .ref (b + (k2 + 3)), .ref (b + (k2 + 5))])) := (fr19 _ (by omega) (by omega)).trans hr0
  replace hr1 : isCues dA b w_19 (k2 + 1) 10 P2.w P2.W := hr1.fr (fr19 _ (by omega) (by omega)) (fr19 _ (by omega) (by omega))
  replace hr3 : isCues dA b w_19 (k2 + 3) 12 P2.n P2.N := hr3.fr (fr19 _ (by omega) (by omega)) (fr19 _ (by omega) (by omega))
  replace hr5 : w_19 (k2 + 5) = some (eN dA 5 P2.S) := (fr19 _ (by omega) (by omega)).trans hr5
  replace hq1 : isCues dA b w_19 (k + 1) 10 P2.w P2.W := hq1.fr (fr19 _ (by omega) (by omega)) (fr19 _ (by omega) (by omega))
  refine lv_aload_n hx hb dX4_copyFrom_22 rfl (lv_at hl 1 rfl) ?_
  refine q_get hx hb hts hinX4 hown hG hW hr0 rfl 2 (by decide) (hts (.fieldLink RX4 32 "FoleyMixer$Play" "settings" "[I") (List.mem_of_getElem? (i := 3) rfl)) rfl rfl dX4_copyFrom_23 ?_
  refine lv_aload_n hx hb dX4_copyFrom_26 rfl (lv_at hl 0 rfl) ?_
  refine q_get hx hb hts hinX4 hown hG hW hq0 rfl 2 (by decide) (hts (.fieldLink RX4 32 "FoleyMixer$Play" "settings" "[I") (List.mem_of_getElem? (i := 3) rfl)) rfl rfl dX4_copyFrom_27 ?_
  refine q_W0 (va_runSN (As := [.ref (b + (k2 + 5)), .ref (b + (k + 5))]) (rest := []) ⟨hx, hb, hml, hown, hts⟩ (c_X6_copyRow l (f := P2.S) (fun w9 h9 => RD.own ((h9 (k2 + 5) (by omega)).trans hr5) (by decide)) hq5 (by decide)) ⟨(va_cnB 2 hts gX4_copyFrom_X6_copyRow_n43 rfl rfl rfl (hG.nest 42 rfl) (hts (.initialized RX6) (List.mem_of_getElem? (i := 11) rfl)) (by decide +kernel) ⟨Nat.le_of_ble_eq_true rfl, Nat.le_of_ble_eq_true rfl⟩), (hts (.static yX6_copyRow) (List.mem_of_getElem? (i := 10) rfl)), trivial⟩ (q_preS hG hW hS) rfl rfl hl.1 rfl (lv_room (Nat.le_of_ble_eq_true rfl)) dX4_copyFrom_30 ⟨Nat.le_of_ble_eq_true rfl, Nat.le_of_ble_eq_true rfl⟩) hS (fun w_30 H locs hp30 hW hS => ?_)
  obtain ⟨hq5, fr30⟩ := hp30
  replace hq0 : w_30 k = some (.inr (4, [.ref (b + (k + 1)), .ref (b + (k + 3)), .ref (b + (k + 5))])) := (fr30 _ (by omega)).trans hq0
  replace hr0 : w_30 k2 = some (.inr (4, [.ref (b + (k2 + 1)), .ref (b + (k2 + 3)), .ref (b + (k2 + 5))])) := (fr30 _ (by omega)).trans hr0
  replace hr1 : isCues dA b w_30 (k2 + 1) 10 P2.w P2.W := hr1.fr (fr30 _ (by omega)) (fr30 _ (by omega))
  replace hr3 : isCues dA b w_30 (k2 + 3) 12 P2.n P2.N := hr3.fr (fr30 _ (by omega)) (fr30 _ (by omega))
  replace hr5 : w_30 (k2 + 5) = some (eN dA 5 P2.S) := (fr30 _ (by omega)).trans hr5
  replace hq1 : isCues dA b w_30 (k + 1) 10 P2.w P2.W := hq1.fr (fr30 _ (by omega)) (fr30 _ (by omega))
  replace hq3 : isCues dA b w_30 (k + 3) 12 P2.n P2.N := hq3.fr (fr30 _ (by omega)) (fr30 _ (by omega))
  exact q_wv hx hb hr hlocks hW hS dX4_copyFrom_33 (by exact ⟨⟨hq0, hq1, hq3, hoS2, hq5⟩, by intro id h9; rw [fr30 id (by omega)]; rw [fr19 id (by omega) (by omega)]; rw [fr8 id (by omega) (by omega)]; try rfl⟩) (by decide) (by decide)

set_option maxHeartbeats 300000 in
set_option maxRecDepth 100000 in
/-- Cues.markSounding(row) -/
theorem c_X1_markSounding (l : Launch) {D : va_G} {dA : Nat → Nat} {b : Nat} {w : Wd} {k lim n : Nat} {V : Nat → Nat → Nat} (hc : isCues dA b w k lim n V) {r : Nat} {f0 : Nat → Nat} (hr0 : w r = some (eN dA 120 f0)) (hrk : r ≠ k ∧ r ≠ k + 1) : Met l yX1_markSounding wsX1_markSounding ({ frames := 2, cells := 0, slots := 0, locals := 44 } : Room) (PC D dA b w [.ref (b + k), .ref (b + r)]) (QW D b (none) (fun w' => w' r = some (eN dA 120 (wmk V n)) ∧ ∀ id : Nat, id ≠ r → w' id = w id)) 0 0 (Fb b) := by
  refine q_of (cc := cX1_markSounding) (maxL := 5) (ret := none) (by decide) rfl rfl ?_
  intro p e s m args below meth c ls hx hb hr hml hts hown hlocks hG hW hS hl
  have hown : s.vm.findClass RX1 = some m.cls := hown
  have hinX1 : ∀ w ∈ u_ws RX1 TX1 3, w ∈ wsX1_markSounding := fun w h => (goodIn_r (big := wsX1_markSounding) (u_ws RX1 TX1 3) [17, 18, 19] (by decide +kernel) (by decide +kernel) w h).1
  have hl : lv_has ls 5 [(0, .ref (b + k)), (1, .ref (b + r))] := hl
  obtain ⟨hk0, hnl, hl12, hok, f, hk1, hf⟩ := id hc
  have hc0 := hc
  refine lv_iconst (v := nI 0) hx hb dX1_markSounding_0 (by decide) ?_
  refine lv_istore_n (lv' := [(2, .int (nI 0)), (0, .ref (b + k)), (1, .ref (b + r))]) hx hb dX1_markSounding_1 rfl hl (by decide) rfl (fun ls hl => ?_)
  have L2 : ∀ (n2 : Nat) (i : Nat), i ≤ 120 → 120 - i < n2 → ∀ (x2_2 : Int32), x2_2 = nI (i) → ∀ (w2 : Wd) (H : Heap) (locs : List Loc), (∀ id : Nat, id ≠ r → w2 id = w id) → w2 r = some (eN dA 120 (fun t => if t < i then 0 else f0 t)) → WP D b w2 H → va_S (Fb b) s.heap H locs → ∀ (ls : Array Slot), lv_has ls 5 [(0, .ref (b + k)), (1, .ref (b + r)), (2, .int x2_2)] → W p l e ({ frames := 2, cells := 0, slots := 0, locals := 44 } : Room) s m args below meth c H locs 0 0 (MQ below (QW D b (none) (fun w' => w' r = some (eN dA 120 (wmk V n)) ∧ ∀ id : Nat, id ≠ r → w' id = w id)) args s 0 0 (Fb b)) (F0 m 2 ls []) := by
    intro n2
    induction n2 with
    | zero =>
      intro i hi0 hn2 x2_2 ex2_2 w2 H locs fr hr0 hW hS ls hl
      exact absurd hn2 (Nat.not_lt_zero _)
    | succ n2 ih2 =>
      intro i hi0 hn2 x2_2 ex2_2 w2 H locs fr hr0 hW hS ls hl
      subst ex2_2
      replace hc := hc.fr (fr _ (by omega)) (fr _ (by omega))
      replace hk0 := (fr _ (by omega)).trans hk0
      replace hk1 := (fr _ (by omega)).trans hk1
      refine lv_iload_n hx hb dX1_markSounding_2 rfl (lv_at hl 2 rfl) ?_
      refine lv_aload_n hx hb dX1_markSounding_3 rfl (lv_at hl 1 rfl) ?_
      refine q_alen hx hb (hW.ar hG hr0 (by omega)) dX1_markSounding_4 ?_
      refine lv_icmp_ge (tgt := 18) hx hb dX1_markSounding_5 (by decide) (fun c_5 => ?_) (fun c_5 => ?_)
      · skip
        have c_5 : 120 ≤ i := (nI_leI (a := 120) (b := i) (by omega) (by omega)).mp c_5
        replace hW := hW.same (g := fun t => mk (fun a => snd V a t) 0) hr0 (fun t ht => if_pos (by omega))
        refine lv_iconst (v := nI 0) hx hb dX1_markSounding_18 (by decide) ?_
        refine lv_istore_n (lv' := [(2, .int (nI 0)), (0, .ref (b + k)), (1, .ref (b + r))]) hx hb dX1_markSounding_19 rfl hl (by decide) rfl (fun ls hl => ?_)
        have L20 : ∀ (n20 : Nat) (j : Nat), j ≤ n → n - j < n20 → ∀ (x20_2 : Int32), x20_2 = nI (j) → ∀ (w3 : Wd) (H : Heap) (locs : List Loc), (∀ id : Nat, id ≠ r → w3 id = w id) → w3 r = some (eN dA 120 (fun t => mk (fun a => snd V a t) j)) → WP D b w3 H → va_S (Fb b) s.heap H locs → ∀ (ls : Array Slot), lv_has ls 5 [(0, .ref (b + k)), (1, .ref (b + r)), (2, .int x20_2)] → W p l e ({ frames := 2, cells := 0, slots := 0, locals := 44 } : Room) s m args below meth c H locs 0 0 (MQ below (QW D b (none) (fun w' => w' r = some (eN dA 120 (wmk V n)) ∧ ∀ id : Nat, id ≠ r → w' id = w id)) args s 0 0 (Fb b)) (F0 m 20 ls []) := by
          intro n20
          induction n20 with
          | zero =>
            intro j hj0 hn20 x20_2 ex20_2 w3 H locs fr3 hr0 hW hS ls hl
            exact absurd hn20 (Nat.not_lt_zero _)
          | succ n20 ih20 =>
            intro j hj0 hn20 x20_2 ex20_2 w3 H locs fr3 hr0 hW hS ls hl
            subst ex20_2
            replace hc := hc0.fr (fr3 _ (by omega)) (fr3 _ (by omega))
            obtain ⟨hk0, hnl, hl12, hok, f, hk1, hf⟩ := id hc
            refine lv_iload_n hx hb dX1_markSounding_20 rfl (lv_at hl 2 rfl) ?_
            refine lv_aload_n hx hb dX1_markSounding_21 rfl (lv_at hl 0 rfl) ?_
            refine q_get hx hb hts hinX1 hown hG hW hk0 rfl 2 (by decide) (hts (.fieldLink RX1 15 "FoleyMixer$Cues" "size" "I") (List.mem_of_getElem? (i := 1) rfl)) rfl rfl dX1_markSounding_22 ?_
            refine lv_icmp_ge (tgt := 76) hx hb dX1_markSounding_25 (by decide) (fun c_25 => ?_) (fun c_25 => ?_)
            · skip
              have c_25 : n ≤ j := (nI_leI (a := n) (b := j) (by omega) (by omega)).mp c_25
              exact q_wv hx hb hr hlocks hW hS dX1_markSounding_76 (by exact ⟨by rw [hr0, show j = n by omega], fr3⟩) (by decide) (by decide)
            · skip
              have c_25 : ¬ (n ≤ j) := fun h__ => c_25 ((nI_leI (a := n) (b := j) (by omega) (by omega)).mpr h__)
              refine lv_aload_n hx hb dX1_markSounding_28 rfl (lv_at hl 0 rfl) ?_
              refine lv_iload_n hx hb dX1_markSounding_29 rfl (lv_at hl 2 rfl) ?_
              refine q_R1 (va_runV (As := [.int (nI j)]) (rest := []) ⟨hx, hb, hml, hown, hts⟩ (c_X1_endOf l hc (j) (by omega)) (cwV 1 hts gX1_markSounding_X1_endOf rfl rfl rfl (by decide +kernel) ⟨Nat.le_of_ble_eq_true rfl, Nat.le_of_ble_eq_true rfl⟩) (q_preV hG hW hS hk0 rfl) rfl rfl hl.1 rfl (lv_room (Nat.le_of_ble_eq_true rfl)) dX1_markSounding_30 ⟨Nat.le_of_ble_eq_true rfl, Nat.le_of_ble_eq_true rfl⟩) ?_
              have q_30 := hc.2.2.2.1 (j) (by omega)
              refine lv_istore_n (lv' := [(3, .int (nI (V j 0 + V j 1))), (0, .ref (b + k)), (1, .ref (b + r)), (2, .int (nI j))]) hx hb dX1_markSounding_33 rfl hl (by decide) rfl (fun ls hl => ?_)
              refine lv_aload_n hx hb dX1_markSounding_34 rfl (lv_at hl 1 rfl) ?_
              refine lv_iload_n hx hb dX1_markSounding_35 rfl (lv_at hl 3 rfl) ?_
              refine lv_iconst (v := nI 0) hx hb dX1_markSounding_36 (by decide) ?_
              refine q_R1 (va_runV (As := [.int (nI j), .int (nI 0)]) (rest := []) ⟨hx, hb, hml, hown, hts⟩ (c_X1_numberOf l hc (j) (0) (by omega) (by omega)) (cwV 2 hts gX1_markSounding_X1_numberOf rfl rfl rfl (by decide +kernel) ⟨Nat.le_of_ble_eq_true rfl, Nat.le_of_ble_eq_true rfl⟩) (q_preV hG hW hS hk0 rfl) rfl rfl hl.1 rfl (lv_room (Nat.le_of_ble_eq_true rfl)) dX1_markSounding_37 ⟨Nat.le_of_ble_eq_true rfl, Nat.le_of_ble_eq_true rfl⟩) ?_
              have q_37 := hc.2.2.2.1 (j) (by omega)
              refine lv_istore (lv' := [(4, .int (nI (V j 0))), (3, .int (nI (V j 0 + V j 1))), (0, .ref (b + k)), (1, .ref (b + r)), (2, .int (nI j))]) hx hb dX1_markSounding_40 hl (by decide) rfl (fun ls hl => ?_)
              have L42 : ∀ (n42 : Nat) (x : Nat), V j 0 ≤ x → x ≤ V j 0 + V j 1 → V j 0 + V j 1 - x < n42 → ∀ (x42_4 : Int32), x42_4 = nI (x) → ∀ (w4 : Wd) (H : Heap) (locs : List Loc), (∀ id : Nat, id ≠ r → w4 id = w id) → (w4 r = some (eN dA 120 (fun t => if V j 0 ≤ t ∧ t < x then mk (fun a => snd V a t) j ||| 2 ^ j else mk (fun a => snd V a t) j))) → WP D b w4 H → va_S (Fb b) s.heap H locs → ∀ (ls : Array Slot), lv_has ls 5 [(0, .ref (b + k)), (1, .ref (b + r)), (2, .int (nI j)), (3, .int (nI (V j 0 + V j 1))), (4, .int x42_4)] → W p l e ({ frames := 2, cells := 0, slots := 0, locals := 44 } : Room) s m args below meth c H locs 0 0 (MQ below (QW D b (none) (fun w' => w' r = some (eN dA 120 (wmk V n)) ∧ ∀ id : Nat, id ≠ r → w' id = w id)) args s 0 0 (Fb b)) (F0 m 42 ls []) := by
                intro n42
                induction n42 with
                | zero =>
                  intro x hx0 hx1 hn42 x42_4 ex42_4 w4 H locs fr4 hr0 hW hS ls hl
                  exact absurd hn42 (Nat.not_lt_zero _)
                | succ n42 ih42 =>
                  intro x hx0 hx1 hn42 x42_4 ex42_4 w4 H locs fr4 hr0 hW hS ls hl
                  subst ex42_4
                  replace hc := hc0.fr (fr4 _ (by omega)) (fr4 _ (by omega))
                  obtain ⟨hk0, hnl, hl12, hok, f, hk1, hf⟩ := id hc
                  have hokj := hok j (by omega)
                  refine lv_iload hx hb dX1_markSounding_42 (lv_at hl 4 rfl) ?_
                  refine lv_iload_n hx hb dX1_markSounding_44 rfl (lv_at hl 3 rfl) ?_
                  refine lv_icmp_ge (tgt := 70) hx hb dX1_markSounding_45 (by decide) (fun c_45 => ?_) (fun c_45 => ?_)
                  · skip
                    have c_45 : V j 0 + V j 1 ≤ x := (nI_leI (a := V j 0 + V j 1) (b := x) (by omega) (by omega)).mp c_45
                    refine lv_iinc (v := nI (j + 1)) (lv' := [(2, .int (nI (j + 1))), (0, .ref (b + k)), (1, .ref (b + r)), (3, .int (nI (V j 0 + V j 1))), (4, .int (nI x))]) hx hb dX1_markSounding_70 hl (k := 2) rfl (nI_add _ 1) (by decide) rfl (fun ls hl => ?_)
                    refine lv_goto (tgt := 20) hx hb dX1_markSounding_73 (by decide) ?_
                    exact ih20 (j + 1) (by omega) (by omega) _ (by first | rfl | (congr 1; omega)) _ _ _ (by exact fr4) (by refine hr0.trans (eN_congr fun t => ?_); have e1 : x = V j 0 + V j 1 := (by omega); subst e1; rfl) hW hS _ (lv_sub hl [1, 2, 0] rfl)
                  · skip
                    have c_45 : ¬ (V j 0 + V j 1 ≤ x) := fun h__ => c_45 ((nI_leI (a := V j 0 + V j 1) (b := x) (by omega) (by omega)).mpr h__)
                    refine lv_aload_n hx hb dX1_markSounding_48 rfl (lv_at hl 1 rfl) ?_
                    refine lv_iload hx hb dX1_markSounding_49 (lv_at hl 4 rfl) ?_
                    refine lv_aload_n hx hb dX1_markSounding_51 rfl (lv_at hl 1 rfl) ?_
                    refine lv_iload hx hb dX1_markSounding_52 (lv_at hl 4 rfl) ?_
                    refine q_R1 (va_runSN (As := [.ref (b + r), .int (nI x)]) (rest := [.int (nI x), .ref (b + r)]) ⟨hx, hb, hml, hown, hts⟩ (c_entry_in l (RD.own hr0 (by decide)) (by decide) (x) (by omega)) ⟨(va_cnB 2 hts gX1_markSounding_X6_entry_n42 rfl rfl rfl (hG.nest 47 rfl) (hts (.initialized RX6) (List.mem_of_getElem? (i := 13) rfl)) (by decide +kernel) ⟨Nat.le_of_ble_eq_true rfl, Nat.le_of_ble_eq_true rfl⟩), (hts (.static yX6_entry) (List.mem_of_getElem? (i := 12) rfl)), trivial⟩ (q_preS hG hW hS) rfl rfl hl.1 rfl (lv_room (Nat.le_of_ble_eq_true rfl)) dX1_markSounding_54 ⟨Nat.le_of_ble_eq_true rfl, Nat.le_of_ble_eq_true rfl⟩) ?_
                    refine lv_iconst (v := nI 1) hx hb dX1_markSounding_57 (by decide) ?_
                    refine lv_iload_n hx hb dX1_markSounding_58 rfl (lv_at hl 2 rfl) ?_
                    refine lv_ishl hx hb dX1_markSounding_59 ?_
                    refine lv_ior hx hb dX1_markSounding_60 ?_
                    refine q_top (y := nI (((fun t => if V j 0 ≤ t ∧ t < x then mk (fun a => snd V a t) j ||| 2 ^ j else mk (fun a => snd V a t) j) x ||| 2 ^ j))) (by rw [nI_shl1 (by omega)]; exact nI_or _ _) ?_
                    refine q_W0 (va_runSN (As := [.ref (b + r), .int (nI x), .int (nI (((fun t => if V j 0 ≤ t ∧ t < x then mk (fun a => snd V a t) j ||| 2 ^ j else mk (fun a => snd V a t) j) x ||| 2 ^ j)))]) (rest := []) ⟨hx, hb, hml, hown, hts⟩ (c_put_n l hr0 (by decide) (x) (by omega) (((fun t => if V j 0 ≤ t ∧ t < x then mk (fun a => snd V a t) j ||| 2 ^ j else mk (fun a => snd V a t) j) x ||| 2 ^ j))) ⟨(va_cnB 3 hts gX1_markSounding_X6_put_n30 rfl rfl rfl (hG.nest 48 rfl) (hts (.initialized RX6) (List.mem_of_getElem? (i := 13) rfl)) (by decide +kernel) ⟨Nat.le_of_ble_eq_true rfl, Nat.le_of_ble_eq_true rfl⟩), (hts (.static yX6_put) (List.mem_of_getElem? (i := 15) rfl)), trivial⟩ (q_preS hG hW hS) rfl rfl hl.1 rfl (lv_room (Nat.le_of_ble_eq_true rfl)) dX1_markSounding_61 ⟨Nat.le_of_ble_eq_true rfl, Nat.le_of_ble_eq_true rfl⟩) hS (fun w_61 H locs hp61 hW hS => ?_)
                    obtain ⟨hr0, fr61⟩ := hp61
                    replace hk0 : w_61 k = some (.inr (1, [.int (nI lim), .ref (b + (k + 1)), .int (nI n)])) := (fr61 _ (by omega)).trans hk0
                    replace hk1 : w_61 (k + 1) = some (eN dA 48 f) := (fr61 _ (by omega)).trans hk1
                    replace hc : isCues dA b w_61 k lim n V := hc.fr (fr61 _ (by omega)) (fr61 _ (by omega))
                    refine lv_iinc (v := nI (x + 1)) (lv' := [(4, .int (nI (x + 1))), (0, .ref (b + k)), (1, .ref (b + r)), (2, .int (nI j)), (3, .int (nI (V j 0 + V j 1)))]) hx hb dX1_markSounding_64 hl (k := 4) rfl (nI_add _ 1) (by decide) rfl (fun ls hl => ?_)
                    refine lv_goto (tgt := 42) hx hb dX1_markSounding_67 (by decide) ?_
                    exact ih42 (x + 1) (by omega) (by omega) (by omega) _ (by first | rfl | (congr 1; omega)) _ _ _ (by intro id h9; rw [fr61 id h9, fr4 id h9]) (by exact hr0.trans (eN_congr (range_step (f := fun z => mk (fun a => snd V a z) j ||| 2 ^ j) (g := fun z => mk (fun a => snd V a z) j) hx0 (congrArg (fun y9 => y9 ||| 2 ^ j) (if_neg (by omega)))))) hW hS _ (lv_sub hl [1, 2, 3, 4, 0] rfl)
              exact L42 ((V j 0 + V j 1 - V j 0) + 1) (V j 0) (by omega) (by omega) (Nat.lt_succ_self _) _ (by first | rfl | (congr 1; omega)) _ _ _ (by exact fr3) (by exact hr0.trans (eN_congr (range_0 (f := fun z => mk (fun a => snd V a z) j ||| 2 ^ j)))) hW hS _ (lv_sub hl [2, 3, 4, 1, 0] rfl)
        exact L20 ((n - 0) + 1) 0 (by omega) (Nat.lt_succ_self _) _ (by first | rfl | (congr 1; omega)) _ _ _ (by intro id h9; rw [up_ne h9, fr id h9]) (by exact up_eq) hW hS _ (lv_sub hl [1, 2, 0] rfl)
      · skip
        have c_5 : ¬ (120 ≤ i) := fun h__ => c_5 ((nI_leI (a := 120) (b := i) (by omega) (by omega)).mpr h__)
        refine lv_aload_n hx hb dX1_markSounding_8 rfl (lv_at hl 1 rfl) ?_
        refine lv_iload_n hx hb dX1_markSounding_9 rfl (lv_at hl 2 rfl) ?_
        refine lv_iconst (v := nI 0) hx hb dX1_markSounding_10 (by decide) ?_
        refine q_nast hx hb hG hW hS hr0 (by omega) (by omega) dX1_markSounding_11 (fun H locs hW hS hz11 => ?_)
        obtain ⟨w1, ew1⟩ : ∃ wq__ : Wd, wq__ = va_up w2 r (some (eN dA 120 (va_up (fun t => if t < i then 0 else f0 t) i 0))) := ⟨_, rfl⟩
        replace hW : WP D b w1 H := by rw [ew1]; exact hW
        have frw1 : ∀ id : Nat, id ≠ r → w1 id = w2 id := fun id h9 => by rw [ew1, up_ne h9]
        replace hk0 : w1 k = some (.inr (1, [.int (nI lim), .ref (b + (k + 1)), .int (nI n)])) := (frw1 _ (by omega)).trans hk0
        replace hk1 : w1 (k + 1) = some (eN dA 48 f) := (frw1 _ (by omega)).trans hk1
        replace hc : isCues dA b w1 k lim n V := hc.fr (frw1 _ (by omega)) (frw1 _ (by omega))
        replace hr0 : w1 r = some (eN dA 120 (va_up (fun t => if t < i then 0 else f0 t) i 0)) := by rw [ew1]; exact up_eq
        refine lv_iinc (v := nI (i + 1)) (lv' := [(2, .int (nI (i + 1))), (0, .ref (b + k)), (1, .ref (b + r))]) hx hb dX1_markSounding_12 hl (k := 2) rfl (nI_add _ 1) (by decide) rfl (fun ls hl => ?_)
        refine lv_goto (tgt := 2) hx hb dX1_markSounding_15 (by decide) ?_
        exact ih2 (i + 1) (by omega) (by omega) _ (by first | rfl | (congr 1; omega)) _ _ _ (by intro id h9; rw [frw1 id h9, fr id h9]) (by exact hr0.trans (eN_congr (fill_step (f := fun _ => 0) rfl))) hW hS _ (lv_sub hl [1, 2, 0] rfl)
  exact L2 ((120 - 0) + 1) 0 (by omega) (Nat.lt_succ_self _) _ (by first | rfl | (congr 1; omega)) _ _ _ (by intro id h9; rfl) (by exact hr0.trans (eN_congr (fill_0 (f := fun _ => 0)))) hW hS _ (lv_sub hl [1, 2, 0] rfl)

