/-- the ducking of the second before -/
def pdk (P : Pl) : Nat → Nat
  | 0 => 0
  | t + 1 => dk P t
theorem pdk_le (P : Pl) : ∀ t, pdk P t ≤ P.S 0
  | 0 => Nat.zero_le _
  | t + 1 => dk_le P t
theorem dk_step (P : Pl) : ∀ t, dk P t = if wmk P.W P.w t = 0 then pdk P t - P.S 1 else P.S 0
  | 0 => by unfold dk pdk; by_cases h : wmk P.W P.w 0 = 0 <;> simp [h]
  | t + 1 => rfl
theorem mmk_lt {P : Pl} (h : okP P) (t : Nat) : mmk P t < 1024 := Nat.lt_of_lt_of_le (mk_lt _ _) (Nat.pow_le_pow_right (by decide) h.1)
theorem wmk_lt {V : Nat → Nat → Nat} {n : Nat} (h : n ≤ 12) (t : Nat) : wmk V n t < 4096 := Nat.lt_of_lt_of_le (mk_lt _ _) (Nat.pow_le_pow_right (by decide) h)
/-- the strength of a noise where it sounds, else 0 -/
def sst (P : Pl) (j t : Nat) : Nat := if snd P.N j t then stg P j t else 0
theorem gct_step (P : Pl) (t j : Nat) : gct P t (j + 1) = if 0 < sst P j t then gct P t j + 1 else gct P t j := by
  show (if snd P.N j t ∧ 0 < stg P j t then gct P t j + 1 else gct P t j) = _
  unfold sst
  by_cases h : snd P.N j t
  · simp only [if_pos h]
    by_cases h2 : 0 < stg P j t
    · rw [if_pos ⟨h, h2⟩, if_pos h2]
    · rw [if_neg (fun q => h2 q.2), if_neg h2]
  · rw [if_neg (fun q => h q.1), if_neg h, if_neg (Nat.lt_irrefl 0)]
theorem gst_step (P : Pl) (t j : Nat) : gst P t (j + 1) = if gst P t j < sst P j t then sst P j t else gst P t j := by
  rw [gst]; unfold sst
  by_cases h : snd P.N j t
  · simp only [if_pos h]
    by_cases h2 : gst P t j < stg P j t
    · rw [if_pos h2]; omega
    · rw [if_neg h2]; omega
  · simp [h]
theorem gfi_step (P : Pl) (t j : Nat) : gfi P t (j + 1) = if gst P t j < sst P j t then nI j else gfi P t j := by
  rw [gfi]; unfold sst
  by_cases h : snd P.N j t
  · rw [if_pos h]
    by_cases h2 : gst P t j < stg P j t
    · rw [if_pos ⟨h, h2⟩, if_pos h2]
    · rw [if_neg (fun q => h2 q.2), if_neg h2]
  · rw [if_neg (fun q => h q.1), if_neg h, if_neg (Nat.not_lt_zero _)]
theorem g_silent {P : Pl} {t : Nat} (h : wmk P.N P.n t = 0) : ∀ j, j ≤ P.n → gst P t j = 0 ∧ gct P t j = 0 ∧ gfi P t j = -1
  | 0, _ => ⟨rfl, rfl, rfl⟩
  | j + 1, hj => by
    obtain ⟨h1, h2, h3⟩ := g_silent h j (by omega)
    have hn := (mk_eq0 _ _).mp h j (by omega)
    have hs : sst P j t = 0 := by unfold sst; rw [if_neg hn]
    refine ⟨?_, ?_, ?_⟩
    · rw [gst_step, hs, h1]; simp
    · rw [gct_step, hs, h2]; simp
    · rw [gfi_step, hs, h3]; simp
theorem sst_le {P : Pl} (hP : okW P.n P.N) (t j : Nat) (hj : j < P.n) : sst P j t ≤ 30 := by
  have h1 := hP j hj
  have h2 := stg_le P j t
  unfold sst; split <;> omega
theorem gct_le (P : Pl) (t j : Nat) : gct P t j ≤ j := ct_le _ _
/-- the masked words below n -/
def mmj (P : Pl) (t : Nat) : Nat → Nat := mk (fun i => snd P.W i t ∧ P.W i 2 < cov P i t + P.S 3)
theorem mmj_end (P : Pl) (t : Nat) : mmj P t P.w = mmk P t := rfl
theorem mmj_step (P : Pl) (t j : Nat) : mmj P t (j + 1) = if snd P.W j t ∧ P.W j 2 < cov P j t + P.S 3 then mmj P t j ||| 2 ^ j else mmj P t j := rfl
theorem mmj_silent {P : Pl} {t : Nat} (h : wmk P.W P.w t = 0) (j : Nat) (hj : j ≤ P.w) : mmj P t j = 0 := (mk_eq0 _ _).mpr (fun i hi q => (mk_eq0 _ _).mp h i (by omega) q.1)
theorem mmj_lt {P : Pl} {t j : Nat} (h : j ≤ 10) : mmj P t j < 1024 := Nat.lt_of_lt_of_le (mk_lt _ _) (Nat.pow_le_pow_right (by decide) h)
theorem wmk_bit {V : Nat → Nat → Nat} {n t j : Nat} (hj : j < n) : (wmk V n t).testBit j = true ↔ snd V j t := by
  rw [mk_bit]; simp [hj]

set_option maxHeartbeats 300000 in
set_option maxRecDepth 100000 in
/-- Mix.level(greatest, strong) -/
theorem c_X3_level (l : Launch) {D : va_G} {dA : Nat → Nat} {b : Nat} {w : Wd} {k q : Nat} {P : Pl} (hm0 : w k = some (mixO b k q)) (hp : isPlay dA b w q P) (g9 c9 : Nat) (hg9 : g9 < 2 ^ 20) (hc9 : c9 < 2 ^ 20) : Met l yX3_level wsX3_level ({ frames := 1, cells := 0, slots := 0, locals := 21 } : Room) (PC D dA b w [.ref (b + k), .int (nI g9), .int (nI c9)]) (QR (some (.int (nI (lvl P g9 c9))))) 0 0 Fno := by
  refine q_of (cc := cX3_level) (maxL := 3) (ret := (some .int)) (by decide) rfl rfl ?_
  intro p e s m args below meth c ls hx hb hr hml hts hown hlocks hG hW hS hl
  have hown : s.vm.findClass RX3 = some m.cls := hown
  have hinX3 : ∀ w ∈ u_ws RX3 TX3 8, w ∈ wsX3_level := fun w h => (goodIn_r (big := wsX3_level) (u_ws RX3 TX3 8) [7, 8, 9, 10, 11, 12, 13, 14] (by decide +kernel) (by decide +kernel) w h).1
  have hl : lv_has ls 3 [(0, .ref (b + k)), (1, .int (nI g9)), (2, .int (nI c9))] := hl
  have hoP := hp.ok
  have hoS := hoP.2.2.2.2
  have ho10 := hoP.1
  have ho12 := hoP.2.1
  unfold okS at hoS
  refine lv_iload_n hx hb dX3_level_0 rfl (lv_at hl 2 rfl) ?_
  refine lv_if_le (tgt := 21) hx hb dX3_level_1 (by decide) (fun c_1 => ?_) (fun c_1 => ?_)
  · skip
    have c_1 : c9 ≤ 0 := (nI_le0 (i := c9) (by omega)).mp c_1
    refine lv_iconst (v := nI 0) hx hb dX3_level_21 (by decide) ?_
    exact q_ri hx hb hr hlocks dX3_level_22 (by unfold lvl; first | (rw [if_pos (by omega)]; done) | (rw [if_neg (by omega)]; done))
  · skip
    have c_1 : ¬ (c9 ≤ 0) := fun h__ => c_1 ((nI_le0 (i := c9) (by omega)).mpr h__)
    refine lv_iload_n hx hb dX3_level_4 rfl (lv_at hl 1 rfl) ?_
    refine lv_aload_n hx hb dX3_level_5 rfl (lv_at hl 0 rfl) ?_
    refine q_get hx hb hts hinX3 hown hG hW hm0 rfl 0 (by decide) (hts (.fieldLink RX3 12 "FoleyMixer$Mix" "play" "LFoleyMixer$Play;") (List.mem_of_getElem? (i := 1) rfl)) rfl rfl dX3_level_6 ?_
    refine lv_iconst (v := nI 2) hx hb dX3_level_9 (by decide) ?_
    refine q_R1 (va_runVN (As := [.int (nI 2)]) (rest := [.int (nI g9)]) ⟨hx, hb, hml, hown, hts⟩ (c_X4_settingOf l hp (2) (by omega)) ⟨(va_cnB 1 hts gX3_level_X4_settingOf_n65 rfl rfl rfl (hG.nest 50 rfl) (hts (.initialized RX4) (List.mem_of_getElem? (i := 3) rfl)) (by decide +kernel) ⟨Nat.le_of_ble_eq_true rfl, Nat.le_of_ble_eq_true rfl⟩), (hts (.instanceMethod yX4_settingOf) (List.mem_of_getElem? (i := 2) rfl)), (hts (.selects RX4 yX4_settingOf yX4_settingOf) (List.mem_of_getElem? (i := 4) rfl))⟩ (q_preV hG hW hS (hp).1 rfl) rfl rfl hl.1 rfl (lv_room (Nat.le_of_ble_eq_true rfl)) dX3_level_10 ⟨Nat.le_of_ble_eq_true rfl, Nat.le_of_ble_eq_true rfl⟩) ?_
    refine lv_iload_n hx hb dX3_level_13 rfl (lv_at hl 2 rfl) ?_
    refine lv_iconst (v := nI 1) hx hb dX3_level_14 (by decide) ?_
    refine lv_isub hx hb dX3_level_15 ?_
    refine q_top (y := nI (c9 - 1)) (nI_sub (by omega)) ?_
    refine lv_imul hx hb dX3_level_16 ?_
    refine q_top (y := nI ((P.S 2) * (c9 - 1))) (nI_mul _ _) ?_
    refine lv_iadd hx hb dX3_level_17 ?_
    refine q_top (y := nI (g9 + ((P.S 2) * (c9 - 1)))) (nI_add _ _) ?_
    refine lv_goto (tgt := 22) hx hb dX3_level_18 (by decide) ?_
    exact q_ri hx hb hr hlocks dX3_level_22 (by unfold lvl; first | (rw [if_pos (by omega)]; done) | (rw [if_neg (by omega)]; done))

set_option maxHeartbeats 300000 in
set_option maxRecDepth 100000 in
/-- Mix.strengthOf(noise, second) -/
theorem c_X3_strengthOf (l : Launch) {D : va_G} {dA : Nat → Nat} {b : Nat} {w : Wd} {k q : Nat} {P : Pl} (hm0 : w k = some (mixO b k q)) (hp : isPlay dA b w q P) (hm3 : w (k + 9) = some (eN dA 120 (dk P))) (i t : Nat) (hi : i < P.n) (ht : t < 120) : Met l yX3_strengthOf wsX3_strengthOf ({ frames := 2, cells := 0, slots := 0, locals := 44 } : Room) (PC D dA b w [.ref (b + k), .int (nI i), .int (nI t)]) (QR (some (.int (nI (stg P i t))))) 0 0 Fno := by
  refine q_of (cc := cX3_strengthOf) (maxL := 4) (ret := (some .int)) (by decide) rfl rfl ?_
  intro p e s m args below meth c ls hx hb hr hml hts hown hlocks hG hW hS hl
  have hown : s.vm.findClass RX3 = some m.cls := hown
  have hinX3 : ∀ w ∈ u_ws RX3 TX3 8, w ∈ wsX3_strengthOf := fun w h => (goodIn_r (big := wsX3_strengthOf) (u_ws RX3 TX3 8) [19, 20, 21, 22, 23, 24, 25, 26] (by decide +kernel) (by decide +kernel) w h).1
  have hinX4 : ∀ w ∈ u_ws RX4 TX4 3, w ∈ wsX3_strengthOf := fun w h => (goodIn_r (big := wsX3_strengthOf) (u_ws RX4 TX4 3) [27, 28, 29] (by decide +kernel) (by decide +kernel) w h).1
  have hl : lv_has ls 4 [(0, .ref (b + k)), (1, .int (nI i)), (2, .int (nI t))] := hl
  have hoP := hp.ok
  have hoS := hoP.2.2.2.2
  have ho10 := hoP.1
  have ho12 := hoP.2.1
  unfold okS at hoS
  have hdk := dk_le P t
  refine lv_aload_n hx hb dX3_strengthOf_0 rfl (lv_at hl 0 rfl) ?_
  refine q_get hx hb hts hinX3 hown hG hW hm0 rfl 0 (by decide) (hts (.fieldLink RX3 12 "FoleyMixer$Mix" "play" "LFoleyMixer$Play;") (List.mem_of_getElem? (i := 1) rfl)) rfl rfl dX3_strengthOf_1 ?_
  refine q_getN hx hb hts hinX4 hown hG hW (hp).1 rfl 1 (by decide) (hG.nest 12 rfl) rfl rfl dX3_strengthOf_4 ?_
  refine lv_iload_n hx hb dX3_strengthOf_7 rfl (lv_at hl 1 rfl) ?_
  refine lv_iconst (v := nI 2) hx hb dX3_strengthOf_8 (by decide) ?_
  refine q_R1 (va_runVN (As := [.int (nI i), .int (nI 2)]) (rest := []) ⟨hx, hb, hml, hown, hts⟩ (c_X1_numberOf l (hp).2.2.1 (i) (2) (by omega) (by omega)) ⟨(va_cnB 2 hts gX3_strengthOf_X1_numberOf_n79 rfl rfl rfl (hG.nest 54 rfl) (hts (.initialized RX1) (List.mem_of_getElem? (i := 8) rfl)) (by decide +kernel) ⟨Nat.le_of_ble_eq_true rfl, Nat.le_of_ble_eq_true rfl⟩), (hts (.instanceMethod yX1_numberOf) (List.mem_of_getElem? (i := 7) rfl)), (hts (.selects RX1 yX1_numberOf yX1_numberOf) (List.mem_of_getElem? (i := 9) rfl))⟩ (q_preV hG hW hS (isCues.obj (hp).2.2.1) rfl) rfl rfl hl.1 rfl (lv_room (Nat.le_of_ble_eq_true rfl)) dX3_strengthOf_9 ⟨Nat.le_of_ble_eq_true rfl, Nat.le_of_ble_eq_true rfl⟩) ?_
  have q_9 := (hp).2.2.1.2.2.2.1 (i) (by omega)
  refine lv_istore_n (lv' := [(3, .int (nI (P.N i 2))), (0, .ref (b + k)), (1, .int (nI i)), (2, .int (nI t))]) hx hb dX3_strengthOf_12 rfl hl (by decide) rfl (fun ls hl => ?_)
  refine lv_aload_n hx hb dX3_strengthOf_13 rfl (lv_at hl 1 rfl) ?_
  refine q_get hx hb hts hinX3 hown hG hW hm0 rfl 0 (by decide) (hts (.fieldLink RX3 12 "FoleyMixer$Mix" "play" "LFoleyMixer$Play;") (List.mem_of_getElem? (i := 1) rfl)) rfl rfl dX3_strengthOf_14 ?_
  refine q_getN hx hb hts hinX4 hown hG hW (hp).1 rfl 1 (by decide) (hG.nest 12 rfl) rfl rfl dX3_strengthOf_17 ?_
  refine lv_iload_n hx hb dX3_strengthOf_20 rfl (lv_at hl 2 rfl) ?_
  refine q_R1 (va_runVN (As := [.int (nI i)]) (rest := []) ⟨hx, hb, hml, hown, hts⟩ (c_X1_isHard l (hp).2.2.1 (i) (by omega)) ⟨(va_cnB 1 hts gX3_strengthOf_X1_isHard_n82 rfl rfl rfl (hG.nest 55 rfl) (hts (.initialized RX1) (List.mem_of_getElem? (i := 8) rfl)) (by decide +kernel) ⟨Nat.le_of_ble_eq_true rfl, Nat.le_of_ble_eq_true rfl⟩), (hts (.instanceMethod yX1_isHard) (List.mem_of_getElem? (i := 12) rfl)), (hts (.selects RX1 yX1_isHard yX1_isHard) (List.mem_of_getElem? (i := 13) rfl))⟩ (q_preV hG hW hS (isCues.obj (hp).2.2.1) rfl) rfl rfl hl.1 rfl (lv_room (Nat.le_of_ble_eq_true rfl)) dX3_strengthOf_21 ⟨Nat.le_of_ble_eq_true rfl, Nat.le_of_ble_eq_true rfl⟩) ?_
  refine lv_if_eq (tgt := 31) hx hb dX3_strengthOf_24 (by decide) (fun c_24 => ?_) (fun c_24 => ?_)
  · skip
    have c_24 : ¬ (P.N i 3 = 1) := pI_eq0.mp c_24
    refine lv_iconst (v := nI 0) hx hb dX3_strengthOf_31 (by decide) ?_
    refine lv_iload_n hx hb dX3_strengthOf_32 rfl (lv_at hl 0 rfl) ?_
    refine lv_aload_n hx hb dX3_strengthOf_33 rfl (lv_at hl 1 rfl) ?_
    refine q_get hx hb hts hinX3 hown hG hW hm0 rfl 3 (by decide) (hts (.fieldLink RX3 25 "FoleyMixer$Mix" "ducking" "[I") (List.mem_of_getElem? (i := 2) rfl)) rfl rfl dX3_strengthOf_34 ?_
    refine lv_iload_n hx hb dX3_strengthOf_37 rfl (lv_at hl 3 rfl) ?_
    refine q_R1 (va_runSN (As := [.ref (b + (k + 9)), .int (nI t)]) (rest := [.int (nI (P.N i 2)), .int (nI 0)]) ⟨hx, hb, hml, hown, hts⟩ (c_entry_in l (RD.own hm3 (by decide)) (by decide) (t) (by omega)) ⟨(va_cnB 2 hts gX3_strengthOf_X6_entry_n61 rfl rfl rfl (hG.nest 49 rfl) (hts (.initialized RX6) (List.mem_of_getElem? (i := 17) rfl)) (by decide +kernel) ⟨Nat.le_of_ble_eq_true rfl, Nat.le_of_ble_eq_true rfl⟩), (hts (.static yX6_entry) (List.mem_of_getElem? (i := 16) rfl)), trivial⟩ (q_preS hG hW hS) rfl rfl hl.1 rfl (lv_room (Nat.le_of_ble_eq_true rfl)) dX3_strengthOf_38 ⟨Nat.le_of_ble_eq_true rfl, Nat.le_of_ble_eq_true rfl⟩) ?_
    refine lv_isub hx hb dX3_strengthOf_41 ?_
    refine va_mmax hx hb (by rw [hml]; exact hl.1.symm) hown (hts (.methodLink RX3 69 Lib.Math.max.name) (List.mem_of_getElem? (i := 3) rfl)) (hts (.static Lib.Math.max.name) (List.mem_of_getElem? (i := 4) rfl)) (hts (.initialized "java/lang/Math") (List.mem_of_getElem? (i := 5) rfl)) (hts (.code Lib.Math.max.name Lib.Math.max.code 2 (some .int)) (List.mem_of_getElem? (i := 6) rfl)) (Nat.le_of_ble_eq_true rfl) (Nat.le_of_ble_eq_true rfl) (Nat.le_of_ble_eq_true rfl) (Nat.le_of_ble_eq_true rfl) dX3_strengthOf_42 ?_
    refine q_top (y := nI (P.N i 2 - dk P t)) (by exact nI_max0 (by omega) (by omega)) ?_
    exact q_ri hx hb hr hlocks dX3_strengthOf_45 (by first | (unfold stg; rw [if_pos c_24]) | (unfold stg; rw [if_neg c_24]))
  · skip
    have c_24 : P.N i 3 = 1 := Decidable.byContradiction (fun h__ => c_24 (pI_eq0.mpr h__))
    refine lv_iload_n hx hb dX3_strengthOf_27 rfl (lv_at hl 0 rfl) ?_
    refine lv_goto (tgt := 45) hx hb dX3_strengthOf_28 (by decide) ?_
    exact q_ri hx hb hr hlocks dX3_strengthOf_45 (by first | (unfold stg; rw [if_pos c_24]) | (unfold stg; rw [if_neg c_24]))

set_option maxHeartbeats 300000 in
set_option maxRecDepth 100000 in
/-- Mix.coverOf(word, second) -/
theorem c_X3_coverOf (l : Launch) {D : va_G} {dA : Nat → Nat} {b : Nat} {w : Wd} {k q : Nat} {P : Pl} (hm0 : w k = some (mixO b k q)) (hp : isPlay dA b w q P) (hm1 : w (k + 7) = some (eN dA 120 (wmk P.W P.w))) {GS SC : Nat → Nat} (hm5 : w (k + 11) = some (eN dA 120 GS)) (hm6 : w (k + 12) = some (eN dA 120 SC)) (i t : Nat) (ht : t < 120) (hGS : GS t = gst P t P.n) (hSC : SC t = gct P t P.n) (hi : i < 2 ^ 31) : Met l yX3_coverOf wsX3_coverOf ({ frames := 2, cells := 0, slots := 0, locals := 43 } : Room) (PC D dA b w [.ref (b + k), .int (nI i), .int (nI t)]) (QR (some (.int (nI (cov P i t))))) 0 0 Fno := by
  refine q_of (cc := cX3_coverOf) (maxL := 7) (ret := (some .int)) (by decide) rfl rfl ?_
  intro p e s m args below meth c ls hx hb hr hml hts hown hlocks hG hW hS hl
  have hown : s.vm.findClass RX3 = some m.cls := hown
  have hinX3 : ∀ w ∈ u_ws RX3 TX3 8, w ∈ wsX3_coverOf := fun w h => (goodIn_r (big := wsX3_coverOf) (u_ws RX3 TX3 8) [33, 34, 35, 36, 37, 38, 39, 40] (by decide +kernel) (by decide +kernel) w h).1
  have hinX4 : ∀ w ∈ u_ws RX4 TX4 3, w ∈ wsX3_coverOf := fun w h => (goodIn_r (big := wsX3_coverOf) (u_ws RX4 TX4 3) [41, 42, 43] (by decide +kernel) (by decide +kernel) w h).1
  have hl : lv_has ls 7 [(0, .ref (b + k)), (1, .int (nI i)), (2, .int (nI t))] := hl
  have hoP := hp.ok
  have hoS := hoP.2.2.2.2
  have ho10 := hoP.1
  have ho12 := hoP.2.1
  unfold okS at hoS
  have hmw := wmk_lt (V := P.W) (n := P.w) (by omega) t
  refine lv_aload_n hx hb dX3_coverOf_0 rfl (lv_at hl 0 rfl) ?_
  refine q_get hx hb hts hinX3 hown hG hW hm0 rfl 5 (by decide) (hts (.fieldLink RX3 31 "FoleyMixer$Mix" "greatestStrength" "[I") (List.mem_of_getElem? (i := 1) rfl)) rfl rfl dX3_coverOf_1 ?_
  refine lv_iload_n hx hb dX3_coverOf_4 rfl (lv_at hl 2 rfl) ?_
  refine q_R1 (va_runSN (As := [.ref (b + (k + 11)), .int (nI t)]) (rest := []) ⟨hx, hb, hml, hown, hts⟩ (c_entry_in l (RD.own hm5 (by decide)) (by decide) (t) (by omega)) ⟨(va_cnB 2 hts gX3_coverOf_X6_entry_n61 rfl rfl rfl (hG.nest 49 rfl) (hts (.initialized RX6) (List.mem_of_getElem? (i := 10) rfl)) (by decide +kernel) ⟨Nat.le_of_ble_eq_true rfl, Nat.le_of_ble_eq_true rfl⟩), (hts (.static yX6_entry) (List.mem_of_getElem? (i := 9) rfl)), trivial⟩ (q_preS hG hW hS) rfl rfl hl.1 rfl (lv_room (Nat.le_of_ble_eq_true rfl)) dX3_coverOf_5 ⟨Nat.le_of_ble_eq_true rfl, Nat.le_of_ble_eq_true rfl⟩) ?_
  refine lv_istore_n (lv' := [(3, .int (nI (GS t))), (0, .ref (b + k)), (1, .int (nI i)), (2, .int (nI t))]) hx hb dX3_coverOf_8 rfl hl (by decide) rfl (fun ls hl => ?_)
  refine lv_aload_n hx hb dX3_coverOf_9 rfl (lv_at hl 1 rfl) ?_
  refine q_get hx hb hts hinX3 hown hG hW hm0 rfl 6 (by decide) (hts (.fieldLink RX3 34 "FoleyMixer$Mix" "strengthCount" "[I") (List.mem_of_getElem? (i := 2) rfl)) rfl rfl dX3_coverOf_10 ?_
  refine lv_iload_n hx hb dX3_coverOf_13 rfl (lv_at hl 3 rfl) ?_
  refine q_R1 (va_runSN (As := [.ref (b + (k + 12)), .int (nI t)]) (rest := []) ⟨hx, hb, hml, hown, hts⟩ (c_entry_in l (RD.own hm6 (by decide)) (by decide) (t) (by omega)) ⟨(va_cnB 2 hts gX3_coverOf_X6_entry_n61 rfl rfl rfl (hG.nest 49 rfl) (hts (.initialized RX6) (List.mem_of_getElem? (i := 10) rfl)) (by decide +kernel) ⟨Nat.le_of_ble_eq_true rfl, Nat.le_of_ble_eq_true rfl⟩), (hts (.static yX6_entry) (List.mem_of_getElem? (i := 9) rfl)), trivial⟩ (q_preS hG hW hS) rfl rfl hl.1 rfl (lv_room (Nat.le_of_ble_eq_true rfl)) dX3_coverOf_14 ⟨Nat.le_of_ble_eq_true rfl, Nat.le_of_ble_eq_true rfl⟩) ?_
  refine lv_istore (lv' := [(4, .int (nI (SC t))), (3, .int (nI (GS t))), (0, .ref (b + k)), (1, .int (nI i)), (2, .int (nI t))]) hx hb dX3_coverOf_17 hl (by decide) rfl (fun ls hl => ?_)
  refine lv_aload_n hx hb dX3_coverOf_19 rfl (lv_at hl 2 rfl) ?_
  refine q_get hx hb hts hinX3 hown hG hW hm0 rfl 1 (by decide) (hts (.fieldLink RX3 18 "FoleyMixer$Mix" "words" "[I") (List.mem_of_getElem? (i := 3) rfl)) rfl rfl dX3_coverOf_20 ?_
  refine lv_iload_n hx hb dX3_coverOf_23 rfl (lv_at hl 4 rfl) ?_
  refine q_R1 (va_runSN (As := [.ref (b + (k + 7)), .int (nI t)]) (rest := []) ⟨hx, hb, hml, hown, hts⟩ (c_entry_in l (RD.own hm1 (by decide)) (by decide) (t) (by omega)) ⟨(va_cnB 2 hts gX3_coverOf_X6_entry_n61 rfl rfl rfl (hG.nest 49 rfl) (hts (.initialized RX6) (List.mem_of_getElem? (i := 10) rfl)) (by decide +kernel) ⟨Nat.le_of_ble_eq_true rfl, Nat.le_of_ble_eq_true rfl⟩), (hts (.static yX6_entry) (List.mem_of_getElem? (i := 9) rfl)), trivial⟩ (q_preS hG hW hS) rfl rfl hl.1 rfl (lv_room (Nat.le_of_ble_eq_true rfl)) dX3_coverOf_24 ⟨Nat.le_of_ble_eq_true rfl, Nat.le_of_ble_eq_true rfl⟩) ?_
  refine lv_istore (lv' := [(5, .int (nI ((wmk P.W P.w) t))), (4, .int (nI (SC t))), (3, .int (nI (GS t))), (0, .ref (b + k)), (1, .int (nI i)), (2, .int (nI t))]) hx hb dX3_coverOf_27 hl (by decide) rfl (fun ls hl => ?_)
  refine lv_iconst (v := nI 0) hx hb dX3_coverOf_29 (by decide) ?_
  refine lv_istore (lv' := [(6, .int (nI 0)), (5, .int (nI ((wmk P.W P.w) t))), (4, .int (nI (SC t))), (3, .int (nI (GS t))), (0, .ref (b + k)), (1, .int (nI i)), (2, .int (nI t))]) hx hb dX3_coverOf_30 hl (by decide) rfl (fun ls hl => ?_)
  have L32 : ∀ (n32 : Nat) (j : Nat), j ≤ P.w → P.w - j < n32 → ∀ (x32_3 : Int32) (x32_4 : Int32) (x32_6 : Int32), x32_3 = nI (cgr P i t j) → x32_4 = nI (cct P i t j) → x32_6 = nI (j) → ∀ (ls : Array Slot), lv_has ls 7 [(0, .ref (b + k)), (1, .int (nI i)), (2, .int (nI t)), (3, .int x32_3), (4, .int x32_4), (5, .int (nI ((wmk P.W P.w) t))), (6, .int x32_6)] → W p l e ({ frames := 2, cells := 0, slots := 0, locals := 43 } : Room) s m args below meth c s.heap [] 0 0 (MQ below (QR (some (.int (nI (cov P i t))))) args s 0 0 Fno) (F0 m 32 ls []) := by
    intro n32
    induction n32 with
    | zero =>
      intro j hj0 hn32 x32_3 x32_4 x32_6 ex32_3 ex32_4 ex32_6 ls hl
      exact absurd hn32 (Nat.not_lt_zero _)
    | succ n32 ih32 =>
      intro j hj0 hn32 x32_3 x32_4 x32_6 ex32_3 ex32_4 ex32_6 ls hl
      subst ex32_3 ex32_4 ex32_6
      have hq1 := cgr_le hoP i t j hj0
      have hq2 := cct_le hoP i t j hj0
      refine lv_iload hx hb dX3_coverOf_32 (lv_at hl 6 rfl) ?_
      refine lv_aload_n hx hb dX3_coverOf_34 rfl (lv_at hl 0 rfl) ?_
      refine q_get hx hb hts hinX3 hown hG hW hm0 rfl 0 (by decide) (hts (.fieldLink RX3 12 "FoleyMixer$Mix" "play" "LFoleyMixer$Play;") (List.mem_of_getElem? (i := 4) rfl)) rfl rfl dX3_coverOf_35 ?_
      refine q_getN hx hb hts hinX4 hown hG hW (hp).1 rfl 0 (by decide) (hG.nest 10 rfl) rfl rfl dX3_coverOf_38 ?_
      refine q_R1 (va_runVN (As := []) (rest := [.int (nI j)]) ⟨hx, hb, hml, hown, hts⟩ (c_X1_size l (hp).2.1) ⟨(va_cnB 0 hts gX3_coverOf_X1_size_n86 rfl rfl rfl (hG.nest 52 rfl) (hts (.initialized RX1) (List.mem_of_getElem? (i := 13) rfl)) (by decide +kernel) ⟨Nat.le_of_ble_eq_true rfl, Nat.le_of_ble_eq_true rfl⟩), (hts (.instanceMethod yX1_size) (List.mem_of_getElem? (i := 12) rfl)), (hts (.selects RX1 yX1_size yX1_size) (List.mem_of_getElem? (i := 14) rfl))⟩ (q_preV hG hW hS (isCues.obj (hp).2.1) rfl) rfl rfl hl.1 rfl (lv_room (Nat.le_of_ble_eq_true rfl)) dX3_coverOf_41 ⟨Nat.le_of_ble_eq_true rfl, Nat.le_of_ble_eq_true rfl⟩) ?_
      refine lv_icmp_ge (tgt := 90) hx hb dX3_coverOf_44 (by decide) (fun c_44 => ?_) (fun c_44 => ?_)
      · skip
        have c_44 : P.w ≤ j := (nI_leI (a := P.w) (b := j) (by omega) (by omega)).mp c_44
        refine lv_aload_n hx hb dX3_coverOf_90 rfl (lv_at hl 0 rfl) ?_
        refine lv_iload_n hx hb dX3_coverOf_91 rfl (lv_at hl 3 rfl) ?_
        refine lv_iload hx hb dX3_coverOf_92 (lv_at hl 4 rfl) ?_
        refine q_R1 (va_runV (As := [.int (nI (cgr P i t j)), .int (nI (cct P i t j))]) (rest := []) ⟨hx, hb, hml, hown, hts⟩ (c_X3_level l hm0 hp (cgr P i t j) (cct P i t j) (by omega) (by omega)) (cwV 2 hts gX3_coverOf_X3_level rfl rfl rfl (by decide +kernel) ⟨Nat.le_of_ble_eq_true rfl, Nat.le_of_ble_eq_true rfl⟩) (q_preV hG hW hS hm0 rfl) rfl rfl hl.1 rfl (lv_room (Nat.le_of_ble_eq_true rfl)) dX3_coverOf_94 ⟨Nat.le_of_ble_eq_true rfl, Nat.le_of_ble_eq_true rfl⟩) ?_
        exact q_ri hx hb hr hlocks dX3_coverOf_97 (by rw [show j = P.w by omega]; rfl)
      · skip
        have c_44 : ¬ (P.w ≤ j) := fun h__ => c_44 ((nI_leI (a := P.w) (b := j) (by omega) (by omega)).mpr h__)
        refine lv_iload hx hb dX3_coverOf_47 (lv_at hl 6 rfl) ?_
        refine lv_iload_n hx hb dX3_coverOf_49 rfl (lv_at hl 1 rfl) ?_
        refine lv_icmp_eq (tgt := 84) hx hb dX3_coverOf_50 (by decide) (fun c_50 => ?_) (fun c_50 => ?_)
        · skip
          have c_50 : j = i := (nI_eq (a := j) (b := i) (by omega) (by omega)).mp c_50
          try have hsn : ¬ snd P.W j t := fun q8 => c_60 (by rw [mk_bit]; exact decide_eq_true ⟨by omega, q8⟩)
          refine lv_iinc (v := nI (j + 1)) (lv' := [(6, .int (nI (j + 1))), (0, .ref (b + k)), (1, .int (nI i)), (2, .int (nI t)), (3, .int (nI (cgr P i t j))), (4, .int (nI (cct P i t j))), (5, .int (nI ((wmk P.W P.w) t)))]) hx hb dX3_coverOf_84 hl (k := 6) rfl (nI_add _ 1) (by decide) rfl (fun ls hl => ?_)
          refine lv_goto (tgt := 32) hx hb dX3_coverOf_87 (by decide) ?_
          exact ih32 (j + 1) (by omega) (by omega) _ _ _ (by exact congrArg nI (by rw [cgr]; first | (rw [if_pos ⟨c_50, hsn⟩]; done) | (rw [if_neg (fun q9 => q9.1 c_50)]; done) | (rw [if_neg (fun q9 => hsn q9.2)]; done))) (by exact congrArg nI (by rw [cct]; first | (rw [if_pos ⟨c_50, hsn⟩]; done) | (rw [if_neg (fun q9 => q9.1 c_50)]; done) | (rw [if_neg (fun q9 => hsn q9.2)]; done))) (by first | rfl | (congr 1; omega)) _ (lv_sub hl [1, 2, 3, 4, 5, 6, 0] rfl)
        · skip
          have c_50 : ¬ (j = i) := fun h__ => c_50 ((nI_eq (a := j) (b := i) (by omega) (by omega)).mpr h__)
          refine lv_iload hx hb dX3_coverOf_53 (lv_at hl 5 rfl) ?_
          refine lv_iload hx hb dX3_coverOf_55 (lv_at hl 6 rfl) ?_
          refine q_R1 (va_runSN (As := [.int (nI ((wmk P.W P.w) t)), .int (nI j)]) (rest := []) ⟨hx, hb, hml, hown, hts⟩ (c_X6_hasBit l ((wmk P.W P.w) t) (j) (by omega) (by omega)) ⟨(va_cnB 2 hts gX3_coverOf_X6_hasBit_n90 rfl rfl rfl (hG.nest 53 rfl) (hts (.initialized RX6) (List.mem_of_getElem? (i := 10) rfl)) (by decide +kernel) ⟨Nat.le_of_ble_eq_true rfl, Nat.le_of_ble_eq_true rfl⟩), (hts (.static yX6_hasBit) (List.mem_of_getElem? (i := 17) rfl)), trivial⟩ (q_preS hG hW hS) rfl rfl hl.1 rfl (lv_room (Nat.le_of_ble_eq_true rfl)) dX3_coverOf_57 ⟨Nat.le_of_ble_eq_true rfl, Nat.le_of_ble_eq_true rfl⟩) ?_
          refine lv_if_eq (tgt := 84) hx hb dX3_coverOf_60 (by decide) (fun c_60 => ?_) (fun c_60 => ?_)
          · skip
            have c_60 : ¬ (((wmk P.W P.w) t).testBit j = true) := pI_eq0.mp c_60
            try have hsn : ¬ snd P.W j t := fun q8 => c_60 (by rw [mk_bit]; exact decide_eq_true ⟨by omega, q8⟩)
            refine lv_iinc (v := nI (j + 1)) (lv' := [(6, .int (nI (j + 1))), (0, .ref (b + k)), (1, .int (nI i)), (2, .int (nI t)), (3, .int (nI (cgr P i t j))), (4, .int (nI (cct P i t j))), (5, .int (nI ((wmk P.W P.w) t)))]) hx hb dX3_coverOf_84 hl (k := 6) rfl (nI_add _ 1) (by decide) rfl (fun ls hl => ?_)
            refine lv_goto (tgt := 32) hx hb dX3_coverOf_87 (by decide) ?_
            exact ih32 (j + 1) (by omega) (by omega) _ _ _ (by exact congrArg nI (by rw [cgr]; first | (rw [if_pos ⟨c_50, hsn⟩]; done) | (rw [if_neg (fun q9 => q9.1 c_50)]; done) | (rw [if_neg (fun q9 => hsn q9.2)]; done))) (by exact congrArg nI (by rw [cct]; first | (rw [if_pos ⟨c_50, hsn⟩]; done) | (rw [if_neg (fun q9 => q9.1 c_50)]; done) | (rw [if_neg (fun q9 => hsn q9.2)]; done))) (by first | rfl | (congr 1; omega)) _ (lv_sub hl [1, 2, 3, 4, 5, 6, 0] rfl)
          · skip
            have c_60 : ((wmk P.W P.w) t).testBit j = true := Decidable.byContradiction (fun h__ => c_60 (pI_eq0.mpr h__))
            have hsn : snd P.W j t := by have h8 := mk_bit (fun a => snd P.W a t) P.w j; rw [c_60] at h8; exact (of_decide_eq_true h8.symm).2
            refine lv_iload_n hx hb dX3_coverOf_63 rfl (lv_at hl 3 rfl) ?_
            refine lv_aload_n hx hb dX3_coverOf_64 rfl (lv_at hl 0 rfl) ?_
            refine q_get hx hb hts hinX3 hown hG hW hm0 rfl 0 (by decide) (hts (.fieldLink RX3 12 "FoleyMixer$Mix" "play" "LFoleyMixer$Play;") (List.mem_of_getElem? (i := 4) rfl)) rfl rfl dX3_coverOf_65 ?_
            refine q_getN hx hb hts hinX4 hown hG hW (hp).1 rfl 0 (by decide) (hG.nest 10 rfl) rfl rfl dX3_coverOf_68 ?_
            refine lv_iload hx hb dX3_coverOf_71 (lv_at hl 6 rfl) ?_
            refine lv_iconst (v := nI 2) hx hb dX3_coverOf_73 (by decide) ?_
            refine q_R1 (va_runVN (As := [.int (nI j), .int (nI 2)]) (rest := [.int (nI (cgr P i t j))]) ⟨hx, hb, hml, hown, hts⟩ (c_X1_numberOf l (hp).2.1 (j) (2) (by omega) (by omega)) ⟨(va_cnB 2 hts gX3_coverOf_X1_numberOf_n79 rfl rfl rfl (hG.nest 54 rfl) (hts (.initialized RX1) (List.mem_of_getElem? (i := 13) rfl)) (by decide +kernel) ⟨Nat.le_of_ble_eq_true rfl, Nat.le_of_ble_eq_true rfl⟩), (hts (.instanceMethod yX1_numberOf) (List.mem_of_getElem? (i := 19) rfl)), (hts (.selects RX1 yX1_numberOf yX1_numberOf) (List.mem_of_getElem? (i := 20) rfl))⟩ (q_preV hG hW hS (isCues.obj (hp).2.1) rfl) rfl rfl hl.1 rfl (lv_room (Nat.le_of_ble_eq_true rfl)) dX3_coverOf_74 ⟨Nat.le_of_ble_eq_true rfl, Nat.le_of_ble_eq_true rfl⟩) ?_
            have q_74 := (hp).2.1.2.2.2.1 (j) (by omega)
            refine va_mmax hx hb (by rw [hml]; exact hl.1.symm) hown (hts (.methodLink RX3 69 Lib.Math.max.name) (List.mem_of_getElem? (i := 5) rfl)) (hts (.static Lib.Math.max.name) (List.mem_of_getElem? (i := 6) rfl)) (hts (.initialized "java/lang/Math") (List.mem_of_getElem? (i := 7) rfl)) (hts (.code Lib.Math.max.name Lib.Math.max.code 2 (some .int)) (List.mem_of_getElem? (i := 8) rfl)) (Nat.le_of_ble_eq_true rfl) (Nat.le_of_ble_eq_true rfl) (Nat.le_of_ble_eq_true rfl) (Nat.le_of_ble_eq_true rfl) dX3_coverOf_77 ?_
            refine q_top (y := nI (max (cgr P i t j) (P.W j 2))) (nI_max (by omega) (by omega)) ?_
            refine lv_istore_n (lv' := [(3, .int (nI (max (cgr P i t j) (P.W j 2)))), (0, .ref (b + k)), (1, .int (nI i)), (2, .int (nI t)), (4, .int (nI (cct P i t j))), (5, .int (nI ((wmk P.W P.w) t))), (6, .int (nI j))]) hx hb dX3_coverOf_80 rfl hl (by decide) rfl (fun ls hl => ?_)
            refine lv_iinc (v := nI ((cct P i t j) + 1)) (lv' := [(4, .int (nI ((cct P i t j) + 1))), (3, .int (nI (max (cgr P i t j) (P.W j 2)))), (0, .ref (b + k)), (1, .int (nI i)), (2, .int (nI t)), (5, .int (nI ((wmk P.W P.w) t))), (6, .int (nI j))]) hx hb dX3_coverOf_81 hl (k := 4) rfl (nI_add _ 1) (by decide) rfl (fun ls hl => ?_)
            try have hsn : ¬ snd P.W j t := fun q8 => c_60 (by rw [mk_bit]; exact decide_eq_true ⟨by omega, q8⟩)
            refine lv_iinc (v := nI (j + 1)) (lv' := [(6, .int (nI (j + 1))), (4, .int (nI ((cct P i t j) + 1))), (3, .int (nI (max (cgr P i t j) (P.W j 2)))), (0, .ref (b + k)), (1, .int (nI i)), (2, .int (nI t)), (5, .int (nI ((wmk P.W P.w) t)))]) hx hb dX3_coverOf_84 hl (k := 6) rfl (nI_add _ 1) (by decide) rfl (fun ls hl => ?_)
            refine lv_goto (tgt := 32) hx hb dX3_coverOf_87 (by decide) ?_
            exact ih32 (j + 1) (by omega) (by omega) _ _ _ (by exact congrArg nI (by rw [cgr]; first | (rw [if_pos ⟨c_50, hsn⟩]; done) | (rw [if_neg (fun q9 => q9.1 c_50)]; done) | (rw [if_neg (fun q9 => hsn q9.2)]; done))) (by exact congrArg nI (by rw [cct]; first | (rw [if_pos ⟨c_50, hsn⟩]; done) | (rw [if_neg (fun q9 => q9.1 c_50)]; done) | (rw [if_neg (fun q9 => hsn q9.2)]; done))) (by first | rfl | (congr 1; omega)) _ (lv_sub hl [3, 4, 5, 2, 1, 6, 0] rfl)
  exact L32 ((P.w - 0) + 1) 0 (by omega) (Nat.lt_succ_self _) _ _ _ (by exact congrArg nI hGS) (by exact congrArg nI hSC) (by first | rfl | (congr 1; omega)) _ (lv_sub hl [4, 5, 6, 3, 2, 1, 0] rfl)

set_option maxHeartbeats 300000 in
set_option maxRecDepth 100000 in
/-- Mix.noiseLevel(second) -/
theorem c_X3_noiseLevel (l : Launch) {D : va_G} {dA : Nat → Nat} {b : Nat} {w : Wd} {k q : Nat} {P : Pl} (hm0 : w k = some (mixO b k q)) (hp : isPlay dA b w q P) (hm5 : w (k + 11) = some (eN dA 120 (fun t => gst P t P.n))) (hm6 : w (k + 12) = some (eN dA 120 (fun t => gct P t P.n))) (t : Nat) (ht : t < 120) : Met l yX3_noiseLevel wsX3_noiseLevel ({ frames := 2, cells := 0, slots := 0, locals := 43 } : Room) (PC D dA b w [.ref (b + k), .int (nI t)]) (QR (some (.int (nI (lvl P (gst P t P.n) (gct P t P.n)))))) 0 0 Fno := by
  refine q_of (cc := cX3_noiseLevel) (maxL := 2) (ret := (some .int)) (by decide) rfl rfl ?_
  intro p e s m args below meth c ls hx hb hr hml hts hown hlocks hG hW hS hl
  have hown : s.vm.findClass RX3 = some m.cls := hown
  have hinX3 : ∀ w ∈ u_ws RX3 TX3 8, w ∈ wsX3_noiseLevel := fun w h => (goodIn_r (big := wsX3_noiseLevel) (u_ws RX3 TX3 8) [17, 18, 19, 20, 21, 22, 23, 24] (by decide +kernel) (by decide +kernel) w h).1
  have hl : lv_has ls 2 [(0, .ref (b + k)), (1, .int (nI t))] := hl
  have hoP := hp.ok
  have hoS := hoP.2.2.2.2
  have ho10 := hoP.1
  have ho12 := hoP.2.1
  unfold okS at hoS
  have hq1 := gst_le hoP.2.2.2.1 t _ (Nat.le_refl _)
  have hq2 := ct_le (fun i => snd P.N i t ∧ 0 < stg P i t) P.n
  change gct P t P.n ≤ P.n at hq2
  refine lv_aload_n hx hb dX3_noiseLevel_0 rfl (lv_at hl 0 rfl) ?_
  refine lv_aload_n hx hb dX3_noiseLevel_1 rfl (lv_at hl 0 rfl) ?_
  refine q_get hx hb hts hinX3 hown hG hW hm0 rfl 5 (by decide) (hts (.fieldLink RX3 31 "FoleyMixer$Mix" "greatestStrength" "[I") (List.mem_of_getElem? (i := 1) rfl)) rfl rfl dX3_noiseLevel_2 ?_
  refine lv_iload_n hx hb dX3_noiseLevel_5 rfl (lv_at hl 1 rfl) ?_
  refine q_R1 (va_runSN (As := [.ref (b + (k + 11)), .int (nI t)]) (rest := [.ref (b + k)]) ⟨hx, hb, hml, hown, hts⟩ (c_entry_in l (RD.own hm5 (by decide)) (by decide) (t) (by omega)) ⟨(va_cnB 2 hts gX3_noiseLevel_X6_entry_n61 rfl rfl rfl (hG.nest 49 rfl) (hts (.initialized RX6) (List.mem_of_getElem? (i := 4) rfl)) (by decide +kernel) ⟨Nat.le_of_ble_eq_true rfl, Nat.le_of_ble_eq_true rfl⟩), (hts (.static yX6_entry) (List.mem_of_getElem? (i := 3) rfl)), trivial⟩ (q_preS hG hW hS) rfl rfl hl.1 rfl (lv_room (Nat.le_of_ble_eq_true rfl)) dX3_noiseLevel_6 ⟨Nat.le_of_ble_eq_true rfl, Nat.le_of_ble_eq_true rfl⟩) ?_
  refine lv_aload_n hx hb dX3_noiseLevel_9 rfl (lv_at hl 0 rfl) ?_
  refine q_get hx hb hts hinX3 hown hG hW hm0 rfl 6 (by decide) (hts (.fieldLink RX3 34 "FoleyMixer$Mix" "strengthCount" "[I") (List.mem_of_getElem? (i := 2) rfl)) rfl rfl dX3_noiseLevel_10 ?_
  refine lv_iload_n hx hb dX3_noiseLevel_13 rfl (lv_at hl 1 rfl) ?_
  refine q_R1 (va_runSN (As := [.ref (b + (k + 12)), .int (nI t)]) (rest := [.int (nI ((fun t => gst P t P.n) t)), .ref (b + k)]) ⟨hx, hb, hml, hown, hts⟩ (c_entry_in l (RD.own hm6 (by decide)) (by decide) (t) (by omega)) ⟨(va_cnB 2 hts gX3_noiseLevel_X6_entry_n61 rfl rfl rfl (hG.nest 49 rfl) (hts (.initialized RX6) (List.mem_of_getElem? (i := 4) rfl)) (by decide +kernel) ⟨Nat.le_of_ble_eq_true rfl, Nat.le_of_ble_eq_true rfl⟩), (hts (.static yX6_entry) (List.mem_of_getElem? (i := 3) rfl)), trivial⟩ (q_preS hG hW hS) rfl rfl hl.1 rfl (lv_room (Nat.le_of_ble_eq_true rfl)) dX3_noiseLevel_14 ⟨Nat.le_of_ble_eq_true rfl, Nat.le_of_ble_eq_true rfl⟩) ?_
  refine q_R1 (va_runV (As := [.int (nI ((fun t => gst P t P.n) t)), .int (nI ((fun t => gct P t P.n) t))]) (rest := []) ⟨hx, hb, hml, hown, hts⟩ (c_X3_level l hm0 hp ((fun t => gst P t P.n) t) ((fun t => gct P t P.n) t) (by show gst P t P.n < _; omega) (by show gct P t P.n < _; omega)) (cwV 2 hts gX3_noiseLevel_X3_level rfl rfl rfl (by decide +kernel) ⟨Nat.le_of_ble_eq_true rfl, Nat.le_of_ble_eq_true rfl⟩) (q_preV hG hW hS hm0 rfl) rfl rfl hl.1 rfl (lv_room (Nat.le_of_ble_eq_true rfl)) dX3_noiseLevel_17 ⟨Nat.le_of_ble_eq_true rfl, Nat.le_of_ble_eq_true rfl⟩) ?_
  exact q_ri hx hb hr hlocks dX3_noiseLevel_20 (by rfl)

set_option maxHeartbeats 300000 in
set_option maxRecDepth 100000 in
/-- Mix.duck() -/
theorem c_X3_duck (l : Launch) {D : va_G} {dA : Nat → Nat} {b : Nat} {w : Wd} {k q : Nat} {P : Pl} (hm0 : w k = some (mixO b k q)) (hp : isPlay dA b w q P) (hm1 : w (k + 7) = some (eN dA 120 (wmk P.W P.w))) {DK : Nat → Nat} (hm3 : w (k + 9) = some (eN dA 120 DK)) (hkq : q = k + 1) : Met l yX3_duck wsX3_duck ({ frames := 1, cells := 0, slots := 0, locals := 22 } : Room) (PC D dA b w [.ref (b + k)]) (QW D b (none) (fun w' => w' (k + 9) = some (eN dA 120 (dk P)) ∧ ∀ id : Nat, id ≠ k + 9 → w' id = w id)) 0 0 (Fb b) := by
  refine q_of (cc := cX3_duck) (maxL := 3) (ret := none) (by decide) rfl rfl ?_
  intro p e s m args below meth c ls hx hb hr hml hts hown hlocks hG hW hS hl
  have hown : s.vm.findClass RX3 = some m.cls := hown
  have hinX3 : ∀ w ∈ u_ws RX3 TX3 8, w ∈ wsX3_duck := fun w h => (goodIn_r (big := wsX3_duck) (u_ws RX3 TX3 8) [18, 19, 20, 21, 22, 23, 24, 25] (by decide +kernel) (by decide +kernel) w h).1
  have hl : lv_has ls 3 [(0, .ref (b + k))] := hl
  have hoP := hp.ok
  have hoS := hoP.2.2.2.2
  have ho10 := hoP.1
  have ho12 := hoP.2.1
  unfold okS at hoS
  refine lv_iconst (v := nI 0) hx hb dX3_duck_0 (by decide) ?_
  refine lv_istore_n (lv' := [(1, .int (nI 0)), (0, .ref (b + k))]) hx hb dX3_duck_1 rfl hl (by decide) rfl (fun ls hl => ?_)
  refine lv_iconst (v := nI 0) hx hb dX3_duck_2 (by decide) ?_
  refine lv_istore_n (lv' := [(2, .int (nI 0)), (1, .int (nI 0)), (0, .ref (b + k))]) hx hb dX3_duck_3 rfl hl (by decide) rfl (fun ls hl => ?_)
  have L4 : ∀ (n4 : Nat) (i : Nat), i ≤ 120 → 120 - i < n4 → ∀ (x4_1 : Int32) (x4_2 : Int32), x4_1 = nI (pdk P i) → x4_2 = nI (i) → ∀ (w2 : Wd) (H : Heap) (locs : List Loc), (∀ id : Nat, id ≠ k + 9 → w2 id = w id) → w2 (k + 9) = some (eN dA 120 (fun t => if t < i then dk P t else DK t)) → WP D b w2 H → va_S (Fb b) s.heap H locs → ∀ (ls : Array Slot), lv_has ls 3 [(0, .ref (b + k)), (1, .int x4_1), (2, .int x4_2)] → W p l e ({ frames := 1, cells := 0, slots := 0, locals := 22 } : Room) s m args below meth c H locs 0 0 (MQ below (QW D b (none) (fun w' => w' (k + 9) = some (eN dA 120 (dk P)) ∧ ∀ id : Nat, id ≠ k + 9 → w' id = w id)) args s 0 0 (Fb b)) (F0 m 4 ls []) := by
    intro n4
    induction n4 with
    | zero =>
      intro i hi0 hn4 x4_1 x4_2 ex4_1 ex4_2 w2 H locs fr hm3 hW hS ls hl
      exact absurd hn4 (Nat.not_lt_zero _)
    | succ n4 ih4 =>
      intro i hi0 hn4 x4_1 x4_2 ex4_1 ex4_2 w2 H locs fr hm3 hW hS ls hl
      subst ex4_1 ex4_2
      replace hp := hp.fr (fun id9 h7 h8 => fr id9 (by omega))
      replace hm0 := (fr _ (by omega)).trans hm0
      replace hm1 := (fr _ (by omega)).trans hm1
      have hpd := pdk_le P i
      have hwm := wmk_lt (V := P.W) (n := P.w) (by omega) i
      refine lv_iload_n hx hb dX3_duck_4 rfl (lv_at hl 2 rfl) ?_
      refine lv_bipush (v := nI 120) hx hb dX3_duck_5 (by decide) ?_
      refine lv_icmp_ge (tgt := 63) hx hb dX3_duck_7 (by decide) (fun c_7 => ?_) (fun c_7 => ?_)
      · skip
        have c_7 : 120 ≤ i := (nI_leI (a := 120) (b := i) (by omega) (by omega)).mp c_7
        replace hW := hW.same (g := dk P) hm3 (fun t ht => if_pos (by omega))
        exact q_wv hx hb hr hlocks hW hS dX3_duck_63 (by exact ⟨up_eq, fun id h9 => (up_ne h9).trans (fr id h9)⟩) (by decide) (by decide)
      · skip
        have c_7 : ¬ (120 ≤ i) := fun h__ => c_7 ((nI_leI (a := 120) (b := i) (by omega) (by omega)).mpr h__)
        refine lv_aload_n hx hb dX3_duck_10 rfl (lv_at hl 0 rfl) ?_
        refine q_get hx hb hts hinX3 hown hG hW hm0 rfl 1 (by decide) (hts (.fieldLink RX3 18 "FoleyMixer$Mix" "words" "[I") (List.mem_of_getElem? (i := 1) rfl)) rfl rfl dX3_duck_11 ?_
        refine lv_iload_n hx hb dX3_duck_14 rfl (lv_at hl 2 rfl) ?_
        refine q_R1 (va_runSN (As := [.ref (b + (k + 7)), .int (nI i)]) (rest := []) ⟨hx, hb, hml, hown, hts⟩ (c_entry_in l (RD.own hm1 (by decide)) (by decide) (i) (by omega)) ⟨(va_cnB 2 hts gX3_duck_X6_entry_n61 rfl rfl rfl (hG.nest 49 rfl) (hts (.initialized RX6) (List.mem_of_getElem? (i := 9) rfl)) (by decide +kernel) ⟨Nat.le_of_ble_eq_true rfl, Nat.le_of_ble_eq_true rfl⟩), (hts (.static yX6_entry) (List.mem_of_getElem? (i := 8) rfl)), trivial⟩ (q_preS hG hW hS) rfl rfl hl.1 rfl (lv_room (Nat.le_of_ble_eq_true rfl)) dX3_duck_15 ⟨Nat.le_of_ble_eq_true rfl, Nat.le_of_ble_eq_true rfl⟩) ?_
        refine lv_if_eq (tgt := 33) hx hb dX3_duck_18 (by decide) (fun c_18 => ?_) (fun c_18 => ?_)
        · skip
          have c_18 : ((wmk P.W P.w) i) = 0 := (nI_eq0 (i := (wmk P.W P.w) i) (by omega)).mp c_18
          refine lv_iconst (v := nI 0) hx hb dX3_duck_33 (by decide) ?_
          refine lv_iload_n hx hb dX3_duck_34 rfl (lv_at hl 1 rfl) ?_
          refine lv_aload_n hx hb dX3_duck_35 rfl (lv_at hl 0 rfl) ?_
          refine q_get hx hb hts hinX3 hown hG hW hm0 rfl 0 (by decide) (hts (.fieldLink RX3 12 "FoleyMixer$Mix" "play" "LFoleyMixer$Play;") (List.mem_of_getElem? (i := 2) rfl)) rfl rfl dX3_duck_36 ?_
          refine lv_iconst (v := nI 1) hx hb dX3_duck_39 (by decide) ?_
          refine q_R1 (va_runVN (As := [.int (nI 1)]) (rest := [.int (nI (pdk P i)), .int (nI 0)]) ⟨hx, hb, hml, hown, hts⟩ (c_X4_settingOf l hp (1) (by omega)) ⟨(va_cnB 1 hts gX3_duck_X4_settingOf_n65 rfl rfl rfl (hG.nest 50 rfl) (hts (.initialized RX4) (List.mem_of_getElem? (i := 12) rfl)) (by decide +kernel) ⟨Nat.le_of_ble_eq_true rfl, Nat.le_of_ble_eq_true rfl⟩), (hts (.instanceMethod yX4_settingOf) (List.mem_of_getElem? (i := 11) rfl)), (hts (.selects RX4 yX4_settingOf yX4_settingOf) (List.mem_of_getElem? (i := 13) rfl))⟩ (q_preV hG hW hS (hp).1 rfl) rfl rfl hl.1 rfl (lv_room (Nat.le_of_ble_eq_true rfl)) dX3_duck_40 ⟨Nat.le_of_ble_eq_true rfl, Nat.le_of_ble_eq_true rfl⟩) ?_
          refine lv_isub hx hb dX3_duck_43 ?_
          refine va_mmax hx hb (by rw [hml]; exact hl.1.symm) hown (hts (.methodLink RX3 69 Lib.Math.max.name) (List.mem_of_getElem? (i := 3) rfl)) (hts (.static Lib.Math.max.name) (List.mem_of_getElem? (i := 4) rfl)) (hts (.initialized "java/lang/Math") (List.mem_of_getElem? (i := 5) rfl)) (hts (.code Lib.Math.max.name Lib.Math.max.code 2 (some .int)) (List.mem_of_getElem? (i := 6) rfl)) (Nat.le_of_ble_eq_true rfl) (Nat.le_of_ble_eq_true rfl) (Nat.le_of_ble_eq_true rfl) (Nat.le_of_ble_eq_true rfl) dX3_duck_44 ?_
          refine q_top (y := nI (pdk P i - P.S 1)) (by exact nI_max0 (by omega) (by omega)) ?_
          refine lv_istore_n (lv' := [(1, .int (nI (pdk P i - P.S 1))), (0, .ref (b + k)), (2, .int (nI i))]) hx hb dX3_duck_47 rfl hl (by decide) rfl (fun ls hl => ?_)
          have hval : dk P i = pdk P i - P.S 1 := by first | (rw [dk_step, if_neg c_18]) | (rw [dk_step, if_pos c_18])
          refine lv_aload_n hx hb dX3_duck_48 rfl (lv_at hl 1 rfl) ?_
          refine q_get hx hb hts hinX3 hown hG hW hm0 rfl 3 (by decide) (hts (.fieldLink RX3 25 "FoleyMixer$Mix" "ducking" "[I") (List.mem_of_getElem? (i := 7) rfl)) rfl rfl dX3_duck_49 ?_
          refine lv_iload_n hx hb dX3_duck_52 rfl (lv_at hl 2 rfl) ?_
          refine lv_iload_n hx hb dX3_duck_53 rfl (lv_at hl 0 rfl) ?_
          refine q_W0 (va_runSN (As := [.ref (b + (k + 9)), .int (nI i), .int (nI (pdk P i - P.S 1))]) (rest := []) ⟨hx, hb, hml, hown, hts⟩ (c_put_n l hm3 (by decide) (i) (by omega) (pdk P i - P.S 1)) ⟨(va_cnB 3 hts gX3_duck_X6_put_n75 rfl rfl rfl (hG.nest 51 rfl) (hts (.initialized RX6) (List.mem_of_getElem? (i := 9) rfl)) (by decide +kernel) ⟨Nat.le_of_ble_eq_true rfl, Nat.le_of_ble_eq_true rfl⟩), (hts (.static yX6_put) (List.mem_of_getElem? (i := 16) rfl)), trivial⟩ (q_preS hG hW hS) rfl rfl hl.1 rfl (lv_room (Nat.le_of_ble_eq_true rfl)) dX3_duck_54 ⟨Nat.le_of_ble_eq_true rfl, Nat.le_of_ble_eq_true rfl⟩) hS (fun w_54 H locs hp54 hW hS => ?_)
          obtain ⟨hm3, fr54⟩ := hp54
          replace hm0 : w_54 k = some (mixO b k q) := (fr54 _ (by omega)).trans hm0
          replace hp : isPlay dA b w_54 q P := hp.fr (fun id9 h7 h8 => fr54 id9 (by omega))
          replace hm1 : w_54 (k + 7) = some (eN dA 120 (wmk P.W P.w)) := (fr54 _ (by omega)).trans hm1
          refine lv_iinc (v := nI (i + 1)) (lv' := [(2, .int (nI (i + 1))), (1, .int (nI (pdk P i - P.S 1))), (0, .ref (b + k))]) hx hb dX3_duck_57 hl (k := 2) rfl (nI_add _ 1) (by decide) rfl (fun ls hl => ?_)
          refine lv_goto (tgt := 4) hx hb dX3_duck_60 (by decide) ?_
          exact ih4 (i + 1) (by omega) (by omega) _ _ (by exact congrArg nI (by rw [← hval]; rfl)) (by first | rfl | (congr 1; omega)) _ _ _ (by intro id h9; rw [fr54 id h9, fr id h9]) (by exact hm3.trans (eN_congr (fill_step (f := dk P) hval.symm))) hW hS _ (lv_sub hl [2, 1, 0] rfl)
        · skip
          have c_18 : ¬ (((wmk P.W P.w) i) = 0) := fun h__ => c_18 ((nI_eq0 (i := (wmk P.W P.w) i) (by omega)).mpr h__)
          refine lv_aload_n hx hb dX3_duck_21 rfl (lv_at hl 0 rfl) ?_
          refine q_get hx hb hts hinX3 hown hG hW hm0 rfl 0 (by decide) (hts (.fieldLink RX3 12 "FoleyMixer$Mix" "play" "LFoleyMixer$Play;") (List.mem_of_getElem? (i := 2) rfl)) rfl rfl dX3_duck_22 ?_
          refine lv_iconst (v := nI 0) hx hb dX3_duck_25 (by decide) ?_
          refine q_R1 (va_runVN (As := [.int (nI 0)]) (rest := []) ⟨hx, hb, hml, hown, hts⟩ (c_X4_settingOf l hp (0) (by omega)) ⟨(va_cnB 1 hts gX3_duck_X4_settingOf_n65 rfl rfl rfl (hG.nest 50 rfl) (hts (.initialized RX4) (List.mem_of_getElem? (i := 12) rfl)) (by decide +kernel) ⟨Nat.le_of_ble_eq_true rfl, Nat.le_of_ble_eq_true rfl⟩), (hts (.instanceMethod yX4_settingOf) (List.mem_of_getElem? (i := 11) rfl)), (hts (.selects RX4 yX4_settingOf yX4_settingOf) (List.mem_of_getElem? (i := 13) rfl))⟩ (q_preV hG hW hS (hp).1 rfl) rfl rfl hl.1 rfl (lv_room (Nat.le_of_ble_eq_true rfl)) dX3_duck_26 ⟨Nat.le_of_ble_eq_true rfl, Nat.le_of_ble_eq_true rfl⟩) ?_
          refine lv_istore_n (lv' := [(1, .int (nI (P.S 0))), (0, .ref (b + k)), (2, .int (nI i))]) hx hb dX3_duck_29 rfl hl (by decide) rfl (fun ls hl => ?_)
          refine lv_goto (tgt := 48) hx hb dX3_duck_30 (by decide) ?_
          have hval : dk P i = P.S 0 := by first | (rw [dk_step, if_neg c_18]) | (rw [dk_step, if_pos c_18])
          refine lv_aload_n hx hb dX3_duck_48 rfl (lv_at hl 1 rfl) ?_
          refine q_get hx hb hts hinX3 hown hG hW hm0 rfl 3 (by decide) (hts (.fieldLink RX3 25 "FoleyMixer$Mix" "ducking" "[I") (List.mem_of_getElem? (i := 7) rfl)) rfl rfl dX3_duck_49 ?_
          refine lv_iload_n hx hb dX3_duck_52 rfl (lv_at hl 2 rfl) ?_
          refine lv_iload_n hx hb dX3_duck_53 rfl (lv_at hl 0 rfl) ?_
          refine q_W0 (va_runSN (As := [.ref (b + (k + 9)), .int (nI i), .int (nI (P.S 0))]) (rest := []) ⟨hx, hb, hml, hown, hts⟩ (c_put_n l hm3 (by decide) (i) (by omega) (P.S 0)) ⟨(va_cnB 3 hts gX3_duck_X6_put_n75 rfl rfl rfl (hG.nest 51 rfl) (hts (.initialized RX6) (List.mem_of_getElem? (i := 9) rfl)) (by decide +kernel) ⟨Nat.le_of_ble_eq_true rfl, Nat.le_of_ble_eq_true rfl⟩), (hts (.static yX6_put) (List.mem_of_getElem? (i := 16) rfl)), trivial⟩ (q_preS hG hW hS) rfl rfl hl.1 rfl (lv_room (Nat.le_of_ble_eq_true rfl)) dX3_duck_54 ⟨Nat.le_of_ble_eq_true rfl, Nat.le_of_ble_eq_true rfl⟩) hS (fun w_54 H locs hp54 hW hS => ?_)
          obtain ⟨hm3, fr54⟩ := hp54
          replace hm0 : w_54 k = some (mixO b k q) := (fr54 _ (by omega)).trans hm0
          replace hp : isPlay dA b w_54 q P := hp.fr (fun id9 h7 h8 => fr54 id9 (by omega))
          replace hm1 : w_54 (k + 7) = some (eN dA 120 (wmk P.W P.w)) := (fr54 _ (by omega)).trans hm1
          refine lv_iinc (v := nI (i + 1)) (lv' := [(2, .int (nI (i + 1))), (1, .int (nI (P.S 0))), (0, .ref (b + k))]) hx hb dX3_duck_57 hl (k := 2) rfl (nI_add _ 1) (by decide) rfl (fun ls hl => ?_)
          refine lv_goto (tgt := 4) hx hb dX3_duck_60 (by decide) ?_
          exact ih4 (i + 1) (by omega) (by omega) _ _ (by exact congrArg nI (by rw [← hval]; rfl)) (by first | rfl | (congr 1; omega)) _ _ _ (by intro id h9; rw [fr54 id h9, fr id h9]) (by exact hm3.trans (eN_congr (fill_step (f := dk P) hval.symm))) hW hS _ (lv_sub hl [2, 1, 0] rfl)
  exact L4 ((120 - 0) + 1) 0 (by omega) (Nat.lt_succ_self _) _ _ (by first | rfl | (congr 1; omega)) (by first | rfl | (congr 1; omega)) _ _ _ (by intro id h9; rfl) (by exact hm3.trans (eN_congr (fill_0 (f := dk P)))) hW hS _ (lv_sub hl [2, 1, 0] rfl)

