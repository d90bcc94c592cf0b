set_option maxHeartbeats 300000 in
set_option maxRecDepth 100000 in
/-- Cues.size() -/
theorem c_X1_size (l : Launch) {D : va_G} {dA : Nat → Nat} {b : Nat} {w : Wd} {k lim n : Nat} {V : Nat → Nat → Nat} (hc : isCues dA b w k lim n V) : Met l yX1_size wsX1_size ({ frames := 0, cells := 0, slots := 0, locals := 0 } : Room) (PC D dA b w [.ref (b + k)]) (QR (some (.int (nI n)))) 0 0 Fno := by
  refine q_of (cc := cX1_size) (maxL := 1) (ret := (some .int)) (by decide) rfl rfl ?_
  intro p e s m args below meth c ls hx hb hr hml hts hown hlocks hG hW hS hl
  have hown : s.vm.findClass RX1 = some m.cls := hown
  have hinX1 : ∀ w ∈ u_ws RX1 TX1 3, w ∈ wsX1_size := fun w h => (goodIn_r (big := wsX1_size) (u_ws RX1 TX1 3) [2, 3, 4] (by decide +kernel) (by decide +kernel) w h).1
  have hl : lv_has ls 1 [(0, .ref (b + k))] := hl
  obtain ⟨hk0, hnl, hl12, hok, f, hk1, hf⟩ := id hc
  refine lv_aload_n hx hb dX1_size_0 rfl (lv_at hl 0 rfl) ?_
  refine q_get hx hb hts hinX1 hown hG hW hk0 rfl 2 (by decide) (hts (.fieldLink RX1 15 "FoleyMixer$Cues" "size" "I") (List.mem_of_getElem? (i := 1) rfl)) rfl rfl dX1_size_1 ?_
  exact q_ri hx hb hr hlocks dX1_size_4 (by rfl)

set_option maxHeartbeats 300000 in
set_option maxRecDepth 100000 in
/-- Cues.isFull() -/
theorem c_X1_isFull (l : Launch) {D : va_G} {dA : Nat → Nat} {b : Nat} {w : Wd} {k lim n : Nat} {V : Nat → Nat → Nat} (hc : isCues dA b w k lim n V) : Met l yX1_isFull wsX1_isFull ({ frames := 0, cells := 0, slots := 0, locals := 0 } : Room) (PC D dA b w [.ref (b + k)]) (QR (some (.int (if lim ≤ n then 1 else 0)))) 0 0 Fno := by
  refine q_of (cc := cX1_isFull) (maxL := 1) (ret := (some .boolean)) (by decide) rfl rfl ?_
  intro p e s m args below meth c ls hx hb hr hml hts hown hlocks hG hW hS hl
  have hown : s.vm.findClass RX1 = some m.cls := hown
  have hinX1 : ∀ w ∈ u_ws RX1 TX1 3, w ∈ wsX1_isFull := fun w h => (goodIn_r (big := wsX1_isFull) (u_ws RX1 TX1 3) [3, 4, 5] (by decide +kernel) (by decide +kernel) w h).1
  have hl : lv_has ls 1 [(0, .ref (b + k))] := hl
  obtain ⟨hk0, hnl, hl12, hok, f, hk1, hf⟩ := id hc
  refine lv_aload_n hx hb dX1_isFull_0 rfl (lv_at hl 0 rfl) ?_
  refine q_get hx hb hts hinX1 hown hG hW hk0 rfl 2 (by decide) (hts (.fieldLink RX1 15 "FoleyMixer$Cues" "size" "I") (List.mem_of_getElem? (i := 1) rfl)) rfl rfl dX1_isFull_1 ?_
  refine lv_aload_n hx hb dX1_isFull_4 rfl (lv_at hl 0 rfl) ?_
  refine q_get hx hb hts hinX1 hown hG hW hk0 rfl 0 (by decide) (hts (.fieldLink RX1 19 "FoleyMixer$Cues" "limit" "I") (List.mem_of_getElem? (i := 2) rfl)) rfl rfl dX1_isFull_5 ?_
  refine lv_icmp_lt (tgt := 15) hx hb dX1_isFull_8 (by decide) (fun c_8 => ?_) (fun c_8 => ?_)
  · skip
    have c_8 : n < lim := (nI_ltI (a := n) (b := lim) (by omega) (by omega)).mp c_8
    refine lv_iconst (v := nI 0) hx hb dX1_isFull_15 (by decide) ?_
    exact q_rz hx hb hr hlocks dX1_isFull_16 (by first | rfl | (rw [if_pos (by omega)]; rfl) | (rw [if_neg (by omega)]; rfl)) (q_bn _)
  · skip
    have c_8 : ¬ (n < lim) := fun h__ => c_8 ((nI_ltI (a := n) (b := lim) (by omega) (by omega)).mpr h__)
    refine lv_iconst (v := nI 1) hx hb dX1_isFull_11 (by decide) ?_
    refine lv_goto (tgt := 16) hx hb dX1_isFull_12 (by decide) ?_
    exact q_rz hx hb hr hlocks dX1_isFull_16 (by first | rfl | (rw [if_pos (by omega)]; rfl) | (rw [if_neg (by omega)]; rfl)) (q_bn _)

set_option maxHeartbeats 300000 in
set_option maxRecDepth 100000 in
/-- Cues.has(number) -/
theorem c_X1_has (l : Launch) {D : va_G} {dA : Nat → Nat} {b : Nat} {w : Wd} {k lim n : Nat} {V : Nat → Nat → Nat} (hc : isCues dA b w k lim n V) (x : Int32) : Met l yX1_has wsX1_has ({ frames := 0, cells := 0, slots := 0, locals := 0 } : Room) (PC D dA b w [.ref (b + k), .int (x)]) (QR (some (.int (if 0 ≤ x ∧ x < nI n then 1 else 0)))) 0 0 Fno := by
  refine q_of (cc := cX1_has) (maxL := 2) (ret := (some .boolean)) (by decide) rfl rfl ?_
  intro p e s m args below meth c ls hx hb hr hml hts hown hlocks hG hW hS hl
  have hown : s.vm.findClass RX1 = some m.cls := hown
  have hinX1 : ∀ w ∈ u_ws RX1 TX1 3, w ∈ wsX1_has := fun w h => (goodIn_r (big := wsX1_has) (u_ws RX1 TX1 3) [2, 3, 4] (by decide +kernel) (by decide +kernel) w h).1
  have hl : lv_has ls 2 [(0, .ref (b + k)), (1, .int (x))] := hl
  obtain ⟨hk0, hnl, hl12, hok, f, hk1, hf⟩ := id hc
  refine lv_iload_n hx hb dX1_has_0 rfl (lv_at hl 1 rfl) ?_
  refine lv_if_lt (tgt := 16) hx hb dX1_has_1 (by decide) (fun c_1 => ?_) (fun c_1 => ?_)
  · skip
    refine lv_iconst (v := nI 0) hx hb dX1_has_16 (by decide) ?_
    exact q_rz hx hb hr hlocks dX1_has_17 (by first | (rw [if_pos ⟨Int32.not_lt.mp c_1, Int32.not_le.mp c_9⟩]; rfl) | (rw [if_neg (fun q => absurd q.1 (Int32.not_le.mpr c_1))]; rfl) | (rw [if_neg (fun q => absurd q.2 (Int32.not_lt.mpr c_9))]; rfl)) (q_bn _)
  · skip
    refine lv_iload_n hx hb dX1_has_4 rfl (lv_at hl 1 rfl) ?_
    refine lv_aload_n hx hb dX1_has_5 rfl (lv_at hl 0 rfl) ?_
    refine q_get hx hb hts hinX1 hown hG hW hk0 rfl 2 (by decide) (hts (.fieldLink RX1 15 "FoleyMixer$Cues" "size" "I") (List.mem_of_getElem? (i := 1) rfl)) rfl rfl dX1_has_6 ?_
    refine lv_icmp_ge (tgt := 16) hx hb dX1_has_9 (by decide) (fun c_9 => ?_) (fun c_9 => ?_)
    · skip
      refine lv_iconst (v := nI 0) hx hb dX1_has_16 (by decide) ?_
      exact q_rz hx hb hr hlocks dX1_has_17 (by first | (rw [if_pos ⟨Int32.not_lt.mp c_1, Int32.not_le.mp c_9⟩]; rfl) | (rw [if_neg (fun q => absurd q.1 (Int32.not_le.mpr c_1))]; rfl) | (rw [if_neg (fun q => absurd q.2 (Int32.not_lt.mpr c_9))]; rfl)) (q_bn _)
    · skip
      refine lv_iconst (v := nI 1) hx hb dX1_has_12 (by decide) ?_
      refine lv_goto (tgt := 17) hx hb dX1_has_13 (by decide) ?_
      exact q_rz hx hb hr hlocks dX1_has_17 (by first | (rw [if_pos ⟨Int32.not_lt.mp c_1, Int32.not_le.mp c_9⟩]; rfl) | (rw [if_neg (fun q => absurd q.1 (Int32.not_le.mpr c_1))]; rfl) | (rw [if_neg (fun q => absurd q.2 (Int32.not_lt.mpr c_9))]; rfl)) (q_bn _)

set_option maxHeartbeats 300000 in
set_option maxRecDepth 100000 in
/-- Cues.all() -/
theorem c_X1_all (l : Launch) {D : va_G} {dA : Nat → Nat} {b : Nat} {w : Wd} {k lim n : Nat} {V : Nat → Nat → Nat} (hc : isCues dA b w k lim n V) : Met l yX1_all wsX1_all ({ frames := 0, cells := 0, slots := 0, locals := 0 } : Room) (PC D dA b w [.ref (b + k)]) (QR (some (.int (nI (2 ^ n - 1))))) 0 0 Fno := by
  refine q_of (cc := cX1_all) (maxL := 1) (ret := (some .int)) (by decide) rfl rfl ?_
  intro p e s m args below meth c ls hx hb hr hml hts hown hlocks hG hW hS hl
  have hown : s.vm.findClass RX1 = some m.cls := hown
  have hinX1 : ∀ w ∈ u_ws RX1 TX1 3, w ∈ wsX1_all := fun w h => (goodIn_r (big := wsX1_all) (u_ws RX1 TX1 3) [2, 3, 4] (by decide +kernel) (by decide +kernel) w h).1
  have hl : lv_has ls 1 [(0, .ref (b + k))] := hl
  obtain ⟨hk0, hnl, hl12, hok, f, hk1, hf⟩ := id hc
  refine lv_iconst (v := nI 1) hx hb dX1_all_0 (by decide) ?_
  refine lv_aload_n hx hb dX1_all_1 rfl (lv_at hl 0 rfl) ?_
  refine q_get hx hb hts hinX1 hown hG hW hk0 rfl 2 (by decide) (hts (.fieldLink RX1 15 "FoleyMixer$Cues" "size" "I") (List.mem_of_getElem? (i := 1) rfl)) rfl rfl dX1_all_2 ?_
  refine lv_ishl hx hb dX1_all_5 ?_
  refine q_top (y := nI (2 ^ n)) (by exact nI_shl1 (by omega)) ?_
  refine lv_iconst (v := nI 1) hx hb dX1_all_6 (by decide) ?_
  refine lv_isub hx hb dX1_all_7 ?_
  refine q_top (y := nI ((2 ^ n) - 1)) (nI_sub (by exact Nat.one_le_two_pow)) ?_
  exact q_ri hx hb hr hlocks dX1_all_8 (by rfl)

set_option maxHeartbeats 300000 in
set_option maxRecDepth 100000 in
/-- Cues.numberOf(number, field) -/
theorem c_X1_numberOf (l : Launch) {D : va_G} {dA : Nat → Nat} {b : Nat} {w : Wd} {k lim n : Nat} {V : Nat → Nat → Nat} (hc : isCues dA b w k lim n V) (i j : Nat) (hi : i < n) (hj : j < 4) : Met l yX1_numberOf wsX1_numberOf ({ frames := 0, cells := 0, slots := 0, locals := 0 } : Room) (PC D dA b w [.ref (b + k), .int (nI i), .int (nI j)]) (QR (some (.int (nI (V i j))))) 0 0 Fno := by
  refine q_of (cc := cX1_numberOf) (maxL := 4) (ret := (some .int)) (by decide) rfl rfl ?_
  intro p e s m args below meth c ls hx hb hr hml hts hown hlocks hG hW hS hl
  have hown : s.vm.findClass RX1 = some m.cls := hown
  have hinX1 : ∀ w ∈ u_ws RX1 TX1 3, w ∈ wsX1_numberOf := fun w h => (goodIn_r (big := wsX1_numberOf) (u_ws RX1 TX1 3) [2, 3, 4] (by decide +kernel) (by decide +kernel) w h).1
  have hl : lv_has ls 4 [(0, .ref (b + k)), (1, .int (nI i)), (2, .int (nI j))] := hl
  obtain ⟨hk0, hnl, hl12, hok, f, hk1, hf⟩ := id hc
  refine lv_iload_n hx hb dX1_numberOf_0 rfl (lv_at hl 1 rfl) ?_
  refine lv_iconst (v := nI 4) hx hb dX1_numberOf_1 (by decide) ?_
  refine lv_imul hx hb dX1_numberOf_2 ?_
  refine q_top (y := nI (i * 4)) (nI_mul _ _) ?_
  refine lv_iload_n hx hb dX1_numberOf_3 rfl (lv_at hl 2 rfl) ?_
  refine lv_iadd hx hb dX1_numberOf_4 ?_
  refine q_top (y := nI ((i * 4) + j)) (nI_add _ _) ?_
  refine lv_istore_n (lv' := [(3, .int (nI ((i * 4) + j))), (0, .ref (b + k)), (1, .int (nI i)), (2, .int (nI j))]) hx hb dX1_numberOf_5 rfl hl (by decide) rfl (fun ls hl => ?_)
  refine lv_iload_n hx hb dX1_numberOf_6 rfl (lv_at hl 0 rfl) ?_
  refine lv_if_lt (tgt := 28) hx hb dX1_numberOf_7 (by decide) (fun c_7 => ?_) (fun c_7 => ?_)
  · skip
    have c_7 : ((i * 4) + j) < 0 := (nI_lt0 (i := (i * 4) + j) (by omega)).mp c_7
    refine lv_iconst (v := nI 0) hx hb dX1_numberOf_28 (by decide) ?_
    exact q_ri hx hb hr hlocks dX1_numberOf_29 (by first | (exact congrArg nI (hf i hi j hj)) | omega)
  · skip
    have c_7 : ¬ (((i * 4) + j) < 0) := fun h__ => c_7 ((nI_lt0 (i := (i * 4) + j) (by omega)).mpr h__)
    refine lv_iload_n hx hb dX1_numberOf_10 rfl (lv_at hl 0 rfl) ?_
    refine lv_aload_n hx hb dX1_numberOf_11 rfl (lv_at hl 1 rfl) ?_
    refine q_get hx hb hts hinX1 hown hG hW hk0 rfl 1 (by decide) (hts (.fieldLink RX1 9 "FoleyMixer$Cues" "numbers" "[I") (List.mem_of_getElem? (i := 1) rfl)) rfl rfl dX1_numberOf_12 ?_
    refine q_alen hx hb (hW.ar hG hk1 (by omega)) dX1_numberOf_15 ?_
    refine lv_icmp_ge (tgt := 28) hx hb dX1_numberOf_16 (by decide) (fun c_16 => ?_) (fun c_16 => ?_)
    · skip
      have c_16 : 48 ≤ (i * 4) + j := (nI_leI (a := 48) (b := (i * 4) + j) (by omega) (by omega)).mp c_16
      refine lv_iconst (v := nI 0) hx hb dX1_numberOf_28 (by decide) ?_
      exact q_ri hx hb hr hlocks dX1_numberOf_29 (by first | (exact congrArg nI (hf i hi j hj)) | omega)
    · skip
      have c_16 : ¬ (48 ≤ (i * 4) + j) := fun h__ => c_16 ((nI_leI (a := 48) (b := (i * 4) + j) (by omega) (by omega)).mpr h__)
      refine lv_aload_n hx hb dX1_numberOf_19 rfl (lv_at hl 1 rfl) ?_
      refine q_get hx hb hts hinX1 hown hG hW hk0 rfl 1 (by decide) (hts (.fieldLink RX1 9 "FoleyMixer$Cues" "numbers" "[I") (List.mem_of_getElem? (i := 1) rfl)) rfl rfl dX1_numberOf_20 ?_
      refine lv_iload_n hx hb dX1_numberOf_23 rfl (lv_at hl 0 rfl) ?_
      refine q_iald hx hb hG hW hk1 (by omega) (by omega) dX1_numberOf_24 ?_
      refine lv_goto (tgt := 29) hx hb dX1_numberOf_25 (by decide) ?_
      exact q_ri hx hb hr hlocks dX1_numberOf_29 (by first | (exact congrArg nI (hf i hi j hj)) | omega)

set_option maxHeartbeats 300000 in
set_option maxRecDepth 100000 in
/-- Cues.isHard(number) -/
theorem c_X1_isHard (l : Launch) {D : va_G} {dA : Nat → Nat} {b : Nat} {w : Wd} {k lim n : Nat} {V : Nat → Nat → Nat} (hc : isCues dA b w k lim n V) (i : Nat) (hi : i < n) : Met l yX1_isHard wsX1_isHard ({ frames := 1, cells := 0, slots := 0, locals := 23 } : Room) (PC D dA b w [.ref (b + k), .int (nI i)]) (QR (some (.int (if V i 3 = 1 then 1 else 0)))) 0 0 Fno := by
  refine q_of (cc := cX1_isHard) (maxL := 2) (ret := (some .boolean)) (by decide) rfl rfl ?_
  intro p e s m args below meth c ls hx hb hr hml hts hown hlocks hG hW hS hl
  have hown : s.vm.findClass RX1 = some m.cls := hown
  have hl : lv_has ls 2 [(0, .ref (b + k)), (1, .int (nI i))] := hl
  obtain ⟨hk0, hnl, hl12, hok, f, hk1, hf⟩ := id hc
  refine lv_aload_n hx hb dX1_isHard_0 rfl (lv_at hl 0 rfl) ?_
  refine lv_iload_n hx hb dX1_isHard_1 rfl (lv_at hl 1 rfl) ?_
  refine lv_iconst (v := nI 3) hx hb dX1_isHard_2 (by decide) ?_
  refine q_R1 (va_runV (As := [.int (nI i), .int (nI 3)]) (rest := []) ⟨hx, hb, hml, hown, hts⟩ (c_X1_numberOf l hc (i) (3) (by omega) (by omega)) (cwV 2 hts gX1_isHard_X1_numberOf rfl rfl rfl (by decide +kernel) ⟨Nat.le_of_ble_eq_true rfl, Nat.le_of_ble_eq_true rfl⟩) (q_preV hG hW hS hk0 rfl) rfl rfl hl.1 rfl (lv_room (Nat.le_of_ble_eq_true rfl)) dX1_isHard_3 ⟨Nat.le_of_ble_eq_true rfl, Nat.le_of_ble_eq_true rfl⟩) ?_
  have q_3 := hc.2.2.2.1 (i) (by omega)
  refine lv_iconst (v := nI 1) hx hb dX1_isHard_6 (by decide) ?_
  refine lv_icmp_ne (tgt := 14) hx hb dX1_isHard_7 (by decide) (fun c_7 => ?_) (fun c_7 => ?_)
  · skip
    have c_7 : ¬ (V i 3 = 1) := fun h__ => c_7 ((nI_eq (a := V i 3) (b := 1) (by omega) (by omega)).mpr h__)
    refine lv_iconst (v := nI 0) hx hb dX1_isHard_14 (by decide) ?_
    exact q_rz hx hb hr hlocks dX1_isHard_15 (by first | rfl | (rw [if_pos (by omega)]; rfl) | (rw [if_neg (by omega)]; rfl)) (q_bn _)
  · skip
    have c_7 : V i 3 = 1 := (nI_eq (a := V i 3) (b := 1) (by omega) (by omega)).mp c_7
    refine lv_iconst (v := nI 1) hx hb dX1_isHard_10 (by decide) ?_
    refine lv_goto (tgt := 15) hx hb dX1_isHard_11 (by decide) ?_
    exact q_rz hx hb hr hlocks dX1_isHard_15 (by first | rfl | (rw [if_pos (by omega)]; rfl) | (rw [if_neg (by omega)]; rfl)) (q_bn _)

set_option maxHeartbeats 300000 in
set_option maxRecDepth 100000 in
/-- Cues.endOf(number) -/
theorem c_X1_endOf (l : Launch) {D : va_G} {dA : Nat → Nat} {b : Nat} {w : Wd} {k lim n : Nat} {V : Nat → Nat → Nat} (hc : isCues dA b w k lim n V) (i : Nat) (hi : i < n) : Met l yX1_endOf wsX1_endOf ({ frames := 1, cells := 0, slots := 0, locals := 23 } : Room) (PC D dA b w [.ref (b + k), .int (nI i)]) (QR (some (.int (nI (V i 0 + V i 1))))) 0 0 Fno := by
  refine q_of (cc := cX1_endOf) (maxL := 2) (ret := (some .int)) (by decide) rfl rfl ?_
  intro p e s m args below meth c ls hx hb hr hml hts hown hlocks hG hW hS hl
  have hown : s.vm.findClass RX1 = some m.cls := hown
  have hl : lv_has ls 2 [(0, .ref (b + k)), (1, .int (nI i))] := hl
  obtain ⟨hk0, hnl, hl12, hok, f, hk1, hf⟩ := id hc
  refine lv_aload_n hx hb dX1_endOf_0 rfl (lv_at hl 0 rfl) ?_
  refine lv_iload_n hx hb dX1_endOf_1 rfl (lv_at hl 1 rfl) ?_
  refine lv_iconst (v := nI 0) hx hb dX1_endOf_2 (by decide) ?_
  refine q_R1 (va_runV (As := [.int (nI i), .int (nI 0)]) (rest := []) ⟨hx, hb, hml, hown, hts⟩ (c_X1_numberOf l hc (i) (0) (by omega) (by omega)) (cwV 2 hts gX1_endOf_X1_numberOf rfl rfl rfl (by decide +kernel) ⟨Nat.le_of_ble_eq_true rfl, Nat.le_of_ble_eq_true rfl⟩) (q_preV hG hW hS hk0 rfl) rfl rfl hl.1 rfl (lv_room (Nat.le_of_ble_eq_true rfl)) dX1_endOf_3 ⟨Nat.le_of_ble_eq_true rfl, Nat.le_of_ble_eq_true rfl⟩) ?_
  have q_3 := hc.2.2.2.1 (i) (by omega)
  refine lv_aload_n hx hb dX1_endOf_6 rfl (lv_at hl 0 rfl) ?_
  refine lv_iload_n hx hb dX1_endOf_7 rfl (lv_at hl 1 rfl) ?_
  refine lv_iconst (v := nI 1) hx hb dX1_endOf_8 (by decide) ?_
  refine q_R1 (va_runV (As := [.int (nI i), .int (nI 1)]) (rest := [.int (nI (V i 0))]) ⟨hx, hb, hml, hown, hts⟩ (c_X1_numberOf l hc (i) (1) (by omega) (by omega)) (cwV 2 hts gX1_endOf_X1_numberOf rfl rfl rfl (by decide +kernel) ⟨Nat.le_of_ble_eq_true rfl, Nat.le_of_ble_eq_true rfl⟩) (q_preV hG hW hS hk0 rfl) rfl rfl hl.1 rfl (lv_room (Nat.le_of_ble_eq_true rfl)) dX1_endOf_9 ⟨Nat.le_of_ble_eq_true rfl, Nat.le_of_ble_eq_true rfl⟩) ?_
  have q_9 := hc.2.2.2.1 (i) (by omega)
  refine lv_iadd hx hb dX1_endOf_12 ?_
  refine q_top (y := nI ((V i 0) + (V i 1))) (nI_add _ _) ?_
  exact q_ri hx hb hr hlocks dX1_endOf_13 (by rfl)

set_option maxHeartbeats 300000 in
set_option maxRecDepth 100000 in
/-- Cues.sounds(number, second) -/
theorem c_X1_sounds (l : Launch) {D : va_G} {dA : Nat → Nat} {b : Nat} {w : Wd} {k lim n : Nat} {V : Nat → Nat → Nat} (hc : isCues dA b w k lim n V) (i : Nat) (hi : i < n) (t : Nat) (ht : t < 2 ^ 31) : Met l yX1_sounds wsX1_sounds ({ frames := 2, cells := 0, slots := 0, locals := 44 } : Room) (PC D dA b w [.ref (b + k), .int (nI i), .int (nI t)]) (QR (some (.int (if snd V i t then 1 else 0)))) 0 0 Fno := by
  refine q_of (cc := cX1_sounds) (maxL := 3) (ret := (some .boolean)) (by decide) rfl rfl ?_
  intro p e s m args below meth c ls hx hb hr hml hts hown hlocks hG hW hS hl
  have hown : s.vm.findClass RX1 = some m.cls := hown
  have hl : lv_has ls 3 [(0, .ref (b + k)), (1, .int (nI i)), (2, .int (nI t))] := hl
  obtain ⟨hk0, hnl, hl12, hok, f, hk1, hf⟩ := id hc
  refine lv_iload_n hx hb dX1_sounds_0 rfl (lv_at hl 2 rfl) ?_
  refine lv_aload_n hx hb dX1_sounds_1 rfl (lv_at hl 0 rfl) ?_
  refine lv_iload_n hx hb dX1_sounds_2 rfl (lv_at hl 1 rfl) ?_
  refine lv_iconst (v := nI 0) hx hb dX1_sounds_3 (by decide) ?_
  refine q_R1 (va_runV (As := [.int (nI i), .int (nI 0)]) (rest := [.int (nI t)]) ⟨hx, hb, hml, hown, hts⟩ (c_X1_numberOf l hc (i) (0) (by omega) (by omega)) (cwV 2 hts gX1_sounds_X1_numberOf rfl rfl rfl (by decide +kernel) ⟨Nat.le_of_ble_eq_true rfl, Nat.le_of_ble_eq_true rfl⟩) (q_preV hG hW hS hk0 rfl) rfl rfl hl.1 rfl (lv_room (Nat.le_of_ble_eq_true rfl)) dX1_sounds_4 ⟨Nat.le_of_ble_eq_true rfl, Nat.le_of_ble_eq_true rfl⟩) ?_
  have q_4 := hc.2.2.2.1 (i) (by omega)
  refine lv_icmp_lt (tgt := 23) hx hb dX1_sounds_7 (by decide) (fun c_7 => ?_) (fun c_7 => ?_)
  · skip
    have c_7 : t < V i 0 := (nI_ltI (a := t) (b := V i 0) (by omega) (by omega)).mp c_7
    refine lv_iconst (v := nI 0) hx hb dX1_sounds_23 (by decide) ?_
    exact q_rz hx hb hr hlocks dX1_sounds_24 (by first | rfl | (rw [if_pos (by omega)]; rfl) | (rw [if_neg (by omega)]; rfl)) (q_bn _)
  · skip
    have c_7 : ¬ (t < V i 0) := fun h__ => c_7 ((nI_ltI (a := t) (b := V i 0) (by omega) (by omega)).mpr h__)
    refine lv_iload_n hx hb dX1_sounds_10 rfl (lv_at hl 2 rfl) ?_
    refine lv_aload_n hx hb dX1_sounds_11 rfl (lv_at hl 0 rfl) ?_
    refine lv_iload_n hx hb dX1_sounds_12 rfl (lv_at hl 1 rfl) ?_
    refine q_R1 (va_runV (As := [.int (nI i)]) (rest := [.int (nI t)]) ⟨hx, hb, hml, hown, hts⟩ (c_X1_endOf l hc (i) (by omega)) (cwV 1 hts gX1_sounds_X1_endOf rfl rfl rfl (by decide +kernel) ⟨Nat.le_of_ble_eq_true rfl, Nat.le_of_ble_eq_true rfl⟩) (q_preV hG hW hS hk0 rfl) rfl rfl hl.1 rfl (lv_room (Nat.le_of_ble_eq_true rfl)) dX1_sounds_13 ⟨Nat.le_of_ble_eq_true rfl, Nat.le_of_ble_eq_true rfl⟩) ?_
    have q_13 := hc.2.2.2.1 (i) (by omega)
    refine lv_icmp_ge (tgt := 23) hx hb dX1_sounds_16 (by decide) (fun c_16 => ?_) (fun c_16 => ?_)
    · skip
      have c_16 : V i 0 + V i 1 ≤ t := (nI_leI (a := V i 0 + V i 1) (b := t) (by omega) (by omega)).mp c_16
      refine lv_iconst (v := nI 0) hx hb dX1_sounds_23 (by decide) ?_
      exact q_rz hx hb hr hlocks dX1_sounds_24 (by first | rfl | (rw [if_pos (by omega)]; rfl) | (rw [if_neg (by omega)]; rfl)) (q_bn _)
    · skip
      have c_16 : ¬ (V i 0 + V i 1 ≤ t) := fun h__ => c_16 ((nI_leI (a := V i 0 + V i 1) (b := t) (by omega) (by omega)).mpr h__)
      refine lv_iconst (v := nI 1) hx hb dX1_sounds_19 (by decide) ?_
      refine lv_goto (tgt := 24) hx hb dX1_sounds_20 (by decide) ?_
      exact q_rz hx hb hr hlocks dX1_sounds_24 (by first | rfl | (rw [if_pos (by omega)]; rfl) | (rw [if_neg (by omega)]; rfl)) (q_bn _)

set_option maxHeartbeats 300000 in
set_option maxRecDepth 100000 in
/-- hasBit(mask, bit) -/
theorem c_X6_hasBit (l : Launch) {D : va_G} {dA : Nat → Nat} {b : Nat} {w : Wd} (x i : Nat) (hx0 : x < 2 ^ 31) (hi : i < 31) : Met l yX6_hasBit wsX6_hasBit ({ frames := 0, cells := 0, slots := 0, locals := 0 } : Room) (PC D dA b w [.int (nI x), .int (nI i)]) (QR (some (.int (if x.testBit i = true then 1 else 0)))) 0 0 Fno := by
  refine q_of (cc := cX6_hasBit) (maxL := 2) (ret := (some .boolean)) (by decide) rfl rfl ?_
  intro p e s m args below meth c ls hx hb hr hml hts hown hlocks hG hW hS hl
  have hown : s.vm.findClass RX6 = some m.cls := hown
  have hl : lv_has ls 2 [(0, .int (nI x)), (1, .int (nI i))] := hl
  refine lv_iload_n hx hb dX6_hasBit_0 rfl (lv_at hl 0 rfl) ?_
  refine lv_iload_n hx hb dX6_hasBit_1 rfl (lv_at hl 1 rfl) ?_
  refine lv_ishr hx hb dX6_hasBit_2 ?_
  refine q_top (y := nI (x / 2 ^ i)) (by exact nI_shr hx0 hi) ?_
  refine lv_iconst (v := nI 1) hx hb dX6_hasBit_3 (by decide) ?_
  refine lv_iand hx hb dX6_hasBit_4 ?_
  refine q_top (y := nI (x / 2 ^ i % 2)) (by exact nI_and1 _) ?_
  have e9 := bit_div (x := x) (n := i)
  refine lv_if_eq (tgt := 12) hx hb dX6_hasBit_5 (by decide) (fun c_5 => ?_) (fun c_5 => ?_)
  · skip
    have c_5 : (x / 2 ^ i % 2) = 0 := (nI_eq0 (i := x / 2 ^ i % 2) (by omega)).mp c_5
    refine lv_iconst (v := nI 0) hx hb dX6_hasBit_12 (by decide) ?_
    exact q_rz hx hb hr hlocks dX6_hasBit_13 (by by_cases h9 : x.testBit i = true <;> simp only [h9, if_true, if_false, Bool.false_eq_true] at e9 ⊢ <;> first | rfl | omega) (q_bn _)
  · skip
    have c_5 : ¬ ((x / 2 ^ i % 2) = 0) := fun h__ => c_5 ((nI_eq0 (i := x / 2 ^ i % 2) (by omega)).mpr h__)
    refine lv_iconst (v := nI 1) hx hb dX6_hasBit_8 (by decide) ?_
    refine lv_goto (tgt := 13) hx hb dX6_hasBit_9 (by decide) ?_
    exact q_rz hx hb hr hlocks dX6_hasBit_13 (by by_cases h9 : x.testBit i = true <;> simp only [h9, if_true, if_false, Bool.false_eq_true] at e9 ⊢ <;> first | rfl | omega) (q_bn _)

set_option maxHeartbeats 300000 in
set_option maxRecDepth 100000 in
/-- Cues.loudnessByCue() -/
theorem c_X1_loudnessByCue (l : Launch) {D : va_G} {dA : Nat → Nat} {b : Nat} {w : Wd} {k lim n : Nat} {V : Nat → Nat → Nat} (hc : isCues dA b w k lim n V) : Met l yX1_loudnessByCue wsX1_loudnessByCue ({ frames := 1, cells := 0, slots := 0, locals := 23 } : Room) (PC D dA b w [.ref (b + k)]) (QR (some (.int (nI (sm (fun j => V j 1 * V j 2) n))))) 0 0 Fno := by
  refine q_of (cc := cX1_loudnessByCue) (maxL := 3) (ret := (some .int)) (by decide) rfl rfl ?_
  intro p e s m args below meth c ls hx hb hr hml hts hown hlocks hG hW hS hl
  have hown : s.vm.findClass RX1 = some m.cls := hown
  have hinX1 : ∀ w ∈ u_ws RX1 TX1 3, w ∈ wsX1_loudnessByCue := fun w h => (goodIn_r (big := wsX1_loudnessByCue) (u_ws RX1 TX1 3) [8, 9, 10] (by decide +kernel) (by decide +kernel) w h).1
  have hl : lv_has ls 3 [(0, .ref (b + k))] := hl
  obtain ⟨hk0, hnl, hl12, hok, f, hk1, hf⟩ := id hc
  refine lv_iconst (v := nI 0) hx hb dX1_loudnessByCue_0 (by decide) ?_
  refine lv_istore_n (lv' := [(1, .int (nI 0)), (0, .ref (b + k))]) hx hb dX1_loudnessByCue_1 rfl hl (by decide) rfl (fun ls hl => ?_)
  refine lv_iconst (v := nI 0) hx hb dX1_loudnessByCue_2 (by decide) ?_
  refine lv_istore_n (lv' := [(2, .int (nI 0)), (1, .int (nI 0)), (0, .ref (b + k))]) hx hb dX1_loudnessByCue_3 rfl hl (by decide) rfl (fun ls hl => ?_)
  have L4 : ∀ (n4 : Nat) (i : Nat), i ≤ n → n - i < n4 → ∀ (x4_1 : Int32) (x4_2 : Int32), x4_1 = nI (sm (fun j => V j 1 * V j 2) i) → x4_2 = nI (i) → ∀ (ls : Array Slot), lv_has ls 3 [(0, .ref (b + k)), (1, .int x4_1), (2, .int x4_2)] → W p l e ({ frames := 1, cells := 0, slots := 0, locals := 23 } : Room) s m args below meth c s.heap [] 0 0 (MQ below (QR (some (.int (nI (sm (fun j => V j 1 * V j 2) n))))) args s 0 0 Fno) (F0 m 4 ls []) := by
    intro n4
    induction n4 with
    | zero =>
      intro i hi0 hn4 x4_1 x4_2 ex4_1 ex4_2 ls hl
      exact absurd hn4 (Nat.not_lt_zero _)
    | succ n4 ih4 =>
      intro i hi0 hn4 x4_1 x4_2 ex4_1 ex4_2 ls hl
      subst ex4_1 ex4_2
      refine lv_iload_n hx hb dX1_loudnessByCue_4 rfl (lv_at hl 2 rfl) ?_
      refine lv_aload_n hx hb dX1_loudnessByCue_5 rfl (lv_at hl 0 rfl) ?_
      refine q_get hx hb hts hinX1 hown hG hW hk0 rfl 2 (by decide) (hts (.fieldLink RX1 15 "FoleyMixer$Cues" "size" "I") (List.mem_of_getElem? (i := 1) rfl)) rfl rfl dX1_loudnessByCue_6 ?_
      refine lv_icmp_ge (tgt := 34) hx hb dX1_loudnessByCue_9 (by decide) (fun c_9 => ?_) (fun c_9 => ?_)
      · skip
        have c_9 : n ≤ i := (nI_leI (a := n) (b := i) (by omega) (by omega)).mp c_9
        refine lv_iload_n hx hb dX1_loudnessByCue_34 rfl (lv_at hl 1 rfl) ?_
        exact q_ri hx hb hr hlocks dX1_loudnessByCue_35 (by rw [show i = n by omega])
      · skip
        have c_9 : ¬ (n ≤ i) := fun h__ => c_9 ((nI_leI (a := n) (b := i) (by omega) (by omega)).mpr h__)
        refine lv_iload_n hx hb dX1_loudnessByCue_12 rfl (lv_at hl 1 rfl) ?_
        refine lv_aload_n hx hb dX1_loudnessByCue_13 rfl (lv_at hl 0 rfl) ?_
        refine lv_iload_n hx hb dX1_loudnessByCue_14 rfl (lv_at hl 2 rfl) ?_
        refine lv_iconst (v := nI 1) hx hb dX1_loudnessByCue_15 (by decide) ?_
        refine q_R1 (va_runV (As := [.int (nI i), .int (nI 1)]) (rest := [.int (nI (sm (fun j => V j 1 * V j 2) i))]) ⟨hx, hb, hml, hown, hts⟩ (c_X1_numberOf l hc (i) (1) (by omega) (by omega)) (cwV 2 hts gX1_loudnessByCue_X1_numberOf rfl rfl rfl (by decide +kernel) ⟨Nat.le_of_ble_eq_true rfl, Nat.le_of_ble_eq_true rfl⟩) (q_preV hG hW hS hk0 rfl) rfl rfl hl.1 rfl (lv_room (Nat.le_of_ble_eq_true rfl)) dX1_loudnessByCue_16 ⟨Nat.le_of_ble_eq_true rfl, Nat.le_of_ble_eq_true rfl⟩) ?_
        have q_16 := hc.2.2.2.1 (i) (by omega)
        refine lv_aload_n hx hb dX1_loudnessByCue_19 rfl (lv_at hl 0 rfl) ?_
        refine lv_iload_n hx hb dX1_loudnessByCue_20 rfl (lv_at hl 2 rfl) ?_
        refine lv_iconst (v := nI 2) hx hb dX1_loudnessByCue_21 (by decide) ?_
        refine q_R1 (va_runV (As := [.int (nI i), .int (nI 2)]) (rest := [.int (nI (V i 1)), .int (nI (sm (fun j => V j 1 * V j 2) i))]) ⟨hx, hb, hml, hown, hts⟩ (c_X1_numberOf l hc (i) (2) (by omega) (by omega)) (cwV 2 hts gX1_loudnessByCue_X1_numberOf rfl rfl rfl (by decide +kernel) ⟨Nat.le_of_ble_eq_true rfl, Nat.le_of_ble_eq_true rfl⟩) (q_preV hG hW hS hk0 rfl) rfl rfl hl.1 rfl (lv_room (Nat.le_of_ble_eq_true rfl)) dX1_loudnessByCue_22 ⟨Nat.le_of_ble_eq_true rfl, Nat.le_of_ble_eq_true rfl⟩) ?_
        have q_22 := hc.2.2.2.1 (i) (by omega)
        refine lv_imul hx hb dX1_loudnessByCue_25 ?_
        refine q_top (y := nI ((V i 1) * (V i 2))) (nI_mul _ _) ?_
        refine lv_iadd hx hb dX1_loudnessByCue_26 ?_
        refine q_top (y := nI ((sm (fun j => V j 1 * V j 2) i) + ((V i 1) * (V i 2)))) (nI_add _ _) ?_
        refine lv_istore_n (lv' := [(1, .int (nI ((sm (fun j => V j 1 * V j 2) i) + ((V i 1) * (V i 2))))), (0, .ref (b + k)), (2, .int (nI i))]) hx hb dX1_loudnessByCue_27 rfl hl (by decide) rfl (fun ls hl => ?_)
        refine lv_iinc (v := nI (i + 1)) (lv' := [(2, .int (nI (i + 1))), (1, .int (nI ((sm (fun j => V j 1 * V j 2) i) + ((V i 1) * (V i 2))))), (0, .ref (b + k))]) hx hb dX1_loudnessByCue_28 hl (k := 2) rfl (nI_add _ 1) (by decide) rfl (fun ls hl => ?_)
        refine lv_goto (tgt := 4) hx hb dX1_loudnessByCue_31 (by decide) ?_
        exact ih4 (i + 1) (by omega) (by omega) _ _ (by first | rfl | (congr 1; omega)) (by first | rfl | (congr 1; omega)) _ (lv_sub hl [2, 1, 0] rfl)
  exact L4 ((n - 0) + 1) 0 (by omega) (Nat.lt_succ_self _) _ _ (by first | rfl | (congr 1; omega)) (by first | rfl | (congr 1; omega)) _ (lv_sub hl [2, 1, 0] rfl)

set_option maxHeartbeats 300000 in
set_option maxRecDepth 100000 in
/-- Cues.loudnessAt(second) -/
theorem c_X1_loudnessAt (l : Launch) {D : va_G} {dA : Nat → Nat} {b : Nat} {w : Wd} {k lim n : Nat} {V : Nat → Nat → Nat} (hc : isCues dA b w k lim n V) (t : Nat) (ht : t < 2 ^ 31) : Met l yX1_loudnessAt wsX1_loudnessAt ({ frames := 3, cells := 0, slots := 0, locals := 66 } : Room) (PC D dA b w [.ref (b + k), .int (nI t)]) (QR (some (.int (nI (sm (fun j => if snd V j t then V j 2 else 0) n))))) 0 0 Fno := by
  refine q_of (cc := cX1_loudnessAt) (maxL := 4) (ret := (some .int)) (by decide) rfl rfl ?_
  intro p e s m args below meth c ls hx hb hr hml hts hown hlocks hG hW hS hl
  have hown : s.vm.findClass RX1 = some m.cls := hown
  have hinX1 : ∀ w ∈ u_ws RX1 TX1 3, w ∈ wsX1_loudnessAt := fun w h => (goodIn_r (big := wsX1_loudnessAt) (u_ws RX1 TX1 3) [16, 17, 18] (by decide +kernel) (by decide +kernel) w h).1
  have hl : lv_has ls 4 [(0, .ref (b + k)), (1, .int (nI t))] := hl
  obtain ⟨hk0, hnl, hl12, hok, f, hk1, hf⟩ := id hc
  refine lv_iconst (v := nI 0) hx hb dX1_loudnessAt_0 (by decide) ?_
  refine lv_istore_n (lv' := [(2, .int (nI 0)), (0, .ref (b + k)), (1, .int (nI t))]) hx hb dX1_loudnessAt_1 rfl hl (by decide) rfl (fun ls hl => ?_)
  refine lv_iconst (v := nI 0) hx hb dX1_loudnessAt_2 (by decide) ?_
  refine lv_istore_n (lv' := [(3, .int (nI 0)), (2, .int (nI 0)), (0, .ref (b + k)), (1, .int (nI t))]) hx hb dX1_loudnessAt_3 rfl hl (by decide) rfl (fun ls hl => ?_)
  have L4 : ∀ (n4 : Nat) (i : Nat), i ≤ n → n - i < n4 → ∀ (x4_2 : Int32) (x4_3 : Int32), x4_2 = nI (sm (fun j => if snd V j t then V j 2 else 0) i) → x4_3 = nI (i) → ∀ (ls : Array Slot), lv_has ls 4 [(0, .ref (b + k)), (1, .int (nI t)), (2, .int x4_2), (3, .int x4_3)] → W p l e ({ frames := 3, cells := 0, slots := 0, locals := 66 } : Room) s m args below meth c s.heap [] 0 0 (MQ below (QR (some (.int (nI (sm (fun j => if snd V j t then V j 2 else 0) n))))) args s 0 0 Fno) (F0 m 4 ls []) := by
    intro n4
    induction n4 with
    | zero =>
      intro i hi0 hn4 x4_2 x4_3 ex4_2 ex4_3 ls hl
      exact absurd hn4 (Nat.not_lt_zero _)
    | succ n4 ih4 =>
      intro i hi0 hn4 x4_2 x4_3 ex4_2 ex4_3 ls hl
      subst ex4_2 ex4_3
      refine lv_iload_n hx hb dX1_loudnessAt_4 rfl (lv_at hl 3 rfl) ?_
      refine lv_aload_n hx hb dX1_loudnessAt_5 rfl (lv_at hl 0 rfl) ?_
      refine q_get hx hb hts hinX1 hown hG hW hk0 rfl 2 (by decide) (hts (.fieldLink RX1 15 "FoleyMixer$Cues" "size" "I") (List.mem_of_getElem? (i := 1) rfl)) rfl rfl dX1_loudnessAt_6 ?_
      refine lv_icmp_ge (tgt := 36) hx hb dX1_loudnessAt_9 (by decide) (fun c_9 => ?_) (fun c_9 => ?_)
      · skip
        have c_9 : n ≤ i := (nI_leI (a := n) (b := i) (by omega) (by omega)).mp c_9
        refine lv_iload_n hx hb dX1_loudnessAt_36 rfl (lv_at hl 2 rfl) ?_
        exact q_ri hx hb hr hlocks dX1_loudnessAt_37 (by rw [show i = n by omega])
      · skip
        have c_9 : ¬ (n ≤ i) := fun h__ => c_9 ((nI_leI (a := n) (b := i) (by omega) (by omega)).mpr h__)
        refine lv_aload_n hx hb dX1_loudnessAt_12 rfl (lv_at hl 0 rfl) ?_
        refine lv_iload_n hx hb dX1_loudnessAt_13 rfl (lv_at hl 3 rfl) ?_
        refine lv_iload_n hx hb dX1_loudnessAt_14 rfl (lv_at hl 1 rfl) ?_
        refine q_R1 (va_runV (As := [.int (nI i), .int (nI t)]) (rest := []) ⟨hx, hb, hml, hown, hts⟩ (c_X1_sounds l hc (i) (by omega) (t) (by omega)) (cwV 2 hts gX1_loudnessAt_X1_sounds rfl rfl rfl (by decide +kernel) ⟨Nat.le_of_ble_eq_true rfl, Nat.le_of_ble_eq_true rfl⟩) (q_preV hG hW hS hk0 rfl) rfl rfl hl.1 rfl (lv_room (Nat.le_of_ble_eq_true rfl)) dX1_loudnessAt_15 ⟨Nat.le_of_ble_eq_true rfl, Nat.le_of_ble_eq_true rfl⟩) ?_
        refine lv_if_eq (tgt := 30) hx hb dX1_loudnessAt_18 (by decide) (fun c_18 => ?_) (fun c_18 => ?_)
        · skip
          have c_18 : ¬ (snd V i t) := pI_eq0.mp c_18
          refine lv_iinc (v := nI (i + 1)) (lv' := [(3, .int (nI (i + 1))), (0, .ref (b + k)), (1, .int (nI t)), (2, .int (nI (sm (fun j => if snd V j t then V j 2 else 0) i)))]) hx hb dX1_loudnessAt_30 hl (k := 3) rfl (nI_add _ 1) (by decide) rfl (fun ls hl => ?_)
          refine lv_goto (tgt := 4) hx hb dX1_loudnessAt_33 (by decide) ?_
          exact ih4 (i + 1) (by omega) (by omega) _ _ (by first | rfl | (simp only [sm]; rw [if_pos c_18]) | (simp only [sm]; rw [if_neg c_18]; rfl)) (by first | rfl | (congr 1; omega)) _ (lv_sub hl [1, 2, 3, 0] rfl)
        · skip
          have c_18 : snd V i t := Decidable.byContradiction (fun h__ => c_18 (pI_eq0.mpr h__))
          refine lv_iload_n hx hb dX1_loudnessAt_21 rfl (lv_at hl 2 rfl) ?_
          refine lv_aload_n hx hb dX1_loudnessAt_22 rfl (lv_at hl 0 rfl) ?_
          refine lv_iload_n hx hb dX1_loudnessAt_23 rfl (lv_at hl 3 rfl) ?_
          refine lv_iconst (v := nI 2) hx hb dX1_loudnessAt_24 (by decide) ?_
          refine q_R1 (va_runV (As := [.int (nI i), .int (nI 2)]) (rest := [.int (nI (sm (fun j => if snd V j t then V j 2 else 0) i))]) ⟨hx, hb, hml, hown, hts⟩ (c_X1_numberOf l hc (i) (2) (by omega) (by omega)) (cwV 2 hts gX1_loudnessAt_X1_numberOf rfl rfl rfl (by decide +kernel) ⟨Nat.le_of_ble_eq_true rfl, Nat.le_of_ble_eq_true rfl⟩) (q_preV hG hW hS hk0 rfl) rfl rfl hl.1 rfl (lv_room (Nat.le_of_ble_eq_true rfl)) dX1_loudnessAt_25 ⟨Nat.le_of_ble_eq_true rfl, Nat.le_of_ble_eq_true rfl⟩) ?_
          have q_25 := hc.2.2.2.1 (i) (by omega)
          refine lv_iadd hx hb dX1_loudnessAt_28 ?_
          refine q_top (y := nI ((sm (fun j => if snd V j t then V j 2 else 0) i) + (V i 2))) (nI_add _ _) ?_
          refine lv_istore_n (lv' := [(2, .int (nI ((sm (fun j => if snd V j t then V j 2 else 0) i) + (V i 2)))), (0, .ref (b + k)), (1, .int (nI t)), (3, .int (nI i))]) hx hb dX1_loudnessAt_29 rfl hl (by decide) rfl (fun ls hl => ?_)
          refine lv_iinc (v := nI (i + 1)) (lv' := [(3, .int (nI (i + 1))), (2, .int (nI ((sm (fun j => if snd V j t then V j 2 else 0) i) + (V i 2)))), (0, .ref (b + k)), (1, .int (nI t))]) hx hb dX1_loudnessAt_30 hl (k := 3) rfl (nI_add _ 1) (by decide) rfl (fun ls hl => ?_)
          refine lv_goto (tgt := 4) hx hb dX1_loudnessAt_33 (by decide) ?_
          exact ih4 (i + 1) (by omega) (by omega) _ _ (by first | rfl | (simp only [sm]; rw [if_pos c_18]) | (simp only [sm]; rw [if_neg c_18]; rfl)) (by first | rfl | (congr 1; omega)) _ (lv_sub hl [2, 3, 1, 0] rfl)
  exact L4 ((n - 0) + 1) 0 (by omega) (Nat.lt_succ_self _) _ _ (by first | rfl | (simp only [sm]; rw [if_pos c_18]) | (simp only [sm]; rw [if_neg c_18]; rfl)) (by first | rfl | (congr 1; omega)) _ (lv_sub hl [2, 3, 1, 0] rfl)

