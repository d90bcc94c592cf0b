/-- the reference's object: its fields' numbers -/
abbrev modO (b : Nat) (sv nc th pl lt dn : Int32) : va_E := .inr (7, [.ref (b + 37), .ref (b + 38), .int sv, .ref (b + 39), .ref (b + 40), .ref (b + 41), .int nc, .int th, .ref (b + 42), .ref (b + 43), .int pl, .int lt, .ref (b + 44), .int dn])
/-- a row of 85 numbers tells a play -/
def rep (F : Nat → Nat) (P : Pl) : Prop := (∀ j, j < 5 → F j = P.S j) ∧ F 5 = P.w ∧ F 6 = P.n ∧ (∀ i, i < P.w → ∀ j, j < 3 → F (7 + 3 * i + j) = P.W i j) ∧ ∀ i, i < P.n → ∀ j, j < 4 → F (37 + 4 * i + j) = P.N i j
theorem le_sub1 {x : Int32} {c : Nat} (hc : c < 2 ^ 31) : x ≤ nI c - nI 1 ↔ x < nI c := by
  rw [Int32.le_iff_toInt_le, Int32.lt_iff_toInt_lt, nI_toInt hc]
  have e : (nI c - nI 1).toInt = (c : Int) - 1 := by
    cases c with
    | zero => decide
    | succ k =>
      rw [show nI (k + 1) - nI 1 = nI k from by rw [← nI_add]; simp, nI_toInt (by omega)]
      omega
  rw [e]; omega
theorem pop_down : ∀ l, l < 1024 → l ≠ 0 → pop (l &&& (l - 1)) + 1 = pop l ∧ (l &&& (l - 1)) < l := by decide +kernel
theorem nI_and (a b : Nat) : nI a &&& nI b = nI (a &&& b) := by
  apply Int32.toBitVec_inj.mp
  show (Int32.ofNat a).toBitVec &&& (Int32.ofNat b).toBitVec = (Int32.ofNat (a &&& b)).toBitVec
  show BitVec.ofNat 32 a &&& BitVec.ofNat 32 b = BitVec.ofNat 32 (a &&& b)
  exact (BitVec.ofNat_and ..).symm

set_option maxHeartbeats 300000 in
set_option maxRecDepth 100000 in
/-- thrown() -/
theorem c_X7_thrown (l : Launch) {D : va_G} {dA : Nat → Nat} {b : Nat} {w : Wd} {sv nc th pl lt dn : Int32} (hm0 : w 36 = some (modO b sv nc th pl lt dn)) : Met l yX7_thrown wsX7_thrown ({ frames := 0, cells := 0, slots := 0, locals := 0 } : Room) (PC D dA b w [.ref (b + 36)]) (QR (some (.int (th)))) 0 0 Fno := by
  refine q_of (cc := cX7_thrown) (maxL := 1) (ret := (some .int)) (by decide) rfl rfl ?_
  intro p e s m args below meth c ls hx hb hr hml hts hown hlocks hG hW hS hl
  have hown : s.vm.findClass RX7 = some m.cls := hown
  have hinX7 : ∀ w ∈ u_ws RX7 TX7 14, w ∈ wsX7_thrown := fun w h => (goodIn_r (big := wsX7_thrown) (u_ws RX7 TX7 14) [2, 3, 4, 5, 6, 7, 8, 9, 10, 11, 12, 13, 14, 15] (by decide +kernel) (by decide +kernel) w h).1
  have hl : lv_has ls 1 [(0, .ref (b + 36))] := hl
  refine lv_aload_n hx hb dX7_thrown_0 rfl (lv_at hl 0 rfl) ?_
  refine q_get hx hb hts hinX7 hown hG hW hm0 rfl 7 (by decide) (hts (.fieldLink RX7 35 "FoleyMixerModel" "thrown" "I") (List.mem_of_getElem? (i := 1) rfl)) rfl rfl dX7_thrown_1 ?_
  exact q_ri hx hb hr hlocks dX7_thrown_4 (by rfl)

set_option maxHeartbeats 300000 in
set_option maxRecDepth 100000 in
/-- holds(which) -/
theorem c_X7_holds (l : Launch) {D : va_G} {dA : Nat → Nat} {b : Nat} {w : Wd} {sv nc th pl lt dn : Int32} (hm0 : w 36 = some (modO b sv nc th pl lt dn)) (x : Int32) : Met l yX7_holds wsX7_holds ({ frames := 0, cells := 0, slots := 0, locals := 0 } : Room) (PC D dA b w [.ref (b + 36), .int (x)]) (QW D b (some (.int (if x = 0 then 1 else 0))) (fun w' => w' 36 = some (modO b sv nc x pl lt dn) ∧ ∀ id : Nat, id ≠ 36 → w' id = w id)) 0 0 (Fb b) := by
  refine q_of (cc := cX7_holds) (maxL := 2) (ret := (some .boolean)) (by decide) rfl rfl ?_
  intro p e s m args below meth c ls hx hb hr hml hts hown hlocks hG hW hS hl
  have hown : s.vm.findClass RX7 = some m.cls := hown
  have hinX7 : ∀ w ∈ u_ws RX7 TX7 14, w ∈ wsX7_holds := fun w h => (goodIn_r (big := wsX7_holds) (u_ws RX7 TX7 14) [2, 3, 4, 5, 6, 7, 8, 9, 10, 11, 12, 13, 14, 15] (by decide +kernel) (by decide +kernel) w h).1
  have hl : lv_has ls 2 [(0, .ref (b + 36)), (1, .int (x))] := hl
  refine lv_aload_n hx hb dX7_holds_0 rfl (lv_at hl 0 rfl) ?_
  refine lv_iload_n hx hb dX7_holds_1 rfl (lv_at hl 1 rfl) ?_
  refine q_put hx hb hts hinX7 tyX7_ok nmX7 hown hG hW hS hm0 rfl 7 (by decide) (hts (.fieldLink RX7 35 "FoleyMixerModel" "thrown" "I") (List.mem_of_getElem? (i := 1) rfl)) rfl rfl rfl rfl (Nat.le_of_ble_eq_true rfl) dX7_holds_2 (fun H locs hW hS hz2 => ?_)
  obtain ⟨w1, ew1⟩ : ∃ wq__ : Wd, wq__ = va_up w 36 (some (.inr (7, [.ref (b + 37), .ref (b + 38), .int (sv), .ref (b + 39), .ref (b + 40), .ref (b + 41), .int (nc), .int (x), .ref (b + 42), .ref (b + 43), .int (pl), .int (lt), .ref (b + 44), .int (dn)]))) := ⟨_, rfl⟩
  replace hW : WP D b w1 H := by rw [ew1]; exact hW
  have frw1 : ∀ id : Nat, id ≠ 36 → w1 id = w id := fun id h9 => by rw [ew1, up_ne h9]
  replace hm0 : w1 36 = some (.inr (7, [.ref (b + 37), .ref (b + 38), .int (sv), .ref (b + 39), .ref (b + 40), .ref (b + 41), .int (nc), .int (x), .ref (b + 42), .ref (b + 43), .int (pl), .int (lt), .ref (b + 44), .int (dn)])) := by rw [ew1]; exact up_eq
  refine lv_iload_n hx hb dX7_holds_5 rfl (lv_at hl 1 rfl) ?_
  refine lv_if_ne (tgt := 13) hx hb dX7_holds_6 (by decide) (fun c_6 => ?_) (fun c_6 => ?_)
  · skip
    refine lv_iconst (v := nI 0) hx hb dX7_holds_13 (by decide) ?_
    exact q_wz hx hb hr hlocks hW hS dX7_holds_14 (by first | (rw [if_pos (by first | exact c_6 | exact Decidable.of_not_not c_6)]; rfl) | (rw [if_neg c_6]; rfl)) (q_bn _) (by exact ⟨hm0, by intro id h9; rw [frw1 id (by omega)]; try rfl⟩) (by decide) (by decide)
  · skip
    refine lv_iconst (v := nI 1) hx hb dX7_holds_9 (by decide) ?_
    refine lv_goto (tgt := 14) hx hb dX7_holds_10 (by decide) ?_
    exact q_wz hx hb hr hlocks hW hS dX7_holds_14 (by first | (rw [if_pos (by first | exact c_6 | exact Decidable.of_not_not c_6)]; rfl) | (rw [if_neg c_6]; rfl)) (q_bn _) (by exact ⟨hm0, by intro id h9; rw [frw1 id (by omega)]; try rfl⟩) (by decide) (by decide)

set_option maxHeartbeats 300000 in
set_option maxRecDepth 100000 in
/-- in(v, low, high) -/
theorem c_X7_in (l : Launch) {D : va_G} {dA : Nat → Nat} {b : Nat} {w : Wd} (x y z : Int32) : Met l yX7_in wsX7_in ({ frames := 0, cells := 0, slots := 0, locals := 0 } : Room) (PC D dA b w [.int (x), .int (y), .int (z)]) (QR (some (.int (if y ≤ x ∧ x ≤ z then 1 else 0)))) 0 0 Fno := by
  refine q_of (cc := cX7_in) (maxL := 3) (ret := (some .boolean)) (by decide) rfl rfl ?_
  intro p e s m args below meth c ls hx hb hr hml hts hown hlocks hG hW hS hl
  have hown : s.vm.findClass RX7 = some m.cls := hown
  have hl : lv_has ls 3 [(0, .int (x)), (1, .int (y)), (2, .int (z))] := hl
  refine lv_iload_n hx hb dX7_in_0 rfl (lv_at hl 0 rfl) ?_
  refine lv_iload_n hx hb dX7_in_1 rfl (lv_at hl 1 rfl) ?_
  refine lv_icmp_lt (tgt := 14) hx hb dX7_in_2 (by decide) (fun c_2 => ?_) (fun c_2 => ?_)
  · skip
    refine lv_iconst (v := nI 0) hx hb dX7_in_14 (by decide) ?_
    exact q_rz hx hb hr hlocks dX7_in_15 (by first | (rw [if_pos ⟨Int32.not_lt.mp c_2, Int32.not_lt.mp c_7⟩]; rfl) | (rw [if_neg (fun q => absurd q.1 (Int32.not_le.mpr c_2))]; rfl) | (rw [if_neg (fun q => absurd q.2 (Int32.not_le.mpr c_7))]; rfl)) (q_bn _)
  · skip
    refine lv_iload_n hx hb dX7_in_5 rfl (lv_at hl 0 rfl) ?_
    refine lv_iload_n hx hb dX7_in_6 rfl (lv_at hl 2 rfl) ?_
    refine lv_icmp_gt (tgt := 14) hx hb dX7_in_7 (by decide) (fun c_7 => ?_) (fun c_7 => ?_)
    · skip
      refine lv_iconst (v := nI 0) hx hb dX7_in_14 (by decide) ?_
      exact q_rz hx hb hr hlocks dX7_in_15 (by first | (rw [if_pos ⟨Int32.not_lt.mp c_2, Int32.not_lt.mp c_7⟩]; rfl) | (rw [if_neg (fun q => absurd q.1 (Int32.not_le.mpr c_2))]; rfl) | (rw [if_neg (fun q => absurd q.2 (Int32.not_le.mpr c_7))]; rfl)) (q_bn _)
    · skip
      refine lv_iconst (v := nI 1) hx hb dX7_in_10 (by decide) ?_
      refine lv_goto (tgt := 15) hx hb dX7_in_11 (by decide) ?_
      exact q_rz hx hb hr hlocks dX7_in_15 (by first | (rw [if_pos ⟨Int32.not_lt.mp c_2, Int32.not_lt.mp c_7⟩]; rfl) | (rw [if_neg (fun q => absurd q.1 (Int32.not_le.mpr c_2))]; rfl) | (rw [if_neg (fun q => absurd q.2 (Int32.not_le.mpr c_7))]; rfl)) (q_bn _)

set_option maxHeartbeats 300000 in
set_option maxRecDepth 100000 in
/-- isSlot(slot) -/
theorem c_X7_isSlot (l : Launch) {D : va_G} {dA : Nat → Nat} {b : Nat} {w : Wd} (x : Int32) : Met l yX7_isSlot wsX7_isSlot ({ frames := 1, cells := 0, slots := 0, locals := 22 } : Room) (PC D dA b w [.int (x)]) (QR (some (.int (if 0 ≤ x ∧ x ≤ 1 then 1 else 0)))) 0 0 Fno := by
  refine q_of (cc := cX7_isSlot) (maxL := 1) (ret := (some .boolean)) (by decide) rfl rfl ?_
  intro p e s m args below meth c ls hx hb hr hml hts hown hlocks hG hW hS hl
  have hown : s.vm.findClass RX7 = some m.cls := hown
  have hl : lv_has ls 1 [(0, .int (x))] := hl
  refine lv_iload_n hx hb dX7_isSlot_0 rfl (lv_at hl 0 rfl) ?_
  refine lv_iconst (v := nI 0) hx hb dX7_isSlot_1 (by decide) ?_
  refine lv_iconst (v := nI 1) hx hb dX7_isSlot_2 (by decide) ?_
  refine q_R1 (va_runS (As := [.int (x), .int (nI 0), .int (nI 1)]) (rest := []) ⟨hx, hb, hml, hown, hts⟩ (c_X7_in l (x) (nI (0)) (nI (1))) (va_cwS 3 hts gX7_isSlot_X7_in rfl rfl rfl (by decide +kernel) ⟨Nat.le_of_ble_eq_true rfl, Nat.le_of_ble_eq_true rfl⟩) (q_preS hG hW hS) rfl rfl hl.1 rfl (lv_room (Nat.le_of_ble_eq_true rfl)) dX7_isSlot_3 ⟨Nat.le_of_ble_eq_true rfl, Nat.le_of_ble_eq_true rfl⟩) ?_
  exact q_rz hx hb hr hlocks dX7_isSlot_6 (by first | rfl | (rw [if_pos (by omega)]; rfl) | (rw [if_neg (by omega)]; rfl)) (q_bn _)

set_option maxHeartbeats 300000 in
set_option maxRecDepth 100000 in
/-- isCue -/
theorem c_X7_isCue_t (l : Launch) {D : va_G} {dA : Nat → Nat} {b : Nat} {w : Wd} {sv nc th pl lt dn : Int32} (hm0 : w 36 = some (modO b sv nc th pl lt dn)) {F : Nat → Nat} (hm1 : w 37 = some (eN dA 85 F)) (hc : F 5 < 2 ^ 31) (x : Int32) : Met l yX7_isCue wsX7_isCue ({ frames := 1, cells := 0, slots := 0, locals := 22 } : Room) (PC D dA b w [.ref (b + 36), .int (nI 1), .int (x)]) (QR (some (.int (if 0 ≤ x ∧ x < nI (F 5) then 1 else 0)))) 0 0 Fno := by
  refine q_of (cc := cX7_isCue) (maxL := 3) (ret := (some .boolean)) (by decide) rfl rfl ?_
  intro p e s m args below meth c ls hx hb hr hml hts hown hlocks hG hW hS hl
  have hown : s.vm.findClass RX7 = some m.cls := hown
  have hinX7 : ∀ w ∈ u_ws RX7 TX7 14, w ∈ wsX7_isCue := fun w h => (goodIn_r (big := wsX7_isCue) (u_ws RX7 TX7 14) [6, 7, 8, 9, 10, 11, 12, 13, 14, 15, 16, 17, 18, 19] (by decide +kernel) (by decide +kernel) w h).1
  have hl : lv_has ls 3 [(0, .ref (b + 36)), (1, .int (nI 1)), (2, .int (x))] := hl
  refine lv_iload_n hx hb dX7_isCue_0 rfl (lv_at hl 2 rfl) ?_
  refine lv_iconst (v := nI 0) hx hb dX7_isCue_1 (by decide) ?_
  refine lv_iload_n hx hb dX7_isCue_2 rfl (lv_at hl 1 rfl) ?_
  refine lv_if_eq (tgt := 15) hx hb dX7_isCue_3 (by decide) (fun c_3 => ?_) (fun c_3 => ?_)
  · skip
    have c_3 : 1 = 0 := (nI_eq0 (i := 1) (by omega)).mp c_3
    exact absurd c_3 (by omega)
  · skip
    have c_3 : ¬ (1 = 0) := fun h__ => c_3 ((nI_eq0 (i := 1) (by omega)).mpr h__)
    refine lv_aload_n hx hb dX7_isCue_6 rfl (lv_at hl 0 rfl) ?_
    refine q_get hx hb hts hinX7 hown hG hW hm0 rfl 0 (by decide) (hts (.fieldLink RX7 7 "FoleyMixerModel" "s" "[I") (List.mem_of_getElem? (i := 1) rfl)) rfl rfl dX7_isCue_7 ?_
    refine lv_iconst (v := nI 5) hx hb dX7_isCue_10 (by decide) ?_
    refine q_iald hx hb hG hW hm1 (by omega) (by omega) dX7_isCue_11 ?_
    refine lv_goto (tgt := 22) hx hb dX7_isCue_12 (by decide) ?_
    refine lv_iconst (v := nI 1) hx hb dX7_isCue_22 (by decide) ?_
    refine lv_isub hx hb dX7_isCue_23 ?_
    refine q_R1 (va_runS (As := [.int (x), .int (nI 0), .int ((nI (F 5)) - (nI (1)))]) (rest := []) ⟨hx, hb, hml, hown, hts⟩ (c_X7_in l (x) (nI (0)) ((nI (F 5)) - (nI (1)))) (va_cwS 3 hts gX7_isCue_X7_in rfl rfl rfl (by decide +kernel) ⟨Nat.le_of_ble_eq_true rfl, Nat.le_of_ble_eq_true rfl⟩) (q_preS hG hW hS) rfl rfl hl.1 rfl (lv_room (Nat.le_of_ble_eq_true rfl)) dX7_isCue_24 ⟨Nat.le_of_ble_eq_true rfl, Nat.le_of_ble_eq_true rfl⟩) ?_
    exact q_rz hx hb hr hlocks dX7_isCue_27 (by simp only [← le_sub1 hc]; rfl) (q_bn _)

set_option maxHeartbeats 300000 in
set_option maxRecDepth 100000 in
/-- whereIs -/
theorem c_X7_whereIs_t (l : Launch) {D : va_G} {dA : Nat → Nat} {b : Nat} {w : Wd} (i : Nat) : Met l yX7_whereIs wsX7_whereIs ({ frames := 0, cells := 0, slots := 0, locals := 0 } : Room) (PC D dA b w [.int (nI 1), .int (nI i)]) (QR (some (.int (nI (7 + 3 * i))))) 0 0 Fno := by
  refine q_of (cc := cX7_whereIs) (maxL := 2) (ret := (some .int)) (by decide) rfl rfl ?_
  intro p e s m args below meth c ls hx hb hr hml hts hown hlocks hG hW hS hl
  have hown : s.vm.findClass RX7 = some m.cls := hown
  have hl : lv_has ls 2 [(0, .int (nI 1)), (1, .int (nI i))] := hl
  refine lv_iload_n hx hb dX7_whereIs_0 rfl (lv_at hl 0 rfl) ?_
  refine lv_if_eq (tgt := 13) hx hb dX7_whereIs_1 (by decide) (fun c_1 => ?_) (fun c_1 => ?_)
  · skip
    have c_1 : 1 = 0 := (nI_eq0 (i := 1) (by omega)).mp c_1
    exact absurd c_1 (by omega)
  · skip
    have c_1 : ¬ (1 = 0) := fun h__ => c_1 ((nI_eq0 (i := 1) (by omega)).mpr h__)
    refine lv_bipush (v := nI 7) hx hb dX7_whereIs_4 (by decide) ?_
    refine lv_iconst (v := nI 3) hx hb dX7_whereIs_6 (by decide) ?_
    refine lv_iload_n hx hb dX7_whereIs_7 rfl (lv_at hl 1 rfl) ?_
    refine lv_imul hx hb dX7_whereIs_8 ?_
    refine q_top (y := nI (3 * i)) (nI_mul _ _) ?_
    refine lv_iadd hx hb dX7_whereIs_9 ?_
    refine q_top (y := nI (7 + (3 * i))) (nI_add _ _) ?_
    refine lv_goto (tgt := 19) hx hb dX7_whereIs_10 (by decide) ?_
    exact q_ri hx hb hr hlocks dX7_whereIs_19 (by rfl)

set_option maxHeartbeats 300000 in
set_option maxRecDepth 100000 in
/-- isCue -/
theorem c_X7_isCue_f (l : Launch) {D : va_G} {dA : Nat → Nat} {b : Nat} {w : Wd} {sv nc th pl lt dn : Int32} (hm0 : w 36 = some (modO b sv nc th pl lt dn)) {F : Nat → Nat} (hm1 : w 37 = some (eN dA 85 F)) (hc : F 6 < 2 ^ 31) (x : Int32) : Met l yX7_isCue wsX7_isCue ({ frames := 1, cells := 0, slots := 0, locals := 22 } : Room) (PC D dA b w [.ref (b + 36), .int (nI 0), .int (x)]) (QR (some (.int (if 0 ≤ x ∧ x < nI (F 6) then 1 else 0)))) 0 0 Fno := by
  refine q_of (cc := cX7_isCue) (maxL := 3) (ret := (some .boolean)) (by decide) rfl rfl ?_
  intro p e s m args below meth c ls hx hb hr hml hts hown hlocks hG hW hS hl
  have hown : s.vm.findClass RX7 = some m.cls := hown
  have hinX7 : ∀ w ∈ u_ws RX7 TX7 14, w ∈ wsX7_isCue := fun w h => (goodIn_r (big := wsX7_isCue) (u_ws RX7 TX7 14) [6, 7, 8, 9, 10, 11, 12, 13, 14, 15, 16, 17, 18, 19] (by decide +kernel) (by decide +kernel) w h).1
  have hl : lv_has ls 3 [(0, .ref (b + 36)), (1, .int (nI 0)), (2, .int (x))] := hl
  refine lv_iload_n hx hb dX7_isCue_0 rfl (lv_at hl 2 rfl) ?_
  refine lv_iconst (v := nI 0) hx hb dX7_isCue_1 (by decide) ?_
  refine lv_iload_n hx hb dX7_isCue_2 rfl (lv_at hl 1 rfl) ?_
  refine lv_if_eq (tgt := 15) hx hb dX7_isCue_3 (by decide) (fun c_3 => ?_) (fun c_3 => ?_)
  · skip
    have c_3 : 0 = 0 := (nI_eq0 (i := 0) (by omega)).mp c_3
    refine lv_aload_n hx hb dX7_isCue_15 rfl (lv_at hl 0 rfl) ?_
    refine q_get hx hb hts hinX7 hown hG hW hm0 rfl 0 (by decide) (hts (.fieldLink RX7 7 "FoleyMixerModel" "s" "[I") (List.mem_of_getElem? (i := 1) rfl)) rfl rfl dX7_isCue_16 ?_
    refine lv_bipush (v := nI 6) hx hb dX7_isCue_19 (by decide) ?_
    refine q_iald hx hb hG hW hm1 (by omega) (by omega) dX7_isCue_21 ?_
    refine lv_iconst (v := nI 1) hx hb dX7_isCue_22 (by decide) ?_
    refine lv_isub hx hb dX7_isCue_23 ?_
    refine q_R1 (va_runS (As := [.int (x), .int (nI 0), .int ((nI (F 6)) - (nI (1)))]) (rest := []) ⟨hx, hb, hml, hown, hts⟩ (c_X7_in l (x) (nI (0)) ((nI (F 6)) - (nI (1)))) (va_cwS 3 hts gX7_isCue_X7_in rfl rfl rfl (by decide +kernel) ⟨Nat.le_of_ble_eq_true rfl, Nat.le_of_ble_eq_true rfl⟩) (q_preS hG hW hS) rfl rfl hl.1 rfl (lv_room (Nat.le_of_ble_eq_true rfl)) dX7_isCue_24 ⟨Nat.le_of_ble_eq_true rfl, Nat.le_of_ble_eq_true rfl⟩) ?_
    exact q_rz hx hb hr hlocks dX7_isCue_27 (by simp only [← le_sub1 hc]; rfl) (q_bn _)
  · skip
    have c_3 : ¬ (0 = 0) := fun h__ => c_3 ((nI_eq0 (i := 0) (by omega)).mpr h__)
    exact absurd c_3 (by omega)

set_option maxHeartbeats 300000 in
set_option maxRecDepth 100000 in
/-- whereIs -/
theorem c_X7_whereIs_f (l : Launch) {D : va_G} {dA : Nat → Nat} {b : Nat} {w : Wd} (i : Nat) : Met l yX7_whereIs wsX7_whereIs ({ frames := 0, cells := 0, slots := 0, locals := 0 } : Room) (PC D dA b w [.int (nI 0), .int (nI i)]) (QR (some (.int (nI (37 + 4 * i))))) 0 0 Fno := by
  refine q_of (cc := cX7_whereIs) (maxL := 2) (ret := (some .int)) (by decide) rfl rfl ?_
  intro p e s m args below meth c ls hx hb hr hml hts hown hlocks hG hW hS hl
  have hown : s.vm.findClass RX7 = some m.cls := hown
  have hl : lv_has ls 2 [(0, .int (nI 0)), (1, .int (nI i))] := hl
  refine lv_iload_n hx hb dX7_whereIs_0 rfl (lv_at hl 0 rfl) ?_
  refine lv_if_eq (tgt := 13) hx hb dX7_whereIs_1 (by decide) (fun c_1 => ?_) (fun c_1 => ?_)
  · skip
    have c_1 : 0 = 0 := (nI_eq0 (i := 0) (by omega)).mp c_1
    refine lv_bipush (v := nI 37) hx hb dX7_whereIs_13 (by decide) ?_
    refine lv_iconst (v := nI 4) hx hb dX7_whereIs_15 (by decide) ?_
    refine lv_iload_n hx hb dX7_whereIs_16 rfl (lv_at hl 1 rfl) ?_
    refine lv_imul hx hb dX7_whereIs_17 ?_
    refine q_top (y := nI (4 * i)) (nI_mul _ _) ?_
    refine lv_iadd hx hb dX7_whereIs_18 ?_
    refine q_top (y := nI (37 + (4 * i))) (nI_add _ _) ?_
    exact q_ri hx hb hr hlocks dX7_whereIs_19 (by rfl)
  · skip
    have c_1 : ¬ (0 = 0) := fun h__ => c_1 ((nI_eq0 (i := 0) (by omega)).mpr h__)
    exact absurd c_1 (by omega)

set_option maxHeartbeats 300000 in
set_option maxRecDepth 100000 in
/-- ofWord -/
theorem c_X7_ofWord (l : Launch) {D : va_G} {dA : Nat → Nat} {b : Nat} {w : Wd} {sv nc th pl lt dn : Int32} (hm0 : w 36 = some (modO b sv nc th pl lt dn)) {F : Nat → Nat} (hm1 : w 37 = some (eN dA 85 F)) (i j : Nat) (hij : 7 + 3 * i + j < 85) : Met l yX7_ofWord wsX7_ofWord ({ frames := 0, cells := 0, slots := 0, locals := 0 } : Room) (PC D dA b w [.ref (b + 36), .int (nI i), .int (nI j)]) (QR (some (.int (nI (F (7 + 3 * i + j)))))) 0 0 Fno := by
  refine q_of (cc := cX7_ofWord) (maxL := 3) (ret := (some .int)) (by decide) rfl rfl ?_
  intro p e s m args below meth c ls hx hb hr hml hts hown hlocks hG hW hS hl
  have hown : s.vm.findClass RX7 = some m.cls := hown
  have hinX7 : ∀ w ∈ u_ws RX7 TX7 14, w ∈ wsX7_ofWord := fun w h => (goodIn_r (big := wsX7_ofWord) (u_ws RX7 TX7 14) [2, 3, 4, 5, 6, 7, 8, 9, 10, 11, 12, 13, 14, 15] (by decide +kernel) (by decide +kernel) w h).1
  have hl : lv_has ls 3 [(0, .ref (b + 36)), (1, .int (nI i)), (2, .int (nI j))] := hl
  refine lv_aload_n hx hb dX7_ofWord_0 rfl (lv_at hl 0 rfl) ?_
  refine q_get hx hb hts hinX7 hown hG hW hm0 rfl 0 (by decide) (hts (.fieldLink RX7 7 "FoleyMixerModel" "s" "[I") (List.mem_of_getElem? (i := 1) rfl)) rfl rfl dX7_ofWord_1 ?_
  refine lv_bipush (v := nI 7) hx hb dX7_ofWord_4 (by decide) ?_
  refine lv_iconst (v := nI 3) hx hb dX7_ofWord_6 (by decide) ?_
  refine lv_iload_n hx hb dX7_ofWord_7 rfl (lv_at hl 1 rfl) ?_
  refine lv_imul hx hb dX7_ofWord_8 ?_
  refine q_top (y := nI (3 * i)) (nI_mul _ _) ?_
  refine lv_iadd hx hb dX7_ofWord_9 ?_
  refine q_top (y := nI (7 + (3 * i))) (nI_add _ _) ?_
  refine lv_iload_n hx hb dX7_ofWord_10 rfl (lv_at hl 2 rfl) ?_
  refine lv_iadd hx hb dX7_ofWord_11 ?_
  refine q_top (y := nI ((7 + (3 * i)) + j)) (nI_add _ _) ?_
  refine q_iald hx hb hG hW hm1 (by omega) (by omega) dX7_ofWord_12 ?_
  exact q_ri hx hb hr hlocks dX7_ofWord_13 (by rfl)

set_option maxHeartbeats 300000 in
set_option maxRecDepth 100000 in
/-- ofNoise -/
theorem c_X7_ofNoise (l : Launch) {D : va_G} {dA : Nat → Nat} {b : Nat} {w : Wd} {sv nc th pl lt dn : Int32} (hm0 : w 36 = some (modO b sv nc th pl lt dn)) {F : Nat → Nat} (hm1 : w 37 = some (eN dA 85 F)) (i j : Nat) (hij : 37 + 4 * i + j < 85) : Met l yX7_ofNoise wsX7_ofNoise ({ frames := 0, cells := 0, slots := 0, locals := 0 } : Room) (PC D dA b w [.ref (b + 36), .int (nI i), .int (nI j)]) (QR (some (.int (nI (F (37 + 4 * i + j)))))) 0 0 Fno := by
  refine q_of (cc := cX7_ofNoise) (maxL := 3) (ret := (some .int)) (by decide) rfl rfl ?_
  intro p e s m args below meth c ls hx hb hr hml hts hown hlocks hG hW hS hl
  have hown : s.vm.findClass RX7 = some m.cls := hown
  have hinX7 : ∀ w ∈ u_ws RX7 TX7 14, w ∈ wsX7_ofNoise := fun w h => (goodIn_r (big := wsX7_ofNoise) (u_ws RX7 TX7 14) [2, 3, 4, 5, 6, 7, 8, 9, 10, 11, 12, 13, 14, 15] (by decide +kernel) (by decide +kernel) w h).1
  have hl : lv_has ls 3 [(0, .ref (b + 36)), (1, .int (nI i)), (2, .int (nI j))] := hl
  refine lv_aload_n hx hb dX7_ofNoise_0 rfl (lv_at hl 0 rfl) ?_
  refine q_get hx hb hts hinX7 hown hG hW hm0 rfl 0 (by decide) (hts (.fieldLink RX7 7 "FoleyMixerModel" "s" "[I") (List.mem_of_getElem? (i := 1) rfl)) rfl rfl dX7_ofNoise_1 ?_
  refine lv_bipush (v := nI 37) hx hb dX7_ofNoise_4 (by decide) ?_
  refine lv_iconst (v := nI 4) hx hb dX7_ofNoise_6 (by decide) ?_
  refine lv_iload_n hx hb dX7_ofNoise_7 rfl (lv_at hl 1 rfl) ?_
  refine lv_imul hx hb dX7_ofNoise_8 ?_
  refine q_top (y := nI (4 * i)) (nI_mul _ _) ?_
  refine lv_iadd hx hb dX7_ofNoise_9 ?_
  refine q_top (y := nI (37 + (4 * i))) (nI_add _ _) ?_
  refine lv_iload_n hx hb dX7_ofNoise_10 rfl (lv_at hl 2 rfl) ?_
  refine lv_iadd hx hb dX7_ofNoise_11 ?_
  refine q_top (y := nI ((37 + (4 * i)) + j)) (nI_add _ _) ?_
  refine q_iald hx hb hG hW hm1 (by omega) (by omega) dX7_ofNoise_12 ?_
  exact q_ri hx hb hr hlocks dX7_ofNoise_13 (by rfl)

set_option maxHeartbeats 300000 in
set_option maxRecDepth 100000 in
/-- soundsAt -/
theorem c_X7_soundsAt_t (l : Launch) {D : va_G} {dA : Nat → Nat} {b : Nat} {w : Wd} {sv nc th pl lt dn : Int32} (hm0 : w 36 = some (modO b sv nc th pl lt dn)) {F : Nat → Nat} (hm1 : w 37 = some (eN dA 85 F)) (i t : Nat) (hi : 7 + 3 * i + 1 < 85) (hF : F (7 + 3 * i) < 1000 ∧ F (7 + 3 * i + 1) < 1000) (ht : t < 2 ^ 31) : Met l yX7_soundsAt wsX7_soundsAt ({ frames := 1, cells := 0, slots := 0, locals := 22 } : Room) (PC D dA b w [.ref (b + 36), .int (nI 1), .int (nI i), .int (nI t)]) (QR (some (.int (if F (7 + 3 * i) ≤ t ∧ t < F (7 + 3 * i) + F (7 + 3 * i + 1) then 1 else 0)))) 0 0 Fno := by
  refine q_of (cc := cX7_soundsAt) (maxL := 5) (ret := (some .boolean)) (by decide) rfl rfl ?_
  intro p e s m args below meth c ls hx hb hr hml hts hown hlocks hG hW hS hl
  have hown : s.vm.findClass RX7 = some m.cls := hown
  have hinX7 : ∀ w ∈ u_ws RX7 TX7 14, w ∈ wsX7_soundsAt := fun w h => (goodIn_r (big := wsX7_soundsAt) (u_ws RX7 TX7 14) [9, 10, 11, 12, 13, 14, 15, 16, 17, 18, 19, 20, 21, 22] (by decide +kernel) (by decide +kernel) w h).1
  have hl : lv_has ls 5 [(0, .ref (b + 36)), (1, .int (nI 1)), (2, .int (nI i)), (3, .int (nI t))] := hl
  refine lv_iload_n hx hb dX7_soundsAt_0 rfl (lv_at hl 1 rfl) ?_
  refine lv_iload_n hx hb dX7_soundsAt_1 rfl (lv_at hl 2 rfl) ?_
  refine q_R1 (va_runS (As := [.int (nI 1), .int (nI i)]) (rest := []) ⟨hx, hb, hml, hown, hts⟩ (c_X7_whereIs_t l (i)) (va_cwS 2 hts gX7_soundsAt_X7_whereIs rfl rfl rfl (by decide +kernel) ⟨Nat.le_of_ble_eq_true rfl, Nat.le_of_ble_eq_true rfl⟩) (q_preS hG hW hS) rfl rfl hl.1 rfl (lv_room (Nat.le_of_ble_eq_true rfl)) dX7_soundsAt_2 ⟨Nat.le_of_ble_eq_true rfl, Nat.le_of_ble_eq_true rfl⟩) ?_
  refine lv_istore (lv' := [(4, .int (nI (7 + 3 * i))), (0, .ref (b + 36)), (1, .int (nI 1)), (2, .int (nI i)), (3, .int (nI t))]) hx hb dX7_soundsAt_5 hl (by decide) rfl (fun ls hl => ?_)
  refine lv_iload_n hx hb dX7_soundsAt_7 rfl (lv_at hl 4 rfl) ?_
  refine lv_aload_n hx hb dX7_soundsAt_8 rfl (lv_at hl 1 rfl) ?_
  refine q_get hx hb hts hinX7 hown hG hW hm0 rfl 0 (by decide) (hts (.fieldLink RX7 7 "FoleyMixerModel" "s" "[I") (List.mem_of_getElem? (i := 1) rfl)) rfl rfl dX7_soundsAt_9 ?_
  refine lv_iload hx hb dX7_soundsAt_12 (lv_at hl 0 rfl) ?_
  refine lv_iconst (v := nI 0) hx hb dX7_soundsAt_14 (by decide) ?_
  refine lv_iadd hx hb dX7_soundsAt_15 ?_
  refine q_top (y := nI ((7 + 3 * i) + 0)) (nI_add _ _) ?_
  refine q_iald hx hb hG hW hm1 (by omega) (by omega) dX7_soundsAt_16 ?_
  refine lv_aload_n hx hb dX7_soundsAt_17 rfl (lv_at hl 1 rfl) ?_
  refine q_get hx hb hts hinX7 hown hG hW hm0 rfl 0 (by decide) (hts (.fieldLink RX7 7 "FoleyMixerModel" "s" "[I") (List.mem_of_getElem? (i := 1) rfl)) rfl rfl dX7_soundsAt_18 ?_
  refine lv_iload hx hb dX7_soundsAt_21 (lv_at hl 0 rfl) ?_
  refine lv_iconst (v := nI 0) hx hb dX7_soundsAt_23 (by decide) ?_
  refine lv_iadd hx hb dX7_soundsAt_24 ?_
  refine q_top (y := nI ((7 + 3 * i) + 0)) (nI_add _ _) ?_
  refine q_iald hx hb hG hW hm1 (by omega) (by omega) dX7_soundsAt_25 ?_
  refine lv_aload_n hx hb dX7_soundsAt_26 rfl (lv_at hl 1 rfl) ?_
  refine q_get hx hb hts hinX7 hown hG hW hm0 rfl 0 (by decide) (hts (.fieldLink RX7 7 "FoleyMixerModel" "s" "[I") (List.mem_of_getElem? (i := 1) rfl)) rfl rfl dX7_soundsAt_27 ?_
  refine lv_iload hx hb dX7_soundsAt_30 (lv_at hl 0 rfl) ?_
  refine lv_iconst (v := nI 1) hx hb dX7_soundsAt_32 (by decide) ?_
  refine lv_iadd hx hb dX7_soundsAt_33 ?_
  refine q_top (y := nI ((7 + 3 * i) + 1)) (nI_add _ _) ?_
  refine q_iald hx hb hG hW hm1 (by omega) (by omega) dX7_soundsAt_34 ?_
  refine lv_iadd hx hb dX7_soundsAt_35 ?_
  refine q_top (y := nI ((F ((7 + 3 * i) + 0)) + (F ((7 + 3 * i) + 1)))) (nI_add _ _) ?_
  refine lv_iconst (v := nI 1) hx hb dX7_soundsAt_36 (by decide) ?_
  refine lv_isub hx hb dX7_soundsAt_37 ?_
  refine q_R1 (va_runS (As := [.int (nI t), .int (nI (F ((7 + 3 * i) + 0))), .int ((nI ((F ((7 + 3 * i) + 0)) + (F ((7 + 3 * i) + 1)))) - (nI (1)))]) (rest := []) ⟨hx, hb, hml, hown, hts⟩ (c_X7_in l (nI (t)) (nI (F ((7 + 3 * i) + 0))) ((nI ((F ((7 + 3 * i) + 0)) + (F ((7 + 3 * i) + 1)))) - (nI (1)))) (va_cwS 3 hts gX7_soundsAt_X7_in rfl rfl rfl (by decide +kernel) ⟨Nat.le_of_ble_eq_true rfl, Nat.le_of_ble_eq_true rfl⟩) (q_preS hG hW hS) rfl rfl hl.1 rfl (lv_room (Nat.le_of_ble_eq_true rfl)) dX7_soundsAt_38 ⟨Nat.le_of_ble_eq_true rfl, Nat.le_of_ble_eq_true rfl⟩) ?_
  exact q_rz hx hb hr hlocks dX7_soundsAt_41 (by simp only [Nat.add_zero, le_sub1 (x := nI t) (c := F (7 + 3 * i) + F (7 + 3 * i + 1)) (by omega), nI_leI (a := F (7 + 3 * i)) (b := t) (by omega) (by omega), nI_ltI (a := t) (b := F (7 + 3 * i) + F (7 + 3 * i + 1)) (by omega) (by omega)]) (q_bn _)

set_option maxHeartbeats 300000 in
set_option maxRecDepth 100000 in
/-- soundsAt -/
theorem c_X7_soundsAt_f (l : Launch) {D : va_G} {dA : Nat → Nat} {b : Nat} {w : Wd} {sv nc th pl lt dn : Int32} (hm0 : w 36 = some (modO b sv nc th pl lt dn)) {F : Nat → Nat} (hm1 : w 37 = some (eN dA 85 F)) (i t : Nat) (hi : 37 + 4 * i + 1 < 85) (hF : F (37 + 4 * i) < 1000 ∧ F (37 + 4 * i + 1) < 1000) (ht : t < 2 ^ 31) : Met l yX7_soundsAt wsX7_soundsAt ({ frames := 1, cells := 0, slots := 0, locals := 22 } : Room) (PC D dA b w [.ref (b + 36), .int (nI 0), .int (nI i), .int (nI t)]) (QR (some (.int (if F (37 + 4 * i) ≤ t ∧ t < F (37 + 4 * i) + F (37 + 4 * i + 1) then 1 else 0)))) 0 0 Fno := by
  refine q_of (cc := cX7_soundsAt) (maxL := 5) (ret := (some .boolean)) (by decide) rfl rfl ?_
  intro p e s m args below meth c ls hx hb hr hml hts hown hlocks hG hW hS hl
  have hown : s.vm.findClass RX7 = some m.cls := hown
  have hinX7 : ∀ w ∈ u_ws RX7 TX7 14, w ∈ wsX7_soundsAt := fun w h => (goodIn_r (big := wsX7_soundsAt) (u_ws RX7 TX7 14) [9, 10, 11, 12, 13, 14, 15, 16, 17, 18, 19, 20, 21, 22] (by decide +kernel) (by decide +kernel) w h).1
  have hl : lv_has ls 5 [(0, .ref (b + 36)), (1, .int (nI 0)), (2, .int (nI i)), (3, .int (nI t))] := hl
  refine lv_iload_n hx hb dX7_soundsAt_0 rfl (lv_at hl 1 rfl) ?_
  refine lv_iload_n hx hb dX7_soundsAt_1 rfl (lv_at hl 2 rfl) ?_
  refine q_R1 (va_runS (As := [.int (nI 0), .int (nI i)]) (rest := []) ⟨hx, hb, hml, hown, hts⟩ (c_X7_whereIs_f l (i)) (va_cwS 2 hts gX7_soundsAt_X7_whereIs rfl rfl rfl (by decide +kernel) ⟨Nat.le_of_ble_eq_true rfl, Nat.le_of_ble_eq_true rfl⟩) (q_preS hG hW hS) rfl rfl hl.1 rfl (lv_room (Nat.le_of_ble_eq_true rfl)) dX7_soundsAt_2 ⟨Nat.le_of_ble_eq_true rfl, Nat.le_of_ble_eq_true rfl⟩) ?_
  refine lv_istore (lv' := [(4, .int (nI (37 + 4 * i))), (0, .ref (b + 36)), (1, .int (nI 0)), (2, .int (nI i)), (3, .int (nI t))]) hx hb dX7_soundsAt_5 hl (by decide) rfl (fun ls hl => ?_)
  refine lv_iload_n hx hb dX7_soundsAt_7 rfl (lv_at hl 4 rfl) ?_
  refine lv_aload_n hx hb dX7_soundsAt_8 rfl (lv_at hl 1 rfl) ?_
  refine q_get hx hb hts hinX7 hown hG hW hm0 rfl 0 (by decide) (hts (.fieldLink RX7 7 "FoleyMixerModel" "s" "[I") (List.mem_of_getElem? (i := 1) rfl)) rfl rfl dX7_soundsAt_9 ?_
  refine lv_iload hx hb dX7_soundsAt_12 (lv_at hl 0 rfl) ?_
  refine lv_iconst (v := nI 0) hx hb dX7_soundsAt_14 (by decide) ?_
  refine lv_iadd hx hb dX7_soundsAt_15 ?_
  refine q_top (y := nI ((37 + 4 * i) + 0)) (nI_add _ _) ?_
  refine q_iald hx hb hG hW hm1 (by omega) (by omega) dX7_soundsAt_16 ?_
  refine lv_aload_n hx hb dX7_soundsAt_17 rfl (lv_at hl 1 rfl) ?_
  refine q_get hx hb hts hinX7 hown hG hW hm0 rfl 0 (by decide) (hts (.fieldLink RX7 7 "FoleyMixerModel" "s" "[I") (List.mem_of_getElem? (i := 1) rfl)) rfl rfl dX7_soundsAt_18 ?_
  refine lv_iload hx hb dX7_soundsAt_21 (lv_at hl 0 rfl) ?_
  refine lv_iconst (v := nI 0) hx hb dX7_soundsAt_23 (by decide) ?_
  refine lv_iadd hx hb dX7_soundsAt_24 ?_
  refine q_top (y := nI ((37 + 4 * i) + 0)) (nI_add _ _) ?_
  refine q_iald hx hb hG hW hm1 (by omega) (by omega) dX7_soundsAt_25 ?_
  refine lv_aload_n hx hb dX7_soundsAt_26 rfl (lv_at hl 1 rfl) ?_
  refine q_get hx hb hts hinX7 hown hG hW hm0 rfl 0 (by decide) (hts (.fieldLink RX7 7 "FoleyMixerModel" "s" "[I") (List.mem_of_getElem? (i := 1) rfl)) rfl rfl dX7_soundsAt_27 ?_
  refine lv_iload hx hb dX7_soundsAt_30 (lv_at hl 0 rfl) ?_
  refine lv_iconst (v := nI 1) hx hb dX7_soundsAt_32 (by decide) ?_
  refine lv_iadd hx hb dX7_soundsAt_33 ?_
  refine q_top (y := nI ((37 + 4 * i) + 1)) (nI_add _ _) ?_
  refine q_iald hx hb hG hW hm1 (by omega) (by omega) dX7_soundsAt_34 ?_
  refine lv_iadd hx hb dX7_soundsAt_35 ?_
  refine q_top (y := nI ((F ((37 + 4 * i) + 0)) + (F ((37 + 4 * i) + 1)))) (nI_add _ _) ?_
  refine lv_iconst (v := nI 1) hx hb dX7_soundsAt_36 (by decide) ?_
  refine lv_isub hx hb dX7_soundsAt_37 ?_
  refine q_R1 (va_runS (As := [.int (nI t), .int (nI (F ((37 + 4 * i) + 0))), .int ((nI ((F ((37 + 4 * i) + 0)) + (F ((37 + 4 * i) + 1)))) - (nI (1)))]) (rest := []) ⟨hx, hb, hml, hown, hts⟩ (c_X7_in l (nI (t)) (nI (F ((37 + 4 * i) + 0))) ((nI ((F ((37 + 4 * i) + 0)) + (F ((37 + 4 * i) + 1)))) - (nI (1)))) (va_cwS 3 hts gX7_soundsAt_X7_in rfl rfl rfl (by decide +kernel) ⟨Nat.le_of_ble_eq_true rfl, Nat.le_of_ble_eq_true rfl⟩) (q_preS hG hW hS) rfl rfl hl.1 rfl (lv_room (Nat.le_of_ble_eq_true rfl)) dX7_soundsAt_38 ⟨Nat.le_of_ble_eq_true rfl, Nat.le_of_ble_eq_true rfl⟩) ?_
  exact q_rz hx hb hr hlocks dX7_soundsAt_41 (by simp only [Nat.add_zero, le_sub1 (x := nI t) (c := F (37 + 4 * i) + F (37 + 4 * i + 1)) (by omega), nI_leI (a := F (37 + 4 * i)) (b := t) (by omega) (by omega), nI_ltI (a := t) (b := F (37 + 4 * i) + F (37 + 4 * i + 1)) (by omega) (by omega)]) (q_bn _)

set_option maxHeartbeats 300000 in
set_option maxRecDepth 100000 in
/-- bits(set) -/
theorem c_X7_bits (l : Launch) {D : va_G} {dA : Nat → Nat} {b : Nat} {w : Wd} (n9 : Nat) (hn9 : n9 < 1024) : Met l yX7_bits wsX7_bits ({ frames := 0, cells := 0, slots := 0, locals := 0 } : Room) (PC D dA b w [.int (nI n9)]) (QR (some (.int (nI (pop n9))))) 0 0 Fno := by
  refine q_of (cc := cX7_bits) (maxL := 3) (ret := (some .int)) (by decide) rfl rfl ?_
  intro p e s m args below meth c ls hx hb hr hml hts hown hlocks hG hW hS hl
  have hown : s.vm.findClass RX7 = some m.cls := hown
  have hl : lv_has ls 3 [(0, .int (nI n9))] := hl
  refine lv_iconst (v := nI 0) hx hb dX7_bits_0 (by decide) ?_
  refine lv_istore_n (lv' := [(1, .int (nI 0)), (0, .int (nI n9))]) hx hb dX7_bits_1 rfl hl (by decide) rfl (fun ls hl => ?_)
  refine lv_iload_n hx hb dX7_bits_2 rfl (lv_at hl 1 rfl) ?_
  refine lv_istore_n (lv' := [(2, .int (nI n9)), (1, .int (nI 0)), (0, .int (nI n9))]) hx hb dX7_bits_3 rfl hl (by decide) rfl (fun ls hl => ?_)
  have L4 : ∀ (n4 : Nat) (u v : Nat), v ≤ n9 → u + pop v = pop n9 → v < n4 → ∀ (x4_1 : Int32) (x4_2 : Int32), x4_1 = nI (u) → x4_2 = nI (v) → ∀ (ls : Array Slot), lv_has ls 3 [(0, .int (nI n9)), (1, .int x4_1), (2, .int x4_2)] → W p l e ({ frames := 0, cells := 0, slots := 0, locals := 0 } : Room) s m args below meth c s.heap [] 0 0 (MQ below (QR (some (.int (nI (pop n9))))) args s 0 0 Fno) (F0 m 4 ls []) := by
    intro n4
    induction n4 with
    | zero =>
      intro u v h0 h1 hn4 x4_1 x4_2 ex4_1 ex4_2 ls hl
      exact absurd hn4 (Nat.not_lt_zero _)
    | succ n4 ih4 =>
      intro u v h0 h1 hn4 x4_1 x4_2 ex4_1 ex4_2 ls hl
      subst ex4_1 ex4_2
      have hpd := pop_down v (by omega)
      refine lv_iload_n hx hb dX7_bits_4 rfl (lv_at hl 2 rfl) ?_
      refine lv_if_eq (tgt := 20) hx hb dX7_bits_5 (by decide) (fun c_5 => ?_) (fun c_5 => ?_)
      · skip
        have c_5 : v = 0 := (nI_eq0 (i := v) (by omega)).mp c_5
        refine lv_iload_n hx hb dX7_bits_20 rfl (lv_at hl 1 rfl) ?_
        exact q_ri hx hb hr hlocks dX7_bits_21 (by refine congrArg nI ?_; rw [c_5] at h1; exact h1)
      · skip
        have c_5 : ¬ (v = 0) := fun h__ => c_5 ((nI_eq0 (i := v) (by omega)).mpr h__)
        replace hpd := hpd c_5
        refine lv_iinc (v := nI (u + 1)) (lv' := [(1, .int (nI (u + 1))), (0, .int (nI n9)), (2, .int (nI v))]) hx hb dX7_bits_8 hl (k := 1) rfl (nI_add _ 1) (by decide) rfl (fun ls hl => ?_)
        refine lv_iload_n hx hb dX7_bits_11 rfl (lv_at hl 2 rfl) ?_
        refine lv_iload_n hx hb dX7_bits_12 rfl (lv_at hl 2 rfl) ?_
        refine lv_iconst (v := nI 1) hx hb dX7_bits_13 (by decide) ?_
        refine lv_isub hx hb dX7_bits_14 ?_
        refine q_top (y := nI (v - 1)) (nI_sub (by omega)) ?_
        refine lv_iand hx hb dX7_bits_15 ?_
        refine q_topv (v' := .int (nI (v &&& (v - 1)))) (by exact congrArg Value.int (nI_and _ _)) ?_
        refine lv_istore_n (lv' := [(2, .int (nI (v &&& (v - 1)))), (1, .int (nI (u + 1))), (0, .int (nI n9))]) hx hb dX7_bits_16 rfl hl (by decide) rfl (fun ls hl => ?_)
        refine lv_goto (tgt := 4) hx hb dX7_bits_17 (by decide) ?_
        exact ih4 (u + 1) (v &&& (v - 1)) (by omega) (by omega) (by omega) _ _ (by first | rfl | (congr 1; omega)) (by first | rfl | (congr 1; omega)) _ (lv_sub hl [2, 1, 0] rfl)
  exact L4 (n9 + 1) 0 n9 (by omega) (by omega) (Nat.lt_succ_self _) _ _ (by first | rfl | (congr 1; omega)) (by first | rfl | (congr 1; omega)) _ (lv_sub hl [2, 1, 0] rfl)

