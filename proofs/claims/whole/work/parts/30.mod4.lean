set_option maxHeartbeats 300000 in
set_option maxRecDepth 100000 in
/-- allMasked -/
theorem c_X7_allMasked (l : Launch) {D : va_G} {dA : Nat → Nat} {b : Nat} {w : Wd} {sv nc th pl lt dn : Int32} (hm0 : w 36 = some (modO b sv nc th pl lt dn)) {F : Nat → Nat} (hm1 : w 37 = some (eN dA 85 F)) {P : Pl} (hRp : rep F P) (hP : okP P) (hm43 : w 43 = some (eN dA 120 (mmk P))) : Met l yX7_allMasked wsX7_allMasked ({ frames := 1, cells := 0, slots := 0, locals := 22 } : Room) (PC D dA b w [.ref (b + 36)]) (QR (some (.int (nI (ams P))))) 0 0 Fno := by
  refine q_of (cc := cX7_allMasked) (maxL := 3) (ret := (some .int)) (by decide) rfl rfl ?_
  intro p e s m args below meth c ls hx hb hr hml hts hown hlocks hG hW hS hl
  have hown : s.vm.findClass RX7 = some m.cls := hown
  have hinX7 : ∀ w ∈ u_ws RX7 TX7 14, w ∈ wsX7_allMasked := fun w h => (goodIn_r (big := wsX7_allMasked) (u_ws RX7 TX7 14) [6, 7, 8, 9, 10, 11, 12, 13, 14, 15, 16, 17, 18, 19] (by decide +kernel) (by decide +kernel) w h).1
  have hl : lv_has ls 3 [(0, .ref (b + 36))] := hl
  obtain ⟨hPw, hPn, hPW, hPN, hPS⟩ := id hP
  have hr5 := hRp.2.1
  have hr6 := hRp.2.2.1
  refine lv_iconst (v := nI 0) hx hb dX7_allMasked_0 (by decide) ?_
  refine lv_istore_n (lv' := [(1, .int (nI 0)), (0, .ref (b + 36))]) hx hb dX7_allMasked_1 rfl hl (by decide) rfl (fun ls hl => ?_)
  refine lv_iconst (v := nI 0) hx hb dX7_allMasked_2 (by decide) ?_
  refine lv_istore_n (lv' := [(2, .int (nI 0)), (1, .int (nI 0)), (0, .ref (b + 36))]) hx hb dX7_allMasked_3 rfl hl (by decide) rfl (fun ls hl => ?_)
  have L4 : ∀ (n4 : Nat) (j : Nat), j ≤ 120 → 120 - j < n4 → ∀ (x4_1 : Int32) (x4_2 : Int32), x4_1 = nI (sm (fun t => pop (mmk P t)) j) → x4_2 = nI (j) → ∀ (ls : Array Slot), lv_has ls 3 [(0, .ref (b + 36)), (1, .int x4_1), (2, .int x4_2)] → W p l e ({ frames := 1, cells := 0, slots := 0, locals := 22 } : Room) s m args below meth c s.heap [] 0 0 (MQ below (QR (some (.int (nI (ams P))))) args s 0 0 Fno) (F0 m 4 ls []) := by
    intro n4
    induction n4 with
    | zero =>
      intro j hj0 hn4 x4_1 x4_2 ex4_1 ex4_2 ls hl
      exact absurd hn4 (Nat.not_lt_zero _)
    | succ n4 ih4 =>
      intro j hj0 hn4 x4_1 x4_2 ex4_1 ex4_2 ls hl
      subst ex4_1 ex4_2
      refine lv_iload_n hx hb dX7_allMasked_4 rfl (lv_at hl 2 rfl) ?_
      refine lv_bipush (v := nI 120) hx hb dX7_allMasked_5 (by decide) ?_
      refine lv_icmp_ge (tgt := 28) hx hb dX7_allMasked_7 (by decide) (fun c_7 => ?_) (fun c_7 => ?_)
      · skip
        have c_7 : 120 ≤ j := (nI_leI (a := 120) (b := j) (by omega) (by omega)).mp c_7
        refine lv_iload_n hx hb dX7_allMasked_28 rfl (lv_at hl 1 rfl) ?_
        exact q_ri hx hb hr hlocks dX7_allMasked_29 (by rw [show j = 120 by omega]; rfl)
      · skip
        have c_7 : ¬ (120 ≤ j) := fun h__ => c_7 ((nI_leI (a := 120) (b := j) (by omega) (by omega)).mpr h__)
        refine lv_iload_n hx hb dX7_allMasked_10 rfl (lv_at hl 1 rfl) ?_
        refine lv_aload_n hx hb dX7_allMasked_11 rfl (lv_at hl 0 rfl) ?_
        refine q_get hx hb hts hinX7 hown hG hW hm0 rfl 9 (by decide) (hts (.fieldLink RX7 29 "FoleyMixerModel" "masked" "[I") (List.mem_of_getElem? (i := 1) rfl)) rfl rfl dX7_allMasked_12 ?_
        refine lv_iload_n hx hb dX7_allMasked_15 rfl (lv_at hl 2 rfl) ?_
        refine q_iald hx hb hG hW hm43 (by omega) (by omega) dX7_allMasked_16 ?_
        refine q_R1 (va_runS (As := [.int (nI ((mmk P) j))]) (rest := [.int (nI (sm (fun t => pop (mmk P t)) j))]) ⟨hx, hb, hml, hown, hts⟩ (c_X7_bits l ((mmk P) j) (by exact mmk_lt hP j)) (va_cwS 1 hts gX7_allMasked_X7_bits rfl rfl rfl (by decide +kernel) ⟨Nat.le_of_ble_eq_true rfl, Nat.le_of_ble_eq_true rfl⟩) (q_preS hG hW hS) rfl rfl hl.1 rfl (lv_room (Nat.le_of_ble_eq_true rfl)) dX7_allMasked_17 ⟨Nat.le_of_ble_eq_true rfl, Nat.le_of_ble_eq_true rfl⟩) ?_
        refine lv_iadd hx hb dX7_allMasked_20 ?_
        refine q_top (y := nI ((sm (fun t => pop (mmk P t)) j) + (pop ((mmk P) j)))) (nI_add _ _) ?_
        refine lv_istore_n (lv' := [(1, .int (nI ((sm (fun t => pop (mmk P t)) j) + (pop ((mmk P) j))))), (0, .ref (b + 36)), (2, .int (nI j))]) hx hb dX7_allMasked_21 rfl hl (by decide) rfl (fun ls hl => ?_)
        refine lv_iinc (v := nI (j + 1)) (lv' := [(2, .int (nI (j + 1))), (1, .int (nI ((sm (fun t => pop (mmk P t)) j) + (pop ((mmk P) j))))), (0, .ref (b + 36))]) hx hb dX7_allMasked_22 hl (k := 2) rfl (nI_add _ 1) (by decide) rfl (fun ls hl => ?_)
        refine lv_goto (tgt := 4) hx hb dX7_allMasked_25 (by decide) ?_
        exact ih4 (j + 1) (by omega) (by omega) _ _ (by refine congrArg nI ?_; rw [sm]) (by first | rfl | (congr 1; omega)) _ (lv_sub hl [2, 1, 0] rfl)
  exact L4 ((120 - 0) + 1) 0 (by omega) (Nat.lt_succ_self _) _ _ (by rfl) (by first | rfl | (congr 1; omega)) _ (lv_sub hl [2, 1, 0] rfl)

set_option maxHeartbeats 300000 in
set_option maxRecDepth 100000 in
/-- maskedOf -/
theorem c_X7_maskedOf (l : Launch) {D : va_G} {dA : Nat → Nat} {b : Nat} {w : Wd} {sv nc th pl lt dn : Int32} (hm0 : w 36 = some (modO b sv nc th pl lt dn)) {F : Nat → Nat} (hm1 : w 37 = some (eN dA 85 F)) {P : Pl} (hRp : rep F P) (hP : okP P) (hm43 : w 43 = some (eN dA 120 (mmk P))) (i : Nat) (hi : i < 31) : Met l yX7_maskedOf wsX7_maskedOf ({ frames := 1, cells := 0, slots := 0, locals := 21 } : Room) (PC D dA b w [.ref (b + 36), .int (nI i)]) (QR (some (.int (nI (mse P i))))) 0 0 Fno := by
  refine q_of (cc := cX7_maskedOf) (maxL := 4) (ret := (some .int)) (by decide) rfl rfl ?_
  intro p e s m args below meth c ls hx hb hr hml hts hown hlocks hG hW hS hl
  have hown : s.vm.findClass RX7 = some m.cls := hown
  have hinX7 : ∀ w ∈ u_ws RX7 TX7 14, w ∈ wsX7_maskedOf := fun w h => (goodIn_r (big := wsX7_maskedOf) (u_ws RX7 TX7 14) [6, 7, 8, 9, 10, 11, 12, 13, 14, 15, 16, 17, 18, 19] (by decide +kernel) (by decide +kernel) w h).1
  have hl : lv_has ls 4 [(0, .ref (b + 36)), (1, .int (nI i))] := hl
  obtain ⟨hPw, hPn, hPW, hPN, hPS⟩ := id hP
  have hr5 := hRp.2.1
  have hr6 := hRp.2.2.1
  refine lv_iconst (v := nI 0) hx hb dX7_maskedOf_0 (by decide) ?_
  refine lv_istore_n (lv' := [(2, .int (nI 0)), (0, .ref (b + 36)), (1, .int (nI i))]) hx hb dX7_maskedOf_1 rfl hl (by decide) rfl (fun ls hl => ?_)
  refine lv_iconst (v := nI 0) hx hb dX7_maskedOf_2 (by decide) ?_
  refine lv_istore_n (lv' := [(3, .int (nI 0)), (2, .int (nI 0)), (0, .ref (b + 36)), (1, .int (nI i))]) hx hb dX7_maskedOf_3 rfl hl (by decide) rfl (fun ls hl => ?_)
  have L4 : ∀ (n4 : Nat) (j : Nat), j ≤ 120 → 120 - j < n4 → ∀ (x4_2 : Int32) (x4_3 : Int32), x4_2 = nI (ct (fun t => mb P i t) j) → x4_3 = nI (j) → ∀ (ls : Array Slot), lv_has ls 4 [(0, .ref (b + 36)), (1, .int (nI i)), (2, .int x4_2), (3, .int x4_3)] → W p l e ({ frames := 1, cells := 0, slots := 0, locals := 21 } : Room) s m args below meth c s.heap [] 0 0 (MQ below (QR (some (.int (nI (mse P i))))) args s 0 0 Fno) (F0 m 4 ls []) := by
    intro n4
    induction n4 with
    | zero =>
      intro j hj0 hn4 x4_2 x4_3 ex4_2 ex4_3 ls hl
      exact absurd hn4 (Nat.not_lt_zero _)
    | succ n4 ih4 =>
      intro j hj0 hn4 x4_2 x4_3 ex4_2 ex4_3 ls hl
      subst ex4_2 ex4_3
      have hmm := mmk_lt hP j
      refine lv_iload_n hx hb dX7_maskedOf_4 rfl (lv_at hl 3 rfl) ?_
      refine lv_bipush (v := nI 120) hx hb dX7_maskedOf_5 (by decide) ?_
      refine lv_icmp_ge (tgt := 37) hx hb dX7_maskedOf_7 (by decide) (fun c_7 => ?_) (fun c_7 => ?_)
      · skip
        have c_7 : 120 ≤ j := (nI_leI (a := 120) (b := j) (by omega) (by omega)).mp c_7
        refine lv_iload_n hx hb dX7_maskedOf_37 rfl (lv_at hl 2 rfl) ?_
        exact q_ri hx hb hr hlocks dX7_maskedOf_38 (by rw [show j = 120 by omega]; rfl)
      · skip
        have c_7 : ¬ (120 ≤ j) := fun h__ => c_7 ((nI_leI (a := 120) (b := j) (by omega) (by omega)).mpr h__)
        refine lv_iload_n hx hb dX7_maskedOf_10 rfl (lv_at hl 2 rfl) ?_
        refine lv_aload_n hx hb dX7_maskedOf_11 rfl (lv_at hl 0 rfl) ?_
        refine q_get hx hb hts hinX7 hown hG hW hm0 rfl 9 (by decide) (hts (.fieldLink RX7 29 "FoleyMixerModel" "masked" "[I") (List.mem_of_getElem? (i := 1) rfl)) rfl rfl dX7_maskedOf_12 ?_
        refine lv_iload_n hx hb dX7_maskedOf_15 rfl (lv_at hl 3 rfl) ?_
        refine q_iald hx hb hG hW hm43 (by omega) (by omega) dX7_maskedOf_16 ?_
        refine lv_iload_n hx hb dX7_maskedOf_17 rfl (lv_at hl 1 rfl) ?_
        refine q_R1 (va_runS (As := [.int (nI ((mmk P) j)), .int (nI i)]) (rest := [.int (nI (ct (fun t => mb P i t) j))]) ⟨hx, hb, hml, hown, hts⟩ (c_X7_has l ((mmk P) j) (i) (by omega) (by omega)) (va_cwS 2 hts gX7_maskedOf_X7_has rfl rfl rfl (by decide +kernel) ⟨Nat.le_of_ble_eq_true rfl, Nat.le_of_ble_eq_true rfl⟩) (q_preS hG hW hS) rfl rfl hl.1 rfl (lv_room (Nat.le_of_ble_eq_true rfl)) dX7_maskedOf_18 ⟨Nat.le_of_ble_eq_true rfl, Nat.le_of_ble_eq_true rfl⟩) ?_
        refine lv_if_eq (tgt := 28) hx hb dX7_maskedOf_21 (by decide) (fun c_21 => ?_) (fun c_21 => ?_)
        · skip
          have c_21 : ¬ (((mmk P) j).testBit i = true) := pI_eq0.mp c_21
          refine lv_iconst (v := nI 0) hx hb dX7_maskedOf_28 (by decide) ?_
          refine lv_iadd hx hb dX7_maskedOf_29 ?_
          refine q_top (y := nI ((ct (fun t => mb P i t) j) + 0)) (nI_add _ _) ?_
          refine lv_istore_n (lv' := [(2, .int (nI ((ct (fun t => mb P i t) j) + 0))), (0, .ref (b + 36)), (1, .int (nI i)), (3, .int (nI j))]) hx hb dX7_maskedOf_30 rfl hl (by decide) rfl (fun ls hl => ?_)
          refine lv_iinc (v := nI (j + 1)) (lv' := [(3, .int (nI (j + 1))), (2, .int (nI ((ct (fun t => mb P i t) j) + 0))), (0, .ref (b + 36)), (1, .int (nI i))]) hx hb dX7_maskedOf_31 hl (k := 3) rfl (nI_add _ 1) (by decide) rfl (fun ls hl => ?_)
          refine lv_goto (tgt := 4) hx hb dX7_maskedOf_34 (by decide) ?_
          exact ih4 (j + 1) (by omega) (by omega) _ _ (by refine congrArg nI ?_; rw [ct]; first | (rw [if_pos c_21]; done) | (rw [if_neg c_21]; done) | (rw [if_neg c_21]; rfl)) (by first | rfl | (congr 1; omega)) _ (lv_sub hl [2, 3, 1, 0] rfl)
        · skip
          have c_21 : ((mmk P) j).testBit i = true := Decidable.byContradiction (fun h__ => c_21 (pI_eq0.mpr h__))
          refine lv_iconst (v := nI 1) hx hb dX7_maskedOf_24 (by decide) ?_
          refine lv_goto (tgt := 29) hx hb dX7_maskedOf_25 (by decide) ?_
          refine lv_iadd hx hb dX7_maskedOf_29 ?_
          refine q_top (y := nI ((ct (fun t => mb P i t) j) + 1)) (nI_add _ _) ?_
          refine lv_istore_n (lv' := [(2, .int (nI ((ct (fun t => mb P i t) j) + 1))), (0, .ref (b + 36)), (1, .int (nI i)), (3, .int (nI j))]) hx hb dX7_maskedOf_30 rfl hl (by decide) rfl (fun ls hl => ?_)
          refine lv_iinc (v := nI (j + 1)) (lv' := [(3, .int (nI (j + 1))), (2, .int (nI ((ct (fun t => mb P i t) j) + 1))), (0, .ref (b + 36)), (1, .int (nI i))]) hx hb dX7_maskedOf_31 hl (k := 3) rfl (nI_add _ 1) (by decide) rfl (fun ls hl => ?_)
          refine lv_goto (tgt := 4) hx hb dX7_maskedOf_34 (by decide) ?_
          exact ih4 (j + 1) (by omega) (by omega) _ _ (by refine congrArg nI ?_; rw [ct]; first | (rw [if_pos c_21]; done) | (rw [if_neg c_21]; done) | (rw [if_neg c_21]; rfl)) (by first | rfl | (congr 1; omega)) _ (lv_sub hl [2, 3, 1, 0] rfl)
  exact L4 ((120 - 0) + 1) 0 (by omega) (Nat.lt_succ_self _) _ _ (by rfl) (by first | rfl | (congr 1; omega)) _ (lv_sub hl [2, 3, 1, 0] rfl)

set_option maxHeartbeats 300000 in
set_option maxRecDepth 100000 in
/-- understood -/
theorem c_X7_understood (l : Launch) {D : va_G} {dA : Nat → Nat} {b : Nat} {w : Wd} {sv nc th pl lt dn : Int32} (hm0 : w 36 = some (modO b sv nc th pl lt dn)) {F : Nat → Nat} (hm1 : w 37 = some (eN dA 85 F)) {P : Pl} (hRp : rep F P) (hP : okP P) (hm43 : w 43 = some (eN dA 120 (mmk P))) : Met l yX7_understood wsX7_understood ({ frames := 2, cells := 0, slots := 0, locals := 44 } : Room) (PC D dA b w [.ref (b + 36)]) (QR (some (.int (nI (und P))))) 0 0 Fno := by
  refine q_of (cc := cX7_understood) (maxL := 3) (ret := (some .int)) (by decide) rfl rfl ?_
  intro p e s m args below meth c ls hx hb hr hml hts hown hlocks hG hW hS hl
  have hown : s.vm.findClass RX7 = some m.cls := hown
  have hinX7 : ∀ w ∈ u_ws RX7 TX7 14, w ∈ wsX7_understood := fun w h => (goodIn_r (big := wsX7_understood) (u_ws RX7 TX7 14) [11, 12, 13, 14, 15, 16, 17, 18, 19, 20, 21, 22, 23, 24] (by decide +kernel) (by decide +kernel) w h).1
  have hl : lv_has ls 3 [(0, .ref (b + 36))] := hl
  obtain ⟨hPw, hPn, hPW, hPN, hPS⟩ := id hP
  have hr5 := hRp.2.1
  have hr6 := hRp.2.2.1
  refine lv_iconst (v := nI 0) hx hb dX7_understood_0 (by decide) ?_
  refine lv_istore_n (lv' := [(1, .int (nI 0)), (0, .ref (b + 36))]) hx hb dX7_understood_1 rfl hl (by decide) rfl (fun ls hl => ?_)
  refine lv_iconst (v := nI 0) hx hb dX7_understood_2 (by decide) ?_
  refine lv_istore_n (lv' := [(2, .int (nI 0)), (1, .int (nI 0)), (0, .ref (b + 36))]) hx hb dX7_understood_3 rfl hl (by decide) rfl (fun ls hl => ?_)
  have L4 : ∀ (n4 : Nat) (j : Nat), j ≤ P.w → P.w - j < n4 → ∀ (x4_1 : Int32) (x4_2 : Int32), x4_1 = nI (mk (fun i => mse P i ≤ P.S 4) j) → x4_2 = nI (j) → ∀ (ls : Array Slot), lv_has ls 3 [(0, .ref (b + 36)), (1, .int x4_1), (2, .int x4_2)] → W p l e ({ frames := 2, cells := 0, slots := 0, locals := 44 } : Room) s m args below meth c s.heap [] 0 0 (MQ below (QR (some (.int (nI (und P))))) args s 0 0 Fno) (F0 m 4 ls []) := by
    intro n4
    induction n4 with
    | zero =>
      intro j hj0 hn4 x4_1 x4_2 ex4_1 ex4_2 ls hl
      exact absurd hn4 (Nat.not_lt_zero _)
    | succ n4 ih4 =>
      intro j hj0 hn4 x4_1 x4_2 ex4_1 ex4_2 ls hl
      subst ex4_1 ex4_2
      refine lv_iload_n hx hb dX7_understood_4 rfl (lv_at hl 2 rfl) ?_
      refine lv_aload_n hx hb dX7_understood_5 rfl (lv_at hl 0 rfl) ?_
      refine q_get hx hb hts hinX7 hown hG hW hm0 rfl 0 (by decide) (hts (.fieldLink RX7 7 "FoleyMixerModel" "s" "[I") (List.mem_of_getElem? (i := 1) rfl)) rfl rfl dX7_understood_6 ?_
      refine lv_iconst (v := nI 5) hx hb dX7_understood_9 (by decide) ?_
      refine q_iald hx hb hG hW hm1 (by omega) (by omega) dX7_understood_10 ?_
      refine q_top (y := nI (P.w)) (by exact congrArg nI hr5) ?_
      refine lv_icmp_ge (tgt := 44) hx hb dX7_understood_11 (by decide) (fun c_11 => ?_) (fun c_11 => ?_)
      · skip
        have c_11 : P.w ≤ j := (nI_leI (a := P.w) (b := j) (by omega) (by omega)).mp c_11
        refine lv_iload_n hx hb dX7_understood_44 rfl (lv_at hl 1 rfl) ?_
        exact q_ri hx hb hr hlocks dX7_understood_45 (by rw [show j = P.w by omega]; rfl)
      · skip
        have c_11 : ¬ (P.w ≤ j) := fun h__ => c_11 ((nI_leI (a := P.w) (b := j) (by omega) (by omega)).mpr h__)
        refine lv_iload_n hx hb dX7_understood_14 rfl (lv_at hl 1 rfl) ?_
        refine lv_aload_n hx hb dX7_understood_15 rfl (lv_at hl 0 rfl) ?_
        refine lv_iload_n hx hb dX7_understood_16 rfl (lv_at hl 2 rfl) ?_
        refine q_R1 (va_runV (As := [.int (nI j)]) (rest := [.int (nI (mk (fun i => mse P i ≤ P.S 4) j))]) ⟨hx, hb, hml, hown, hts⟩ (c_X7_maskedOf l hm0 hm1 hRp hP hm43 (j) (by omega)) (cwV 1 hts gX7_understood_X7_maskedOf rfl rfl rfl (by decide +kernel) ⟨Nat.le_of_ble_eq_true rfl, Nat.le_of_ble_eq_true rfl⟩) (q_preV hG hW hS hm0 rfl) rfl rfl hl.1 rfl (lv_room (Nat.le_of_ble_eq_true rfl)) dX7_understood_17 ⟨Nat.le_of_ble_eq_true rfl, Nat.le_of_ble_eq_true rfl⟩) ?_
        have q_17 := mse_le P j
        refine lv_aload_n hx hb dX7_understood_20 rfl (lv_at hl 0 rfl) ?_
        refine q_get hx hb hts hinX7 hown hG hW hm0 rfl 0 (by decide) (hts (.fieldLink RX7 7 "FoleyMixerModel" "s" "[I") (List.mem_of_getElem? (i := 1) rfl)) rfl rfl dX7_understood_21 ?_
        refine lv_iconst (v := nI 4) hx hb dX7_understood_24 (by decide) ?_
        refine q_iald hx hb hG hW hm1 (by omega) (by omega) dX7_understood_25 ?_
        refine q_top (y := nI (P.S 4)) (by exact congrArg nI (hRp.1 4 (by omega))) ?_
        have hS4 := hPS.2.2.2.2.2
        refine lv_icmp_gt (tgt := 35) hx hb dX7_understood_26 (by decide) (fun c_26 => ?_) (fun c_26 => ?_)
        · skip
          have c_26 : P.S 4 < mse P j := (nI_ltI (a := P.S 4) (b := mse P j) (by omega) (by omega)).mp c_26
          refine lv_iconst (v := nI 0) hx hb dX7_understood_35 (by decide) ?_
          refine lv_ior hx hb dX7_understood_36 ?_
          refine q_top (y := nI (mk (fun i => mse P i ≤ P.S 4) (j + 1))) (by rw [nI_or]; refine congrArg nI ?_; rw [mk]; first | (rw [if_pos (by omega)]; done) | (rw [if_neg (by omega)]; exact Nat.or_zero _)) ?_
          refine lv_istore_n (lv' := [(1, .int (nI (mk (fun i => mse P i ≤ P.S 4) (j + 1)))), (0, .ref (b + 36)), (2, .int (nI j))]) hx hb dX7_understood_37 rfl hl (by decide) rfl (fun ls hl => ?_)
          refine lv_iinc (v := nI (j + 1)) (lv' := [(2, .int (nI (j + 1))), (1, .int (nI (mk (fun i => mse P i ≤ P.S 4) (j + 1)))), (0, .ref (b + 36))]) hx hb dX7_understood_38 hl (k := 2) rfl (nI_add _ 1) (by decide) rfl (fun ls hl => ?_)
          refine lv_goto (tgt := 4) hx hb dX7_understood_41 (by decide) ?_
          exact ih4 (j + 1) (by omega) (by omega) _ _ (by rfl) (by first | rfl | (congr 1; omega)) _ (lv_sub hl [2, 1, 0] rfl)
        · skip
          have c_26 : ¬ (P.S 4 < mse P j) := fun h__ => c_26 ((nI_ltI (a := P.S 4) (b := mse P j) (by omega) (by omega)).mpr h__)
          refine lv_iconst (v := nI 1) hx hb dX7_understood_29 (by decide) ?_
          refine lv_iload_n hx hb dX7_understood_30 rfl (lv_at hl 2 rfl) ?_
          refine lv_ishl hx hb dX7_understood_31 ?_
          refine q_top (y := nI (2 ^ j)) (by exact nI_shl1 (by omega)) ?_
          refine lv_goto (tgt := 36) hx hb dX7_understood_32 (by decide) ?_
          refine lv_ior hx hb dX7_understood_36 ?_
          refine q_top (y := nI (mk (fun i => mse P i ≤ P.S 4) (j + 1))) (by rw [nI_or]; refine congrArg nI ?_; rw [mk]; first | (rw [if_pos (by omega)]; done) | (rw [if_neg (by omega)]; exact Nat.or_zero _)) ?_
          refine lv_istore_n (lv' := [(1, .int (nI (mk (fun i => mse P i ≤ P.S 4) (j + 1)))), (0, .ref (b + 36)), (2, .int (nI j))]) hx hb dX7_understood_37 rfl hl (by decide) rfl (fun ls hl => ?_)
          refine lv_iinc (v := nI (j + 1)) (lv' := [(2, .int (nI (j + 1))), (1, .int (nI (mk (fun i => mse P i ≤ P.S 4) (j + 1)))), (0, .ref (b + 36))]) hx hb dX7_understood_38 hl (k := 2) rfl (nI_add _ 1) (by decide) rfl (fun ls hl => ?_)
          refine lv_goto (tgt := 4) hx hb dX7_understood_41 (by decide) ?_
          exact ih4 (j + 1) (by omega) (by omega) _ _ (by rfl) (by first | rfl | (congr 1; omega)) _ (lv_sub hl [2, 1, 0] rfl)
  exact L4 ((P.w - 0) + 1) 0 (by omega) (Nat.lt_succ_self _) _ _ (by rfl) (by first | rfl | (congr 1; omega)) _ (lv_sub hl [2, 1, 0] rfl)

set_option maxHeartbeats 300000 in
set_option maxRecDepth 100000 in
/-- isSilent -/
theorem c_X7_isSilent (l : Launch) {D : va_G} {dA : Nat → Nat} {b : Nat} {w : Wd} {sv nc th pl lt dn : Int32} (hm0 : w 36 = some (modO b sv nc th pl lt dn)) {F : Nat → Nat} (hm1 : w 37 = some (eN dA 85 F)) {P : Pl} (hRp : rep F P) (hP : okP P) (t : Nat) (ht : t < 2 ^ 31) : Met l yX7_isSilent wsX7_isSilent ({ frames := 3, cells := 0, slots := 0, locals := 69 } : Room) (PC D dA b w [.ref (b + 36), .int (nI t)]) (QR (some (.int (if sil P t then 1 else 0)))) 0 0 Fno := by
  refine q_of (cc := cX7_isSilent) (maxL := 2) (ret := (some .boolean)) (by decide) rfl rfl ?_
  intro p e s m args below meth c ls hx hb hr hml hts hown hlocks hG hW hS hl
  have hown : s.vm.findClass RX7 = some m.cls := hown
  have hl : lv_has ls 2 [(0, .ref (b + 36)), (1, .int (nI t))] := hl
  obtain ⟨hPw, hPn, hPW, hPN, hPS⟩ := id hP
  have hr5 := hRp.2.1
  have hr6 := hRp.2.2.1
  have hw1 := wmk_lt (V := P.W) (n := P.w) (by omega) t
  have hw2 := wmk_lt (V := P.N) hPn t
  refine lv_aload_n hx hb dX7_isSilent_0 rfl (lv_at hl 0 rfl) ?_
  refine lv_iload_n hx hb dX7_isSilent_1 rfl (lv_at hl 1 rfl) ?_
  refine q_R1 (va_runV (As := [.int (nI t)]) (rest := []) ⟨hx, hb, hml, hown, hts⟩ (c_X7_wordsAt l hm0 hm1 hRp hP (t) (by omega)) (cwV 1 hts gX7_isSilent_X7_wordsAt rfl rfl rfl (by decide +kernel) ⟨Nat.le_of_ble_eq_true rfl, Nat.le_of_ble_eq_true rfl⟩) (q_preV hG hW hS hm0 rfl) rfl rfl hl.1 rfl (lv_room (Nat.le_of_ble_eq_true rfl)) dX7_isSilent_2 ⟨Nat.le_of_ble_eq_true rfl, Nat.le_of_ble_eq_true rfl⟩) ?_
  refine lv_if_ne (tgt := 20) hx hb dX7_isSilent_5 (by decide) (fun c_5 => ?_) (fun c_5 => ?_)
  · skip
    have c_5 : ¬ ((wmk P.W P.w t) = 0) := fun h__ => c_5 ((nI_eq0 (i := wmk P.W P.w t) (by omega)).mpr h__)
    refine lv_iconst (v := nI 0) hx hb dX7_isSilent_20 (by decide) ?_
    exact q_rz hx hb hr hlocks dX7_isSilent_21 (by first | (rw [if_pos ⟨c_5, c_13⟩]; rfl) | (rw [if_neg (fun q9 => c_5 q9.1)]; rfl) | (rw [if_neg (fun q9 => c_13 q9.2)]; rfl)) (q_bn _)
  · skip
    have c_5 : (wmk P.W P.w t) = 0 := (nI_eq0 (i := wmk P.W P.w t) (by omega)).mp c_5
    refine lv_aload_n hx hb dX7_isSilent_8 rfl (lv_at hl 0 rfl) ?_
    refine lv_iload_n hx hb dX7_isSilent_9 rfl (lv_at hl 1 rfl) ?_
    refine q_R1 (va_runV (As := [.int (nI t)]) (rest := []) ⟨hx, hb, hml, hown, hts⟩ (c_X7_noisesAt l hm0 hm1 hRp hP (t) (by omega)) (cwV 1 hts gX7_isSilent_X7_noisesAt rfl rfl rfl (by decide +kernel) ⟨Nat.le_of_ble_eq_true rfl, Nat.le_of_ble_eq_true rfl⟩) (q_preV hG hW hS hm0 rfl) rfl rfl hl.1 rfl (lv_room (Nat.le_of_ble_eq_true rfl)) dX7_isSilent_10 ⟨Nat.le_of_ble_eq_true rfl, Nat.le_of_ble_eq_true rfl⟩) ?_
    refine lv_if_ne (tgt := 20) hx hb dX7_isSilent_13 (by decide) (fun c_13 => ?_) (fun c_13 => ?_)
    · skip
      have c_13 : ¬ ((wmk P.N P.n t) = 0) := fun h__ => c_13 ((nI_eq0 (i := wmk P.N P.n t) (by omega)).mpr h__)
      refine lv_iconst (v := nI 0) hx hb dX7_isSilent_20 (by decide) ?_
      exact q_rz hx hb hr hlocks dX7_isSilent_21 (by first | (rw [if_pos ⟨c_5, c_13⟩]; rfl) | (rw [if_neg (fun q9 => c_5 q9.1)]; rfl) | (rw [if_neg (fun q9 => c_13 q9.2)]; rfl)) (q_bn _)
    · skip
      have c_13 : (wmk P.N P.n t) = 0 := (nI_eq0 (i := wmk P.N P.n t) (by omega)).mp c_13
      refine lv_iconst (v := nI 1) hx hb dX7_isSilent_16 (by decide) ?_
      refine lv_goto (tgt := 21) hx hb dX7_isSilent_17 (by decide) ?_
      exact q_rz hx hb hr hlocks dX7_isSilent_21 (by first | (rw [if_pos ⟨c_5, c_13⟩]; rfl) | (rw [if_neg (fun q9 => c_5 q9.1)]; rfl) | (rw [if_neg (fun q9 => c_13 q9.2)]; rfl)) (q_bn _)

set_option maxHeartbeats 300000 in
set_option maxRecDepth 100000 in
/-- strongest -/
theorem c_X7_strongest (l : Launch) {D : va_G} {dA : Nat → Nat} {b : Nat} {w : Wd} {sv nc th pl lt dn : Int32} (hm0 : w 36 = some (modO b sv nc th pl lt dn)) {F : Nat → Nat} (hm1 : w 37 = some (eN dA 85 F)) {P : Pl} (hRp : rep F P) (hP : okP P) (hm42 : w 42 = some (eN dA 120 (dk P))) (t : Nat) (ht : t < 120) : Met l yX7_strongest wsX7_strongest ({ frames := 3, cells := 0, slots := 0, locals := 69 } : Room) (PC D dA b w [.ref (b + 36), .int (nI t)]) (QR (some (.int (gfi P t P.n)))) 0 0 Fno := by
  refine q_of (cc := cX7_strongest) (maxL := 6) (ret := (some .int)) (by decide) rfl rfl ?_
  intro p e s m args below meth c ls hx hb hr hml hts hown hlocks hG hW hS hl
  have hown : s.vm.findClass RX7 = some m.cls := hown
  have hinX7 : ∀ w ∈ u_ws RX7 TX7 14, w ∈ wsX7_strongest := fun w h => (goodIn_r (big := wsX7_strongest) (u_ws RX7 TX7 14) [22, 23, 24, 25, 26, 27, 28, 29, 30, 31, 32, 33, 34, 35] (by decide +kernel) (by decide +kernel) w h).1
  have hl : lv_has ls 6 [(0, .ref (b + 36)), (1, .int (nI t))] := hl
  obtain ⟨hPw, hPn, hPW, hPN, hPS⟩ := id hP
  have hr5 := hRp.2.1
  have hr6 := hRp.2.2.1
  have hDK : dk P t = dk P t := rfl
  refine lv_iconst (v := (-1)) hx hb dX7_strongest_0 (by decide) ?_
  refine lv_istore_n (lv' := [(2, .int (-1)), (0, .ref (b + 36)), (1, .int (nI t))]) hx hb dX7_strongest_1 rfl hl (by decide) rfl (fun ls hl => ?_)
  refine lv_iconst (v := nI 0) hx hb dX7_strongest_2 (by decide) ?_
  refine lv_istore_n (lv' := [(3, .int (nI 0)), (2, .int (-1)), (0, .ref (b + 36)), (1, .int (nI t))]) hx hb dX7_strongest_3 rfl hl (by decide) rfl (fun ls hl => ?_)
  refine lv_iconst (v := nI 0) hx hb dX7_strongest_4 (by decide) ?_
  refine lv_istore (lv' := [(4, .int (nI 0)), (3, .int (nI 0)), (2, .int (-1)), (0, .ref (b + 36)), (1, .int (nI t))]) hx hb dX7_strongest_5 hl (by decide) rfl (fun ls hl => ?_)
  have L7 : ∀ (n7 : Nat) (j : Nat), j ≤ P.n → P.n - j < n7 → ∀ (x7_2 : Int32) (x7_3 : Int32) (x7_4 : Int32), x7_2 = gfi P t j → x7_3 = nI (gst P t j) → x7_4 = nI (j) → ∀ (ls : Array Slot), lv_has ls 6 [(0, .ref (b + 36)), (1, .int (nI t)), (2, .int x7_2), (3, .int x7_3), (4, .int x7_4)] → W p l e ({ frames := 3, cells := 0, slots := 0, locals := 69 } : Room) s m args below meth c s.heap [] 0 0 (MQ below (QR (some (.int (gfi P t P.n)))) args s 0 0 Fno) (F0 m 7 ls []) := by
    intro n7
    induction n7 with
    | zero =>
      intro j hj0 hn7 x7_2 x7_3 x7_4 ex7_2 ex7_3 ex7_4 ls hl
      exact absurd hn7 (Nat.not_lt_zero _)
    | succ n7 ih7 =>
      intro j hj0 hn7 x7_2 x7_3 x7_4 ex7_2 ex7_3 ex7_4 ls hl
      subst ex7_2 ex7_3 ex7_4
      have hgs := gst_le hPN t j hj0
      refine lv_iload hx hb dX7_strongest_7 (lv_at hl 4 rfl) ?_
      refine lv_aload_n hx hb dX7_strongest_9 rfl (lv_at hl 0 rfl) ?_
      refine q_get hx hb hts hinX7 hown hG hW hm0 rfl 0 (by decide) (hts (.fieldLink RX7 7 "FoleyMixerModel" "s" "[I") (List.mem_of_getElem? (i := 1) rfl)) rfl rfl dX7_strongest_10 ?_
      refine lv_bipush (v := nI 6) hx hb dX7_strongest_13 (by decide) ?_
      refine q_iald hx hb hG hW hm1 (by omega) (by omega) dX7_strongest_15 ?_
      refine q_top (y := nI (P.n)) (by exact congrArg nI hr6) ?_
      refine lv_icmp_ge (tgt := 60) hx hb dX7_strongest_16 (by decide) (fun c_16 => ?_) (fun c_16 => ?_)
      · skip
        have c_16 : P.n ≤ j := (nI_leI (a := P.n) (b := j) (by omega) (by omega)).mp c_16
        refine lv_iload_n hx hb dX7_strongest_60 rfl (lv_at hl 2 rfl) ?_
        exact q_ri hx hb hr hlocks dX7_strongest_61 (by rw [show P.n = j by omega])
      · skip
        have c_16 : ¬ (P.n ≤ j) := fun h__ => c_16 ((nI_leI (a := P.n) (b := j) (by omega) (by omega)).mpr h__)
        refine lv_aload_n hx hb dX7_strongest_19 rfl (lv_at hl 0 rfl) ?_
        refine lv_iload hx hb dX7_strongest_20 (lv_at hl 4 rfl) ?_
        refine lv_iload_n hx hb dX7_strongest_22 rfl (lv_at hl 1 rfl) ?_
        refine q_R1 (va_runV (As := [.int (nI j), .int (nI t)]) (rest := []) ⟨hx, hb, hml, hown, hts⟩ (c_X7_strength l hm0 hm1 hRp hP hm42 (j) (t) (by omega) (by omega) hDK) (cwV 2 hts gX7_strongest_X7_strength rfl rfl rfl (by decide +kernel) ⟨Nat.le_of_ble_eq_true rfl, Nat.le_of_ble_eq_true rfl⟩) (q_preV hG hW hS hm0 rfl) rfl rfl hl.1 rfl (lv_room (Nat.le_of_ble_eq_true rfl)) dX7_strongest_23 ⟨Nat.le_of_ble_eq_true rfl, Nat.le_of_ble_eq_true rfl⟩) ?_
        have hss := sst_b hP (show j < P.n by omega) t
        refine lv_istore (lv' := [(5, .int (nI (sst P j t))), (0, .ref (b + 36)), (1, .int (nI t)), (2, .int (gfi P t j)), (3, .int (nI (gst P t j))), (4, .int (nI j))]) hx hb dX7_strongest_26 hl (by decide) rfl (fun ls hl => ?_)
        refine lv_iload hx hb dX7_strongest_28 (lv_at hl 0 rfl) ?_
        refine lv_iload_n hx hb dX7_strongest_30 rfl (lv_at hl 4 rfl) ?_
        refine lv_icmp_le (tgt := 39) hx hb dX7_strongest_31 (by decide) (fun c_31 => ?_) (fun c_31 => ?_)
        · skip
          have c_31 : sst P j t ≤ gst P t j := (nI_leI (a := sst P j t) (b := gst P t j) (by omega) (by omega)).mp c_31
          refine lv_iload_n hx hb dX7_strongest_39 rfl (lv_at hl 3 rfl) ?_
          refine q_topv (v' := .int (gfi P t (j + 1))) (by refine congrArg Value.int ?_; rw [gfi_step]; first | (rw [if_pos (by omega)]; done) | (rw [if_neg (by omega)]; done)) ?_
          refine lv_istore_n (lv' := [(2, .int (gfi P t (j + 1))), (5, .int (nI (sst P j t))), (0, .ref (b + 36)), (1, .int (nI t)), (3, .int (nI (gst P t j))), (4, .int (nI j))]) hx hb dX7_strongest_40 rfl hl (by decide) rfl (fun ls hl => ?_)
          refine lv_iload hx hb dX7_strongest_41 (lv_at hl 1 rfl) ?_
          refine lv_iload_n hx hb dX7_strongest_43 rfl (lv_at hl 4 rfl) ?_
          refine lv_icmp_le (tgt := 52) hx hb dX7_strongest_44 (by decide) (fun c_44 => ?_) (fun c_44 => ?_)
          · skip
            have c_44 : sst P j t ≤ gst P t j := (nI_leI (a := sst P j t) (b := gst P t j) (by omega) (by omega)).mp c_44
            refine lv_iload_n hx hb dX7_strongest_52 rfl (lv_at hl 4 rfl) ?_
            refine q_top (y := nI (gst P t (j + 1))) (by refine congrArg nI ?_; rw [gst_step]; first | (rw [if_pos (by omega)]; done) | (rw [if_neg (by omega)]; done)) ?_
            refine lv_istore_n (lv' := [(3, .int (nI (gst P t (j + 1)))), (2, .int (gfi P t (j + 1))), (5, .int (nI (sst P j t))), (0, .ref (b + 36)), (1, .int (nI t)), (4, .int (nI j))]) hx hb dX7_strongest_53 rfl hl (by decide) rfl (fun ls hl => ?_)
            refine lv_iinc (v := nI (j + 1)) (lv' := [(4, .int (nI (j + 1))), (3, .int (nI (gst P t (j + 1)))), (2, .int (gfi P t (j + 1))), (5, .int (nI (sst P j t))), (0, .ref (b + 36)), (1, .int (nI t))]) hx hb dX7_strongest_54 hl (k := 5) rfl (nI_add _ 1) (by decide) rfl (fun ls hl => ?_)
            refine lv_goto (tgt := 7) hx hb dX7_strongest_57 (by decide) ?_
            exact ih7 (j + 1) (by omega) (by omega) _ _ _ (by rfl) (by rfl) (by first | rfl | (congr 1; omega)) _ (lv_sub hl [4, 5, 2, 1, 0] rfl)
          · skip
            have c_44 : ¬ (sst P j t ≤ gst P t j) := fun h__ => c_44 ((nI_leI (a := sst P j t) (b := gst P t j) (by omega) (by omega)).mpr h__)
            refine lv_iload hx hb dX7_strongest_47 (lv_at hl 1 rfl) ?_
            refine lv_goto (tgt := 53) hx hb dX7_strongest_49 (by decide) ?_
            refine q_top (y := nI (gst P t (j + 1))) (by refine congrArg nI ?_; rw [gst_step]; first | (rw [if_pos (by omega)]; done) | (rw [if_neg (by omega)]; done)) ?_
            refine lv_istore_n (lv' := [(3, .int (nI (gst P t (j + 1)))), (2, .int (gfi P t (j + 1))), (5, .int (nI (sst P j t))), (0, .ref (b + 36)), (1, .int (nI t)), (4, .int (nI j))]) hx hb dX7_strongest_53 rfl hl (by decide) rfl (fun ls hl => ?_)
            refine lv_iinc (v := nI (j + 1)) (lv' := [(4, .int (nI (j + 1))), (3, .int (nI (gst P t (j + 1)))), (2, .int (gfi P t (j + 1))), (5, .int (nI (sst P j t))), (0, .ref (b + 36)), (1, .int (nI t))]) hx hb dX7_strongest_54 hl (k := 5) rfl (nI_add _ 1) (by decide) rfl (fun ls hl => ?_)
            refine lv_goto (tgt := 7) hx hb dX7_strongest_57 (by decide) ?_
            exact ih7 (j + 1) (by omega) (by omega) _ _ _ (by rfl) (by rfl) (by first | rfl | (congr 1; omega)) _ (lv_sub hl [4, 5, 2, 1, 0] rfl)
        · skip
          have c_31 : ¬ (sst P j t ≤ gst P t j) := fun h__ => c_31 ((nI_leI (a := sst P j t) (b := gst P t j) (by omega) (by omega)).mpr h__)
          refine lv_iload hx hb dX7_strongest_34 (lv_at hl 5 rfl) ?_
          refine lv_goto (tgt := 40) hx hb dX7_strongest_36 (by decide) ?_
          refine q_topv (v' := .int (gfi P t (j + 1))) (by refine congrArg Value.int ?_; rw [gfi_step]; first | (rw [if_pos (by omega)]; done) | (rw [if_neg (by omega)]; done)) ?_
          refine lv_istore_n (lv' := [(2, .int (gfi P t (j + 1))), (5, .int (nI (sst P j t))), (0, .ref (b + 36)), (1, .int (nI t)), (3, .int (nI (gst P t j))), (4, .int (nI j))]) hx hb dX7_strongest_40 rfl hl (by decide) rfl (fun ls hl => ?_)
          refine lv_iload hx hb dX7_strongest_41 (lv_at hl 1 rfl) ?_
          refine lv_iload_n hx hb dX7_strongest_43 rfl (lv_at hl 4 rfl) ?_
          refine lv_icmp_le (tgt := 52) hx hb dX7_strongest_44 (by decide) (fun c_44 => ?_) (fun c_44 => ?_)
          · skip
            have c_44 : sst P j t ≤ gst P t j := (nI_leI (a := sst P j t) (b := gst P t j) (by omega) (by omega)).mp c_44
            refine lv_iload_n hx hb dX7_strongest_52 rfl (lv_at hl 4 rfl) ?_
            refine q_top (y := nI (gst P t (j + 1))) (by refine congrArg nI ?_; rw [gst_step]; first | (rw [if_pos (by omega)]; done) | (rw [if_neg (by omega)]; done)) ?_
            refine lv_istore_n (lv' := [(3, .int (nI (gst P t (j + 1)))), (2, .int (gfi P t (j + 1))), (5, .int (nI (sst P j t))), (0, .ref (b + 36)), (1, .int (nI t)), (4, .int (nI j))]) hx hb dX7_strongest_53 rfl hl (by decide) rfl (fun ls hl => ?_)
            refine lv_iinc (v := nI (j + 1)) (lv' := [(4, .int (nI (j + 1))), (3, .int (nI (gst P t (j + 1)))), (2, .int (gfi P t (j + 1))), (5, .int (nI (sst P j t))), (0, .ref (b + 36)), (1, .int (nI t))]) hx hb dX7_strongest_54 hl (k := 5) rfl (nI_add _ 1) (by decide) rfl (fun ls hl => ?_)
            refine lv_goto (tgt := 7) hx hb dX7_strongest_57 (by decide) ?_
            exact ih7 (j + 1) (by omega) (by omega) _ _ _ (by rfl) (by rfl) (by first | rfl | (congr 1; omega)) _ (lv_sub hl [4, 5, 2, 1, 0] rfl)
          · skip
            have c_44 : ¬ (sst P j t ≤ gst P t j) := fun h__ => c_44 ((nI_leI (a := sst P j t) (b := gst P t j) (by omega) (by omega)).mpr h__)
            refine lv_iload hx hb dX7_strongest_47 (lv_at hl 1 rfl) ?_
            refine lv_goto (tgt := 53) hx hb dX7_strongest_49 (by decide) ?_
            refine q_top (y := nI (gst P t (j + 1))) (by refine congrArg nI ?_; rw [gst_step]; first | (rw [if_pos (by omega)]; done) | (rw [if_neg (by omega)]; done)) ?_
            refine lv_istore_n (lv' := [(3, .int (nI (gst P t (j + 1)))), (2, .int (gfi P t (j + 1))), (5, .int (nI (sst P j t))), (0, .ref (b + 36)), (1, .int (nI t)), (4, .int (nI j))]) hx hb dX7_strongest_53 rfl hl (by decide) rfl (fun ls hl => ?_)
            refine lv_iinc (v := nI (j + 1)) (lv' := [(4, .int (nI (j + 1))), (3, .int (nI (gst P t (j + 1)))), (2, .int (gfi P t (j + 1))), (5, .int (nI (sst P j t))), (0, .ref (b + 36)), (1, .int (nI t))]) hx hb dX7_strongest_54 hl (k := 5) rfl (nI_add _ 1) (by decide) rfl (fun ls hl => ?_)
            refine lv_goto (tgt := 7) hx hb dX7_strongest_57 (by decide) ?_
            exact ih7 (j + 1) (by omega) (by omega) _ _ _ (by rfl) (by rfl) (by first | rfl | (congr 1; omega)) _ (lv_sub hl [4, 5, 2, 1, 0] rfl)
  exact L7 ((P.n - 0) + 1) 0 (by omega) (Nat.lt_succ_self _) _ _ _ (by first | rfl | (rw [gfi]; decide)) (by rfl) (by first | rfl | (congr 1; omega)) _ (lv_sub hl [3, 4, 2, 1, 0] rfl)

set_option maxHeartbeats 300000 in
set_option maxRecDepth 100000 in
/-- greatestCover -/
theorem c_X7_greatestCover (l : Launch) {D : va_G} {dA : Nat → Nat} {b : Nat} {w : Wd} {sv nc th pl lt dn : Int32} (hm0 : w 36 = some (modO b sv nc th pl lt dn)) {F : Nat → Nat} (hm1 : w 37 = some (eN dA 85 F)) {P : Pl} (hRp : rep F P) (hP : okP P) (hm42 : w 42 = some (eN dA 120 (dk P))) (i : Nat) (hi : i < P.w) : Met l yX7_greatestCover wsX7_greatestCover ({ frames := 5, cells := 0, slots := 0, locals := 117 } : Room) (PC D dA b w [.ref (b + 36), .int (nI i)]) (QR (some (.int (nI (gcv P i (P.W i 0) (P.W i 1)))))) 0 0 Fno := by
  refine q_of (cc := cX7_greatestCover) (maxL := 5) (ret := (some .int)) (by decide) rfl rfl ?_
  intro p e s m args below meth c ls hx hb hr hml hts hown hlocks hG hW hS hl
  have hown : s.vm.findClass RX7 = some m.cls := hown
  have hl : lv_has ls 5 [(0, .ref (b + 36)), (1, .int (nI i))] := hl
  obtain ⟨hPw, hPn, hPW, hPN, hPS⟩ := id hP
  have hr5 := hRp.2.1
  have hr6 := hRp.2.2.1
  have hWi := hPW i hi
  refine lv_iconst (v := nI 0) hx hb dX7_greatestCover_0 (by decide) ?_
  refine lv_istore_n (lv' := [(2, .int (nI 0)), (0, .ref (b + 36)), (1, .int (nI i))]) hx hb dX7_greatestCover_1 rfl hl (by decide) rfl (fun ls hl => ?_)
  refine lv_aload_n hx hb dX7_greatestCover_2 rfl (lv_at hl 1 rfl) ?_
  refine lv_iload_n hx hb dX7_greatestCover_3 rfl (lv_at hl 2 rfl) ?_
  refine lv_iconst (v := nI 0) hx hb dX7_greatestCover_4 (by decide) ?_
  refine q_R1 (va_runV (As := [.int (nI i), .int (nI 0)]) (rest := []) ⟨hx, hb, hml, hown, hts⟩ (c_ofW l hm0 hm1 hRp hP (i) (0) (by omega) (by omega)) (cwV 2 hts gX7_greatestCover_X7_ofWord rfl rfl rfl (by decide +kernel) ⟨Nat.le_of_ble_eq_true rfl, Nat.le_of_ble_eq_true rfl⟩) (q_preV hG hW hS hm0 rfl) rfl rfl hl.1 rfl (lv_room (Nat.le_of_ble_eq_true rfl)) dX7_greatestCover_5 ⟨Nat.le_of_ble_eq_true rfl, Nat.le_of_ble_eq_true rfl⟩) ?_
  refine lv_istore_n (lv' := [(3, .int (nI (P.W i 0))), (2, .int (nI 0)), (0, .ref (b + 36)), (1, .int (nI i))]) hx hb dX7_greatestCover_8 rfl hl (by decide) rfl (fun ls hl => ?_)
  have L9 : ∀ (n9 : Nat) (u : Nat), u ≤ P.W i 1 → P.W i 1 - u < n9 → ∀ (x9_2 : Int32) (x9_3 : Int32), x9_2 = nI (gcv P i (P.W i 0) u) → x9_3 = nI (P.W i 0 + u) → ∀ (ls : Array Slot), lv_has ls 5 [(0, .ref (b + 36)), (1, .int (nI i)), (2, .int x9_2), (3, .int x9_3)] → W p l e ({ frames := 5, cells := 0, slots := 0, locals := 117 } : Room) s m args below meth c s.heap [] 0 0 (MQ below (QR (some (.int (nI (gcv P i (P.W i 0) (P.W i 1)))))) args s 0 0 Fno) (F0 m 9 ls []) := by
    intro n9
    induction n9 with
    | zero =>
      intro u hu0 hn9 x9_2 x9_3 ex9_2 ex9_3 ls hl
      exact absurd hn9 (Nat.not_lt_zero _)
    | succ n9 ih9 =>
      intro u hu0 hn9 x9_2 x9_3 ex9_2 ex9_3 ls hl
      subst ex9_2 ex9_3
      have hgc := gcv_le hP i (P.W i 0) u
      have hcv := cov_le hP i (P.W i 0 + u)
      refine lv_iload_n hx hb dX7_greatestCover_9 rfl (lv_at hl 3 rfl) ?_
      refine lv_aload_n hx hb dX7_greatestCover_10 rfl (lv_at hl 0 rfl) ?_
      refine lv_iload_n hx hb dX7_greatestCover_11 rfl (lv_at hl 1 rfl) ?_
      refine lv_iconst (v := nI 0) hx hb dX7_greatestCover_12 (by decide) ?_
      refine q_R1 (va_runV (As := [.int (nI i), .int (nI 0)]) (rest := [.int (nI (P.W i 0 + u))]) ⟨hx, hb, hml, hown, hts⟩ (c_ofW l hm0 hm1 hRp hP (i) (0) (by omega) (by omega)) (cwV 2 hts gX7_greatestCover_X7_ofWord rfl rfl rfl (by decide +kernel) ⟨Nat.le_of_ble_eq_true rfl, Nat.le_of_ble_eq_true rfl⟩) (q_preV hG hW hS hm0 rfl) rfl rfl hl.1 rfl (lv_room (Nat.le_of_ble_eq_true rfl)) dX7_greatestCover_13 ⟨Nat.le_of_ble_eq_true rfl, Nat.le_of_ble_eq_true rfl⟩) ?_
      refine lv_aload_n hx hb dX7_greatestCover_16 rfl (lv_at hl 0 rfl) ?_
      refine lv_iload_n hx hb dX7_greatestCover_17 rfl (lv_at hl 1 rfl) ?_
      refine lv_iconst (v := nI 1) hx hb dX7_greatestCover_18 (by decide) ?_
      refine q_R1 (va_runV (As := [.int (nI i), .int (nI 1)]) (rest := [.int (nI (P.W i 0)), .int (nI (P.W i 0 + u))]) ⟨hx, hb, hml, hown, hts⟩ (c_ofW l hm0 hm1 hRp hP (i) (1) (by omega) (by omega)) (cwV 2 hts gX7_greatestCover_X7_ofWord rfl rfl rfl (by decide +kernel) ⟨Nat.le_of_ble_eq_true rfl, Nat.le_of_ble_eq_true rfl⟩) (q_preV hG hW hS hm0 rfl) rfl rfl hl.1 rfl (lv_room (Nat.le_of_ble_eq_true rfl)) dX7_greatestCover_19 ⟨Nat.le_of_ble_eq_true rfl, Nat.le_of_ble_eq_true rfl⟩) ?_
      refine lv_iadd hx hb dX7_greatestCover_22 ?_
      refine q_top (y := nI ((P.W i 0) + (P.W i 1))) (nI_add _ _) ?_
      refine lv_icmp_ge (tgt := 53) hx hb dX7_greatestCover_23 (by decide) (fun c_23 => ?_) (fun c_23 => ?_)
      · skip
        have c_23 : (P.W i 0) + (P.W i 1) ≤ P.W i 0 + u := (nI_leI (a := (P.W i 0) + (P.W i 1)) (b := P.W i 0 + u) (by omega) (by omega)).mp c_23
        refine lv_iload_n hx hb dX7_greatestCover_53 rfl (lv_at hl 2 rfl) ?_
        exact q_ri hx hb hr hlocks dX7_greatestCover_54 (by rw [show P.W i 1 = u by omega])
      · skip
        have c_23 : ¬ ((P.W i 0) + (P.W i 1) ≤ P.W i 0 + u) := fun h__ => c_23 ((nI_leI (a := (P.W i 0) + (P.W i 1)) (b := P.W i 0 + u) (by omega) (by omega)).mpr h__)
        refine lv_aload_n hx hb dX7_greatestCover_26 rfl (lv_at hl 0 rfl) ?_
        refine lv_iload_n hx hb dX7_greatestCover_27 rfl (lv_at hl 1 rfl) ?_
        refine lv_iload_n hx hb dX7_greatestCover_28 rfl (lv_at hl 3 rfl) ?_
        refine q_R1 (va_runV (As := [.int (nI i), .int (nI (P.W i 0 + u))]) (rest := []) ⟨hx, hb, hml, hown, hts⟩ (c_X7_cover l hm0 hm1 hRp hP hm42 (i) (P.W i 0 + u) (by omega) (by omega) rfl) (cwV 2 hts gX7_greatestCover_X7_cover rfl rfl rfl (by decide +kernel) ⟨Nat.le_of_ble_eq_true rfl, Nat.le_of_ble_eq_true rfl⟩) (q_preV hG hW hS hm0 rfl) rfl rfl hl.1 rfl (lv_room (Nat.le_of_ble_eq_true rfl)) dX7_greatestCover_29 ⟨Nat.le_of_ble_eq_true rfl, Nat.le_of_ble_eq_true rfl⟩) ?_
        refine lv_istore (lv' := [(4, .int (nI (cov P i (P.W i 0 + u)))), (0, .ref (b + 36)), (1, .int (nI i)), (2, .int (nI (gcv P i (P.W i 0) u))), (3, .int (nI (P.W i 0 + u)))]) hx hb dX7_greatestCover_32 hl (by decide) rfl (fun ls hl => ?_)
        refine lv_iload hx hb dX7_greatestCover_34 (lv_at hl 0 rfl) ?_
        refine lv_iload_n hx hb dX7_greatestCover_36 rfl (lv_at hl 3 rfl) ?_
        refine lv_icmp_le (tgt := 45) hx hb dX7_greatestCover_37 (by decide) (fun c_37 => ?_) (fun c_37 => ?_)
        · skip
          have c_37 : cov P i (P.W i 0 + u) ≤ gcv P i (P.W i 0) u := (nI_leI (a := cov P i (P.W i 0 + u)) (b := gcv P i (P.W i 0) u) (by omega) (by omega)).mp c_37
          refine lv_iload_n hx hb dX7_greatestCover_45 rfl (lv_at hl 3 rfl) ?_
          refine q_top (y := nI (gcv P i (P.W i 0) (u + 1))) (by refine congrArg nI ?_; rw [gcv]; omega) ?_
          refine lv_istore_n (lv' := [(2, .int (nI (gcv P i (P.W i 0) (u + 1)))), (4, .int (nI (cov P i (P.W i 0 + u)))), (0, .ref (b + 36)), (1, .int (nI i)), (3, .int (nI (P.W i 0 + u)))]) hx hb dX7_greatestCover_46 rfl hl (by decide) rfl (fun ls hl => ?_)
          refine lv_iinc (v := nI ((P.W i 0 + u) + 1)) (lv' := [(3, .int (nI ((P.W i 0 + u) + 1))), (2, .int (nI (gcv P i (P.W i 0) (u + 1)))), (4, .int (nI (cov P i (P.W i 0 + u)))), (0, .ref (b + 36)), (1, .int (nI i))]) hx hb dX7_greatestCover_47 hl (k := 4) rfl (nI_add _ 1) (by decide) rfl (fun ls hl => ?_)
          refine lv_goto (tgt := 9) hx hb dX7_greatestCover_50 (by decide) ?_
          exact ih9 (u + 1) (by omega) (by omega) _ _ (by rfl) (by first | rfl | (congr 1; omega)) _ (lv_sub hl [3, 4, 1, 0] rfl)
        · skip
          have c_37 : ¬ (cov P i (P.W i 0 + u) ≤ gcv P i (P.W i 0) u) := fun h__ => c_37 ((nI_leI (a := cov P i (P.W i 0 + u)) (b := gcv P i (P.W i 0) u) (by omega) (by omega)).mpr h__)
          refine lv_iload hx hb dX7_greatestCover_40 (lv_at hl 0 rfl) ?_
          refine lv_goto (tgt := 46) hx hb dX7_greatestCover_42 (by decide) ?_
          refine q_top (y := nI (gcv P i (P.W i 0) (u + 1))) (by refine congrArg nI ?_; rw [gcv]; omega) ?_
          refine lv_istore_n (lv' := [(2, .int (nI (gcv P i (P.W i 0) (u + 1)))), (4, .int (nI (cov P i (P.W i 0 + u)))), (0, .ref (b + 36)), (1, .int (nI i)), (3, .int (nI (P.W i 0 + u)))]) hx hb dX7_greatestCover_46 rfl hl (by decide) rfl (fun ls hl => ?_)
          refine lv_iinc (v := nI ((P.W i 0 + u) + 1)) (lv' := [(3, .int (nI ((P.W i 0 + u) + 1))), (2, .int (nI (gcv P i (P.W i 0) (u + 1)))), (4, .int (nI (cov P i (P.W i 0 + u)))), (0, .ref (b + 36)), (1, .int (nI i))]) hx hb dX7_greatestCover_47 hl (k := 4) rfl (nI_add _ 1) (by decide) rfl (fun ls hl => ?_)
          refine lv_goto (tgt := 9) hx hb dX7_greatestCover_50 (by decide) ?_
          exact ih9 (u + 1) (by omega) (by omega) _ _ (by rfl) (by first | rfl | (congr 1; omega)) _ (lv_sub hl [3, 4, 1, 0] rfl)
  exact L9 ((P.W i 1 - 0) + 1) 0 (by omega) (Nat.lt_succ_self _) _ _ (by rfl) (by first | rfl | (congr 1; omega)) _ (lv_sub hl [2, 3, 1, 0] rfl)

set_option maxHeartbeats 300000 in
set_option maxRecDepth 100000 in
/-- masksMost -/
theorem c_X7_masksMost (l : Launch) {D : va_G} {dA : Nat → Nat} {b : Nat} {w : Wd} {sv nc th pl lt dn : Int32} (hm0 : w 36 = some (modO b sv nc th pl lt dn)) {F : Nat → Nat} (hm1 : w 37 = some (eN dA 85 F)) {P : Pl} (hRp : rep F P) (hP : okP P) (hm42 : w 42 = some (eN dA 120 (dk P))) (hm43 : w 43 = some (eN dA 120 (mmk P))) : Met l yX7_masksMost wsX7_masksMost ({ frames := 4, cells := 0, slots := 0, locals := 94 } : Room) (PC D dA b w [.ref (b + 36)]) (QR (some (.int ((gmk P P.n).1)))) 0 0 Fno := by
  refine q_of (cc := cX7_masksMost) (maxL := 6) (ret := (some .int)) (by decide) rfl rfl ?_
  intro p e s m args below meth c ls hx hb hr hml hts hown hlocks hG hW hS hl
  have hown : s.vm.findClass RX7 = some m.cls := hown
  have hinX7 : ∀ w ∈ u_ws RX7 TX7 14, w ∈ wsX7_masksMost := fun w h => (goodIn_r (big := wsX7_masksMost) (u_ws RX7 TX7 14) [27, 28, 29, 30, 31, 32, 33, 34, 35, 36, 37, 38, 39, 40] (by decide +kernel) (by decide +kernel) w h).1
  have hl : lv_has ls 6 [(0, .ref (b + 36))] := hl
  obtain ⟨hPw, hPn, hPW, hPN, hPS⟩ := id hP
  have hr5 := hRp.2.1
  have hr6 := hRp.2.2.1
  refine lv_iconst (v := (-1)) hx hb dX7_masksMost_0 (by decide) ?_
  refine lv_istore_n (lv' := [(1, .int (-1)), (0, .ref (b + 36))]) hx hb dX7_masksMost_1 rfl hl (by decide) rfl (fun ls hl => ?_)
  refine lv_iconst (v := nI 0) hx hb dX7_masksMost_2 (by decide) ?_
  refine lv_istore_n (lv' := [(2, .int (nI 0)), (1, .int (-1)), (0, .ref (b + 36))]) hx hb dX7_masksMost_3 rfl hl (by decide) rfl (fun ls hl => ?_)
  refine lv_iconst (v := nI 0) hx hb dX7_masksMost_4 (by decide) ?_
  refine lv_istore_n (lv' := [(3, .int (nI 0)), (2, .int (nI 0)), (1, .int (-1)), (0, .ref (b + 36))]) hx hb dX7_masksMost_5 rfl hl (by decide) rfl (fun ls hl => ?_)
  have L6 : ∀ (n6 : Nat) (j : Nat), j ≤ P.n → P.n - j < n6 → ∀ (x6_1 : Int32) (x6_2 : Int32) (x6_3 : Int32), x6_1 = (gmk P j).1 → x6_2 = nI ((gmk P j).2) → x6_3 = nI (j) → ∀ (ls : Array Slot), lv_has ls 6 [(0, .ref (b + 36)), (1, .int x6_1), (2, .int x6_2), (3, .int x6_3)] → W p l e ({ frames := 4, cells := 0, slots := 0, locals := 94 } : Room) s m args below meth c s.heap [] 0 0 (MQ below (QR (some (.int ((gmk P P.n).1)))) args s 0 0 Fno) (F0 m 6 ls []) := by
    intro n6
    induction n6 with
    | zero =>
      intro j hj0 hn6 x6_1 x6_2 x6_3 ex6_1 ex6_2 ex6_3 ls hl
      exact absurd hn6 (Nat.not_lt_zero _)
    | succ n6 ih6 =>
      intro j hj0 hn6 x6_1 x6_2 x6_3 ex6_1 ex6_2 ex6_3 ls hl
      subst ex6_1 ex6_2 ex6_3
      have hgm := gmk_le P j
      refine lv_iload_n hx hb dX7_masksMost_6 rfl (lv_at hl 3 rfl) ?_
      refine lv_aload_n hx hb dX7_masksMost_7 rfl (lv_at hl 0 rfl) ?_
      refine q_get hx hb hts hinX7 hown hG hW hm0 rfl 0 (by decide) (hts (.fieldLink RX7 7 "FoleyMixerModel" "s" "[I") (List.mem_of_getElem? (i := 1) rfl)) rfl rfl dX7_masksMost_8 ?_
      refine lv_bipush (v := nI 6) hx hb dX7_masksMost_11 (by decide) ?_
      refine q_iald hx hb hG hW hm1 (by omega) (by omega) dX7_masksMost_13 ?_
      refine q_top (y := nI (P.n)) (by exact congrArg nI hr6) ?_
      refine lv_icmp_ge (tgt := 97) hx hb dX7_masksMost_14 (by decide) (fun c_14 => ?_) (fun c_14 => ?_)
      · skip
        have c_14 : P.n ≤ j := (nI_leI (a := P.n) (b := j) (by omega) (by omega)).mp c_14
        refine lv_iload_n hx hb dX7_masksMost_97 rfl (lv_at hl 1 rfl) ?_
        exact q_ri hx hb hr hlocks dX7_masksMost_98 (by rw [show P.n = j by omega])
      · skip
        have c_14 : ¬ (P.n ≤ j) := fun h__ => c_14 ((nI_leI (a := P.n) (b := j) (by omega) (by omega)).mpr h__)
        refine lv_iconst (v := nI 0) hx hb dX7_masksMost_17 (by decide) ?_
        refine lv_istore (lv' := [(4, .int (nI 0)), (0, .ref (b + 36)), (1, .int ((gmk P j).1)), (2, .int (nI ((gmk P j).2))), (3, .int (nI j))]) hx hb dX7_masksMost_18 hl (by decide) rfl (fun ls hl => ?_)
        refine lv_iconst (v := nI 0) hx hb dX7_masksMost_20 (by decide) ?_
        refine lv_istore (lv' := [(5, .int (nI 0)), (4, .int (nI 0)), (0, .ref (b + 36)), (1, .int ((gmk P j).1)), (2, .int (nI ((gmk P j).2))), (3, .int (nI j))]) hx hb dX7_masksMost_21 hl (by decide) rfl (fun ls hl => ?_)
        have L23 : ∀ (n23 : Nat) (u : Nat), u ≤ 120 → 120 - u < n23 → ∀ (x23_4 : Int32) (x23_5 : Int32), x23_4 = nI (mks P j u) → x23_5 = nI (u) → ∀ (ls : Array Slot), lv_has ls 6 [(0, .ref (b + 36)), (1, .int ((gmk P j).1)), (2, .int (nI ((gmk P j).2))), (3, .int (nI j)), (4, .int x23_4), (5, .int x23_5)] → W p l e ({ frames := 4, cells := 0, slots := 0, locals := 94 } : Room) s m args below meth c s.heap [] 0 0 (MQ below (QR (some (.int ((gmk P P.n).1)))) args s 0 0 Fno) (F0 m 23 ls []) := by
          intro n23
          induction n23 with
          | zero =>
            intro u hu0 hn23 x23_4 x23_5 ex23_4 ex23_5 ls hl
            exact absurd hn23 (Nat.not_lt_zero _)
          | succ n23 ih23 =>
            intro u hu0 hn23 x23_4 x23_5 ex23_4 ex23_5 ls hl
            subst ex23_4 ex23_5
            have hmm := mmk_lt hP u
            have hmk := ct_le (fun t => gfi P t P.n = nI j ∧ mmk P t ≠ 0) u
            change mks P j u ≤ u at hmk
            refine lv_iload hx hb dX7_masksMost_23 (lv_at hl 5 rfl) ?_
            refine lv_bipush (v := nI 120) hx hb dX7_masksMost_25 (by decide) ?_
            refine lv_icmp_ge (tgt := 66) hx hb dX7_masksMost_27 (by decide) (fun c_27 => ?_) (fun c_27 => ?_)
            · skip
              have c_27 : 120 ≤ u := (nI_leI (a := 120) (b := u) (by omega) (by omega)).mp c_27
              have hmk2 : mks P j 120 ≤ 120 := ct_le _ _
              have el_66 : nI (mks P j u) = nI (mks P j 120) := by rw [show u = 120 by omega]
              rw [el_66] at hl
              refine lv_iload hx hb dX7_masksMost_66 (lv_at hl 4 rfl) ?_
              refine lv_iload_n hx hb dX7_masksMost_68 rfl (lv_at hl 2 rfl) ?_
              refine lv_icmp_le (tgt := 76) hx hb dX7_masksMost_69 (by decide) (fun c_69 => ?_) (fun c_69 => ?_)
              · skip
                have c_69 : mks P j 120 ≤ (gmk P j).2 := (nI_leI (a := mks P j 120) (b := (gmk P j).2) (by omega) (by omega)).mp c_69
                refine lv_iload_n hx hb dX7_masksMost_76 rfl (lv_at hl 1 rfl) ?_
                refine q_topv (v' := .int ((gmk P (j + 1)).1)) (by refine congrArg Value.int ?_; rw [gmk]; first | (rw [if_pos (by omega)]; done) | (rw [if_neg (by omega)]; done)) ?_
                refine lv_istore_n (lv' := [(1, .int ((gmk P (j + 1)).1)), (0, .ref (b + 36)), (2, .int (nI ((gmk P j).2))), (3, .int (nI j)), (4, .int (nI (mks P j 120))), (5, .int (nI u))]) hx hb dX7_masksMost_77 rfl hl (by decide) rfl (fun ls hl => ?_)
                refine lv_iload hx hb dX7_masksMost_78 (lv_at hl 4 rfl) ?_
                refine lv_iload_n hx hb dX7_masksMost_80 rfl (lv_at hl 2 rfl) ?_
                refine lv_icmp_le (tgt := 89) hx hb dX7_masksMost_81 (by decide) (fun c_81 => ?_) (fun c_81 => ?_)
                · skip
                  have c_81 : mks P j 120 ≤ (gmk P j).2 := (nI_leI (a := mks P j 120) (b := (gmk P j).2) (by omega) (by omega)).mp c_81
                  refine lv_iload_n hx hb dX7_masksMost_89 rfl (lv_at hl 2 rfl) ?_
                  refine q_top (y := nI ((gmk P (j + 1)).2)) (by refine congrArg nI ?_; rw [gmk]; first | (rw [if_pos (by omega)]; done) | (rw [if_neg (by omega)]; done)) ?_
                  refine lv_istore_n (lv' := [(2, .int (nI ((gmk P (j + 1)).2))), (1, .int ((gmk P (j + 1)).1)), (0, .ref (b + 36)), (3, .int (nI j)), (4, .int (nI (mks P j 120))), (5, .int (nI u))]) hx hb dX7_masksMost_90 rfl hl (by decide) rfl (fun ls hl => ?_)
                  refine lv_iinc (v := nI (j + 1)) (lv' := [(3, .int (nI (j + 1))), (2, .int (nI ((gmk P (j + 1)).2))), (1, .int ((gmk P (j + 1)).1)), (0, .ref (b + 36)), (4, .int (nI (mks P j 120))), (5, .int (nI u))]) hx hb dX7_masksMost_91 hl (k := 3) rfl (nI_add _ 1) (by decide) rfl (fun ls hl => ?_)
                  refine lv_goto (tgt := 6) hx hb dX7_masksMost_94 (by decide) ?_
                  exact ih6 (j + 1) (by omega) (by omega) _ _ _ (by rfl) (by rfl) (by first | rfl | (congr 1; omega)) _ (lv_sub hl [3, 2, 1, 0] rfl)
                · skip
                  have c_81 : ¬ (mks P j 120 ≤ (gmk P j).2) := fun h__ => c_81 ((nI_leI (a := mks P j 120) (b := (gmk P j).2) (by omega) (by omega)).mpr h__)
                  refine lv_iload hx hb dX7_masksMost_84 (lv_at hl 4 rfl) ?_
                  refine lv_goto (tgt := 90) hx hb dX7_masksMost_86 (by decide) ?_
                  refine q_top (y := nI ((gmk P (j + 1)).2)) (by refine congrArg nI ?_; rw [gmk]; first | (rw [if_pos (by omega)]; done) | (rw [if_neg (by omega)]; done)) ?_
                  refine lv_istore_n (lv' := [(2, .int (nI ((gmk P (j + 1)).2))), (1, .int ((gmk P (j + 1)).1)), (0, .ref (b + 36)), (3, .int (nI j)), (4, .int (nI (mks P j 120))), (5, .int (nI u))]) hx hb dX7_masksMost_90 rfl hl (by decide) rfl (fun ls hl => ?_)
                  refine lv_iinc (v := nI (j + 1)) (lv' := [(3, .int (nI (j + 1))), (2, .int (nI ((gmk P (j + 1)).2))), (1, .int ((gmk P (j + 1)).1)), (0, .ref (b + 36)), (4, .int (nI (mks P j 120))), (5, .int (nI u))]) hx hb dX7_masksMost_91 hl (k := 3) rfl (nI_add _ 1) (by decide) rfl (fun ls hl => ?_)
                  refine lv_goto (tgt := 6) hx hb dX7_masksMost_94 (by decide) ?_
                  exact ih6 (j + 1) (by omega) (by omega) _ _ _ (by rfl) (by rfl) (by first | rfl | (congr 1; omega)) _ (lv_sub hl [3, 2, 1, 0] rfl)
              · skip
                have c_69 : ¬ (mks P j 120 ≤ (gmk P j).2) := fun h__ => c_69 ((nI_leI (a := mks P j 120) (b := (gmk P j).2) (by omega) (by omega)).mpr h__)
                refine lv_iload_n hx hb dX7_masksMost_72 rfl (lv_at hl 3 rfl) ?_
                refine lv_goto (tgt := 77) hx hb dX7_masksMost_73 (by decide) ?_
                refine q_topv (v' := .int ((gmk P (j + 1)).1)) (by refine congrArg Value.int ?_; rw [gmk]; first | (rw [if_pos (by omega)]; done) | (rw [if_neg (by omega)]; done)) ?_
                refine lv_istore_n (lv' := [(1, .int ((gmk P (j + 1)).1)), (0, .ref (b + 36)), (2, .int (nI ((gmk P j).2))), (3, .int (nI j)), (4, .int (nI (mks P j 120))), (5, .int (nI u))]) hx hb dX7_masksMost_77 rfl hl (by decide) rfl (fun ls hl => ?_)
                refine lv_iload hx hb dX7_masksMost_78 (lv_at hl 4 rfl) ?_
                refine lv_iload_n hx hb dX7_masksMost_80 rfl (lv_at hl 2 rfl) ?_
                refine lv_icmp_le (tgt := 89) hx hb dX7_masksMost_81 (by decide) (fun c_81 => ?_) (fun c_81 => ?_)
                · skip
                  have c_81 : mks P j 120 ≤ (gmk P j).2 := (nI_leI (a := mks P j 120) (b := (gmk P j).2) (by omega) (by omega)).mp c_81
                  refine lv_iload_n hx hb dX7_masksMost_89 rfl (lv_at hl 2 rfl) ?_
                  refine q_top (y := nI ((gmk P (j + 1)).2)) (by refine congrArg nI ?_; rw [gmk]; first | (rw [if_pos (by omega)]; done) | (rw [if_neg (by omega)]; done)) ?_
                  refine lv_istore_n (lv' := [(2, .int (nI ((gmk P (j + 1)).2))), (1, .int ((gmk P (j + 1)).1)), (0, .ref (b + 36)), (3, .int (nI j)), (4, .int (nI (mks P j 120))), (5, .int (nI u))]) hx hb dX7_masksMost_90 rfl hl (by decide) rfl (fun ls hl => ?_)
                  refine lv_iinc (v := nI (j + 1)) (lv' := [(3, .int (nI (j + 1))), (2, .int (nI ((gmk P (j + 1)).2))), (1, .int ((gmk P (j + 1)).1)), (0, .ref (b + 36)), (4, .int (nI (mks P j 120))), (5, .int (nI u))]) hx hb dX7_masksMost_91 hl (k := 3) rfl (nI_add _ 1) (by decide) rfl (fun ls hl => ?_)
                  refine lv_goto (tgt := 6) hx hb dX7_masksMost_94 (by decide) ?_
                  exact ih6 (j + 1) (by omega) (by omega) _ _ _ (by rfl) (by rfl) (by first | rfl | (congr 1; omega)) _ (lv_sub hl [3, 2, 1, 0] rfl)
                · skip
                  have c_81 : ¬ (mks P j 120 ≤ (gmk P j).2) := fun h__ => c_81 ((nI_leI (a := mks P j 120) (b := (gmk P j).2) (by omega) (by omega)).mpr h__)
                  refine lv_iload hx hb dX7_masksMost_84 (lv_at hl 4 rfl) ?_
                  refine lv_goto (tgt := 90) hx hb dX7_masksMost_86 (by decide) ?_
                  refine q_top (y := nI ((gmk P (j + 1)).2)) (by refine congrArg nI ?_; rw [gmk]; first | (rw [if_pos (by omega)]; done) | (rw [if_neg (by omega)]; done)) ?_
                  refine lv_istore_n (lv' := [(2, .int (nI ((gmk P (j + 1)).2))), (1, .int ((gmk P (j + 1)).1)), (0, .ref (b + 36)), (3, .int (nI j)), (4, .int (nI (mks P j 120))), (5, .int (nI u))]) hx hb dX7_masksMost_90 rfl hl (by decide) rfl (fun ls hl => ?_)
                  refine lv_iinc (v := nI (j + 1)) (lv' := [(3, .int (nI (j + 1))), (2, .int (nI ((gmk P (j + 1)).2))), (1, .int ((gmk P (j + 1)).1)), (0, .ref (b + 36)), (4, .int (nI (mks P j 120))), (5, .int (nI u))]) hx hb dX7_masksMost_91 hl (k := 3) rfl (nI_add _ 1) (by decide) rfl (fun ls hl => ?_)
                  refine lv_goto (tgt := 6) hx hb dX7_masksMost_94 (by decide) ?_
                  exact ih6 (j + 1) (by omega) (by omega) _ _ _ (by rfl) (by rfl) (by first | rfl | (congr 1; omega)) _ (lv_sub hl [3, 2, 1, 0] rfl)
            · skip
              have c_27 : ¬ (120 ≤ u) := fun h__ => c_27 ((nI_leI (a := 120) (b := u) (by omega) (by omega)).mpr h__)
              refine lv_iload hx hb dX7_masksMost_30 (lv_at hl 4 rfl) ?_
              refine lv_aload_n hx hb dX7_masksMost_32 rfl (lv_at hl 0 rfl) ?_
              refine q_get hx hb hts hinX7 hown hG hW hm0 rfl 9 (by decide) (hts (.fieldLink RX7 29 "FoleyMixerModel" "masked" "[I") (List.mem_of_getElem? (i := 2) rfl)) rfl rfl dX7_masksMost_33 ?_
              refine lv_iload hx hb dX7_masksMost_36 (lv_at hl 5 rfl) ?_
              refine q_iald hx hb hG hW hm43 (by omega) (by omega) dX7_masksMost_38 ?_
              refine lv_if_eq (tgt := 56) hx hb dX7_masksMost_39 (by decide) (fun c_39 => ?_) (fun c_39 => ?_)
              · skip
                have c_39 : ((mmk P) u) = 0 := (nI_eq0 (i := (mmk P) u) (by omega)).mp c_39
                refine lv_iconst (v := nI 0) hx hb dX7_masksMost_56 (by decide) ?_
                refine lv_iadd hx hb dX7_masksMost_57 ?_
                refine q_top (y := nI ((mks P j u) + 0)) (nI_add _ _) ?_
                refine q_top (y := nI (mks P j (u + 1))) (by refine congrArg nI ?_; unfold mks; rw [ct]; first | (rw [if_pos ⟨by first | exact c_49 | exact Decidable.of_not_not c_49, c_39⟩]; done) | (rw [if_neg (fun q9 => c_49 q9.1)]; rfl) | (rw [if_neg (fun q9 => q9.2 c_39)]; rfl)) ?_
                refine lv_istore (lv' := [(4, .int (nI (mks P j (u + 1)))), (0, .ref (b + 36)), (1, .int ((gmk P j).1)), (2, .int (nI ((gmk P j).2))), (3, .int (nI j)), (5, .int (nI u))]) hx hb dX7_masksMost_58 hl (by decide) rfl (fun ls hl => ?_)
                refine lv_iinc (v := nI (u + 1)) (lv' := [(5, .int (nI (u + 1))), (4, .int (nI (mks P j (u + 1)))), (0, .ref (b + 36)), (1, .int ((gmk P j).1)), (2, .int (nI ((gmk P j).2))), (3, .int (nI j))]) hx hb dX7_masksMost_60 hl (k := 5) rfl (nI_add _ 1) (by decide) rfl (fun ls hl => ?_)
                refine lv_goto (tgt := 23) hx hb dX7_masksMost_63 (by decide) ?_
                exact ih23 (u + 1) (by omega) (by omega) _ _ (by rfl) (by first | rfl | (congr 1; omega)) _ (lv_sub hl [2, 3, 4, 5, 1, 0] rfl)
              · skip
                have c_39 : ¬ (((mmk P) u) = 0) := fun h__ => c_39 ((nI_eq0 (i := (mmk P) u) (by omega)).mpr h__)
                refine lv_aload_n hx hb dX7_masksMost_42 rfl (lv_at hl 0 rfl) ?_
                refine lv_iload hx hb dX7_masksMost_43 (lv_at hl 5 rfl) ?_
                refine q_R1 (va_runV (As := [.int (nI u)]) (rest := [.int (nI (mks P j u))]) ⟨hx, hb, hml, hown, hts⟩ (c_X7_strongest l hm0 hm1 hRp hP hm42 (u) (by omega)) (cwV 1 hts gX7_masksMost_X7_strongest rfl rfl rfl (by decide +kernel) ⟨Nat.le_of_ble_eq_true rfl, Nat.le_of_ble_eq_true rfl⟩) (q_preV hG hW hS hm0 rfl) rfl rfl hl.1 rfl (lv_room (Nat.le_of_ble_eq_true rfl)) dX7_masksMost_45 ⟨Nat.le_of_ble_eq_true rfl, Nat.le_of_ble_eq_true rfl⟩) ?_
                refine lv_iload_n hx hb dX7_masksMost_48 rfl (lv_at hl 3 rfl) ?_
                refine lv_icmp_ne (tgt := 56) hx hb dX7_masksMost_49 (by decide) (fun c_49 => ?_) (fun c_49 => ?_)
                · skip
                  refine lv_iconst (v := nI 0) hx hb dX7_masksMost_56 (by decide) ?_
                  refine lv_iadd hx hb dX7_masksMost_57 ?_
                  refine q_top (y := nI ((mks P j u) + 0)) (nI_add _ _) ?_
                  refine q_top (y := nI (mks P j (u + 1))) (by refine congrArg nI ?_; unfold mks; rw [ct]; first | (rw [if_pos ⟨by first | exact c_49 | exact Decidable.of_not_not c_49, c_39⟩]; done) | (rw [if_neg (fun q9 => c_49 q9.1)]; rfl) | (rw [if_neg (fun q9 => q9.2 c_39)]; rfl)) ?_
                  refine lv_istore (lv' := [(4, .int (nI (mks P j (u + 1)))), (0, .ref (b + 36)), (1, .int ((gmk P j).1)), (2, .int (nI ((gmk P j).2))), (3, .int (nI j)), (5, .int (nI u))]) hx hb dX7_masksMost_58 hl (by decide) rfl (fun ls hl => ?_)
                  refine lv_iinc (v := nI (u + 1)) (lv' := [(5, .int (nI (u + 1))), (4, .int (nI (mks P j (u + 1)))), (0, .ref (b + 36)), (1, .int ((gmk P j).1)), (2, .int (nI ((gmk P j).2))), (3, .int (nI j))]) hx hb dX7_masksMost_60 hl (k := 5) rfl (nI_add _ 1) (by decide) rfl (fun ls hl => ?_)
                  refine lv_goto (tgt := 23) hx hb dX7_masksMost_63 (by decide) ?_
                  exact ih23 (u + 1) (by omega) (by omega) _ _ (by rfl) (by first | rfl | (congr 1; omega)) _ (lv_sub hl [2, 3, 4, 5, 1, 0] rfl)
                · skip
                  refine lv_iconst (v := nI 1) hx hb dX7_masksMost_52 (by decide) ?_
                  refine lv_goto (tgt := 57) hx hb dX7_masksMost_53 (by decide) ?_
                  refine lv_iadd hx hb dX7_masksMost_57 ?_
                  refine q_top (y := nI ((mks P j u) + 1)) (nI_add _ _) ?_
                  refine q_top (y := nI (mks P j (u + 1))) (by refine congrArg nI ?_; unfold mks; rw [ct]; first | (rw [if_pos ⟨by first | exact c_49 | exact Decidable.of_not_not c_49, c_39⟩]; done) | (rw [if_neg (fun q9 => c_49 q9.1)]; rfl) | (rw [if_neg (fun q9 => q9.2 c_39)]; rfl)) ?_
                  refine lv_istore (lv' := [(4, .int (nI (mks P j (u + 1)))), (0, .ref (b + 36)), (1, .int ((gmk P j).1)), (2, .int (nI ((gmk P j).2))), (3, .int (nI j)), (5, .int (nI u))]) hx hb dX7_masksMost_58 hl (by decide) rfl (fun ls hl => ?_)
                  refine lv_iinc (v := nI (u + 1)) (lv' := [(5, .int (nI (u + 1))), (4, .int (nI (mks P j (u + 1)))), (0, .ref (b + 36)), (1, .int ((gmk P j).1)), (2, .int (nI ((gmk P j).2))), (3, .int (nI j))]) hx hb dX7_masksMost_60 hl (k := 5) rfl (nI_add _ 1) (by decide) rfl (fun ls hl => ?_)
                  refine lv_goto (tgt := 23) hx hb dX7_masksMost_63 (by decide) ?_
                  exact ih23 (u + 1) (by omega) (by omega) _ _ (by rfl) (by first | rfl | (congr 1; omega)) _ (lv_sub hl [2, 3, 4, 5, 1, 0] rfl)
        exact L23 ((120 - 0) + 1) 0 (by omega) (Nat.lt_succ_self _) _ _ (by rfl) (by first | rfl | (congr 1; omega)) _ (lv_sub hl [2, 3, 4, 5, 1, 0] rfl)
  exact L6 ((P.n - 0) + 1) 0 (by omega) (Nat.lt_succ_self _) _ _ _ (by rfl) (by rfl) (by first | rfl | (congr 1; omega)) _ (lv_sub hl [3, 2, 1, 0] rfl)

