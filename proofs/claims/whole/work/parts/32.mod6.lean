set_option maxHeartbeats 300000 in
set_option maxRecDepth 100000 in
/-- lastSecond -/
theorem c_X7_lastSecond (l : Launch) {D : va_G} {dA : Nat → Nat} {b : Nat} {w : Wd} {sv nc th pl lt dn : Int32} (hm0 : w 36 = some (modO b sv nc th pl lt dn)) {F : Nat → Nat} (hm1 : w 37 = some (eN dA 85 F)) {P : Pl} (hRp : rep F P) (hP : okP P) : Met l yX7_lastSecond wsX7_lastSecond ({ frames := 4, cells := 0, slots := 0, locals := 90 } : Room) (PC D dA b w [.ref (b + 36)]) (QR (some (.int (lst P 120)))) 0 0 Fno := by
  refine q_of (cc := cX7_lastSecond) (maxL := 2) (ret := (some .int)) (by decide) rfl rfl ?_
  intro p e s m args below meth c ls hx hb hr hml hts hown hlocks hG hW hS hl
  have hown : s.vm.findClass RX7 = some m.cls := hown
  have hl : lv_has ls 2 [(0, .ref (b + 36))] := hl
  obtain ⟨hPw, hPn, hPW, hPN, hPS⟩ := id hP
  have hr5 := hRp.2.1
  have hr6 := hRp.2.2.1
  refine lv_bipush (v := nI 119) hx hb dX7_lastSecond_0 (by decide) ?_
  refine lv_istore_n (lv' := [(1, .int (nI 119)), (0, .ref (b + 36))]) hx hb dX7_lastSecond_2 rfl hl (by decide) rfl (fun ls hl => ?_)
  have L3 : ∀ (n3 : Nat) (j : Nat), j ≤ 120 → lst P 120 = lst P j → j < n3 → ∀ (x3_1 : Int32), x3_1 = nI j + (-1) → ∀ (ls : Array Slot), lv_has ls 2 [(0, .ref (b + 36)), (1, .int x3_1)] → W p l e ({ frames := 4, cells := 0, slots := 0, locals := 90 } : Room) s m args below meth c s.heap [] 0 0 (MQ below (QR (some (.int (lst P 120)))) args s 0 0 Fno) (F0 m 3 ls []) := by
    intro n3
    induction n3 with
    | zero =>
      intro j hj0 hj1 hn3 x3_1 ex3_1 ls hl
      exact absurd hn3 (Nat.not_lt_zero _)
    | succ n3 ih3 =>
      intro j hj0 hj1 hn3 x3_1 ex3_1 ls hl
      subst ex3_1
      cases j with
      | zero =>
        replace hl : lv_has ls 2 [(0, .ref (b + 36)), (1, .int (-1))] := by rw [show nI 0 + (-1) = (-1 : Int32) from by decide] at hl; exact hl
        refine lv_iload_n hx hb dX7_lastSecond_3 rfl (lv_at hl 1 rfl) ?_
        refine lv_if_lt (tgt := 21) hx hb dX7_lastSecond_4 (by decide) (fun c_4 => ?_) (fun c_4 => ?_)
        · skip
          refine lv_iload_n hx hb dX7_lastSecond_21 rfl (lv_at hl 1 rfl) ?_
          exact q_ri hx hb hr hlocks dX7_lastSecond_22 (by first | (rw [hj1, lst_here c_12]; done) | (rw [hj1]; rfl) | omega)
        · skip
          exact absurd (by decide) c_4
      | succ j =>
        rw [pk_m1] at hl
        refine lv_iload_n hx hb dX7_lastSecond_3 rfl (lv_at hl 1 rfl) ?_
        refine lv_if_lt (tgt := 21) hx hb dX7_lastSecond_4 (by decide) (fun c_4 => ?_) (fun c_4 => ?_)
        · skip
          have c_4 : j < 0 := (nI_lt0 (i := j) (by omega)).mp c_4
          refine lv_iload_n hx hb dX7_lastSecond_21 rfl (lv_at hl 1 rfl) ?_
          exact q_ri hx hb hr hlocks dX7_lastSecond_22 (by first | (rw [hj1, lst_here c_12]; done) | (rw [hj1]; rfl) | omega)
        · skip
          have c_4 : ¬ (j < 0) := fun h__ => c_4 ((nI_lt0 (i := j) (by omega)).mpr h__)
          refine lv_aload_n hx hb dX7_lastSecond_7 rfl (lv_at hl 0 rfl) ?_
          refine lv_iload_n hx hb dX7_lastSecond_8 rfl (lv_at hl 1 rfl) ?_
          refine q_R1 (va_runV (As := [.int (nI j)]) (rest := []) ⟨hx, hb, hml, hown, hts⟩ (c_X7_isSilent l hm0 hm1 hRp hP (j) (by omega)) (cwV 1 hts gX7_lastSecond_X7_isSilent rfl rfl rfl (by decide +kernel) ⟨Nat.le_of_ble_eq_true rfl, Nat.le_of_ble_eq_true rfl⟩) (q_preV hG hW hS hm0 rfl) rfl rfl hl.1 rfl (lv_room (Nat.le_of_ble_eq_true rfl)) dX7_lastSecond_9 ⟨Nat.le_of_ble_eq_true rfl, Nat.le_of_ble_eq_true rfl⟩) ?_
          refine lv_if_eq (tgt := 21) hx hb dX7_lastSecond_12 (by decide) (fun c_12 => ?_) (fun c_12 => ?_)
          · skip
            have c_12 : ¬ (sil P j) := pI_eq0.mp c_12
            refine lv_iload_n hx hb dX7_lastSecond_21 rfl (lv_at hl 1 rfl) ?_
            exact q_ri hx hb hr hlocks dX7_lastSecond_22 (by first | (rw [hj1, lst_here c_12]; done) | (rw [hj1]; rfl) | omega)
          · skip
            have c_12 : sil P j := Decidable.byContradiction (fun h__ => c_12 (pI_eq0.mpr h__))
            refine lv_iinc (v := nI j + (-1)) (lv' := [(1, .int (nI j + (-1))), (0, .ref (b + 36))]) hx hb dX7_lastSecond_15 hl (k := 1) rfl (by rw [show Int32.ofInt (-1) = -1 from by decide]) (by decide) rfl (fun ls hl => ?_)
            refine lv_goto (tgt := 3) hx hb dX7_lastSecond_18 (by decide) ?_
            exact ih3 j (by omega) (by first | rfl | (rw [hj1, lst_down c_12])) (by omega) _ (by rfl) _ (lv_sub hl [1, 0] rfl)
  exact L3 (120 + 1) 120 (by omega) (by first | rfl | (rw [hj1, lst_down c_12])) (Nat.lt_succ_self _) _ (by decide) _ (lv_sub hl [1, 0] rfl)

set_option maxHeartbeats 300000 in
set_option maxRecDepth 100000 in
/-- silentSeconds -/
theorem c_X7_silentSeconds (l : Launch) {D : va_G} {dA : Nat → Nat} {b : Nat} {w : Wd} {sv nc th pl lt dn : Int32} (hm0 : w 36 = some (modO b sv nc th pl lt dn)) {F : Nat → Nat} (hm1 : w 37 = some (eN dA 85 F)) {P : Pl} (hRp : rep F P) (hP : okP P) : Met l yX7_silentSeconds wsX7_silentSeconds ({ frames := 5, cells := 0, slots := 0, locals := 111 } : Room) (PC D dA b w [.ref (b + 36)]) (QR (some (.int (nI (sls P))))) 0 0 Fno := by
  refine q_of (cc := cX7_silentSeconds) (maxL := 3) (ret := (some .int)) (by decide) rfl rfl ?_
  intro p e s m args below meth c ls hx hb hr hml hts hown hlocks hG hW hS hl
  have hown : s.vm.findClass RX7 = some m.cls := hown
  have hl : lv_has ls 3 [(0, .ref (b + 36))] := hl
  obtain ⟨hPw, hPn, hPW, hPN, hPS⟩ := id hP
  have hr5 := hRp.2.1
  have hr6 := hRp.2.2.1
  rcases lst_rng P 120 with h9 | ⟨z9, hz9, h9⟩
  · skip
    refine lv_iconst (v := nI 0) hx hb dX7_silentSeconds_0 (by decide) ?_
    refine lv_istore_n (lv' := [(1, .int (nI 0)), (0, .ref (b + 36))]) hx hb dX7_silentSeconds_1 rfl hl (by decide) rfl (fun ls hl => ?_)
    refine lv_iconst (v := nI 0) hx hb dX7_silentSeconds_2 (by decide) ?_
    refine lv_istore_n (lv' := [(2, .int (nI 0)), (1, .int (nI 0)), (0, .ref (b + 36))]) hx hb dX7_silentSeconds_3 rfl hl (by decide) rfl (fun ls hl => ?_)
    refine lv_iload_n hx hb dX7_silentSeconds_4 rfl (lv_at hl 0 rfl) ?_
    refine lv_aload_n hx hb dX7_silentSeconds_5 rfl (lv_at hl 2 rfl) ?_
    refine q_R1 (va_runV (As := []) (rest := [.int (nI 0)]) ⟨hx, hb, hml, hown, hts⟩ (c_X7_lastSecond l hm0 hm1 hRp hP) (cwV 0 hts gX7_silentSeconds_X7_lastSecond rfl rfl rfl (by decide +kernel) ⟨Nat.le_of_ble_eq_true rfl, Nat.le_of_ble_eq_true rfl⟩) (q_preV hG hW hS hm0 rfl) rfl rfl hl.1 rfl (lv_room (Nat.le_of_ble_eq_true rfl)) dX7_silentSeconds_6 ⟨Nat.le_of_ble_eq_true rfl, Nat.le_of_ble_eq_true rfl⟩) ?_
    refine q_topv (v' := .int (-1)) (by rw [h9]) ?_
    refine lv_icmp_ge (tgt := 34) hx hb dX7_silentSeconds_9 (by decide) (fun c_9 => ?_) (fun c_9 => ?_)
    · skip
      refine lv_iload_n hx hb dX7_silentSeconds_34 rfl (lv_at hl 1 rfl) ?_
      exact q_ri hx hb hr hlocks dX7_silentSeconds_35 (by first | (rw [sls_none h9]; done) | (rw [sls_some hz9 h9, show j = z9 by omega]))
    · skip
      exact absurd (by decide) c_9
  · skip
    refine lv_iconst (v := nI 0) hx hb dX7_silentSeconds_0 (by decide) ?_
    refine lv_istore_n (lv' := [(1, .int (nI 0)), (0, .ref (b + 36))]) hx hb dX7_silentSeconds_1 rfl hl (by decide) rfl (fun ls hl => ?_)
    refine lv_iconst (v := nI 0) hx hb dX7_silentSeconds_2 (by decide) ?_
    refine lv_istore_n (lv' := [(2, .int (nI 0)), (1, .int (nI 0)), (0, .ref (b + 36))]) hx hb dX7_silentSeconds_3 rfl hl (by decide) rfl (fun ls hl => ?_)
    have L4 : ∀ (n4 : Nat) (j : Nat), j ≤ z9 → z9 - j < n4 → ∀ (x4_1 : Int32) (x4_2 : Int32), x4_1 = nI (ct (fun t => sil P t) j) → x4_2 = nI (j) → ∀ (ls : Array Slot), lv_has ls 3 [(0, .ref (b + 36)), (1, .int x4_1), (2, .int x4_2)] → W p l e ({ frames := 5, cells := 0, slots := 0, locals := 111 } : Room) s m args below meth c s.heap [] 0 0 (MQ below (QR (some (.int (nI (sls P))))) args s 0 0 Fno) (F0 m 4 ls []) := by
      intro n4
      induction n4 with
      | zero =>
        intro j hj0 hn4 x4_1 x4_2 ex4_1 ex4_2 ls hl
        exact absurd hn4 (Nat.not_lt_zero _)
      | succ n4 ih4 =>
        intro j hj0 hn4 x4_1 x4_2 ex4_1 ex4_2 ls hl
        subst ex4_1 ex4_2
        refine lv_iload_n hx hb dX7_silentSeconds_4 rfl (lv_at hl 2 rfl) ?_
        refine lv_aload_n hx hb dX7_silentSeconds_5 rfl (lv_at hl 0 rfl) ?_
        refine q_R1 (va_runV (As := []) (rest := [.int (nI j)]) ⟨hx, hb, hml, hown, hts⟩ (c_X7_lastSecond l hm0 hm1 hRp hP) (cwV 0 hts gX7_silentSeconds_X7_lastSecond rfl rfl rfl (by decide +kernel) ⟨Nat.le_of_ble_eq_true rfl, Nat.le_of_ble_eq_true rfl⟩) (q_preV hG hW hS hm0 rfl) rfl rfl hl.1 rfl (lv_room (Nat.le_of_ble_eq_true rfl)) dX7_silentSeconds_6 ⟨Nat.le_of_ble_eq_true rfl, Nat.le_of_ble_eq_true rfl⟩) ?_
        refine q_topv (v' := .int (nI z9)) (by rw [h9]) ?_
        refine lv_icmp_ge (tgt := 34) hx hb dX7_silentSeconds_9 (by decide) (fun c_9 => ?_) (fun c_9 => ?_)
        · skip
          have c_9 : z9 ≤ j := (nI_leI (a := z9) (b := j) (by omega) (by omega)).mp c_9
          refine lv_iload_n hx hb dX7_silentSeconds_34 rfl (lv_at hl 1 rfl) ?_
          exact q_ri hx hb hr hlocks dX7_silentSeconds_35 (by first | (rw [sls_none h9]; done) | (rw [sls_some hz9 h9, show j = z9 by omega]))
        · skip
          have c_9 : ¬ (z9 ≤ j) := fun h__ => c_9 ((nI_leI (a := z9) (b := j) (by omega) (by omega)).mpr h__)
          refine lv_iload_n hx hb dX7_silentSeconds_12 rfl (lv_at hl 1 rfl) ?_
          refine lv_aload_n hx hb dX7_silentSeconds_13 rfl (lv_at hl 0 rfl) ?_
          refine lv_iload_n hx hb dX7_silentSeconds_14 rfl (lv_at hl 2 rfl) ?_
          refine q_R1 (va_runV (As := [.int (nI j)]) (rest := [.int (nI (ct (fun t => sil P t) j))]) ⟨hx, hb, hml, hown, hts⟩ (c_X7_isSilent l hm0 hm1 hRp hP (j) (by omega)) (cwV 1 hts gX7_silentSeconds_X7_isSilent rfl rfl rfl (by decide +kernel) ⟨Nat.le_of_ble_eq_true rfl, Nat.le_of_ble_eq_true rfl⟩) (q_preV hG hW hS hm0 rfl) rfl rfl hl.1 rfl (lv_room (Nat.le_of_ble_eq_true rfl)) dX7_silentSeconds_15 ⟨Nat.le_of_ble_eq_true rfl, Nat.le_of_ble_eq_true rfl⟩) ?_
          refine lv_if_eq (tgt := 25) hx hb dX7_silentSeconds_18 (by decide) (fun c_18 => ?_) (fun c_18 => ?_)
          · skip
            have c_18 : ¬ (sil P j) := pI_eq0.mp c_18
            refine lv_iconst (v := nI 0) hx hb dX7_silentSeconds_25 (by decide) ?_
            refine lv_iadd hx hb dX7_silentSeconds_26 ?_
            refine q_top (y := nI ((ct (fun t => sil P t) j) + 0)) (nI_add _ _) ?_
            refine lv_istore_n (lv' := [(1, .int (nI ((ct (fun t => sil P t) j) + 0))), (0, .ref (b + 36)), (2, .int (nI j))]) hx hb dX7_silentSeconds_27 rfl hl (by decide) rfl (fun ls hl => ?_)
            refine lv_iinc (v := nI (j + 1)) (lv' := [(2, .int (nI (j + 1))), (1, .int (nI ((ct (fun t => sil P t) j) + 0))), (0, .ref (b + 36))]) hx hb dX7_silentSeconds_28 hl (k := 2) rfl (nI_add _ 1) (by decide) rfl (fun ls hl => ?_)
            refine lv_goto (tgt := 4) hx hb dX7_silentSeconds_31 (by decide) ?_
            exact ih4 (j + 1) (by omega) (by omega) _ _ (by refine congrArg nI ?_; rw [ct]; first | (rw [if_pos c_18]; done) | (rw [if_neg c_18]; done) | (rw [if_neg c_18]; rfl)) (by first | rfl | (congr 1; omega)) _ (lv_sub hl [2, 1, 0] rfl)
          · skip
            have c_18 : sil P j := Decidable.byContradiction (fun h__ => c_18 (pI_eq0.mpr h__))
            refine lv_iconst (v := nI 1) hx hb dX7_silentSeconds_21 (by decide) ?_
            refine lv_goto (tgt := 26) hx hb dX7_silentSeconds_22 (by decide) ?_
            refine lv_iadd hx hb dX7_silentSeconds_26 ?_
            refine q_top (y := nI ((ct (fun t => sil P t) j) + 1)) (nI_add _ _) ?_
            refine lv_istore_n (lv' := [(1, .int (nI ((ct (fun t => sil P t) j) + 1))), (0, .ref (b + 36)), (2, .int (nI j))]) hx hb dX7_silentSeconds_27 rfl hl (by decide) rfl (fun ls hl => ?_)
            refine lv_iinc (v := nI (j + 1)) (lv' := [(2, .int (nI (j + 1))), (1, .int (nI ((ct (fun t => sil P t) j) + 1))), (0, .ref (b + 36))]) hx hb dX7_silentSeconds_28 hl (k := 2) rfl (nI_add _ 1) (by decide) rfl (fun ls hl => ?_)
            refine lv_goto (tgt := 4) hx hb dX7_silentSeconds_31 (by decide) ?_
            exact ih4 (j + 1) (by omega) (by omega) _ _ (by refine congrArg nI ?_; rw [ct]; first | (rw [if_pos c_18]; done) | (rw [if_neg c_18]; done) | (rw [if_neg c_18]; rfl)) (by first | rfl | (congr 1; omega)) _ (lv_sub hl [2, 1, 0] rfl)
    exact L4 ((z9 - 0) + 1) 0 (by omega) (Nat.lt_succ_self _) _ _ (by rfl) (by first | rfl | (congr 1; omega)) _ (lv_sub hl [2, 1, 0] rfl)

set_option maxHeartbeats 300000 in
set_option maxRecDepth 100000 in
/-- firstMasked -/
theorem c_X7_firstMasked (l : Launch) {D : va_G} {dA : Nat → Nat} {b : Nat} {w : Wd} {sv nc th pl lt dn : Int32} (hm0 : w 36 = some (modO b sv nc th pl lt dn)) {F : Nat → Nat} (hm1 : w 37 = some (eN dA 85 F)) {P : Pl} (hRp : rep F P) (hP : okP P) (hm43 : w 43 = some (eN dA 120 (mmk P))) (i : Nat) (hi : i < 31) : Met l yX7_firstMasked wsX7_firstMasked ({ frames := 1, cells := 0, slots := 0, locals := 21 } : Room) (PC D dA b w [.ref (b + 36), .int (nI i)]) (QR (some (.int (fmd P i 0 120)))) 0 0 Fno := by
  refine q_of (cc := cX7_firstMasked) (maxL := 4) (ret := (some .int)) (by decide) rfl rfl ?_
  intro p e s m args below meth c ls hx hb hr hml hts hown hlocks hG hW hS hl
  have hown : s.vm.findClass RX7 = some m.cls := hown
  have hinX7 : ∀ w ∈ u_ws RX7 TX7 14, w ∈ wsX7_firstMasked := fun w h => (goodIn_r (big := wsX7_firstMasked) (u_ws RX7 TX7 14) [6, 7, 8, 9, 10, 11, 12, 13, 14, 15, 16, 17, 18, 19] (by decide +kernel) (by decide +kernel) w h).1
  have hl : lv_has ls 4 [(0, .ref (b + 36)), (1, .int (nI i))] := hl
  obtain ⟨hPw, hPn, hPW, hPN, hPS⟩ := id hP
  have hr5 := hRp.2.1
  have hr6 := hRp.2.2.1
  refine lv_iconst (v := (-1)) hx hb dX7_firstMasked_0 (by decide) ?_
  refine lv_istore_n (lv' := [(2, .int (-1)), (0, .ref (b + 36)), (1, .int (nI i))]) hx hb dX7_firstMasked_1 rfl hl (by decide) rfl (fun ls hl => ?_)
  refine lv_bipush (v := nI 119) hx hb dX7_firstMasked_2 (by decide) ?_
  refine lv_istore_n (lv' := [(3, .int (nI 119)), (2, .int (-1)), (0, .ref (b + 36)), (1, .int (nI i))]) hx hb dX7_firstMasked_4 rfl hl (by decide) rfl (fun ls hl => ?_)
  have L5 : ∀ (n5 : Nat) (j : Nat), j ≤ 120 → j < n5 → ∀ (x5_2 : Int32) (x5_3 : Int32), x5_2 = fmd P i j (120 - j) → x5_3 = nI j + (-1) → ∀ (ls : Array Slot), lv_has ls 4 [(0, .ref (b + 36)), (1, .int (nI i)), (2, .int x5_2), (3, .int x5_3)] → W p l e ({ frames := 1, cells := 0, slots := 0, locals := 21 } : Room) s m args below meth c s.heap [] 0 0 (MQ below (QR (some (.int (fmd P i 0 120)))) args s 0 0 Fno) (F0 m 5 ls []) := by
    intro n5
    induction n5 with
    | zero =>
      intro j hj0 hn5 x5_2 x5_3 ex5_2 ex5_3 ls hl
      exact absurd hn5 (Nat.not_lt_zero _)
    | succ n5 ih5 =>
      intro j hj0 hn5 x5_2 x5_3 ex5_2 ex5_3 ls hl
      subst ex5_2 ex5_3
      cases j with
      | zero =>
        replace hl : lv_has ls 4 [(0, .ref (b + 36)), (1, .int (nI i)), (2, .int (fmd P i 0 (120 - 0))), (3, .int (-1))] := by rw [show nI 0 + (-1) = (-1 : Int32) from by decide] at hl; exact hl
        refine lv_iload_n hx hb dX7_firstMasked_5 rfl (lv_at hl 3 rfl) ?_
        refine lv_if_lt (tgt := 34) hx hb dX7_firstMasked_6 (by decide) (fun c_6 => ?_) (fun c_6 => ?_)
        · skip
          refine lv_iload_n hx hb dX7_firstMasked_34 rfl (lv_at hl 2 rfl) ?_
          exact q_ri hx hb hr hlocks dX7_firstMasked_35 (by first | rfl | omega)
        · skip
          exact absurd (by decide) c_6
      | succ j =>
        rw [pk_m1] at hl
        have hmm := mmk_lt hP j
        refine lv_iload_n hx hb dX7_firstMasked_5 rfl (lv_at hl 3 rfl) ?_
        refine lv_if_lt (tgt := 34) hx hb dX7_firstMasked_6 (by decide) (fun c_6 => ?_) (fun c_6 => ?_)
        · skip
          have c_6 : j < 0 := (nI_lt0 (i := j) (by omega)).mp c_6
          refine lv_iload_n hx hb dX7_firstMasked_34 rfl (lv_at hl 2 rfl) ?_
          exact q_ri hx hb hr hlocks dX7_firstMasked_35 (by first | rfl | omega)
        · skip
          have c_6 : ¬ (j < 0) := fun h__ => c_6 ((nI_lt0 (i := j) (by omega)).mpr h__)
          refine lv_aload_n hx hb dX7_firstMasked_9 rfl (lv_at hl 0 rfl) ?_
          refine q_get hx hb hts hinX7 hown hG hW hm0 rfl 9 (by decide) (hts (.fieldLink RX7 29 "FoleyMixerModel" "masked" "[I") (List.mem_of_getElem? (i := 1) rfl)) rfl rfl dX7_firstMasked_10 ?_
          refine lv_iload_n hx hb dX7_firstMasked_13 rfl (lv_at hl 3 rfl) ?_
          refine q_iald hx hb hG hW hm43 (by omega) (by omega) dX7_firstMasked_14 ?_
          refine lv_iload_n hx hb dX7_firstMasked_15 rfl (lv_at hl 1 rfl) ?_
          refine q_R1 (va_runS (As := [.int (nI ((mmk P) j)), .int (nI i)]) (rest := []) ⟨hx, hb, hml, hown, hts⟩ (c_X7_has l ((mmk P) j) (i) (by omega) (by omega)) (va_cwS 2 hts gX7_firstMasked_X7_has rfl rfl rfl (by decide +kernel) ⟨Nat.le_of_ble_eq_true rfl, Nat.le_of_ble_eq_true rfl⟩) (q_preS hG hW hS) rfl rfl hl.1 rfl (lv_room (Nat.le_of_ble_eq_true rfl)) dX7_firstMasked_16 ⟨Nat.le_of_ble_eq_true rfl, Nat.le_of_ble_eq_true rfl⟩) ?_
          refine lv_if_eq (tgt := 26) hx hb dX7_firstMasked_19 (by decide) (fun c_19 => ?_) (fun c_19 => ?_)
          · skip
            have c_19 : ¬ (((mmk P) j).testBit i = true) := pI_eq0.mp c_19
            refine lv_iload_n hx hb dX7_firstMasked_26 rfl (lv_at hl 2 rfl) ?_
            refine lv_istore_n (lv' := [(2, .int (fmd P i (j + 1) (120 - (j + 1)))), (0, .ref (b + 36)), (1, .int (nI i)), (3, .int (nI j))]) hx hb dX7_firstMasked_27 rfl hl (by decide) rfl (fun ls hl => ?_)
            refine lv_iinc (v := nI j + (-1)) (lv' := [(3, .int (nI j + (-1))), (2, .int (fmd P i (j + 1) (120 - (j + 1)))), (0, .ref (b + 36)), (1, .int (nI i))]) hx hb dX7_firstMasked_28 hl (k := 3) rfl (by rw [show Int32.ofInt (-1) = -1 from by decide]) (by decide) rfl (fun ls hl => ?_)
            refine lv_goto (tgt := 5) hx hb dX7_firstMasked_31 (by decide) ?_
            exact ih5 j (by omega) (by omega) _ _ (by rw [show 120 - j = (120 - (j + 1)) + 1 by omega, fmd]; first | (rw [if_pos c_19]; done) | (rw [if_neg c_19]; done)) (by rfl) _ (lv_sub hl [2, 3, 1, 0] rfl)
          · skip
            have c_19 : ((mmk P) j).testBit i = true := Decidable.byContradiction (fun h__ => c_19 (pI_eq0.mpr h__))
            refine lv_iload_n hx hb dX7_firstMasked_22 rfl (lv_at hl 3 rfl) ?_
            refine lv_goto (tgt := 27) hx hb dX7_firstMasked_23 (by decide) ?_
            refine lv_istore_n (lv' := [(2, .int (nI j)), (0, .ref (b + 36)), (1, .int (nI i)), (3, .int (nI j))]) hx hb dX7_firstMasked_27 rfl hl (by decide) rfl (fun ls hl => ?_)
            refine lv_iinc (v := nI j + (-1)) (lv' := [(3, .int (nI j + (-1))), (2, .int (nI j)), (0, .ref (b + 36)), (1, .int (nI i))]) hx hb dX7_firstMasked_28 hl (k := 3) rfl (by rw [show Int32.ofInt (-1) = -1 from by decide]) (by decide) rfl (fun ls hl => ?_)
            refine lv_goto (tgt := 5) hx hb dX7_firstMasked_31 (by decide) ?_
            exact ih5 j (by omega) (by omega) _ _ (by rw [show 120 - j = (120 - (j + 1)) + 1 by omega, fmd]; first | (rw [if_pos c_19]; done) | (rw [if_neg c_19]; done)) (by rfl) _ (lv_sub hl [2, 3, 1, 0] rfl)
  exact L5 (120 + 1) 120 (by omega) (Nat.lt_succ_self _) _ _ (by first | rfl | (rw [fmd]; decide)) (by decide) _ (lv_sub hl [2, 3, 1, 0] rfl)

