set_option maxHeartbeats 300000 in
set_option maxRecDepth 100000 in
/-- copy(from, f, to, t) -/
theorem c_X7_copy (l : Launch) {D : va_G} {dA : Nat → Nat} {b : Nat} {w : Wd} {k1 k2 n1 n2 f9 t9 : Nat} {F1 F2 : Nat → Nat} (h1 : w k1 = some (eN dA n1 F1)) (h2 : w k2 = some (eN dA n2 F2)) (hk : k1 ≠ k2) (hn1 : f9 + 85 ≤ n1) (hn2 : t9 + 85 ≤ n2) (hb1 : n1 < 2 ^ 20) (hb2 : n2 < 2 ^ 20) : Met l yX7_copy wsX7_copy ({ frames := 0, cells := 0, slots := 0, locals := 0 } : Room) (PC D dA b w [.ref (b + k1), .int (nI f9), .ref (b + k2), .int (nI t9)]) (QW D b (none) (fun w' => w' k2 = some (eN dA n2 (fun j => if t9 ≤ j ∧ j < t9 + 85 then F1 (f9 + (j - t9)) else F2 j)) ∧ ∀ id : Nat, id ≠ k2 → w' id = w id)) 0 0 (Fb b) := by
  refine q_of (cc := cX7_copy) (maxL := 5) (ret := none) (by decide) rfl rfl ?_
  intro p e s m args below meth c ls hx hb hr hml hts hown hlocks hG hW hS hl
  have hown : s.vm.findClass RX7 = some m.cls := hown
  have hl : lv_has ls 5 [(0, .ref (b + k1)), (1, .int (nI f9)), (2, .ref (b + k2)), (3, .int (nI t9))] := hl
  refine lv_iconst (v := nI 0) hx hb dX7_copy_0 (by decide) ?_
  refine lv_istore (lv' := [(4, .int (nI 0)), (0, .ref (b + k1)), (1, .int (nI f9)), (2, .ref (b + k2)), (3, .int (nI t9))]) hx hb dX7_copy_1 hl (by decide) rfl (fun ls hl => ?_)
  have L3 : ∀ (n3 : Nat) (u : Nat), u ≤ 85 → 85 - u < n3 → ∀ (x3_4 : Int32), x3_4 = nI (u) → ∀ (wa : Wd) (H : Heap) (locs : List Loc), wa k1 = some (eN dA n1 F1) → (wa k2 = some (eN dA n2 (fun j => if t9 ≤ j ∧ j < t9 + u then F1 (f9 + (j - t9)) else F2 j))) → (∀ id : Nat, id ≠ k2 → wa id = w id) → WP D b wa H → va_S (Fb b) s.heap H locs → ∀ (ls : Array Slot), lv_has ls 5 [(0, .ref (b + k1)), (1, .int (nI f9)), (2, .ref (b + k2)), (3, .int (nI t9)), (4, .int x3_4)] → W p l e ({ frames := 0, cells := 0, slots := 0, locals := 0 } : Room) s m args below meth c H locs 0 0 (MQ below (QW D b (none) (fun w' => w' k2 = some (eN dA n2 (fun j => if t9 ≤ j ∧ j < t9 + 85 then F1 (f9 + (j - t9)) else F2 j)) ∧ ∀ id : Nat, id ≠ k2 → w' id = w id)) args s 0 0 (Fb b)) (F0 m 3 ls []) := by
    intro n3
    induction n3 with
    | zero =>
      intro u hu0 hn3 x3_4 ex3_4 wa H locs h1 h2 fr hW hS ls hl
      exact absurd hn3 (Nat.not_lt_zero _)
    | succ n3 ih3 =>
      intro u hu0 hn3 x3_4 ex3_4 wa H locs h1 h2 fr hW hS ls hl
      subst ex3_4
      refine lv_iload hx hb dX7_copy_3 (lv_at hl 4 rfl) ?_
      refine lv_bipush (v := nI 85) hx hb dX7_copy_5 (by decide) ?_
      refine lv_icmp_ge (tgt := 28) hx hb dX7_copy_7 (by decide) (fun c_7 => ?_) (fun c_7 => ?_)
      · skip
        have c_7 : 85 ≤ u := (nI_leI (a := 85) (b := u) (by omega) (by omega)).mp c_7
        exact q_wv hx hb hr hlocks hW hS dX7_copy_28 (by rw [show u = 85 by omega] at h2; exact ⟨h2, fr⟩) (by decide) (by decide)
      · skip
        have c_7 : ¬ (85 ≤ u) := fun h__ => c_7 ((nI_leI (a := 85) (b := u) (by omega) (by omega)).mpr h__)
        refine lv_aload_n hx hb dX7_copy_10 rfl (lv_at hl 2 rfl) ?_
        refine lv_iload_n hx hb dX7_copy_11 rfl (lv_at hl 3 rfl) ?_
        refine lv_iload hx hb dX7_copy_12 (lv_at hl 4 rfl) ?_
        refine lv_iadd hx hb dX7_copy_14 ?_
        refine q_top (y := nI (t9 + u)) (nI_add _ _) ?_
        refine lv_aload_n hx hb dX7_copy_15 rfl (lv_at hl 0 rfl) ?_
        refine lv_iload_n hx hb dX7_copy_16 rfl (lv_at hl 1 rfl) ?_
        refine lv_iload hx hb dX7_copy_17 (lv_at hl 4 rfl) ?_
        refine lv_iadd hx hb dX7_copy_19 ?_
        refine q_top (y := nI (f9 + u)) (nI_add _ _) ?_
        refine q_iald hx hb hG hW h1 (by omega) (by omega) dX7_copy_20 ?_
        refine q_nast hx hb hG hW hS h2 (by omega) (by omega) dX7_copy_21 (fun H locs hW hS hz21 => ?_)
        obtain ⟨w1, ew1⟩ : ∃ wq__ : Wd, wq__ = va_up wa k2 (some (eN dA n2 (va_up (fun j => if t9 ≤ j ∧ j < t9 + u then F1 (f9 + (j - t9)) else F2 j) (t9 + u) (F1 (f9 + u))))) := ⟨_, rfl⟩
        replace hW : WP D b w1 H := by rw [ew1]; exact hW
        have frw1 : ∀ id : Nat, id ≠ k2 → w1 id = wa id := fun id h9 => by rw [ew1, up_ne h9]
        replace h1 : w1 k1 = some (eN dA n1 F1) := (frw1 _ (by omega)).trans h1
        replace h2 : w1 k2 = some (eN dA n2 (va_up (fun j => if t9 ≤ j ∧ j < t9 + u then F1 (f9 + (j - t9)) else F2 j) (t9 + u) (F1 (f9 + u)))) := by rw [ew1]; exact up_eq
        refine lv_iinc (v := nI (u + 1)) (lv' := [(4, .int (nI (u + 1))), (0, .ref (b + k1)), (1, .int (nI f9)), (2, .ref (b + k2)), (3, .int (nI t9))]) hx hb dX7_copy_22 hl (k := 4) rfl (nI_add _ 1) (by decide) rfl (fun ls hl => ?_)
        refine lv_goto (tgt := 3) hx hb dX7_copy_25 (by decide) ?_
        exact ih3 (u + 1) (by omega) (by omega) _ (by first | rfl | (congr 1; omega)) _ _ _ (by exact h1) (by exact h2.trans (eN_congr (range_step (f := fun j => F1 (f9 + (j - t9))) (by omega) (by show F1 (f9 + u) = F1 (f9 + (t9 + u - t9)); rw [Nat.add_sub_cancel_left])))) (by intro id h9; rw [frw1 id (by omega)]; exact fr id h9) hW hS _ (lv_sub hl [1, 2, 3, 4, 0] rfl)
  exact L3 ((85 - 0) + 1) 0 (by omega) (Nat.lt_succ_self _) _ (by first | rfl | (congr 1; omega)) _ _ _ (by exact h1) (by exact h2.trans (eN_congr (range_0 (f := fun j => F1 (f9 + (j - t9)))))) (by intro id h9; rfl) hW hS _ (lv_sub hl [1, 2, 3, 4, 0] rfl)

set_option maxHeartbeats 300000 in
set_option maxRecDepth 100000 in
/-- isRoom -/
theorem c_X7_isRoom_t (l : Launch) {D : va_G} {dA : Nat → Nat} {b : Nat} {w : Wd} {sv nc th pl lt dn : Int32} (hm0 : w 36 = some (modO b sv nc th pl lt dn)) {F : Nat → Nat} (hm1 : w 37 = some (eN dA 85 F)) {P : Pl} (hRp : rep F P) (hP : okP P) : Met l yX7_isRoom wsX7_isRoom ({ frames := 0, cells := 0, slots := 0, locals := 0 } : Room) (PC D dA b w [.ref (b + 36), .int (nI 1)]) (QR (some (.int (if P.w < 10 then 1 else 0)))) 0 0 Fno := by
  refine q_of (cc := cX7_isRoom) (maxL := 2) (ret := (some .boolean)) (by decide) rfl rfl ?_
  intro p e s m args below meth c ls hx hb hr hml hts hown hlocks hG hW hS hl
  have hown : s.vm.findClass RX7 = some m.cls := hown
  have hinX7 : ∀ w ∈ u_ws RX7 TX7 14, w ∈ wsX7_isRoom := fun w h => (goodIn_r (big := wsX7_isRoom) (u_ws RX7 TX7 14) [2, 3, 4, 5, 6, 7, 8, 9, 10, 11, 12, 13, 14, 15] (by decide +kernel) (by decide +kernel) w h).1
  have hl : lv_has ls 2 [(0, .ref (b + 36)), (1, .int (nI 1))] := hl
  obtain ⟨hPw, hPn, hPW, hPN, hPS⟩ := id hP
  have hr5 := hRp.2.1
  have hr6 := hRp.2.2.1
  refine lv_iload_n hx hb dX7_isRoom_0 rfl (lv_at hl 1 rfl) ?_
  refine lv_if_eq (tgt := 23) hx hb dX7_isRoom_1 (by decide) (fun c_1 => ?_) (fun c_1 => ?_)
  · skip
    have c_1 : 1 = 0 := (nI_eq0 (i := 1) (by omega)).mp c_1
    exact absurd c_1 (by omega)
  · skip
    have c_1 : ¬ (1 = 0) := fun h__ => c_1 ((nI_eq0 (i := 1) (by omega)).mpr h__)
    refine lv_aload_n hx hb dX7_isRoom_4 rfl (lv_at hl 0 rfl) ?_
    refine q_get hx hb hts hinX7 hown hG hW hm0 rfl 0 (by decide) (hts (.fieldLink RX7 7 "FoleyMixerModel" "s" "[I") (List.mem_of_getElem? (i := 1) rfl)) rfl rfl dX7_isRoom_5 ?_
    refine lv_iconst (v := nI 5) hx hb dX7_isRoom_8 (by decide) ?_
    refine q_iald hx hb hG hW hm1 (by omega) (by omega) dX7_isRoom_9 ?_
    refine q_top (y := nI (P.w)) (by exact congrArg nI hr5) ?_
    refine lv_bipush (v := nI 10) hx hb dX7_isRoom_10 (by decide) ?_
    refine lv_icmp_ge (tgt := 19) hx hb dX7_isRoom_12 (by decide) (fun c_12 => ?_) (fun c_12 => ?_)
    · skip
      have c_12 : 10 ≤ P.w := (nI_leI (a := 10) (b := P.w) (by omega) (by omega)).mp c_12
      refine lv_iconst (v := nI 0) hx hb dX7_isRoom_19 (by decide) ?_
      refine lv_goto (tgt := 40) hx hb dX7_isRoom_20 (by decide) ?_
      exact q_rz hx hb hr hlocks dX7_isRoom_40 (by first | rfl | (rw [if_pos (by omega)]; rfl) | (rw [if_neg (by omega)]; rfl)) (q_bn _)
    · skip
      have c_12 : ¬ (10 ≤ P.w) := fun h__ => c_12 ((nI_leI (a := 10) (b := P.w) (by omega) (by omega)).mpr h__)
      refine lv_iconst (v := nI 1) hx hb dX7_isRoom_15 (by decide) ?_
      refine lv_goto (tgt := 40) hx hb dX7_isRoom_16 (by decide) ?_
      exact q_rz hx hb hr hlocks dX7_isRoom_40 (by first | rfl | (rw [if_pos (by omega)]; rfl) | (rw [if_neg (by omega)]; rfl)) (q_bn _)

set_option maxHeartbeats 300000 in
set_option maxRecDepth 100000 in
/-- isRoom -/
theorem c_X7_isRoom_f (l : Launch) {D : va_G} {dA : Nat → Nat} {b : Nat} {w : Wd} {sv nc th pl lt dn : Int32} (hm0 : w 36 = some (modO b sv nc th pl lt dn)) {F : Nat → Nat} (hm1 : w 37 = some (eN dA 85 F)) {P : Pl} (hRp : rep F P) (hP : okP P) : Met l yX7_isRoom wsX7_isRoom ({ frames := 0, cells := 0, slots := 0, locals := 0 } : Room) (PC D dA b w [.ref (b + 36), .int (nI 0)]) (QR (some (.int (if P.n < 12 then 1 else 0)))) 0 0 Fno := by
  refine q_of (cc := cX7_isRoom) (maxL := 2) (ret := (some .boolean)) (by decide) rfl rfl ?_
  intro p e s m args below meth c ls hx hb hr hml hts hown hlocks hG hW hS hl
  have hown : s.vm.findClass RX7 = some m.cls := hown
  have hinX7 : ∀ w ∈ u_ws RX7 TX7 14, w ∈ wsX7_isRoom := fun w h => (goodIn_r (big := wsX7_isRoom) (u_ws RX7 TX7 14) [2, 3, 4, 5, 6, 7, 8, 9, 10, 11, 12, 13, 14, 15] (by decide +kernel) (by decide +kernel) w h).1
  have hl : lv_has ls 2 [(0, .ref (b + 36)), (1, .int (nI 0))] := hl
  obtain ⟨hPw, hPn, hPW, hPN, hPS⟩ := id hP
  have hr5 := hRp.2.1
  have hr6 := hRp.2.2.1
  refine lv_iload_n hx hb dX7_isRoom_0 rfl (lv_at hl 1 rfl) ?_
  refine lv_if_eq (tgt := 23) hx hb dX7_isRoom_1 (by decide) (fun c_1 => ?_) (fun c_1 => ?_)
  · skip
    have c_1 : 0 = 0 := (nI_eq0 (i := 0) (by omega)).mp c_1
    refine lv_aload_n hx hb dX7_isRoom_23 rfl (lv_at hl 0 rfl) ?_
    refine q_get hx hb hts hinX7 hown hG hW hm0 rfl 0 (by decide) (hts (.fieldLink RX7 7 "FoleyMixerModel" "s" "[I") (List.mem_of_getElem? (i := 1) rfl)) rfl rfl dX7_isRoom_24 ?_
    refine lv_bipush (v := nI 6) hx hb dX7_isRoom_27 (by decide) ?_
    refine q_iald hx hb hG hW hm1 (by omega) (by omega) dX7_isRoom_29 ?_
    refine q_top (y := nI (P.n)) (by exact congrArg nI hr6) ?_
    refine lv_bipush (v := nI 12) hx hb dX7_isRoom_30 (by decide) ?_
    refine lv_icmp_ge (tgt := 39) hx hb dX7_isRoom_32 (by decide) (fun c_32 => ?_) (fun c_32 => ?_)
    · skip
      have c_32 : 12 ≤ P.n := (nI_leI (a := 12) (b := P.n) (by omega) (by omega)).mp c_32
      refine lv_iconst (v := nI 0) hx hb dX7_isRoom_39 (by decide) ?_
      exact q_rz hx hb hr hlocks dX7_isRoom_40 (by first | rfl | (rw [if_pos (by omega)]; rfl) | (rw [if_neg (by omega)]; rfl)) (q_bn _)
    · skip
      have c_32 : ¬ (12 ≤ P.n) := fun h__ => c_32 ((nI_leI (a := 12) (b := P.n) (by omega) (by omega)).mpr h__)
      refine lv_iconst (v := nI 1) hx hb dX7_isRoom_35 (by decide) ?_
      refine lv_goto (tgt := 40) hx hb dX7_isRoom_36 (by decide) ?_
      exact q_rz hx hb hr hlocks dX7_isRoom_40 (by first | rfl | (rw [if_pos (by omega)]; rfl) | (rw [if_neg (by omega)]; rfl)) (q_bn _)
  · skip
    have c_1 : ¬ (0 = 0) := fun h__ => c_1 ((nI_eq0 (i := 0) (by omega)).mpr h__)
    exact absurd c_1 (by omega)

set_option maxHeartbeats 300000 in
set_option maxRecDepth 100000 in
/-- areNumbers -/
theorem c_X7_areNumbers (l : Launch) {D : va_G} {dA : Nat → Nat} {b : Nat} {w : Wd} (x y z : Int32) : Met l yX7_areNumbers wsX7_areNumbers ({ frames := 1, cells := 0, slots := 0, locals := 22 } : Room) (PC D dA b w [.int (x), .int (y), .int (z)]) (QR (some (.int (if okC x y z then 1 else 0)))) 0 0 Fno := by
  refine q_of (cc := cX7_areNumbers) (maxL := 3) (ret := (some .boolean)) (by decide) rfl rfl ?_
  intro p e s m args below meth c ls hx hb hr hml hts hown hlocks hG hW hS hl
  have hown : s.vm.findClass RX7 = some m.cls := hown
  have hl : lv_has ls 3 [(0, .int (x)), (1, .int (y)), (2, .int (z))] := hl
  refine lv_iload_n hx hb dX7_areNumbers_0 rfl (lv_at hl 0 rfl) ?_
  refine lv_iconst (v := nI 0) hx hb dX7_areNumbers_1 (by decide) ?_
  refine lv_bipush (v := nI 99) hx hb dX7_areNumbers_2 (by decide) ?_
  refine q_R1 (va_runS (As := [.int (x), .int (nI 0), .int (nI 99)]) (rest := []) ⟨hx, hb, hml, hown, hts⟩ (c_X7_in l (x) (nI (0)) (nI (99))) (va_cwS 3 hts gX7_areNumbers_X7_in rfl rfl rfl (by decide +kernel) ⟨Nat.le_of_ble_eq_true rfl, Nat.le_of_ble_eq_true rfl⟩) (q_preS hG hW hS) rfl rfl hl.1 rfl (lv_room (Nat.le_of_ble_eq_true rfl)) dX7_areNumbers_4 ⟨Nat.le_of_ble_eq_true rfl, Nat.le_of_ble_eq_true rfl⟩) ?_
  refine lv_if_eq (tgt := 34) hx hb dX7_areNumbers_7 (by decide) (fun c_7 => ?_) (fun c_7 => ?_)
  · skip
    have c_7 : ¬ ((nI (0)) ≤ (x) ∧ (x) ≤ (nI (99))) := pI_eq0.mp c_7
    refine lv_iconst (v := nI 0) hx hb dX7_areNumbers_34 (by decide) ?_
    exact q_rz hx hb hr hlocks dX7_areNumbers_35 (by first | (rw [if_pos (show okC x y z from ⟨c_7, c_17, c_27⟩)]; rfl) | (rw [if_neg (fun q9 : okC x y z => c_7 q9.1)]; rfl) | (rw [if_neg (fun q9 : okC x y z => c_17 q9.2.1)]; rfl) | (rw [if_neg (fun q9 : okC x y z => c_27 q9.2.2)]; rfl)) (q_bn _)
  · skip
    have c_7 : (nI (0)) ≤ (x) ∧ (x) ≤ (nI (99)) := Decidable.byContradiction (fun h__ => c_7 (pI_eq0.mpr h__))
    refine lv_iload_n hx hb dX7_areNumbers_10 rfl (lv_at hl 1 rfl) ?_
    refine lv_iconst (v := nI 1) hx hb dX7_areNumbers_11 (by decide) ?_
    refine lv_bipush (v := nI 20) hx hb dX7_areNumbers_12 (by decide) ?_
    refine q_R1 (va_runS (As := [.int (y), .int (nI 1), .int (nI 20)]) (rest := []) ⟨hx, hb, hml, hown, hts⟩ (c_X7_in l (y) (nI (1)) (nI (20))) (va_cwS 3 hts gX7_areNumbers_X7_in rfl rfl rfl (by decide +kernel) ⟨Nat.le_of_ble_eq_true rfl, Nat.le_of_ble_eq_true rfl⟩) (q_preS hG hW hS) rfl rfl hl.1 rfl (lv_room (Nat.le_of_ble_eq_true rfl)) dX7_areNumbers_14 ⟨Nat.le_of_ble_eq_true rfl, Nat.le_of_ble_eq_true rfl⟩) ?_
    refine lv_if_eq (tgt := 34) hx hb dX7_areNumbers_17 (by decide) (fun c_17 => ?_) (fun c_17 => ?_)
    · skip
      have c_17 : ¬ ((nI (1)) ≤ (y) ∧ (y) ≤ (nI (20))) := pI_eq0.mp c_17
      refine lv_iconst (v := nI 0) hx hb dX7_areNumbers_34 (by decide) ?_
      exact q_rz hx hb hr hlocks dX7_areNumbers_35 (by first | (rw [if_pos (show okC x y z from ⟨c_7, c_17, c_27⟩)]; rfl) | (rw [if_neg (fun q9 : okC x y z => c_7 q9.1)]; rfl) | (rw [if_neg (fun q9 : okC x y z => c_17 q9.2.1)]; rfl) | (rw [if_neg (fun q9 : okC x y z => c_27 q9.2.2)]; rfl)) (q_bn _)
    · skip
      have c_17 : (nI (1)) ≤ (y) ∧ (y) ≤ (nI (20)) := Decidable.byContradiction (fun h__ => c_17 (pI_eq0.mpr h__))
      refine lv_iload_n hx hb dX7_areNumbers_20 rfl (lv_at hl 2 rfl) ?_
      refine lv_iconst (v := nI 1) hx hb dX7_areNumbers_21 (by decide) ?_
      refine lv_bipush (v := nI 30) hx hb dX7_areNumbers_22 (by decide) ?_
      refine q_R1 (va_runS (As := [.int (z), .int (nI 1), .int (nI 30)]) (rest := []) ⟨hx, hb, hml, hown, hts⟩ (c_X7_in l (z) (nI (1)) (nI (30))) (va_cwS 3 hts gX7_areNumbers_X7_in rfl rfl rfl (by decide +kernel) ⟨Nat.le_of_ble_eq_true rfl, Nat.le_of_ble_eq_true rfl⟩) (q_preS hG hW hS) rfl rfl hl.1 rfl (lv_room (Nat.le_of_ble_eq_true rfl)) dX7_areNumbers_24 ⟨Nat.le_of_ble_eq_true rfl, Nat.le_of_ble_eq_true rfl⟩) ?_
      refine lv_if_eq (tgt := 34) hx hb dX7_areNumbers_27 (by decide) (fun c_27 => ?_) (fun c_27 => ?_)
      · skip
        have c_27 : ¬ ((nI (1)) ≤ (z) ∧ (z) ≤ (nI (30))) := pI_eq0.mp c_27
        refine lv_iconst (v := nI 0) hx hb dX7_areNumbers_34 (by decide) ?_
        exact q_rz hx hb hr hlocks dX7_areNumbers_35 (by first | (rw [if_pos (show okC x y z from ⟨c_7, c_17, c_27⟩)]; rfl) | (rw [if_neg (fun q9 : okC x y z => c_7 q9.1)]; rfl) | (rw [if_neg (fun q9 : okC x y z => c_17 q9.2.1)]; rfl) | (rw [if_neg (fun q9 : okC x y z => c_27 q9.2.2)]; rfl)) (q_bn _)
      · skip
        have c_27 : (nI (1)) ≤ (z) ∧ (z) ≤ (nI (30)) := Decidable.byContradiction (fun h__ => c_27 (pI_eq0.mpr h__))
        refine lv_iconst (v := nI 1) hx hb dX7_areNumbers_30 (by decide) ?_
        refine lv_goto (tgt := 35) hx hb dX7_areNumbers_31 (by decide) ?_
        exact q_rz hx hb hr hlocks dX7_areNumbers_35 (by first | (rw [if_pos (show okC x y z from ⟨c_7, c_17, c_27⟩)]; rfl) | (rw [if_neg (fun q9 : okC x y z => c_7 q9.1)]; rfl) | (rw [if_neg (fun q9 : okC x y z => c_17 q9.2.1)]; rfl) | (rw [if_neg (fun q9 : okC x y z => c_27 q9.2.2)]; rfl)) (q_bn _)

