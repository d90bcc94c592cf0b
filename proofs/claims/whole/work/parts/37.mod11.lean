set_option maxHeartbeats 300000 in
set_option maxRecDepth 100000 in
/-- bestShift -/
theorem c_X7_bestShift (l : Launch) {D : va_G} {dA : Nat → Nat} {b : Nat} {w : Wd} {n nc : Nat} {Q9 : Pl} {Hs : Nat → Pl} {SL : Nat → Option Pl} {C : Nat → Nat} {tt : Int32} (hmd : isMod dA b w (Q9, (n, Hs), SL, (nc, C)) tt) (x : Int32) : Met l yX7_bestShift wsX7_bestShift ({ frames := 6, cells := 0, slots := 0, locals := 141 } : Room) (PC D dA b w [.ref (b + 36), .int (x)]) (QW D b (some (.int (if 0 ≤ x ∧ x < nI Q9.n then (bsh Q9 (i32n x) 21).1 + nI 10 else 0))) (fun w' => (((0 ≤ x ∧ x < nI Q9.n) ∧ isMod dA b w' (Q9, (n, Hs), SL, (nc, C)) (nI 0)) ∨ ((¬ (0 ≤ x ∧ x < nI Q9.n)) ∧ isMod dA b w' (Q9, (n, Hs), SL, (nc, C)) (nI 1))) ∧ ∀ id : Nat, (id < 36 ∨ 45 ≤ id) → w' id = w id)) 0 0 (Fb b) := by
  refine q_of (cc := cX7_bestShift) (maxL := 9) (ret := (some .int)) (by decide) rfl rfl ?_
  intro p e s m args below meth c ls hx hb hr hml hts hown hlocks hG hW hS hl
  have hown : s.vm.findClass RX7 = some m.cls := hown
  have hinX7 : ∀ w ∈ u_ws RX7 TX7 14, w ∈ wsX7_bestShift := fun w h => (goodIn_r (big := wsX7_bestShift) (u_ws RX7 TX7 14) [62, 63, 64, 65, 66, 67, 68, 69, 70, 71, 72, 73, 74, 75] (by decide +kernel) (by decide +kernel) w h).1
  have hl : lv_has ls 9 [(0, .ref (b + 36)), (1, .int (x))] := hl
  obtain ⟨pl, lt, dn, F, G, GS, Zt, D0, M0, TD, hm0, hm1, ⟨hRp, hP⟩, hm38, hsv, hm39, hm40, hsl, hm41, hbu, hm42, hm43, hm44⟩ := id hmd
  change w 36 = some (modO b (nI n) (nI nc) tt pl lt dn) at hm0
  change rep F Q9 at hRp
  change okP Q9 at hP
  change mSv n G Hs at hsv
  change mSl GS Zt SL at hsl
  change w 41 = some (eN dA 80 C) at hm41
  change mBu nc C at hbu
  have hn6 := hsv.1
  have hnc := hbu.1
  obtain ⟨hPw, hPn, hPW, hPN, hPS⟩ := id hP
  have hr5 := hRp.2.1
  have hr6 := hRp.2.2.1
  have hRq := hRp
  have hPq := hP
  obtain ⟨P, hPe⟩ : ∃ P : Pl, P = Q9 := ⟨_, rfl⟩
  replace hRp : rep F P := by rw [hPe]; exact hRq
  replace hP : okP P := by rw [hPe]; exact hPq
  have hPn2 : P.n ≤ 12 := hP.2.1
  refine lv_aload_n hx hb dX7_bestShift_0 rfl (lv_at hl 0 rfl) ?_
  refine lv_aload_n hx hb dX7_bestShift_1 rfl (lv_at hl 0 rfl) ?_
  refine lv_iconst (v := nI 0) hx hb dX7_bestShift_2 (by decide) ?_
  refine lv_iload_n hx hb dX7_bestShift_3 rfl (lv_at hl 1 rfl) ?_
  refine q_R1 (va_runV (As := [.int (nI 0), .int (x)]) (rest := [.ref (b + 36)]) ⟨hx, hb, hml, hown, hts⟩ (c_isCueN l hm0 hm1 hRp hP (x)) (cwV 2 hts gX7_bestShift_X7_isCue rfl rfl rfl (by decide +kernel) ⟨Nat.le_of_ble_eq_true rfl, Nat.le_of_ble_eq_true rfl⟩) (q_preV hG hW hS hm0 rfl) rfl rfl hl.1 rfl (lv_room (Nat.le_of_ble_eq_true rfl)) dX7_bestShift_4 ⟨Nat.le_of_ble_eq_true rfl, Nat.le_of_ble_eq_true rfl⟩) ?_
  refine lv_if_eq (tgt := 14) hx hb dX7_bestShift_7 (by decide) (fun c_7 => ?_) (fun c_7 => ?_)
  · skip
    have c_7 : ¬ (0 ≤ x ∧ x < nI P.n) := pI_eq0.mp c_7
    rw [hPe] at c_7
    refine lv_iconst (v := nI 1) hx hb dX7_bestShift_14 (by decide) ?_
    refine q_W1 (va_runV (As := [.int (nI 1)]) (rest := []) ⟨hx, hb, hml, hown, hts⟩ (c_X7_holds l hm0 (nI (1))) (cwV 1 hts gX7_bestShift_X7_holds rfl rfl rfl (by decide +kernel) ⟨Nat.le_of_ble_eq_true rfl, Nat.le_of_ble_eq_true rfl⟩) (q_preV hG hW hS hm0 rfl) rfl rfl hl.1 rfl (lv_room (Nat.le_of_ble_eq_true rfl)) dX7_bestShift_15 ⟨Nat.le_of_ble_eq_true rfl, Nat.le_of_ble_eq_true rfl⟩) hS (fun w_15 H locs hp15 hW hS => ?_)
    obtain ⟨hm0, fr15⟩ := hp15
    replace hm1 : w_15 37 = some (eN dA 85 F) := (fr15 _ (by omega)).trans hm1
    replace hm38 : w_15 38 = some (eN dA 510 G) := (fr15 _ (by omega)).trans hm38
    replace hm39 : w_15 39 = some (eN dA 170 GS) := (fr15 _ (by omega)).trans hm39
    replace hm40 : w_15 40 = some (eZ dA 2 Zt) := (fr15 _ (by omega)).trans hm40
    replace hm41 : w_15 41 = some (eN dA 80 C) := (fr15 _ (by omega)).trans hm41
    replace hm42 : w_15 42 = some (eN dA 120 D0) := (fr15 _ (by omega)).trans hm42
    replace hm43 : w_15 43 = some (eN dA 120 M0) := (fr15 _ (by omega)).trans hm43
    replace hm44 : w_15 44 = some (eN dA 3 TD) := (fr15 _ (by omega)).trans hm44
    refine q_topv (v' := .int (nI 0)) (congrArg Value.int (by decide)) ?_
    refine lv_if_ne (tgt := 23) hx hb dX7_bestShift_18 (by decide) (fun c_18 => ?_) (fun c_18 => ?_)
    · skip
      have c_18 : ¬ (0 = 0) := fun h__ => c_18 ((nI_eq0 (i := 0) (by omega)).mpr h__)
      exact absurd c_18 (by omega)
    · skip
      have c_18 : 0 = 0 := (nI_eq0 (i := 0) (by omega)).mp c_18
      refine lv_iconst (v := nI 0) hx hb dX7_bestShift_21 (by decide) ?_
      exact q_wi hx hb hr hlocks hW hS dX7_bestShift_22 (by rw [if_neg (by first | exact fun q9 => c_7 q9)]; rfl) (by exact ⟨Or.inr ⟨c_7, ⟨_, _, _, _, _, _, _, _, _, _, hm0, hm1, ⟨hRq, hPq⟩, hm38, hsv, hm39, hm40, hsl, hm41, hbu, hm42, hm43, hm44⟩⟩, by intro id h9; rw [fr15 id (by omega)]; try rfl⟩) (by decide) (by decide)
  · skip
    have c_7 : 0 ≤ x ∧ x < nI P.n := Decidable.byContradiction (fun h__ => c_7 (pI_eq0.mpr h__))
    rw [hPe] at c_7
    refine lv_iconst (v := nI 0) hx hb dX7_bestShift_10 (by decide) ?_
    refine lv_goto (tgt := 15) hx hb dX7_bestShift_11 (by decide) ?_
    refine q_W1 (va_runV (As := [.int (nI 0)]) (rest := []) ⟨hx, hb, hml, hown, hts⟩ (c_X7_holds l hm0 (nI (0))) (cwV 1 hts gX7_bestShift_X7_holds rfl rfl rfl (by decide +kernel) ⟨Nat.le_of_ble_eq_true rfl, Nat.le_of_ble_eq_true rfl⟩) (q_preV hG hW hS hm0 rfl) rfl rfl hl.1 rfl (lv_room (Nat.le_of_ble_eq_true rfl)) dX7_bestShift_15 ⟨Nat.le_of_ble_eq_true rfl, Nat.le_of_ble_eq_true rfl⟩) hS (fun w_15 H locs hp15 hW hS => ?_)
    obtain ⟨hm0, fr15⟩ := hp15
    replace hm1 : w_15 37 = some (eN dA 85 F) := (fr15 _ (by omega)).trans hm1
    replace hm38 : w_15 38 = some (eN dA 510 G) := (fr15 _ (by omega)).trans hm38
    replace hm39 : w_15 39 = some (eN dA 170 GS) := (fr15 _ (by omega)).trans hm39
    replace hm40 : w_15 40 = some (eZ dA 2 Zt) := (fr15 _ (by omega)).trans hm40
    replace hm41 : w_15 41 = some (eN dA 80 C) := (fr15 _ (by omega)).trans hm41
    replace hm42 : w_15 42 = some (eN dA 120 D0) := (fr15 _ (by omega)).trans hm42
    replace hm43 : w_15 43 = some (eN dA 120 M0) := (fr15 _ (by omega)).trans hm43
    replace hm44 : w_15 44 = some (eN dA 3 TD) := (fr15 _ (by omega)).trans hm44
    refine q_topv (v' := .int (nI 1)) (congrArg Value.int (by decide)) ?_
    refine lv_if_ne (tgt := 23) hx hb dX7_bestShift_18 (by decide) (fun c_18 => ?_) (fun c_18 => ?_)
    · skip
      have c_18 : ¬ (1 = 0) := fun h__ => c_18 ((nI_eq0 (i := 1) (by omega)).mpr h__)
      obtain ⟨ex9, bx9⟩ := has_n (by omega) c_7.1 c_7.2
      have el_23 : x = nI (i32n x) := by exact ex9
      rw [el_23] at hl
      refine lv_iconst (v := nI 0) hx hb dX7_bestShift_23 (by decide) ?_
      refine lv_iload_n hx hb dX7_bestShift_24 rfl (lv_at hl 1 rfl) ?_
      refine q_R1 (va_runS (As := [.int (nI 0), .int (nI (i32n x))]) (rest := []) ⟨hx, hb, hml, hown, hts⟩ (c_X7_whereIs_f l (i32n x)) (va_cwS 2 hts gX7_bestShift_X7_whereIs rfl rfl rfl (by decide +kernel) ⟨Nat.le_of_ble_eq_true rfl, Nat.le_of_ble_eq_true rfl⟩) (q_preS hG hW hS) rfl rfl hl.1 rfl (lv_room (Nat.le_of_ble_eq_true rfl)) dX7_bestShift_25 ⟨Nat.le_of_ble_eq_true rfl, Nat.le_of_ble_eq_true rfl⟩) ?_
      refine lv_iconst (v := nI 0) hx hb dX7_bestShift_28 (by decide) ?_
      refine lv_iadd hx hb dX7_bestShift_29 ?_
      refine q_top (y := nI ((37 + 4 * (i32n x)) + 0)) (nI_add _ _) ?_
      refine lv_istore_n (lv' := [(2, .int (nI ((37 + 4 * (i32n x)) + 0))), (0, .ref (b + 36)), (1, .int (nI (i32n x)))]) hx hb dX7_bestShift_30 rfl hl (by decide) rfl (fun ls hl => ?_)
      refine lv_aload_n hx hb dX7_bestShift_31 rfl (lv_at hl 1 rfl) ?_
      refine q_get hx hb hts hinX7 hown hG hW hm0 rfl 0 (by decide) (hts (.fieldLink RX7 7 "FoleyMixerModel" "s" "[I") (List.mem_of_getElem? (i := 1) rfl)) rfl rfl dX7_bestShift_32 ?_
      refine lv_iload_n hx hb dX7_bestShift_35 rfl (lv_at hl 0 rfl) ?_
      refine q_iald hx hb hG hW hm1 (by omega) (by omega) dX7_bestShift_36 ?_
      refine q_top (y := nI (Q9.N (i32n x) 0)) (by exact congrArg nI (hRq.2.2.2.2 _ bx9 0 (by decide))) ?_
      refine lv_istore_n (lv' := [(3, .int (nI (Q9.N (i32n x) 0))), (2, .int (nI ((37 + 4 * (i32n x)) + 0))), (0, .ref (b + 36)), (1, .int (nI (i32n x)))]) hx hb dX7_bestShift_37 rfl hl (by decide) rfl (fun ls hl => ?_)
      refine lv_iconst (v := nI 0) hx hb dX7_bestShift_38 (by decide) ?_
      refine lv_istore (lv' := [(4, .int (nI 0)), (3, .int (nI (Q9.N (i32n x) 0))), (2, .int (nI ((37 + 4 * (i32n x)) + 0))), (0, .ref (b + 36)), (1, .int (nI (i32n x)))]) hx hb dX7_bestShift_39 hl (by decide) rfl (fun ls hl => ?_)
      refine lv_aload_n hx hb dX7_bestShift_41 rfl (lv_at hl 3 rfl) ?_
      refine q_W0 (va_runV (As := []) (rest := []) ⟨hx, hb, hml, hown, hts⟩ (c_X7_layOut l hm0 hm1 hRp hP hm42 hm43) (cwV 0 hts gX7_bestShift_X7_layOut rfl rfl rfl (by decide +kernel) ⟨Nat.le_of_ble_eq_true rfl, Nat.le_of_ble_eq_true rfl⟩) (q_preV hG hW hS hm0 rfl) rfl rfl hl.1 rfl (lv_room (Nat.le_of_ble_eq_true rfl)) dX7_bestShift_42 ⟨Nat.le_of_ble_eq_true rfl, Nat.le_of_ble_eq_true rfl⟩) hS (fun w_42 H locs hp42 hW hS => ?_)
      obtain ⟨hm42, hm43, fr42⟩ := hp42
      replace hm1 : w_42 37 = some (eN dA 85 F) := (fr42 _ (by omega)).trans hm1
      replace hm38 : w_42 38 = some (eN dA 510 G) := (fr42 _ (by omega)).trans hm38
      replace hm39 : w_42 39 = some (eN dA 170 GS) := (fr42 _ (by omega)).trans hm39
      replace hm40 : w_42 40 = some (eZ dA 2 Zt) := (fr42 _ (by omega)).trans hm40
      replace hm41 : w_42 41 = some (eN dA 80 C) := (fr42 _ (by omega)).trans hm41
      replace hm44 : w_42 44 = some (eN dA 3 TD) := (fr42 _ (by omega)).trans hm44
      replace hm0 : w_42 36 = some (modO b (nI (n)) (nI (nc)) (nI (0)) (pl) (lt) (dn)) := (fr42 _ (by omega)).trans hm0
      refine lv_aload_n hx hb dX7_bestShift_45 rfl (lv_at hl 3 rfl) ?_
      refine q_R1 (va_runV (As := []) (rest := []) ⟨hx, hb, hml, hown, hts⟩ (c_X7_allMasked l hm0 hm1 hRp hP hm43) (cwV 0 hts gX7_bestShift_X7_allMasked rfl rfl rfl (by decide +kernel) ⟨Nat.le_of_ble_eq_true rfl, Nat.le_of_ble_eq_true rfl⟩) (q_preV hG hW hS hm0 rfl) rfl rfl hl.1 rfl (lv_room (Nat.le_of_ble_eq_true rfl)) dX7_bestShift_46 ⟨Nat.le_of_ble_eq_true rfl, Nat.le_of_ble_eq_true rfl⟩) ?_
      refine q_top (y := nI (ams Q9)) (by rw [hPe]) ?_
      refine lv_istore (lv' := [(5, .int (nI (ams Q9))), (4, .int (nI 0)), (3, .int (nI (Q9.N (i32n x) 0))), (2, .int (nI ((37 + 4 * (i32n x)) + 0))), (0, .ref (b + 36)), (1, .int (nI (i32n x)))]) hx hb dX7_bestShift_49 hl (by decide) rfl (fun ls hl => ?_)
      refine lv_iconst (v := nI 1) hx hb dX7_bestShift_51 (by decide) ?_
      refine lv_istore (lv' := [(6, .int (nI 1)), (5, .int (nI (ams Q9))), (4, .int (nI 0)), (3, .int (nI (Q9.N (i32n x) 0))), (2, .int (nI ((37 + 4 * (i32n x)) + 0))), (0, .ref (b + 36)), (1, .int (nI (i32n x)))]) hx hb dX7_bestShift_52 hl (by decide) rfl (fun ls hl => ?_)
      have L54 : ∀ (n54 : Nat) (k m8 : Nat) (xs : Int32) (Da Ma : Nat → Nat), 1 ≤ k → k ≤ 21 → (bsh Q9 (i32n x) k).2 = nI m8 → m8 ≤ 1200 → 21 - k < n54 → ∀ (x54_4 : Int32) (x54_5 : Int32) (x54_6 : Int32), x54_4 = (bsh Q9 (i32n x) k).1 → x54_5 = nI (m8) → x54_6 = nI (k) → ∀ (wa : Wd) (H : Heap) (locs : List Loc), wa 37 = some (eI dA 85 (va_up (fun j => nI (F j)) (37 + 4 * i32n x + 0) xs)) → wa 42 = some (eN dA 120 Da) → wa 43 = some (eN dA 120 Ma) → (∀ id : Nat, id ≠ 37 ∧ id ≠ 42 ∧ id ≠ 43 → wa id = w_42 id) → WP D b wa H → va_S (Fb b) s.heap H locs → ∀ (ls : Array Slot), lv_has ls 9 [(0, .ref (b + 36)), (1, .int (nI (i32n x))), (2, .int (nI ((37 + 4 * (i32n x)) + 0))), (3, .int (nI (Q9.N (i32n x) 0))), (4, .int x54_4), (5, .int x54_5), (6, .int x54_6)] → W p l e ({ frames := 6, cells := 0, slots := 0, locals := 141 } : Room) s m args below meth c H locs 0 0 (MQ below (QW D b (some (.int (if 0 ≤ x ∧ x < nI Q9.n then (bsh Q9 (i32n x) 21).1 + nI 10 else 0))) (fun w' => (((0 ≤ x ∧ x < nI Q9.n) ∧ isMod dA b w' (Q9, (n, Hs), SL, (nc, C)) (nI 0)) ∨ ((¬ (0 ≤ x ∧ x < nI Q9.n)) ∧ isMod dA b w' (Q9, (n, Hs), SL, (nc, C)) (nI 1))) ∧ ∀ id : Nat, (id < 36 ∨ 45 ≤ id) → w' id = w id)) args s 0 0 (Fb b)) (F0 m 54 ls []) := by
        intro n54
        induction n54 with
        | zero =>
          intro k m8 xs Da Ma hk0 hk1 hbq hm9 hn54 x54_4 x54_5 x54_6 ex54_4 ex54_5 ex54_6 wa H locs hm1 hm42 hm43 fr hW hS ls hl
          exact absurd hn54 (Nat.not_lt_zero _)
        | succ n54 ih54 =>
          intro k m8 xs Da Ma hk0 hk1 hbq hm9 hn54 x54_4 x54_5 x54_6 ex54_4 ex54_5 ex54_6 wa H locs hm1 hm42 hm43 fr hW hS ls hl
          subst ex54_4 ex54_5 ex54_6
          replace hm0 := (fr 36 (by omega)).trans hm0
          replace hm38 := (fr 38 (by omega)).trans hm38
          replace hm39 := (fr 39 (by omega)).trans hm39
          replace hm40 := (fr 40 (by omega)).trans hm40
          replace hm41 := (fr 41 (by omega)).trans hm41
          replace hm44 := (fr 44 (by omega)).trans hm44
          refine lv_iload hx hb dX7_bestShift_54 (lv_at hl 6 rfl) ?_
          refine lv_bipush (v := nI 20) hx hb dX7_bestShift_56 (by decide) ?_
          refine lv_icmp_gt (tgt := 158) hx hb dX7_bestShift_58 (by decide) (fun c_58 => ?_) (fun c_58 => ?_)
          · skip
            have c_58 : 20 < k := (nI_ltI (a := 20) (b := k) (by omega) (by omega)).mp c_58
            refine lv_aload_n hx hb dX7_bestShift_158 rfl (lv_at hl 0 rfl) ?_
            refine q_get hx hb hts hinX7 hown hG hW hm0 rfl 0 (by decide) (hts (.fieldLink RX7 7 "FoleyMixerModel" "s" "[I") (List.mem_of_getElem? (i := 1) rfl)) rfl rfl dX7_bestShift_159 ?_
            refine lv_iload_n hx hb dX7_bestShift_162 rfl (lv_at hl 2 rfl) ?_
            refine lv_iload_n hx hb dX7_bestShift_163 rfl (lv_at hl 3 rfl) ?_
            refine q_iast hx hb hG hW hS hm1 (by omega) (by omega) dX7_bestShift_164 (fun H locs hW hS hz164 => ?_)
            obtain ⟨w1, ew1⟩ : ∃ wq__ : Wd, wq__ = va_up wa 37 (some (eI dA 85 (va_up (va_up (fun j => nI (F j)) (37 + 4 * i32n x + 0) xs) (37 + 4 * i32n x + 0) (nI (Q9.N (i32n x) 0))))) := ⟨_, rfl⟩
            replace hW : WP D b w1 H := by rw [ew1]; exact hW
            have frw1 : ∀ id : Nat, id ≠ 37 → w1 id = wa id := fun id h9 => by rw [ew1, up_ne h9]
            replace hm38 : w1 38 = some (eN dA 510 G) := (frw1 _ (by omega)).trans hm38
            replace hm39 : w1 39 = some (eN dA 170 GS) := (frw1 _ (by omega)).trans hm39
            replace hm40 : w1 40 = some (eZ dA 2 Zt) := (frw1 _ (by omega)).trans hm40
            replace hm41 : w1 41 = some (eN dA 80 C) := (frw1 _ (by omega)).trans hm41
            replace hm44 : w1 44 = some (eN dA 3 TD) := (frw1 _ (by omega)).trans hm44
            replace hm0 : w1 36 = some (modO b (nI (n)) (nI (nc)) (nI (0)) (pl) (lt) (dn)) := (frw1 _ (by omega)).trans hm0
            replace hm42 : w1 42 = some (eN dA 120 Da) := (frw1 _ (by omega)).trans hm42
            replace hm43 : w1 43 = some (eN dA 120 Ma) := (frw1 _ (by omega)).trans hm43
            replace hm1 : w1 37 = some (eI dA 85 (va_up (va_up (fun j => nI (F j)) (37 + 4 * i32n x + 0) xs) (37 + 4 * i32n x + 0) (nI (Q9.N (i32n x) 0)))) := by rw [ew1]; exact up_eq
            replace hm1 : w1 37 = some (eN dA 85 F) := hm1.trans (eI_congr fun j => by rw [upI_up]; exact (upI_id (congrArg nI (hRq.2.2.2.2 _ bx9 0 (by decide)).symm) j).symm)
            refine lv_iload hx hb dX7_bestShift_165 (lv_at hl 4 rfl) ?_
            refine lv_bipush (v := nI 10) hx hb dX7_bestShift_167 (by decide) ?_
            refine lv_iadd hx hb dX7_bestShift_169 ?_
            exact q_wi hx hb hr hlocks hW hS dX7_bestShift_170 (by rw [if_pos c_7, show k = 21 by omega]) (by exact ⟨Or.inl ⟨c_7, ⟨_, _, _, _, _, _, _, _, _, _, hm0, hm1, ⟨hRq, hPq⟩, hm38, hsv, hm39, hm40, hsl, hm41, hbu, hm42, hm43, hm44⟩⟩, by intro id h9; rw [frw1 id (by omega)]; rw [fr id (by omega)]; rw [fr42 id (by omega)]; rw [fr15 id (by omega)]; try rfl⟩) (by decide) (by decide)
          · skip
            have c_58 : ¬ (20 < k) := fun h__ => c_58 ((nI_ltI (a := 20) (b := k) (by omega) (by omega)).mpr h__)
            refine lv_iload hx hb dX7_bestShift_61 (lv_at hl 6 rfl) ?_
            refine lv_iconst (v := nI 2) hx hb dX7_bestShift_63 (by decide) ?_
            refine lv_irem hx hb dX7_bestShift_64 (by decide) ?_
            refine q_top (y := nI (k % 2)) (pk_rem (by omega) (by omega) (by omega)) ?_
            refine lv_iconst (v := nI 1) hx hb dX7_bestShift_65 (by decide) ?_
            refine lv_icmp_ne (tgt := 78) hx hb dX7_bestShift_66 (by decide) (fun c_66 => ?_) (fun c_66 => ?_)
            · skip
              have c_66 : ¬ (k % 2 = 1) := fun h__ => c_66 ((nI_eq (a := k % 2) (b := 1) (by omega) (by omega)).mpr h__)
              refine lv_iload hx hb dX7_bestShift_78 (lv_at hl 6 rfl) ?_
              refine lv_iconst (v := nI 2) hx hb dX7_bestShift_80 (by decide) ?_
              refine lv_idiv hx hb dX7_bestShift_81 (by decide) ?_
              refine q_top (y := nI (k / 2)) (pk_div (by omega) (by omega) (by omega)) ?_
              refine lv_ineg hx hb dX7_bestShift_82 ?_
              refine q_topv (v' := .int (sft k)) (by refine congrArg Value.int ?_; unfold sft; first | (rw [if_pos c_66, show (k + 1) / 2 = k / 2 + 1 by omega]; done) | (rw [if_neg c_66, show (k + 1) / 2 = k / 2 by omega]; done)) ?_
              refine lv_istore (lv' := [(7, .int (sft k)), (0, .ref (b + 36)), (1, .int (nI (i32n x))), (2, .int (nI ((37 + 4 * (i32n x)) + 0))), (3, .int (nI (Q9.N (i32n x) 0))), (4, .int ((bsh Q9 (i32n x) k).1)), (5, .int (nI m8)), (6, .int (nI k))]) hx hb dX7_bestShift_83 hl (by decide) rfl (fun ls hl => ?_)
              refine lv_aload_n hx hb dX7_bestShift_85 rfl (lv_at hl 1 rfl) ?_
              refine q_get hx hb hts hinX7 hown hG hW hm0 rfl 0 (by decide) (hts (.fieldLink RX7 7 "FoleyMixerModel" "s" "[I") (List.mem_of_getElem? (i := 1) rfl)) rfl rfl dX7_bestShift_86 ?_
              refine lv_iload_n hx hb dX7_bestShift_89 rfl (lv_at hl 3 rfl) ?_
              refine lv_iload_n hx hb dX7_bestShift_90 rfl (lv_at hl 4 rfl) ?_
              refine lv_iload hx hb dX7_bestShift_91 (lv_at hl 0 rfl) ?_
              refine lv_iadd hx hb dX7_bestShift_93 ?_
              refine q_iast hx hb hG hW hS hm1 (by omega) (by omega) dX7_bestShift_94 (fun H locs hW hS hz94 => ?_)
              obtain ⟨w2, ew2⟩ : ∃ wq__ : Wd, wq__ = va_up wa 37 (some (eI dA 85 (va_up (va_up (fun j => nI (F j)) (37 + 4 * i32n x + 0) xs) (37 + 4 * i32n x + 0) ((nI (Q9.N (i32n x) 0)) + (sft k))))) := ⟨_, rfl⟩
              replace hW : WP D b w2 H := by rw [ew2]; exact hW
              have frw2 : ∀ id : Nat, id ≠ 37 → w2 id = wa id := fun id h9 => by rw [ew2, up_ne h9]
              replace hm38 : w2 38 = some (eN dA 510 G) := (frw2 _ (by omega)).trans hm38
              replace hm39 : w2 39 = some (eN dA 170 GS) := (frw2 _ (by omega)).trans hm39
              replace hm40 : w2 40 = some (eZ dA 2 Zt) := (frw2 _ (by omega)).trans hm40
              replace hm41 : w2 41 = some (eN dA 80 C) := (frw2 _ (by omega)).trans hm41
              replace hm44 : w2 44 = some (eN dA 3 TD) := (frw2 _ (by omega)).trans hm44
              replace hm0 : w2 36 = some (modO b (nI (n)) (nI (nc)) (nI (0)) (pl) (lt) (dn)) := (frw2 _ (by omega)).trans hm0
              replace hm42 : w2 42 = some (eN dA 120 Da) := (frw2 _ (by omega)).trans hm42
              replace hm43 : w2 43 = some (eN dA 120 Ma) := (frw2 _ (by omega)).trans hm43
              replace hm1 : w2 37 = some (eI dA 85 (va_up (va_up (fun j => nI (F j)) (37 + 4 * i32n x + 0) xs) (37 + 4 * i32n x + 0) ((nI (Q9.N (i32n x) 0)) + (sft k)))) := by rw [ew2]; exact up_eq
              replace hm1 : w2 37 = some (eI dA 85 (va_up (fun j => nI (F j)) (37 + 4 * i32n x + 0) ((nI (Q9.N (i32n x) 0)) + (sft k)))) := hm1.trans (eI_congr upI_up)
              refine lv_aload_n hx hb dX7_bestShift_95 rfl (lv_at hl 1 rfl) ?_
              refine q_get hx hb hts hinX7 hown hG hW hm0 rfl 0 (by decide) (hts (.fieldLink RX7 7 "FoleyMixerModel" "s" "[I") (List.mem_of_getElem? (i := 1) rfl)) rfl rfl dX7_bestShift_96 ?_
              refine lv_iload_n hx hb dX7_bestShift_99 rfl (lv_at hl 3 rfl) ?_
              refine q_iald hx hb hG hW hm1 (by omega) (by omega) dX7_bestShift_100 ?_
              refine q_topv (v' := .int ((nI (Q9.N (i32n x) 0)) + (sft k))) (by exact congrArg Value.int (va_up_self _ _ _)) ?_
              refine lv_iconst (v := nI 0) hx hb dX7_bestShift_101 (by decide) ?_
              refine lv_bipush (v := nI 99) hx hb dX7_bestShift_102 (by decide) ?_
              refine q_R1 (va_runS (As := [.int ((nI (Q9.N (i32n x) 0)) + (sft k)), .int (nI 0), .int (nI 99)]) (rest := []) ⟨hx, hb, hml, hown, hts⟩ (c_X7_in l ((nI (Q9.N (i32n x) 0)) + (sft k)) (nI (0)) (nI (99))) (va_cwS 3 hts gX7_bestShift_X7_in rfl rfl rfl (by decide +kernel) ⟨Nat.le_of_ble_eq_true rfl, Nat.le_of_ble_eq_true rfl⟩) (q_preS hG hW hS) rfl rfl hl.1 rfl (lv_room (Nat.le_of_ble_eq_true rfl)) dX7_bestShift_104 ⟨Nat.le_of_ble_eq_true rfl, Nat.le_of_ble_eq_true rfl⟩) ?_
              refine lv_if_eq (tgt := 152) hx hb dX7_bestShift_107 (by decide) (fun c_107 => ?_) (fun c_107 => ?_)
              · skip
                have c_107 : ¬ ((nI (0)) ≤ ((nI (Q9.N (i32n x) 0)) + (sft k)) ∧ ((nI (Q9.N (i32n x) 0)) + (sft k)) ≤ (nI (99))) := pI_eq0.mp c_107
                have hst9 : bsh Q9 (i32n x) (k + 1) = bsh Q9 (i32n x) k := bsh_out c_107
                refine lv_iinc (v := nI (k + 1)) (lv' := [(6, .int (nI (k + 1))), (7, .int (sft k)), (0, .ref (b + 36)), (1, .int (nI (i32n x))), (2, .int (nI ((37 + 4 * (i32n x)) + 0))), (3, .int (nI (Q9.N (i32n x) 0))), (4, .int ((bsh Q9 (i32n x) k).1)), (5, .int (nI m8))]) hx hb dX7_bestShift_152 hl (k := 7) rfl (nI_add _ 1) (by decide) rfl (fun ls hl => ?_)
                refine lv_goto (tgt := 54) hx hb dX7_bestShift_155 (by decide) ?_
                exact ih54 (k + 1) m8 ((nI (Q9.N (i32n x) 0)) + (sft k)) Da Ma (by omega) (by omega) (by first | (rw [bsh_1 hPq bx9]; done) | (rw [hst9]; exact hbq) | (rw [hst9]; done)) (by first | exact ams_le hPq | omega) (by omega) _ _ _ (by first | (rw [hst9]; done) | (rw [hst9]; rfl)) (by rfl) (by first | rfl | (congr 1; omega)) _ _ _ (by first | exact hm1 | exact hm1.trans (eI_congr fun j => (upI_n ey9 j).symm)) (by exact hm42) (by exact hm43) (by intro id h9; rw [frw2 id (by omega)]; exact fr id h9) hW hS _ (lv_sub hl [2, 3, 4, 5, 6, 7, 0] rfl)
              · skip
                have c_107 : (nI (0)) ≤ ((nI (Q9.N (i32n x) 0)) + (sft k)) ∧ ((nI (Q9.N (i32n x) 0)) + (sft k)) ≤ (nI (99)) := Decidable.byContradiction (fun h__ => c_107 (pI_eq0.mpr h__))
                have ho9 : fitI 0 ((nI (Q9.N (i32n x) 0)) + (sft k)) := c_107
                have ey9 := (fitI_i32n (by omega) ho9).1
                have hb9 := (fitI_i32n (by omega) ho9).2
                have hb8 : cHi 0 = 99 := rfl
                obtain ⟨P, hPe2⟩ : ∃ P : Pl, P = shN Q9 (i32n x) (i32n ((nI (Q9.N (i32n x) 0)) + (sft k))) := ⟨_, rfl⟩
                have hRp : rep (va_up F (37 + 4 * i32n x + 0) (i32n ((nI (Q9.N (i32n x) 0)) + (sft k)))) P := by rw [hPe2]; exact rep_setN hRq hPw (i := i32n x) (j := 0) bx9 (by decide)
                have hP : okP P := by rw [hPe2]; exact ok_setN (i := i32n x) (j := 0) hPq (by omega)
                replace hm1 : w2 37 = some (eN dA 85 (va_up F (37 + 4 * i32n x + 0) (i32n ((nI (Q9.N (i32n x) 0)) + (sft k))))) := hm1.trans (eI_congr (upI_n ey9))
                refine lv_aload_n hx hb dX7_bestShift_110 rfl (lv_at hl 1 rfl) ?_
                refine q_W0 (va_runV (As := []) (rest := []) ⟨hx, hb, hml, hown, hts⟩ (c_X7_layOut l hm0 hm1 hRp hP hm42 hm43) (cwV 0 hts gX7_bestShift_X7_layOut rfl rfl rfl (by decide +kernel) ⟨Nat.le_of_ble_eq_true rfl, Nat.le_of_ble_eq_true rfl⟩) (q_preV hG hW hS hm0 rfl) rfl rfl hl.1 rfl (lv_room (Nat.le_of_ble_eq_true rfl)) dX7_bestShift_111 ⟨Nat.le_of_ble_eq_true rfl, Nat.le_of_ble_eq_true rfl⟩) hS (fun w_111 H locs hp111 hW hS => ?_)
                obtain ⟨hm42, hm43, fr111⟩ := hp111
                replace hm1 : w_111 37 = some (eN dA 85 (va_up F (37 + 4 * i32n x + 0) (i32n ((nI (Q9.N (i32n x) 0)) + (sft k))))) := (fr111 _ (by omega)).trans hm1
                replace hm38 : w_111 38 = some (eN dA 510 G) := (fr111 _ (by omega)).trans hm38
                replace hm39 : w_111 39 = some (eN dA 170 GS) := (fr111 _ (by omega)).trans hm39
                replace hm40 : w_111 40 = some (eZ dA 2 Zt) := (fr111 _ (by omega)).trans hm40
                replace hm41 : w_111 41 = some (eN dA 80 C) := (fr111 _ (by omega)).trans hm41
                replace hm44 : w_111 44 = some (eN dA 3 TD) := (fr111 _ (by omega)).trans hm44
                replace hm0 : w_111 36 = some (modO b (nI (n)) (nI (nc)) (nI (0)) (pl) (lt) (dn)) := (fr111 _ (by omega)).trans hm0
                refine lv_aload_n hx hb dX7_bestShift_114 rfl (lv_at hl 1 rfl) ?_
                refine q_R1 (va_runV (As := []) (rest := []) ⟨hx, hb, hml, hown, hts⟩ (c_X7_allMasked l hm0 hm1 hRp hP hm43) (cwV 0 hts gX7_bestShift_X7_allMasked rfl rfl rfl (by decide +kernel) ⟨Nat.le_of_ble_eq_true rfl, Nat.le_of_ble_eq_true rfl⟩) (q_preV hG hW hS hm0 rfl) rfl rfl hl.1 rfl (lv_room (Nat.le_of_ble_eq_true rfl)) dX7_bestShift_115 ⟨Nat.le_of_ble_eq_true rfl, Nat.le_of_ble_eq_true rfl⟩) ?_
                refine q_top (y := nI (ams (shN Q9 (i32n x) (i32n ((nI (Q9.N (i32n x) 0)) + (sft k)))))) (by rw [hPe2]) ?_
                have hal := ams_le hP
                rw [hPe2] at hal
                refine lv_istore (lv' := [(8, .int (nI (ams (shN Q9 (i32n x) (i32n ((nI (Q9.N (i32n x) 0)) + (sft k))))))), (7, .int (sft k)), (0, .ref (b + 36)), (1, .int (nI (i32n x))), (2, .int (nI ((37 + 4 * (i32n x)) + 0))), (3, .int (nI (Q9.N (i32n x) 0))), (4, .int ((bsh Q9 (i32n x) k).1)), (5, .int (nI m8)), (6, .int (nI k))]) hx hb dX7_bestShift_118 hl (by decide) rfl (fun ls hl => ?_)
                refine lv_iload hx hb dX7_bestShift_120 (lv_at hl 0 rfl) ?_
                refine lv_iload hx hb dX7_bestShift_122 (lv_at hl 7 rfl) ?_
                refine lv_icmp_ge (tgt := 132) hx hb dX7_bestShift_124 (by decide) (fun c_124 => ?_) (fun c_124 => ?_)
                · skip
                  have c_124 : m8 ≤ ams (shN Q9 (i32n x) (i32n ((nI (Q9.N (i32n x) 0)) + (sft k)))) := (nI_leI (a := m8) (b := ams (shN Q9 (i32n x) (i32n ((nI (Q9.N (i32n x) 0)) + (sft k))))) (by omega) (by omega)).mp c_124
                  refine lv_iload hx hb dX7_bestShift_132 (lv_at hl 6 rfl) ?_
                  refine lv_istore (lv' := [(4, .int ((bsh Q9 (i32n x) k).1)), (8, .int (nI (ams (shN Q9 (i32n x) (i32n ((nI (Q9.N (i32n x) 0)) + (sft k))))))), (7, .int (sft k)), (0, .ref (b + 36)), (1, .int (nI (i32n x))), (2, .int (nI ((37 + 4 * (i32n x)) + 0))), (3, .int (nI (Q9.N (i32n x) 0))), (5, .int (nI m8)), (6, .int (nI k))]) hx hb dX7_bestShift_134 hl (by decide) rfl (fun ls hl => ?_)
                  refine lv_iload hx hb dX7_bestShift_136 (lv_at hl 1 rfl) ?_
                  refine lv_iload hx hb dX7_bestShift_138 (lv_at hl 7 rfl) ?_
                  refine lv_icmp_ge (tgt := 148) hx hb dX7_bestShift_140 (by decide) (fun c_140 => ?_) (fun c_140 => ?_)
                  · skip
                    have c_140 : m8 ≤ ams (shN Q9 (i32n x) (i32n ((nI (Q9.N (i32n x) 0)) + (sft k)))) := (nI_leI (a := m8) (b := ams (shN Q9 (i32n x) (i32n ((nI (Q9.N (i32n x) 0)) + (sft k))))) (by omega) (by omega)).mp c_140
                    refine lv_iload hx hb dX7_bestShift_148 (lv_at hl 7 rfl) ?_
                    refine lv_istore (lv' := [(5, .int (nI m8)), (4, .int ((bsh Q9 (i32n x) k).1)), (8, .int (nI (ams (shN Q9 (i32n x) (i32n ((nI (Q9.N (i32n x) 0)) + (sft k))))))), (7, .int (sft k)), (0, .ref (b + 36)), (1, .int (nI (i32n x))), (2, .int (nI ((37 + 4 * (i32n x)) + 0))), (3, .int (nI (Q9.N (i32n x) 0))), (6, .int (nI k))]) hx hb dX7_bestShift_150 hl (by decide) rfl (fun ls hl => ?_)
                    have hst9 : bsh Q9 (i32n x) (k + 1) = bsh Q9 (i32n x) k := bsh_ge ho9 hbq (by omega) (by omega) (by omega)
                    refine lv_iinc (v := nI (k + 1)) (lv' := [(6, .int (nI (k + 1))), (5, .int (nI m8)), (4, .int ((bsh Q9 (i32n x) k).1)), (8, .int (nI (ams (shN Q9 (i32n x) (i32n ((nI (Q9.N (i32n x) 0)) + (sft k))))))), (7, .int (sft k)), (0, .ref (b + 36)), (1, .int (nI (i32n x))), (2, .int (nI ((37 + 4 * (i32n x)) + 0))), (3, .int (nI (Q9.N (i32n x) 0)))]) hx hb dX7_bestShift_152 hl (k := 8) rfl (nI_add _ 1) (by decide) rfl (fun ls hl => ?_)
                    refine lv_goto (tgt := 54) hx hb dX7_bestShift_155 (by decide) ?_
                    exact ih54 (k + 1) m8 ((nI (Q9.N (i32n x) 0)) + (sft k)) (dk P) (mmk P) (by omega) (by omega) (by first | (rw [bsh_1 hPq bx9]; done) | (rw [hst9]; exact hbq) | (rw [hst9]; done)) (by first | exact ams_le hPq | omega) (by omega) _ _ _ (by first | (rw [hst9]; done) | (rw [hst9]; rfl)) (by rfl) (by first | rfl | (congr 1; omega)) _ _ _ (by first | exact hm1 | exact hm1.trans (eI_congr fun j => (upI_n ey9 j).symm)) (by exact hm42) (by exact hm43) (by intro id h9; rw [fr111 id (by omega)]; rw [frw2 id (by omega)]; exact fr id h9) hW hS _ (lv_sub hl [5, 6, 7, 8, 2, 1, 0] rfl)
                  · skip
                    have c_140 : ¬ (m8 ≤ ams (shN Q9 (i32n x) (i32n ((nI (Q9.N (i32n x) 0)) + (sft k))))) := fun h__ => c_140 ((nI_leI (a := m8) (b := ams (shN Q9 (i32n x) (i32n ((nI (Q9.N (i32n x) 0)) + (sft k))))) (by omega) (by omega)).mpr h__)
                    exact absurd c_140 (by omega)
                · skip
                  have c_124 : ¬ (m8 ≤ ams (shN Q9 (i32n x) (i32n ((nI (Q9.N (i32n x) 0)) + (sft k))))) := fun h__ => c_124 ((nI_leI (a := m8) (b := ams (shN Q9 (i32n x) (i32n ((nI (Q9.N (i32n x) 0)) + (sft k))))) (by omega) (by omega)).mpr h__)
                  refine lv_iload hx hb dX7_bestShift_127 (lv_at hl 1 rfl) ?_
                  refine lv_goto (tgt := 134) hx hb dX7_bestShift_129 (by decide) ?_
                  refine lv_istore (lv' := [(4, .int (sft k)), (8, .int (nI (ams (shN Q9 (i32n x) (i32n ((nI (Q9.N (i32n x) 0)) + (sft k))))))), (7, .int (sft k)), (0, .ref (b + 36)), (1, .int (nI (i32n x))), (2, .int (nI ((37 + 4 * (i32n x)) + 0))), (3, .int (nI (Q9.N (i32n x) 0))), (5, .int (nI m8)), (6, .int (nI k))]) hx hb dX7_bestShift_134 hl (by decide) rfl (fun ls hl => ?_)
                  refine lv_iload hx hb dX7_bestShift_136 (lv_at hl 1 rfl) ?_
                  refine lv_iload hx hb dX7_bestShift_138 (lv_at hl 7 rfl) ?_
                  refine lv_icmp_ge (tgt := 148) hx hb dX7_bestShift_140 (by decide) (fun c_140 => ?_) (fun c_140 => ?_)
                  · skip
                    have c_140 : m8 ≤ ams (shN Q9 (i32n x) (i32n ((nI (Q9.N (i32n x) 0)) + (sft k)))) := (nI_leI (a := m8) (b := ams (shN Q9 (i32n x) (i32n ((nI (Q9.N (i32n x) 0)) + (sft k))))) (by omega) (by omega)).mp c_140
                    exact absurd c_140 (by omega)
                  · skip
                    have c_140 : ¬ (m8 ≤ ams (shN Q9 (i32n x) (i32n ((nI (Q9.N (i32n x) 0)) + (sft k))))) := fun h__ => c_140 ((nI_leI (a := m8) (b := ams (shN Q9 (i32n x) (i32n ((nI (Q9.N (i32n x) 0)) + (sft k))))) (by omega) (by omega)).mpr h__)
                    refine lv_iload hx hb dX7_bestShift_143 (lv_at hl 1 rfl) ?_
                    refine lv_goto (tgt := 150) hx hb dX7_bestShift_145 (by decide) ?_
                    refine lv_istore (lv' := [(5, .int (nI (ams (shN Q9 (i32n x) (i32n ((nI (Q9.N (i32n x) 0)) + (sft k))))))), (4, .int (sft k)), (8, .int (nI (ams (shN Q9 (i32n x) (i32n ((nI (Q9.N (i32n x) 0)) + (sft k))))))), (7, .int (sft k)), (0, .ref (b + 36)), (1, .int (nI (i32n x))), (2, .int (nI ((37 + 4 * (i32n x)) + 0))), (3, .int (nI (Q9.N (i32n x) 0))), (6, .int (nI k))]) hx hb dX7_bestShift_150 hl (by decide) rfl (fun ls hl => ?_)
                    have hst9 : bsh Q9 (i32n x) (k + 1) = (sft k, nI (ams (shN Q9 (i32n x) (i32n ((nI (Q9.N (i32n x) 0)) + (sft k)))))) := bsh_lt ho9 hbq (by omega) (by omega)
                    refine lv_iinc (v := nI (k + 1)) (lv' := [(6, .int (nI (k + 1))), (5, .int (nI (ams (shN Q9 (i32n x) (i32n ((nI (Q9.N (i32n x) 0)) + (sft k))))))), (4, .int (sft k)), (8, .int (nI (ams (shN Q9 (i32n x) (i32n ((nI (Q9.N (i32n x) 0)) + (sft k))))))), (7, .int (sft k)), (0, .ref (b + 36)), (1, .int (nI (i32n x))), (2, .int (nI ((37 + 4 * (i32n x)) + 0))), (3, .int (nI (Q9.N (i32n x) 0)))]) hx hb dX7_bestShift_152 hl (k := 8) rfl (nI_add _ 1) (by decide) rfl (fun ls hl => ?_)
                    refine lv_goto (tgt := 54) hx hb dX7_bestShift_155 (by decide) ?_
                    exact ih54 (k + 1) (ams (shN Q9 (i32n x) (i32n ((nI (Q9.N (i32n x) 0)) + (sft k))))) ((nI (Q9.N (i32n x) 0)) + (sft k)) (dk P) (mmk P) (by omega) (by omega) (by first | (rw [bsh_1 hPq bx9]; done) | (rw [hst9]; exact hbq) | (rw [hst9]; done)) (by first | exact ams_le hPq | omega) (by omega) _ _ _ (by first | (rw [hst9]; done) | (rw [hst9]; rfl)) (by rfl) (by first | rfl | (congr 1; omega)) _ _ _ (by first | exact hm1 | exact hm1.trans (eI_congr fun j => (upI_n ey9 j).symm)) (by exact hm42) (by exact hm43) (by intro id h9; rw [fr111 id (by omega)]; rw [frw2 id (by omega)]; exact fr id h9) hW hS _ (lv_sub hl [5, 6, 7, 8, 2, 1, 0] rfl)
            · skip
              have c_66 : k % 2 = 1 := (nI_eq (a := k % 2) (b := 1) (by omega) (by omega)).mp c_66
              refine lv_iload hx hb dX7_bestShift_69 (lv_at hl 6 rfl) ?_
              refine lv_iconst (v := nI 2) hx hb dX7_bestShift_71 (by decide) ?_
              refine lv_idiv hx hb dX7_bestShift_72 (by decide) ?_
              refine q_top (y := nI (k / 2)) (pk_div (by omega) (by omega) (by omega)) ?_
              refine lv_iconst (v := nI 1) hx hb dX7_bestShift_73 (by decide) ?_
              refine lv_iadd hx hb dX7_bestShift_74 ?_
              refine q_top (y := nI ((k / 2) + 1)) (nI_add _ _) ?_
              refine lv_goto (tgt := 83) hx hb dX7_bestShift_75 (by decide) ?_
              refine q_topv (v' := .int (sft k)) (by refine congrArg Value.int ?_; unfold sft; first | (rw [if_pos c_66, show (k + 1) / 2 = k / 2 + 1 by omega]; done) | (rw [if_neg c_66, show (k + 1) / 2 = k / 2 by omega]; done)) ?_
              refine lv_istore (lv' := [(7, .int (sft k)), (0, .ref (b + 36)), (1, .int (nI (i32n x))), (2, .int (nI ((37 + 4 * (i32n x)) + 0))), (3, .int (nI (Q9.N (i32n x) 0))), (4, .int ((bsh Q9 (i32n x) k).1)), (5, .int (nI m8)), (6, .int (nI k))]) hx hb dX7_bestShift_83 hl (by decide) rfl (fun ls hl => ?_)
              refine lv_aload_n hx hb dX7_bestShift_85 rfl (lv_at hl 1 rfl) ?_
              refine q_get hx hb hts hinX7 hown hG hW hm0 rfl 0 (by decide) (hts (.fieldLink RX7 7 "FoleyMixerModel" "s" "[I") (List.mem_of_getElem? (i := 1) rfl)) rfl rfl dX7_bestShift_86 ?_
              refine lv_iload_n hx hb dX7_bestShift_89 rfl (lv_at hl 3 rfl) ?_
              refine lv_iload_n hx hb dX7_bestShift_90 rfl (lv_at hl 4 rfl) ?_
              refine lv_iload hx hb dX7_bestShift_91 (lv_at hl 0 rfl) ?_
              refine lv_iadd hx hb dX7_bestShift_93 ?_
              refine q_iast hx hb hG hW hS hm1 (by omega) (by omega) dX7_bestShift_94 (fun H locs hW hS hz94 => ?_)
              obtain ⟨w3, ew3⟩ : ∃ wq__ : Wd, wq__ = va_up wa 37 (some (eI dA 85 (va_up (va_up (fun j => nI (F j)) (37 + 4 * i32n x + 0) xs) (37 + 4 * i32n x + 0) ((nI (Q9.N (i32n x) 0)) + (sft k))))) := ⟨_, rfl⟩
              replace hW : WP D b w3 H := by rw [ew3]; exact hW
              have frw3 : ∀ id : Nat, id ≠ 37 → w3 id = wa id := fun id h9 => by rw [ew3, up_ne h9]
              replace hm38 : w3 38 = some (eN dA 510 G) := (frw3 _ (by omega)).trans hm38
              replace hm39 : w3 39 = some (eN dA 170 GS) := (frw3 _ (by omega)).trans hm39
              replace hm40 : w3 40 = some (eZ dA 2 Zt) := (frw3 _ (by omega)).trans hm40
              replace hm41 : w3 41 = some (eN dA 80 C) := (frw3 _ (by omega)).trans hm41
              replace hm44 : w3 44 = some (eN dA 3 TD) := (frw3 _ (by omega)).trans hm44
              replace hm0 : w3 36 = some (modO b (nI (n)) (nI (nc)) (nI (0)) (pl) (lt) (dn)) := (frw3 _ (by omega)).trans hm0
              replace hm42 : w3 42 = some (eN dA 120 Da) := (frw3 _ (by omega)).trans hm42
              replace hm43 : w3 43 = some (eN dA 120 Ma) := (frw3 _ (by omega)).trans hm43
              replace hm1 : w3 37 = some (eI dA 85 (va_up (va_up (fun j => nI (F j)) (37 + 4 * i32n x + 0) xs) (37 + 4 * i32n x + 0) ((nI (Q9.N (i32n x) 0)) + (sft k)))) := by rw [ew3]; exact up_eq
              replace hm1 : w3 37 = some (eI dA 85 (va_up (fun j => nI (F j)) (37 + 4 * i32n x + 0) ((nI (Q9.N (i32n x) 0)) + (sft k)))) := hm1.trans (eI_congr upI_up)
              refine lv_aload_n hx hb dX7_bestShift_95 rfl (lv_at hl 1 rfl) ?_
              refine q_get hx hb hts hinX7 hown hG hW hm0 rfl 0 (by decide) (hts (.fieldLink RX7 7 "FoleyMixerModel" "s" "[I") (List.mem_of_getElem? (i := 1) rfl)) rfl rfl dX7_bestShift_96 ?_
              refine lv_iload_n hx hb dX7_bestShift_99 rfl (lv_at hl 3 rfl) ?_
              refine q_iald hx hb hG hW hm1 (by omega) (by omega) dX7_bestShift_100 ?_
              refine q_topv (v' := .int ((nI (Q9.N (i32n x) 0)) + (sft k))) (by exact congrArg Value.int (va_up_self _ _ _)) ?_
              refine lv_iconst (v := nI 0) hx hb dX7_bestShift_101 (by decide) ?_
              refine lv_bipush (v := nI 99) hx hb dX7_bestShift_102 (by decide) ?_
              refine q_R1 (va_runS (As := [.int ((nI (Q9.N (i32n x) 0)) + (sft k)), .int (nI 0), .int (nI 99)]) (rest := []) ⟨hx, hb, hml, hown, hts⟩ (c_X7_in l ((nI (Q9.N (i32n x) 0)) + (sft k)) (nI (0)) (nI (99))) (va_cwS 3 hts gX7_bestShift_X7_in rfl rfl rfl (by decide +kernel) ⟨Nat.le_of_ble_eq_true rfl, Nat.le_of_ble_eq_true rfl⟩) (q_preS hG hW hS) rfl rfl hl.1 rfl (lv_room (Nat.le_of_ble_eq_true rfl)) dX7_bestShift_104 ⟨Nat.le_of_ble_eq_true rfl, Nat.le_of_ble_eq_true rfl⟩) ?_
              refine lv_if_eq (tgt := 152) hx hb dX7_bestShift_107 (by decide) (fun c_107 => ?_) (fun c_107 => ?_)
              · skip
                have c_107 : ¬ ((nI (0)) ≤ ((nI (Q9.N (i32n x) 0)) + (sft k)) ∧ ((nI (Q9.N (i32n x) 0)) + (sft k)) ≤ (nI (99))) := pI_eq0.mp c_107
                have hst9 : bsh Q9 (i32n x) (k + 1) = bsh Q9 (i32n x) k := bsh_out c_107
                refine lv_iinc (v := nI (k + 1)) (lv' := [(6, .int (nI (k + 1))), (7, .int (sft k)), (0, .ref (b + 36)), (1, .int (nI (i32n x))), (2, .int (nI ((37 + 4 * (i32n x)) + 0))), (3, .int (nI (Q9.N (i32n x) 0))), (4, .int ((bsh Q9 (i32n x) k).1)), (5, .int (nI m8))]) hx hb dX7_bestShift_152 hl (k := 7) rfl (nI_add _ 1) (by decide) rfl (fun ls hl => ?_)
                refine lv_goto (tgt := 54) hx hb dX7_bestShift_155 (by decide) ?_
                exact ih54 (k + 1) m8 ((nI (Q9.N (i32n x) 0)) + (sft k)) Da Ma (by omega) (by omega) (by first | (rw [bsh_1 hPq bx9]; done) | (rw [hst9]; exact hbq) | (rw [hst9]; done)) (by first | exact ams_le hPq | omega) (by omega) _ _ _ (by first | (rw [hst9]; done) | (rw [hst9]; rfl)) (by rfl) (by first | rfl | (congr 1; omega)) _ _ _ (by first | exact hm1 | exact hm1.trans (eI_congr fun j => (upI_n ey9 j).symm)) (by exact hm42) (by exact hm43) (by intro id h9; rw [frw3 id (by omega)]; exact fr id h9) hW hS _ (lv_sub hl [2, 3, 4, 5, 6, 7, 0] rfl)
              · skip
                have c_107 : (nI (0)) ≤ ((nI (Q9.N (i32n x) 0)) + (sft k)) ∧ ((nI (Q9.N (i32n x) 0)) + (sft k)) ≤ (nI (99)) := Decidable.byContradiction (fun h__ => c_107 (pI_eq0.mpr h__))
                have ho9 : fitI 0 ((nI (Q9.N (i32n x) 0)) + (sft k)) := c_107
                have ey9 := (fitI_i32n (by omega) ho9).1
                have hb9 := (fitI_i32n (by omega) ho9).2
                have hb8 : cHi 0 = 99 := rfl
                obtain ⟨P, hPe2⟩ : ∃ P : Pl, P = shN Q9 (i32n x) (i32n ((nI (Q9.N (i32n x) 0)) + (sft k))) := ⟨_, rfl⟩
                have hRp : rep (va_up F (37 + 4 * i32n x + 0) (i32n ((nI (Q9.N (i32n x) 0)) + (sft k)))) P := by rw [hPe2]; exact rep_setN hRq hPw (i := i32n x) (j := 0) bx9 (by decide)
                have hP : okP P := by rw [hPe2]; exact ok_setN (i := i32n x) (j := 0) hPq (by omega)
                replace hm1 : w3 37 = some (eN dA 85 (va_up F (37 + 4 * i32n x + 0) (i32n ((nI (Q9.N (i32n x) 0)) + (sft k))))) := hm1.trans (eI_congr (upI_n ey9))
                refine lv_aload_n hx hb dX7_bestShift_110 rfl (lv_at hl 1 rfl) ?_
                refine q_W0 (va_runV (As := []) (rest := []) ⟨hx, hb, hml, hown, hts⟩ (c_X7_layOut l hm0 hm1 hRp hP hm42 hm43) (cwV 0 hts gX7_bestShift_X7_layOut rfl rfl rfl (by decide +kernel) ⟨Nat.le_of_ble_eq_true rfl, Nat.le_of_ble_eq_true rfl⟩) (q_preV hG hW hS hm0 rfl) rfl rfl hl.1 rfl (lv_room (Nat.le_of_ble_eq_true rfl)) dX7_bestShift_111 ⟨Nat.le_of_ble_eq_true rfl, Nat.le_of_ble_eq_true rfl⟩) hS (fun w_111 H locs hp111 hW hS => ?_)
                obtain ⟨hm42, hm43, fr111⟩ := hp111
                replace hm1 : w_111 37 = some (eN dA 85 (va_up F (37 + 4 * i32n x + 0) (i32n ((nI (Q9.N (i32n x) 0)) + (sft k))))) := (fr111 _ (by omega)).trans hm1
                replace hm38 : w_111 38 = some (eN dA 510 G) := (fr111 _ (by omega)).trans hm38
                replace hm39 : w_111 39 = some (eN dA 170 GS) := (fr111 _ (by omega)).trans hm39
                replace hm40 : w_111 40 = some (eZ dA 2 Zt) := (fr111 _ (by omega)).trans hm40
                replace hm41 : w_111 41 = some (eN dA 80 C) := (fr111 _ (by omega)).trans hm41
                replace hm44 : w_111 44 = some (eN dA 3 TD) := (fr111 _ (by omega)).trans hm44
                replace hm0 : w_111 36 = some (modO b (nI (n)) (nI (nc)) (nI (0)) (pl) (lt) (dn)) := (fr111 _ (by omega)).trans hm0
                refine lv_aload_n hx hb dX7_bestShift_114 rfl (lv_at hl 1 rfl) ?_
                refine q_R1 (va_runV (As := []) (rest := []) ⟨hx, hb, hml, hown, hts⟩ (c_X7_allMasked l hm0 hm1 hRp hP hm43) (cwV 0 hts gX7_bestShift_X7_allMasked rfl rfl rfl (by decide +kernel) ⟨Nat.le_of_ble_eq_true rfl, Nat.le_of_ble_eq_true rfl⟩) (q_preV hG hW hS hm0 rfl) rfl rfl hl.1 rfl (lv_room (Nat.le_of_ble_eq_true rfl)) dX7_bestShift_115 ⟨Nat.le_of_ble_eq_true rfl, Nat.le_of_ble_eq_true rfl⟩) ?_
                refine q_top (y := nI (ams (shN Q9 (i32n x) (i32n ((nI (Q9.N (i32n x) 0)) + (sft k)))))) (by rw [hPe2]) ?_
                have hal := ams_le hP
                rw [hPe2] at hal
                refine lv_istore (lv' := [(8, .int (nI (ams (shN Q9 (i32n x) (i32n ((nI (Q9.N (i32n x) 0)) + (sft k))))))), (7, .int (sft k)), (0, .ref (b + 36)), (1, .int (nI (i32n x))), (2, .int (nI ((37 + 4 * (i32n x)) + 0))), (3, .int (nI (Q9.N (i32n x) 0))), (4, .int ((bsh Q9 (i32n x) k).1)), (5, .int (nI m8)), (6, .int (nI k))]) hx hb dX7_bestShift_118 hl (by decide) rfl (fun ls hl => ?_)
                refine lv_iload hx hb dX7_bestShift_120 (lv_at hl 0 rfl) ?_
                refine lv_iload hx hb dX7_bestShift_122 (lv_at hl 7 rfl) ?_
                refine lv_icmp_ge (tgt := 132) hx hb dX7_bestShift_124 (by decide) (fun c_124 => ?_) (fun c_124 => ?_)
                · skip
                  have c_124 : m8 ≤ ams (shN Q9 (i32n x) (i32n ((nI (Q9.N (i32n x) 0)) + (sft k)))) := (nI_leI (a := m8) (b := ams (shN Q9 (i32n x) (i32n ((nI (Q9.N (i32n x) 0)) + (sft k))))) (by omega) (by omega)).mp c_124
                  refine lv_iload hx hb dX7_bestShift_132 (lv_at hl 6 rfl) ?_
                  refine lv_istore (lv' := [(4, .int ((bsh Q9 (i32n x) k).1)), (8, .int (nI (ams (shN Q9 (i32n x) (i32n ((nI (Q9.N (i32n x) 0)) + (sft k))))))), (7, .int (sft k)), (0, .ref (b + 36)), (1, .int (nI (i32n x))), (2, .int (nI ((37 + 4 * (i32n x)) + 0))), (3, .int (nI (Q9.N (i32n x) 0))), (5, .int (nI m8)), (6, .int (nI k))]) hx hb dX7_bestShift_134 hl (by decide) rfl (fun ls hl => ?_)
                  refine lv_iload hx hb dX7_bestShift_136 (lv_at hl 1 rfl) ?_
                  refine lv_iload hx hb dX7_bestShift_138 (lv_at hl 7 rfl) ?_
                  refine lv_icmp_ge (tgt := 148) hx hb dX7_bestShift_140 (by decide) (fun c_140 => ?_) (fun c_140 => ?_)
                  · skip
                    have c_140 : m8 ≤ ams (shN Q9 (i32n x) (i32n ((nI (Q9.N (i32n x) 0)) + (sft k)))) := (nI_leI (a := m8) (b := ams (shN Q9 (i32n x) (i32n ((nI (Q9.N (i32n x) 0)) + (sft k))))) (by omega) (by omega)).mp c_140
                    refine lv_iload hx hb dX7_bestShift_148 (lv_at hl 7 rfl) ?_
                    refine lv_istore (lv' := [(5, .int (nI m8)), (4, .int ((bsh Q9 (i32n x) k).1)), (8, .int (nI (ams (shN Q9 (i32n x) (i32n ((nI (Q9.N (i32n x) 0)) + (sft k))))))), (7, .int (sft k)), (0, .ref (b + 36)), (1, .int (nI (i32n x))), (2, .int (nI ((37 + 4 * (i32n x)) + 0))), (3, .int (nI (Q9.N (i32n x) 0))), (6, .int (nI k))]) hx hb dX7_bestShift_150 hl (by decide) rfl (fun ls hl => ?_)
                    have hst9 : bsh Q9 (i32n x) (k + 1) = bsh Q9 (i32n x) k := bsh_ge ho9 hbq (by omega) (by omega) (by omega)
                    refine lv_iinc (v := nI (k + 1)) (lv' := [(6, .int (nI (k + 1))), (5, .int (nI m8)), (4, .int ((bsh Q9 (i32n x) k).1)), (8, .int (nI (ams (shN Q9 (i32n x) (i32n ((nI (Q9.N (i32n x) 0)) + (sft k))))))), (7, .int (sft k)), (0, .ref (b + 36)), (1, .int (nI (i32n x))), (2, .int (nI ((37 + 4 * (i32n x)) + 0))), (3, .int (nI (Q9.N (i32n x) 0)))]) hx hb dX7_bestShift_152 hl (k := 8) rfl (nI_add _ 1) (by decide) rfl (fun ls hl => ?_)
                    refine lv_goto (tgt := 54) hx hb dX7_bestShift_155 (by decide) ?_
                    exact ih54 (k + 1) m8 ((nI (Q9.N (i32n x) 0)) + (sft k)) (dk P) (mmk P) (by omega) (by omega) (by first | (rw [bsh_1 hPq bx9]; done) | (rw [hst9]; exact hbq) | (rw [hst9]; done)) (by first | exact ams_le hPq | omega) (by omega) _ _ _ (by first | (rw [hst9]; done) | (rw [hst9]; rfl)) (by rfl) (by first | rfl | (congr 1; omega)) _ _ _ (by first | exact hm1 | exact hm1.trans (eI_congr fun j => (upI_n ey9 j).symm)) (by exact hm42) (by exact hm43) (by intro id h9; rw [fr111 id (by omega)]; rw [frw3 id (by omega)]; exact fr id h9) hW hS _ (lv_sub hl [5, 6, 7, 8, 2, 1, 0] rfl)
                  · skip
                    have c_140 : ¬ (m8 ≤ ams (shN Q9 (i32n x) (i32n ((nI (Q9.N (i32n x) 0)) + (sft k))))) := fun h__ => c_140 ((nI_leI (a := m8) (b := ams (shN Q9 (i32n x) (i32n ((nI (Q9.N (i32n x) 0)) + (sft k))))) (by omega) (by omega)).mpr h__)
                    exact absurd c_140 (by omega)
                · skip
                  have c_124 : ¬ (m8 ≤ ams (shN Q9 (i32n x) (i32n ((nI (Q9.N (i32n x) 0)) + (sft k))))) := fun h__ => c_124 ((nI_leI (a := m8) (b := ams (shN Q9 (i32n x) (i32n ((nI (Q9.N (i32n x) 0)) + (sft k))))) (by omega) (by omega)).mpr h__)
                  refine lv_iload hx hb dX7_bestShift_127 (lv_at hl 1 rfl) ?_
                  refine lv_goto (tgt := 134) hx hb dX7_bestShift_129 (by decide) ?_
                  refine lv_istore (lv' := [(4, .int (sft k)), (8, .int (nI (ams (shN Q9 (i32n x) (i32n ((nI (Q9.N (i32n x) 0)) + (sft k))))))), (7, .int (sft k)), (0, .ref (b + 36)), (1, .int (nI (i32n x))), (2, .int (nI ((37 + 4 * (i32n x)) + 0))), (3, .int (nI (Q9.N (i32n x) 0))), (5, .int (nI m8)), (6, .int (nI k))]) hx hb dX7_bestShift_134 hl (by decide) rfl (fun ls hl => ?_)
                  refine lv_iload hx hb dX7_bestShift_136 (lv_at hl 1 rfl) ?_
                  refine lv_iload hx hb dX7_bestShift_138 (lv_at hl 7 rfl) ?_
                  refine lv_icmp_ge (tgt := 148) hx hb dX7_bestShift_140 (by decide) (fun c_140 => ?_) (fun c_140 => ?_)
                  · skip
                    have c_140 : m8 ≤ ams (shN Q9 (i32n x) (i32n ((nI (Q9.N (i32n x) 0)) + (sft k)))) := (nI_leI (a := m8) (b := ams (shN Q9 (i32n x) (i32n ((nI (Q9.N (i32n x) 0)) + (sft k))))) (by omega) (by omega)).mp c_140
                    exact absurd c_140 (by omega)
                  · skip
                    have c_140 : ¬ (m8 ≤ ams (shN Q9 (i32n x) (i32n ((nI (Q9.N (i32n x) 0)) + (sft k))))) := fun h__ => c_140 ((nI_leI (a := m8) (b := ams (shN Q9 (i32n x) (i32n ((nI (Q9.N (i32n x) 0)) + (sft k))))) (by omega) (by omega)).mpr h__)
                    refine lv_iload hx hb dX7_bestShift_143 (lv_at hl 1 rfl) ?_
                    refine lv_goto (tgt := 150) hx hb dX7_bestShift_145 (by decide) ?_
                    refine lv_istore (lv' := [(5, .int (nI (ams (shN Q9 (i32n x) (i32n ((nI (Q9.N (i32n x) 0)) + (sft k))))))), (4, .int (sft k)), (8, .int (nI (ams (shN Q9 (i32n x) (i32n ((nI (Q9.N (i32n x) 0)) + (sft k))))))), (7, .int (sft k)), (0, .ref (b + 36)), (1, .int (nI (i32n x))), (2, .int (nI ((37 + 4 * (i32n x)) + 0))), (3, .int (nI (Q9.N (i32n x) 0))), (6, .int (nI k))]) hx hb dX7_bestShift_150 hl (by decide) rfl (fun ls hl => ?_)
                    have hst9 : bsh Q9 (i32n x) (k + 1) = (sft k, nI (ams (shN Q9 (i32n x) (i32n ((nI (Q9.N (i32n x) 0)) + (sft k)))))) := bsh_lt ho9 hbq (by omega) (by omega)
                    refine lv_iinc (v := nI (k + 1)) (lv' := [(6, .int (nI (k + 1))), (5, .int (nI (ams (shN Q9 (i32n x) (i32n ((nI (Q9.N (i32n x) 0)) + (sft k))))))), (4, .int (sft k)), (8, .int (nI (ams (shN Q9 (i32n x) (i32n ((nI (Q9.N (i32n x) 0)) + (sft k))))))), (7, .int (sft k)), (0, .ref (b + 36)), (1, .int (nI (i32n x))), (2, .int (nI ((37 + 4 * (i32n x)) + 0))), (3, .int (nI (Q9.N (i32n x) 0)))]) hx hb dX7_bestShift_152 hl (k := 8) rfl (nI_add _ 1) (by decide) rfl (fun ls hl => ?_)
                    refine lv_goto (tgt := 54) hx hb dX7_bestShift_155 (by decide) ?_
                    exact ih54 (k + 1) (ams (shN Q9 (i32n x) (i32n ((nI (Q9.N (i32n x) 0)) + (sft k))))) ((nI (Q9.N (i32n x) 0)) + (sft k)) (dk P) (mmk P) (by omega) (by omega) (by first | (rw [bsh_1 hPq bx9]; done) | (rw [hst9]; exact hbq) | (rw [hst9]; done)) (by first | exact ams_le hPq | omega) (by omega) _ _ _ (by first | (rw [hst9]; done) | (rw [hst9]; rfl)) (by rfl) (by first | rfl | (congr 1; omega)) _ _ _ (by first | exact hm1 | exact hm1.trans (eI_congr fun j => (upI_n ey9 j).symm)) (by exact hm42) (by exact hm43) (by intro id h9; rw [fr111 id (by omega)]; rw [frw3 id (by omega)]; exact fr id h9) hW hS _ (lv_sub hl [5, 6, 7, 8, 2, 1, 0] rfl)
      exact L54 ((21 - 1) + 1) 1 (ams Q9) (nI (F (37 + 4 * i32n x + 0))) (dk P) (mmk P) (by omega) (by omega) (by first | (rw [bsh_1 hPq bx9]; done) | (rw [hst9]; exact hbq) | (rw [hst9]; done)) (by first | exact ams_le hPq | omega) (Nat.lt_succ_self _) _ _ _ (by rw [bsh_1 hPq bx9]; rfl) (by rfl) (by first | rfl | (congr 1; omega)) _ _ _ (by exact hm1.trans (eI_congr (upI_id rfl))) (by exact hm42) (by exact hm43) (by intro id h9; rfl) hW hS _ (lv_sub hl [5, 6, 4, 3, 2, 1, 0] rfl)
    · skip
      have c_18 : 1 = 0 := (nI_eq0 (i := 1) (by omega)).mp c_18
      exact absurd c_18 (by omega)

set_option maxHeartbeats 300000 in
set_option maxRecDepth 100000 in
/-- loudestQuiet -/
theorem c_X7_loudestQuiet (l : Launch) {D : va_G} {dA : Nat → Nat} {b : Nat} {w : Wd} {n nc : Nat} {Q9 : Pl} {Hs : Nat → Pl} {SL : Nat → Option Pl} {C : Nat → Nat} {tt : Int32} (hmd : isMod dA b w (Q9, (n, Hs), SL, (nc, C)) tt) (x : Int32) : Met l yX7_loudestQuiet wsX7_loudestQuiet ({ frames := 6, cells := 0, slots := 0, locals := 141 } : Room) (PC D dA b w [.ref (b + 36), .int (x)]) (QW D b (some (.int (if 0 ≤ x ∧ x < nI Q9.n then nI (lqt Q9 (i32n x) (ams (delN Q9 (i32n x))) 30) else 0))) (fun w' => (((0 ≤ x ∧ x < nI Q9.n) ∧ isMod dA b w' (Q9, (n, Hs), SL, (nc, C)) (nI 0)) ∨ ((¬ (0 ≤ x ∧ x < nI Q9.n)) ∧ isMod dA b w' (Q9, (n, Hs), SL, (nc, C)) (nI 1))) ∧ ∀ id : Nat, (id < 36 ∨ 45 ≤ id) → w' id = w id)) 0 0 (Fb b) := by
  refine q_of (cc := cX7_loudestQuiet) (maxL := 7) (ret := (some .int)) (by decide) rfl rfl ?_
  intro p e s m args below meth c ls hx hb hr hml hts hown hlocks hG hW hS hl
  have hown : s.vm.findClass RX7 = some m.cls := hown
  have hinX7 : ∀ w ∈ u_ws RX7 TX7 14, w ∈ wsX7_loudestQuiet := fun w h => (goodIn_r (big := wsX7_loudestQuiet) (u_ws RX7 TX7 14) [62, 63, 64, 65, 66, 67, 68, 69, 70, 71, 72, 73, 74, 75] (by decide +kernel) (by decide +kernel) w h).1
  have hl : lv_has ls 7 [(0, .ref (b + 36)), (1, .int (x))] := hl
  obtain ⟨pl, lt, dn, F, G, GS, Zt, D0, M0, TD, hm0, hm1, ⟨hRp, hP⟩, hm38, hsv, hm39, hm40, hsl, hm41, hbu, hm42, hm43, hm44⟩ := id hmd
  change w 36 = some (modO b (nI n) (nI nc) tt pl lt dn) at hm0
  change rep F Q9 at hRp
  change okP Q9 at hP
  change mSv n G Hs at hsv
  change mSl GS Zt SL at hsl
  change w 41 = some (eN dA 80 C) at hm41
  change mBu nc C at hbu
  have hn6 := hsv.1
  have hnc := hbu.1
  obtain ⟨hPw, hPn, hPW, hPN, hPS⟩ := id hP
  have hr5 := hRp.2.1
  have hr6 := hRp.2.2.1
  have hRq := hRp
  have hPq := hP
  obtain ⟨P, hPe⟩ : ∃ P : Pl, P = Q9 := ⟨_, rfl⟩
  replace hRp : rep F P := by rw [hPe]; exact hRq
  replace hP : okP P := by rw [hPe]; exact hPq
  have hPn2 : P.n ≤ 12 := hP.2.1
  refine lv_aload_n hx hb dX7_loudestQuiet_0 rfl (lv_at hl 0 rfl) ?_
  refine lv_aload_n hx hb dX7_loudestQuiet_1 rfl (lv_at hl 0 rfl) ?_
  refine lv_iconst (v := nI 0) hx hb dX7_loudestQuiet_2 (by decide) ?_
  refine lv_iload_n hx hb dX7_loudestQuiet_3 rfl (lv_at hl 1 rfl) ?_
  refine q_R1 (va_runV (As := [.int (nI 0), .int (x)]) (rest := [.ref (b + 36)]) ⟨hx, hb, hml, hown, hts⟩ (c_isCueN l hm0 hm1 hRp hP (x)) (cwV 2 hts gX7_loudestQuiet_X7_isCue rfl rfl rfl (by decide +kernel) ⟨Nat.le_of_ble_eq_true rfl, Nat.le_of_ble_eq_true rfl⟩) (q_preV hG hW hS hm0 rfl) rfl rfl hl.1 rfl (lv_room (Nat.le_of_ble_eq_true rfl)) dX7_loudestQuiet_4 ⟨Nat.le_of_ble_eq_true rfl, Nat.le_of_ble_eq_true rfl⟩) ?_
  refine lv_if_eq (tgt := 14) hx hb dX7_loudestQuiet_7 (by decide) (fun c_7 => ?_) (fun c_7 => ?_)
  · skip
    have c_7 : ¬ (0 ≤ x ∧ x < nI P.n) := pI_eq0.mp c_7
    rw [hPe] at c_7
    refine lv_iconst (v := nI 1) hx hb dX7_loudestQuiet_14 (by decide) ?_
    refine q_W1 (va_runV (As := [.int (nI 1)]) (rest := []) ⟨hx, hb, hml, hown, hts⟩ (c_X7_holds l hm0 (nI (1))) (cwV 1 hts gX7_loudestQuiet_X7_holds rfl rfl rfl (by decide +kernel) ⟨Nat.le_of_ble_eq_true rfl, Nat.le_of_ble_eq_true rfl⟩) (q_preV hG hW hS hm0 rfl) rfl rfl hl.1 rfl (lv_room (Nat.le_of_ble_eq_true rfl)) dX7_loudestQuiet_15 ⟨Nat.le_of_ble_eq_true rfl, Nat.le_of_ble_eq_true rfl⟩) hS (fun w_15 H locs hp15 hW hS => ?_)
    obtain ⟨hm0, fr15⟩ := hp15
    replace hm1 : w_15 37 = some (eN dA 85 F) := (fr15 _ (by omega)).trans hm1
    replace hm38 : w_15 38 = some (eN dA 510 G) := (fr15 _ (by omega)).trans hm38
    replace hm39 : w_15 39 = some (eN dA 170 GS) := (fr15 _ (by omega)).trans hm39
    replace hm40 : w_15 40 = some (eZ dA 2 Zt) := (fr15 _ (by omega)).trans hm40
    replace hm41 : w_15 41 = some (eN dA 80 C) := (fr15 _ (by omega)).trans hm41
    replace hm42 : w_15 42 = some (eN dA 120 D0) := (fr15 _ (by omega)).trans hm42
    replace hm43 : w_15 43 = some (eN dA 120 M0) := (fr15 _ (by omega)).trans hm43
    replace hm44 : w_15 44 = some (eN dA 3 TD) := (fr15 _ (by omega)).trans hm44
    refine q_topv (v' := .int (nI 0)) (congrArg Value.int (by decide)) ?_
    refine lv_if_ne (tgt := 23) hx hb dX7_loudestQuiet_18 (by decide) (fun c_18 => ?_) (fun c_18 => ?_)
    · skip
      have c_18 : ¬ (0 = 0) := fun h__ => c_18 ((nI_eq0 (i := 0) (by omega)).mpr h__)
      exact absurd c_18 (by omega)
    · skip
      have c_18 : 0 = 0 := (nI_eq0 (i := 0) (by omega)).mp c_18
      refine lv_iconst (v := nI 0) hx hb dX7_loudestQuiet_21 (by decide) ?_
      exact q_wi hx hb hr hlocks hW hS dX7_loudestQuiet_22 (by rw [if_neg (by first | exact fun q9 => c_7 q9)]; rfl) (by exact ⟨Or.inr ⟨c_7, ⟨_, _, _, _, _, _, _, _, _, _, hm0, hm1, ⟨hRq, hPq⟩, hm38, hsv, hm39, hm40, hsl, hm41, hbu, hm42, hm43, hm44⟩⟩, by intro id h9; rw [fr15 id (by omega)]; try rfl⟩) (by decide) (by decide)
  · skip
    have c_7 : 0 ≤ x ∧ x < nI P.n := Decidable.byContradiction (fun h__ => c_7 (pI_eq0.mpr h__))
    rw [hPe] at c_7
    refine lv_iconst (v := nI 0) hx hb dX7_loudestQuiet_10 (by decide) ?_
    refine lv_goto (tgt := 15) hx hb dX7_loudestQuiet_11 (by decide) ?_
    refine q_W1 (va_runV (As := [.int (nI 0)]) (rest := []) ⟨hx, hb, hml, hown, hts⟩ (c_X7_holds l hm0 (nI (0))) (cwV 1 hts gX7_loudestQuiet_X7_holds rfl rfl rfl (by decide +kernel) ⟨Nat.le_of_ble_eq_true rfl, Nat.le_of_ble_eq_true rfl⟩) (q_preV hG hW hS hm0 rfl) rfl rfl hl.1 rfl (lv_room (Nat.le_of_ble_eq_true rfl)) dX7_loudestQuiet_15 ⟨Nat.le_of_ble_eq_true rfl, Nat.le_of_ble_eq_true rfl⟩) hS (fun w_15 H locs hp15 hW hS => ?_)
    obtain ⟨hm0, fr15⟩ := hp15
    replace hm1 : w_15 37 = some (eN dA 85 F) := (fr15 _ (by omega)).trans hm1
    replace hm38 : w_15 38 = some (eN dA 510 G) := (fr15 _ (by omega)).trans hm38
    replace hm39 : w_15 39 = some (eN dA 170 GS) := (fr15 _ (by omega)).trans hm39
    replace hm40 : w_15 40 = some (eZ dA 2 Zt) := (fr15 _ (by omega)).trans hm40
    replace hm41 : w_15 41 = some (eN dA 80 C) := (fr15 _ (by omega)).trans hm41
    replace hm42 : w_15 42 = some (eN dA 120 D0) := (fr15 _ (by omega)).trans hm42
    replace hm43 : w_15 43 = some (eN dA 120 M0) := (fr15 _ (by omega)).trans hm43
    replace hm44 : w_15 44 = some (eN dA 3 TD) := (fr15 _ (by omega)).trans hm44
    refine q_topv (v' := .int (nI 1)) (congrArg Value.int (by decide)) ?_
    refine lv_if_ne (tgt := 23) hx hb dX7_loudestQuiet_18 (by decide) (fun c_18 => ?_) (fun c_18 => ?_)
    · skip
      have c_18 : ¬ (1 = 0) := fun h__ => c_18 ((nI_eq0 (i := 1) (by omega)).mpr h__)
      obtain ⟨ex9, bx9⟩ := has_n (by omega) c_7.1 c_7.2
      have el_23 : x = nI (i32n x) := by exact ex9
      rw [el_23] at hl
      refine lv_iconst (v := nI 0) hx hb dX7_loudestQuiet_23 (by decide) ?_
      refine lv_iload_n hx hb dX7_loudestQuiet_24 rfl (lv_at hl 1 rfl) ?_
      refine q_R1 (va_runS (As := [.int (nI 0), .int (nI (i32n x))]) (rest := []) ⟨hx, hb, hml, hown, hts⟩ (c_X7_whereIs_f l (i32n x)) (va_cwS 2 hts gX7_loudestQuiet_X7_whereIs rfl rfl rfl (by decide +kernel) ⟨Nat.le_of_ble_eq_true rfl, Nat.le_of_ble_eq_true rfl⟩) (q_preS hG hW hS) rfl rfl hl.1 rfl (lv_room (Nat.le_of_ble_eq_true rfl)) dX7_loudestQuiet_25 ⟨Nat.le_of_ble_eq_true rfl, Nat.le_of_ble_eq_true rfl⟩) ?_
      refine lv_iconst (v := nI 2) hx hb dX7_loudestQuiet_28 (by decide) ?_
      refine lv_iadd hx hb dX7_loudestQuiet_29 ?_
      refine q_top (y := nI ((37 + 4 * (i32n x)) + 2)) (nI_add _ _) ?_
      refine lv_istore_n (lv' := [(2, .int (nI ((37 + 4 * (i32n x)) + 2))), (0, .ref (b + 36)), (1, .int (nI (i32n x)))]) hx hb dX7_loudestQuiet_30 rfl hl (by decide) rfl (fun ls hl => ?_)
      refine lv_aload_n hx hb dX7_loudestQuiet_31 rfl (lv_at hl 1 rfl) ?_
      refine q_get hx hb hts hinX7 hown hG hW hm0 rfl 0 (by decide) (hts (.fieldLink RX7 7 "FoleyMixerModel" "s" "[I") (List.mem_of_getElem? (i := 1) rfl)) rfl rfl dX7_loudestQuiet_32 ?_
      refine lv_iload_n hx hb dX7_loudestQuiet_35 rfl (lv_at hl 0 rfl) ?_
      refine q_iald hx hb hG hW hm1 (by omega) (by omega) dX7_loudestQuiet_36 ?_
      refine q_top (y := nI (Q9.N (i32n x) 2)) (by exact congrArg nI (hRq.2.2.2.2 _ bx9 2 (by decide))) ?_
      refine lv_istore_n (lv' := [(3, .int (nI (Q9.N (i32n x) 2))), (2, .int (nI ((37 + 4 * (i32n x)) + 2))), (0, .ref (b + 36)), (1, .int (nI (i32n x)))]) hx hb dX7_loudestQuiet_37 rfl hl (by decide) rfl (fun ls hl => ?_)
      refine lv_aload_n hx hb dX7_loudestQuiet_38 rfl (lv_at hl 2 rfl) ?_
      refine q_get hx hb hts hinX7 hown hG hW hm0 rfl 0 (by decide) (hts (.fieldLink RX7 7 "FoleyMixerModel" "s" "[I") (List.mem_of_getElem? (i := 1) rfl)) rfl rfl dX7_loudestQuiet_39 ?_
      refine lv_iload_n hx hb dX7_loudestQuiet_42 rfl (lv_at hl 1 rfl) ?_
      refine lv_iconst (v := nI 0) hx hb dX7_loudestQuiet_43 (by decide) ?_
      refine q_nast hx hb hG hW hS hm1 (by omega) (by omega) dX7_loudestQuiet_44 (fun H locs hW hS hz44 => ?_)
      obtain ⟨w1, ew1⟩ : ∃ wq__ : Wd, wq__ = va_up w_15 37 (some (eN dA 85 (va_up F ((37 + 4 * (i32n x)) + 2) 0))) := ⟨_, rfl⟩
      replace hW : WP D b w1 H := by rw [ew1]; exact hW
      have frw1 : ∀ id : Nat, id ≠ 37 → w1 id = w_15 id := fun id h9 => by rw [ew1, up_ne h9]
      replace hm38 : w1 38 = some (eN dA 510 G) := (frw1 _ (by omega)).trans hm38
      replace hm39 : w1 39 = some (eN dA 170 GS) := (frw1 _ (by omega)).trans hm39
      replace hm40 : w1 40 = some (eZ dA 2 Zt) := (frw1 _ (by omega)).trans hm40
      replace hm41 : w1 41 = some (eN dA 80 C) := (frw1 _ (by omega)).trans hm41
      replace hm42 : w1 42 = some (eN dA 120 D0) := (frw1 _ (by omega)).trans hm42
      replace hm43 : w1 43 = some (eN dA 120 M0) := (frw1 _ (by omega)).trans hm43
      replace hm44 : w1 44 = some (eN dA 3 TD) := (frw1 _ (by omega)).trans hm44
      replace hm0 : w1 36 = some (modO b (nI (n)) (nI (nc)) (nI (0)) (pl) (lt) (dn)) := (frw1 _ (by omega)).trans hm0
      replace hm1 : w1 37 = some (eN dA 85 (va_up F ((37 + 4 * (i32n x)) + 2) 0)) := by rw [ew1]; exact up_eq
      obtain ⟨P, hPe2⟩ : ∃ P : Pl, P = ldN Q9 (i32n x) 0 := ⟨_, rfl⟩
      have hRp : rep (va_up F (37 + 4 * i32n x + 2) 0) P := by rw [hPe2]; exact rep_setN hRq hPw (i := i32n x) (j := 2) bx9 (by decide)
      have hP : okP P := by rw [hPe2]; exact ok_setN (i := i32n x) (j := 2) hPq (by omega)
      refine lv_aload_n hx hb dX7_loudestQuiet_45 rfl (lv_at hl 2 rfl) ?_
      refine q_W0 (va_runV (As := []) (rest := []) ⟨hx, hb, hml, hown, hts⟩ (c_X7_layOut l hm0 hm1 hRp hP hm42 hm43) (cwV 0 hts gX7_loudestQuiet_X7_layOut rfl rfl rfl (by decide +kernel) ⟨Nat.le_of_ble_eq_true rfl, Nat.le_of_ble_eq_true rfl⟩) (q_preV hG hW hS hm0 rfl) rfl rfl hl.1 rfl (lv_room (Nat.le_of_ble_eq_true rfl)) dX7_loudestQuiet_46 ⟨Nat.le_of_ble_eq_true rfl, Nat.le_of_ble_eq_true rfl⟩) hS (fun w_46 H locs hp46 hW hS => ?_)
      obtain ⟨hm42, hm43, fr46⟩ := hp46
      replace hm1 : w_46 37 = some (eN dA 85 (va_up F ((37 + 4 * (i32n x)) + 2) 0)) := (fr46 _ (by omega)).trans hm1
      replace hm38 : w_46 38 = some (eN dA 510 G) := (fr46 _ (by omega)).trans hm38
      replace hm39 : w_46 39 = some (eN dA 170 GS) := (fr46 _ (by omega)).trans hm39
      replace hm40 : w_46 40 = some (eZ dA 2 Zt) := (fr46 _ (by omega)).trans hm40
      replace hm41 : w_46 41 = some (eN dA 80 C) := (fr46 _ (by omega)).trans hm41
      replace hm44 : w_46 44 = some (eN dA 3 TD) := (fr46 _ (by omega)).trans hm44
      replace hm0 : w_46 36 = some (modO b (nI (n)) (nI (nc)) (nI (0)) (pl) (lt) (dn)) := (fr46 _ (by omega)).trans hm0
      refine lv_aload_n hx hb dX7_loudestQuiet_49 rfl (lv_at hl 2 rfl) ?_
      refine q_R1 (va_runV (As := []) (rest := []) ⟨hx, hb, hml, hown, hts⟩ (c_X7_allMasked l hm0 hm1 hRp hP hm43) (cwV 0 hts gX7_loudestQuiet_X7_allMasked rfl rfl rfl (by decide +kernel) ⟨Nat.le_of_ble_eq_true rfl, Nat.le_of_ble_eq_true rfl⟩) (q_preV hG hW hS hm0 rfl) rfl rfl hl.1 rfl (lv_room (Nat.le_of_ble_eq_true rfl)) dX7_loudestQuiet_50 ⟨Nat.le_of_ble_eq_true rfl, Nat.le_of_ble_eq_true rfl⟩) ?_
      refine q_top (y := nI (ams (delN Q9 (i32n x)))) (by rw [hPe2, quiet_ams bx9]) ?_
      have hwo : ams (delN Q9 (i32n x)) ≤ 1200 := ams_le (ok_delN hPq bx9)
      refine lv_istore (lv' := [(4, .int (nI (ams (delN Q9 (i32n x))))), (3, .int (nI (Q9.N (i32n x) 2))), (2, .int (nI ((37 + 4 * (i32n x)) + 2))), (0, .ref (b + 36)), (1, .int (nI (i32n x)))]) hx hb dX7_loudestQuiet_53 hl (by decide) rfl (fun ls hl => ?_)
      refine lv_iconst (v := nI 0) hx hb dX7_loudestQuiet_55 (by decide) ?_
      refine lv_istore (lv' := [(5, .int (nI 0)), (4, .int (nI (ams (delN Q9 (i32n x))))), (3, .int (nI (Q9.N (i32n x) 2))), (2, .int (nI ((37 + 4 * (i32n x)) + 2))), (0, .ref (b + 36)), (1, .int (nI (i32n x)))]) hx hb dX7_loudestQuiet_56 hl (by decide) rfl (fun ls hl => ?_)
      refine lv_iconst (v := nI 1) hx hb dX7_loudestQuiet_58 (by decide) ?_
      refine lv_istore (lv' := [(6, .int (nI 1)), (5, .int (nI 0)), (4, .int (nI (ams (delN Q9 (i32n x))))), (3, .int (nI (Q9.N (i32n x) 2))), (2, .int (nI ((37 + 4 * (i32n x)) + 2))), (0, .ref (b + 36)), (1, .int (nI (i32n x)))]) hx hb dX7_loudestQuiet_59 hl (by decide) rfl (fun ls hl => ?_)
      have L61 : ∀ (n61 : Nat) (u v : Nat) (Da Ma : Nat → Nat), 1 ≤ u → u ≤ 31 → 31 - u < n61 → ∀ (x61_5 : Int32) (x61_6 : Int32), x61_5 = nI (lqt Q9 (i32n x) (ams (delN Q9 (i32n x))) (u - 1)) → x61_6 = nI (u) → ∀ (wa : Wd) (H : Heap) (locs : List Loc), wa 37 = some (eN dA 85 (va_up F (37 + 4 * i32n x + 2) v)) → wa 42 = some (eN dA 120 Da) → wa 43 = some (eN dA 120 Ma) → (∀ id : Nat, id ≠ 37 ∧ id ≠ 42 ∧ id ≠ 43 → wa id = w_46 id) → WP D b wa H → va_S (Fb b) s.heap H locs → ∀ (ls : Array Slot), lv_has ls 7 [(0, .ref (b + 36)), (1, .int (nI (i32n x))), (2, .int (nI ((37 + 4 * (i32n x)) + 2))), (3, .int (nI (Q9.N (i32n x) 2))), (4, .int (nI (ams (delN Q9 (i32n x))))), (5, .int x61_5), (6, .int x61_6)] → W p l e ({ frames := 6, cells := 0, slots := 0, locals := 141 } : Room) s m args below meth c H locs 0 0 (MQ below (QW D b (some (.int (if 0 ≤ x ∧ x < nI Q9.n then nI (lqt Q9 (i32n x) (ams (delN Q9 (i32n x))) 30) else 0))) (fun w' => (((0 ≤ x ∧ x < nI Q9.n) ∧ isMod dA b w' (Q9, (n, Hs), SL, (nc, C)) (nI 0)) ∨ ((¬ (0 ≤ x ∧ x < nI Q9.n)) ∧ isMod dA b w' (Q9, (n, Hs), SL, (nc, C)) (nI 1))) ∧ ∀ id : Nat, (id < 36 ∨ 45 ≤ id) → w' id = w id)) args s 0 0 (Fb b)) (F0 m 61 ls []) := by
        intro n61
        induction n61 with
        | zero =>
          intro u v Da Ma hu0 hu1 hn61 x61_5 x61_6 ex61_5 ex61_6 wa H locs hm1 hm42 hm43 fr hW hS ls hl
          exact absurd hn61 (Nat.not_lt_zero _)
        | succ n61 ih61 =>
          intro u v Da Ma hu0 hu1 hn61 x61_5 x61_6 ex61_5 ex61_6 wa H locs hm1 hm42 hm43 fr hW hS ls hl
          subst ex61_5 ex61_6
          replace hm0 := (fr 36 (by omega)).trans hm0
          replace hm38 := (fr 38 (by omega)).trans hm38
          replace hm39 := (fr 39 (by omega)).trans hm39
          replace hm40 := (fr 40 (by omega)).trans hm40
          replace hm41 := (fr 41 (by omega)).trans hm41
          replace hm44 := (fr 44 (by omega)).trans hm44
          refine lv_iload hx hb dX7_loudestQuiet_61 (lv_at hl 6 rfl) ?_
          refine lv_bipush (v := nI 30) hx hb dX7_loudestQuiet_63 (by decide) ?_
          refine lv_icmp_gt (tgt := 104) hx hb dX7_loudestQuiet_65 (by decide) (fun c_65 => ?_) (fun c_65 => ?_)
          · skip
            have c_65 : 30 < u := (nI_ltI (a := 30) (b := u) (by omega) (by omega)).mp c_65
            refine lv_aload_n hx hb dX7_loudestQuiet_104 rfl (lv_at hl 0 rfl) ?_
            refine q_get hx hb hts hinX7 hown hG hW hm0 rfl 0 (by decide) (hts (.fieldLink RX7 7 "FoleyMixerModel" "s" "[I") (List.mem_of_getElem? (i := 1) rfl)) rfl rfl dX7_loudestQuiet_105 ?_
            refine lv_iload_n hx hb dX7_loudestQuiet_108 rfl (lv_at hl 2 rfl) ?_
            refine lv_iload_n hx hb dX7_loudestQuiet_109 rfl (lv_at hl 3 rfl) ?_
            refine q_nast hx hb hG hW hS hm1 (by omega) (by omega) dX7_loudestQuiet_110 (fun H locs hW hS hz110 => ?_)
            obtain ⟨w2, ew2⟩ : ∃ wq__ : Wd, wq__ = va_up wa 37 (some (eN dA 85 (va_up (va_up F (37 + 4 * i32n x + 2) v) ((37 + 4 * (i32n x)) + 2) (Q9.N (i32n x) 2)))) := ⟨_, rfl⟩
            replace hW : WP D b w2 H := by rw [ew2]; exact hW
            have frw2 : ∀ id : Nat, id ≠ 37 → w2 id = wa id := fun id h9 => by rw [ew2, up_ne h9]
            replace hm38 : w2 38 = some (eN dA 510 G) := (frw2 _ (by omega)).trans hm38
            replace hm39 : w2 39 = some (eN dA 170 GS) := (frw2 _ (by omega)).trans hm39
            replace hm40 : w2 40 = some (eZ dA 2 Zt) := (frw2 _ (by omega)).trans hm40
            replace hm41 : w2 41 = some (eN dA 80 C) := (frw2 _ (by omega)).trans hm41
            replace hm44 : w2 44 = some (eN dA 3 TD) := (frw2 _ (by omega)).trans hm44
            replace hm0 : w2 36 = some (modO b (nI (n)) (nI (nc)) (nI (0)) (pl) (lt) (dn)) := (frw2 _ (by omega)).trans hm0
            replace hm42 : w2 42 = some (eN dA 120 Da) := (frw2 _ (by omega)).trans hm42
            replace hm43 : w2 43 = some (eN dA 120 Ma) := (frw2 _ (by omega)).trans hm43
            replace hm1 : w2 37 = some (eN dA 85 (va_up (va_up F (37 + 4 * i32n x + 2) v) ((37 + 4 * (i32n x)) + 2) (Q9.N (i32n x) 2))) := by rw [ew2]; exact up_eq
            replace hm1 : w2 37 = some (eN dA 85 F) := hm1.trans (eN_congr fun j => by rw [up_up]; exact up_id (hRq.2.2.2.2 _ bx9 2 (by decide)).symm j)
            refine lv_iload hx hb dX7_loudestQuiet_111 (lv_at hl 5 rfl) ?_
            exact q_wi hx hb hr hlocks hW hS dX7_loudestQuiet_113 (by rw [if_pos c_7, show u - 1 = 30 by omega]) (by exact ⟨Or.inl ⟨c_7, ⟨_, _, _, _, _, _, _, _, _, _, hm0, hm1, ⟨hRq, hPq⟩, hm38, hsv, hm39, hm40, hsl, hm41, hbu, hm42, hm43, hm44⟩⟩, by intro id h9; rw [frw2 id (by omega)]; rw [fr id (by omega)]; rw [fr46 id (by omega)]; rw [frw1 id (by omega)]; rw [fr15 id (by omega)]; try rfl⟩) (by decide) (by decide)
          · skip
            have c_65 : ¬ (30 < u) := fun h__ => c_65 ((nI_ltI (a := 30) (b := u) (by omega) (by omega)).mpr h__)
            refine lv_aload_n hx hb dX7_loudestQuiet_68 rfl (lv_at hl 0 rfl) ?_
            refine q_get hx hb hts hinX7 hown hG hW hm0 rfl 0 (by decide) (hts (.fieldLink RX7 7 "FoleyMixerModel" "s" "[I") (List.mem_of_getElem? (i := 1) rfl)) rfl rfl dX7_loudestQuiet_69 ?_
            refine lv_iload_n hx hb dX7_loudestQuiet_72 rfl (lv_at hl 2 rfl) ?_
            refine lv_iload hx hb dX7_loudestQuiet_73 (lv_at hl 6 rfl) ?_
            refine q_nast hx hb hG hW hS hm1 (by omega) (by omega) dX7_loudestQuiet_75 (fun H locs hW hS hz75 => ?_)
            obtain ⟨w3, ew3⟩ : ∃ wq__ : Wd, wq__ = va_up wa 37 (some (eN dA 85 (va_up (va_up F (37 + 4 * i32n x + 2) v) ((37 + 4 * (i32n x)) + 2) u))) := ⟨_, rfl⟩
            replace hW : WP D b w3 H := by rw [ew3]; exact hW
            have frw3 : ∀ id : Nat, id ≠ 37 → w3 id = wa id := fun id h9 => by rw [ew3, up_ne h9]
            replace hm38 : w3 38 = some (eN dA 510 G) := (frw3 _ (by omega)).trans hm38
            replace hm39 : w3 39 = some (eN dA 170 GS) := (frw3 _ (by omega)).trans hm39
            replace hm40 : w3 40 = some (eZ dA 2 Zt) := (frw3 _ (by omega)).trans hm40
            replace hm41 : w3 41 = some (eN dA 80 C) := (frw3 _ (by omega)).trans hm41
            replace hm44 : w3 44 = some (eN dA 3 TD) := (frw3 _ (by omega)).trans hm44
            replace hm0 : w3 36 = some (modO b (nI (n)) (nI (nc)) (nI (0)) (pl) (lt) (dn)) := (frw3 _ (by omega)).trans hm0
            replace hm42 : w3 42 = some (eN dA 120 Da) := (frw3 _ (by omega)).trans hm42
            replace hm43 : w3 43 = some (eN dA 120 Ma) := (frw3 _ (by omega)).trans hm43
            replace hm1 : w3 37 = some (eN dA 85 (va_up (va_up F (37 + 4 * i32n x + 2) v) ((37 + 4 * (i32n x)) + 2) u)) := by rw [ew3]; exact up_eq
            replace hm1 : w3 37 = some (eN dA 85 (va_up F (37 + 4 * i32n x + 2) u)) := hm1.trans (eN_congr up_up)
            obtain ⟨P, hPe3⟩ : ∃ P : Pl, P = ldN Q9 (i32n x) u := ⟨_, rfl⟩
            have hRp : rep (va_up F (37 + 4 * i32n x + 2) u) P := by rw [hPe3]; exact rep_setN hRq hPw (i := i32n x) (j := 2) bx9 (by decide)
            have hP : okP P := by rw [hPe3]; exact ok_setN (i := i32n x) (j := 2) hPq (by omega)
            refine lv_aload_n hx hb dX7_loudestQuiet_76 rfl (lv_at hl 0 rfl) ?_
            refine q_W0 (va_runV (As := []) (rest := []) ⟨hx, hb, hml, hown, hts⟩ (c_X7_layOut l hm0 hm1 hRp hP hm42 hm43) (cwV 0 hts gX7_loudestQuiet_X7_layOut rfl rfl rfl (by decide +kernel) ⟨Nat.le_of_ble_eq_true rfl, Nat.le_of_ble_eq_true rfl⟩) (q_preV hG hW hS hm0 rfl) rfl rfl hl.1 rfl (lv_room (Nat.le_of_ble_eq_true rfl)) dX7_loudestQuiet_77 ⟨Nat.le_of_ble_eq_true rfl, Nat.le_of_ble_eq_true rfl⟩) hS (fun w_77 H locs hp77 hW hS => ?_)
            obtain ⟨hm42, hm43, fr77⟩ := hp77
            replace hm1 : w_77 37 = some (eN dA 85 (va_up F (37 + 4 * i32n x + 2) u)) := (fr77 _ (by omega)).trans hm1
            replace hm38 : w_77 38 = some (eN dA 510 G) := (fr77 _ (by omega)).trans hm38
            replace hm39 : w_77 39 = some (eN dA 170 GS) := (fr77 _ (by omega)).trans hm39
            replace hm40 : w_77 40 = some (eZ dA 2 Zt) := (fr77 _ (by omega)).trans hm40
            replace hm41 : w_77 41 = some (eN dA 80 C) := (fr77 _ (by omega)).trans hm41
            replace hm44 : w_77 44 = some (eN dA 3 TD) := (fr77 _ (by omega)).trans hm44
            replace hm0 : w_77 36 = some (modO b (nI (n)) (nI (nc)) (nI (0)) (pl) (lt) (dn)) := (fr77 _ (by omega)).trans hm0
            refine lv_aload_n hx hb dX7_loudestQuiet_80 rfl (lv_at hl 0 rfl) ?_
            refine q_R1 (va_runV (As := []) (rest := []) ⟨hx, hb, hml, hown, hts⟩ (c_X7_allMasked l hm0 hm1 hRp hP hm43) (cwV 0 hts gX7_loudestQuiet_X7_allMasked rfl rfl rfl (by decide +kernel) ⟨Nat.le_of_ble_eq_true rfl, Nat.le_of_ble_eq_true rfl⟩) (q_preV hG hW hS hm0 rfl) rfl rfl hl.1 rfl (lv_room (Nat.le_of_ble_eq_true rfl)) dX7_loudestQuiet_81 ⟨Nat.le_of_ble_eq_true rfl, Nat.le_of_ble_eq_true rfl⟩) ?_
            refine q_top (y := nI (ams (ldN Q9 (i32n x) u))) (by rw [hPe3]) ?_
            have hal := ams_le hP
            rw [hPe3] at hal
            refine lv_iload hx hb dX7_loudestQuiet_84 (lv_at hl 4 rfl) ?_
            refine lv_icmp_gt (tgt := 94) hx hb dX7_loudestQuiet_86 (by decide) (fun c_86 => ?_) (fun c_86 => ?_)
            · skip
              have c_86 : ams (delN Q9 (i32n x)) < ams (ldN Q9 (i32n x) u) := (nI_ltI (a := ams (delN Q9 (i32n x))) (b := ams (ldN Q9 (i32n x) u)) (by omega) (by omega)).mp c_86
              refine lv_iload hx hb dX7_loudestQuiet_94 (lv_at hl 5 rfl) ?_
              refine lv_istore (lv' := [(5, .int (nI (lqt Q9 (i32n x) (ams (delN Q9 (i32n x))) (u - 1)))), (0, .ref (b + 36)), (1, .int (nI (i32n x))), (2, .int (nI ((37 + 4 * (i32n x)) + 2))), (3, .int (nI (Q9.N (i32n x) 2))), (4, .int (nI (ams (delN Q9 (i32n x))))), (6, .int (nI u))]) hx hb dX7_loudestQuiet_96 hl (by decide) rfl (fun ls hl => ?_)
              refine lv_iinc (v := nI (u + 1)) (lv' := [(6, .int (nI (u + 1))), (5, .int (nI (lqt Q9 (i32n x) (ams (delN Q9 (i32n x))) (u - 1)))), (0, .ref (b + 36)), (1, .int (nI (i32n x))), (2, .int (nI ((37 + 4 * (i32n x)) + 2))), (3, .int (nI (Q9.N (i32n x) 2))), (4, .int (nI (ams (delN Q9 (i32n x)))))]) hx hb dX7_loudestQuiet_98 hl (k := 6) rfl (nI_add _ 1) (by decide) rfl (fun ls hl => ?_)
              refine lv_goto (tgt := 61) hx hb dX7_loudestQuiet_101 (by decide) ?_
              exact ih61 (u + 1) u (dk P) (mmk P) (by omega) (by omega) (by omega) _ _ (by rw [Nat.add_sub_cancel]; first | (rw [lqt_yes hu0 (by omega)]; done) | (rw [lqt_no hu0 (by omega)]; done)) (by first | rfl | (congr 1; omega)) _ _ _ (by exact hm1) (by exact hm42) (by exact hm43) (by intro id h9; rw [fr77 id (by omega)]; rw [frw3 id (by omega)]; exact fr id h9) hW hS _ (lv_sub hl [2, 3, 4, 5, 6, 1, 0] rfl)
            · skip
              have c_86 : ¬ (ams (delN Q9 (i32n x)) < ams (ldN Q9 (i32n x) u)) := fun h__ => c_86 ((nI_ltI (a := ams (delN Q9 (i32n x))) (b := ams (ldN Q9 (i32n x) u)) (by omega) (by omega)).mpr h__)
              refine lv_iload hx hb dX7_loudestQuiet_89 (lv_at hl 6 rfl) ?_
              refine lv_goto (tgt := 96) hx hb dX7_loudestQuiet_91 (by decide) ?_
              refine lv_istore (lv' := [(5, .int (nI u)), (0, .ref (b + 36)), (1, .int (nI (i32n x))), (2, .int (nI ((37 + 4 * (i32n x)) + 2))), (3, .int (nI (Q9.N (i32n x) 2))), (4, .int (nI (ams (delN Q9 (i32n x))))), (6, .int (nI u))]) hx hb dX7_loudestQuiet_96 hl (by decide) rfl (fun ls hl => ?_)
              refine lv_iinc (v := nI (u + 1)) (lv' := [(6, .int (nI (u + 1))), (5, .int (nI u)), (0, .ref (b + 36)), (1, .int (nI (i32n x))), (2, .int (nI ((37 + 4 * (i32n x)) + 2))), (3, .int (nI (Q9.N (i32n x) 2))), (4, .int (nI (ams (delN Q9 (i32n x)))))]) hx hb dX7_loudestQuiet_98 hl (k := 6) rfl (nI_add _ 1) (by decide) rfl (fun ls hl => ?_)
              refine lv_goto (tgt := 61) hx hb dX7_loudestQuiet_101 (by decide) ?_
              exact ih61 (u + 1) u (dk P) (mmk P) (by omega) (by omega) (by omega) _ _ (by rw [Nat.add_sub_cancel]; first | (rw [lqt_yes hu0 (by omega)]; done) | (rw [lqt_no hu0 (by omega)]; done)) (by first | rfl | (congr 1; omega)) _ _ _ (by exact hm1) (by exact hm42) (by exact hm43) (by intro id h9; rw [fr77 id (by omega)]; rw [frw3 id (by omega)]; exact fr id h9) hW hS _ (lv_sub hl [2, 3, 4, 5, 6, 1, 0] rfl)
      exact L61 ((31 - 1) + 1) 1 0 (dk P) (mmk P) (by omega) (by omega) (Nat.lt_succ_self _) _ _ (by rfl) (by first | rfl | (congr 1; omega)) _ _ _ (by exact hm1) (by exact hm42) (by exact hm43) (by intro id h9; rfl) hW hS _ (lv_sub hl [5, 6, 4, 3, 2, 1, 0] rfl)
    · skip
      have c_18 : 1 = 0 := (nI_eq0 (i := 1) (by omega)).mp c_18
      exact absurd c_18 (by omega)

set_option maxHeartbeats 300000 in
set_option maxRecDepth 100000 in
/-- heard -/
theorem c_X7_heard (l : Launch) {D : va_G} {dA : Nat → Nat} {b : Nat} {w : Wd} {n nc : Nat} {P : Pl} {Hs : Nat → Pl} {SL : Nat → Option Pl} {C : Nat → Nat} {tt : Int32} (hmd : isMod dA b w (P, (n, Hs), SL, (nc, C)) tt) : Met l yX7_heard wsX7_heard ({ frames := 6, cells := 0, slots := 0, locals := 141 } : Room) (PC D dA b w [.ref (b + 36)]) (QW D b (some (.double (hrP P))) (fun w' => isMod dA b w' (P, (n, Hs), SL, (nc, C)) (nI 0) ∧ ∀ id : Nat, (id < 36 ∨ 45 ≤ id) → w' id = w id)) 0 0 (Fb b) := by
  refine q_of (cc := cX7_heard) (maxL := 3) (ret := (some .double)) (by decide) rfl rfl ?_
  intro p e s m args below meth c ls hx hb hr hml hts hown hlocks hG hW hS hl
  have hown : s.vm.findClass RX7 = some m.cls := hown
  have hinX7 : ∀ w ∈ u_ws RX7 TX7 14, w ∈ wsX7_heard := fun w h => (goodIn_r (big := wsX7_heard) (u_ws RX7 TX7 14) [54, 55, 56, 57, 58, 59, 60, 61, 62, 63, 64, 65, 66, 67] (by decide +kernel) (by decide +kernel) w h).1
  have hl : lv_has ls 3 [(0, .ref (b + 36))] := hl
  obtain ⟨pl, lt, dn, F, G, GS, Zt, D0, M0, TD, hm0, hm1, ⟨hRp, hP⟩, hm38, hsv, hm39, hm40, hsl, hm41, hbu, hm42, hm43, hm44⟩ := id hmd
  change w 36 = some (modO b (nI n) (nI nc) tt pl lt dn) at hm0
  change rep F P at hRp
  change okP P at hP
  change mSv n G Hs at hsv
  change mSl GS Zt SL at hsl
  change w 41 = some (eN dA 80 C) at hm41
  change mBu nc C at hbu
  have hn6 := hsv.1
  have hnc := hbu.1
  obtain ⟨hPw, hPn, hPW, hPN, hPS⟩ := id hP
  have hr5 := hRp.2.1
  have hr6 := hRp.2.2.1
  have hll := lens_le hP
  refine lv_aload_n hx hb dX7_heard_0 rfl (lv_at hl 0 rfl) ?_
  refine lv_iconst (v := nI 0) hx hb dX7_heard_1 (by decide) ?_
  refine q_put hx hb hts hinX7 tyX7_ok nmX7 hown hG hW hS hm0 rfl 7 (by decide) (hts (.fieldLink RX7 35 "FoleyMixerModel" "thrown" "I") (List.mem_of_getElem? (i := 1) rfl)) rfl rfl rfl rfl (Nat.le_of_ble_eq_true rfl) dX7_heard_2 (fun H locs hW hS hz2 => ?_)
  obtain ⟨w1, ew1⟩ : ∃ wq__ : Wd, wq__ = va_up w 36 (some (modO b (nI (n)) (nI (nc)) (nI (0)) (pl) (lt) (dn))) := ⟨_, rfl⟩
  replace hW : WP D b w1 H := by rw [ew1]; exact hW
  have frw1 : ∀ id : Nat, id ≠ 36 → w1 id = w id := fun id h9 => by rw [ew1, up_ne h9]
  replace hm1 : w1 37 = some (eN dA 85 F) := (frw1 _ (by omega)).trans hm1
  replace hm38 : w1 38 = some (eN dA 510 G) := (frw1 _ (by omega)).trans hm38
  replace hm39 : w1 39 = some (eN dA 170 GS) := (frw1 _ (by omega)).trans hm39
  replace hm40 : w1 40 = some (eZ dA 2 Zt) := (frw1 _ (by omega)).trans hm40
  replace hm41 : w1 41 = some (eN dA 80 C) := (frw1 _ (by omega)).trans hm41
  replace hm42 : w1 42 = some (eN dA 120 D0) := (frw1 _ (by omega)).trans hm42
  replace hm43 : w1 43 = some (eN dA 120 M0) := (frw1 _ (by omega)).trans hm43
  replace hm44 : w1 44 = some (eN dA 3 TD) := (frw1 _ (by omega)).trans hm44
  replace hm0 : w1 36 = some (modO b (nI (n)) (nI (nc)) (nI (0)) (pl) (lt) (dn)) := by rw [ew1]; exact up_eq
  refine lv_aload_n hx hb dX7_heard_5 rfl (lv_at hl 0 rfl) ?_
  refine q_W0 (va_runV (As := []) (rest := []) ⟨hx, hb, hml, hown, hts⟩ (c_X7_layOut l hm0 hm1 hRp hP hm42 hm43) (cwV 0 hts gX7_heard_X7_layOut rfl rfl rfl (by decide +kernel) ⟨Nat.le_of_ble_eq_true rfl, Nat.le_of_ble_eq_true rfl⟩) (q_preV hG hW hS hm0 rfl) rfl rfl hl.1 rfl (lv_room (Nat.le_of_ble_eq_true rfl)) dX7_heard_6 ⟨Nat.le_of_ble_eq_true rfl, Nat.le_of_ble_eq_true rfl⟩) hS (fun w_6 H locs hp6 hW hS => ?_)
  obtain ⟨hm42, hm43, fr6⟩ := hp6
  replace hm0 : w_6 36 = some (modO b (nI (n)) (nI (nc)) (nI (0)) (pl) (lt) (dn)) := (fr6 _ (by omega)).trans hm0
  replace hm1 : w_6 37 = some (eN dA 85 F) := (fr6 _ (by omega)).trans hm1
  replace hm38 : w_6 38 = some (eN dA 510 G) := (fr6 _ (by omega)).trans hm38
  replace hm39 : w_6 39 = some (eN dA 170 GS) := (fr6 _ (by omega)).trans hm39
  replace hm40 : w_6 40 = some (eZ dA 2 Zt) := (fr6 _ (by omega)).trans hm40
  replace hm41 : w_6 41 = some (eN dA 80 C) := (fr6 _ (by omega)).trans hm41
  replace hm44 : w_6 44 = some (eN dA 3 TD) := (fr6 _ (by omega)).trans hm44
  refine lv_iconst (v := nI 0) hx hb dX7_heard_9 (by decide) ?_
  refine lv_istore_n (lv' := [(1, .int (nI 0)), (0, .ref (b + 36))]) hx hb dX7_heard_10 rfl hl (by decide) rfl (fun ls hl => ?_)
  refine lv_iconst (v := nI 0) hx hb dX7_heard_11 (by decide) ?_
  refine lv_istore_n (lv' := [(2, .int (nI 0)), (1, .int (nI 0)), (0, .ref (b + 36))]) hx hb dX7_heard_12 rfl hl (by decide) rfl (fun ls hl => ?_)
  have L13 : ∀ (n13 : Nat) (u : Nat), u ≤ P.w → P.w - u < n13 → ∀ (x13_1 : Int32) (x13_2 : Int32), x13_1 = nI (sm (fun j => P.W j 1) u) → x13_2 = nI (u) → ∀ (ls : Array Slot), lv_has ls 3 [(0, .ref (b + 36)), (1, .int x13_1), (2, .int x13_2)] → W p l e ({ frames := 6, cells := 0, slots := 0, locals := 141 } : Room) s m args below meth c H locs 0 0 (MQ below (QW D b (some (.double (hrP P))) (fun w' => isMod dA b w' (P, (n, Hs), SL, (nc, C)) (nI 0) ∧ ∀ id : Nat, (id < 36 ∨ 45 ≤ id) → w' id = w id)) args s 0 0 (Fb b)) (F0 m 13 ls []) := by
    intro n13
    induction n13 with
    | zero =>
      intro u hu0 hn13 x13_1 x13_2 ex13_1 ex13_2 ls hl
      exact absurd hn13 (Nat.not_lt_zero _)
    | succ n13 ih13 =>
      intro u hu0 hn13 x13_1 x13_2 ex13_1 ex13_2 ls hl
      subst ex13_1 ex13_2
      refine lv_iload_n hx hb dX7_heard_13 rfl (lv_at hl 2 rfl) ?_
      refine lv_aload_n hx hb dX7_heard_14 rfl (lv_at hl 0 rfl) ?_
      refine q_get hx hb hts hinX7 hown hG hW hm0 rfl 0 (by decide) (hts (.fieldLink RX7 7 "FoleyMixerModel" "s" "[I") (List.mem_of_getElem? (i := 2) rfl)) rfl rfl dX7_heard_15 ?_
      refine lv_iconst (v := nI 5) hx hb dX7_heard_18 (by decide) ?_
      refine q_iald hx hb hG hW hm1 (by omega) (by omega) dX7_heard_19 ?_
      refine q_top (y := nI (P.w)) (by exact congrArg nI hr5) ?_
      refine lv_icmp_ge (tgt := 38) hx hb dX7_heard_20 (by decide) (fun c_20 => ?_) (fun c_20 => ?_)
      · skip
        have c_20 : P.w ≤ u := (nI_leI (a := P.w) (b := u) (by omega) (by omega)).mp c_20
        have el_38 : nI (sm (fun j => P.W j 1) u) = nI (lens P) := by rw [show u = P.w by omega]; rfl
        rw [el_38] at hl
        refine lv_iload_n hx hb dX7_heard_38 rfl (lv_at hl 1 rfl) ?_
        refine lv_if_ne (tgt := 46) hx hb dX7_heard_39 (by decide) (fun c_39 => ?_) (fun c_39 => ?_)
        · skip
          have c_39 : ¬ ((lens P) = 0) := fun h__ => c_39 ((nI_eq0 (i := lens P) (by omega)).mpr h__)
          refine lv_iload_n hx hb dX7_heard_46 rfl (lv_at hl 1 rfl) ?_
          refine lv_aload_n hx hb dX7_heard_47 rfl (lv_at hl 0 rfl) ?_
          refine q_R1 (va_runV (As := []) (rest := [.int (nI (lens P))]) ⟨hx, hb, hml, hown, hts⟩ (c_X7_allMasked l hm0 hm1 hRp hP hm43) (cwV 0 hts gX7_heard_X7_allMasked rfl rfl rfl (by decide +kernel) ⟨Nat.le_of_ble_eq_true rfl, Nat.le_of_ble_eq_true rfl⟩) (q_preV hG hW hS hm0 rfl) rfl rfl hl.1 rfl (lv_room (Nat.le_of_ble_eq_true rfl)) dX7_heard_48 ⟨Nat.le_of_ble_eq_true rfl, Nat.le_of_ble_eq_true rfl⟩) ?_
          refine lv_isub hx hb dX7_heard_51 ?_
          refine lv_i2d hx hb dX7_heard_52 ?_
          refine lv_iload_n hx hb dX7_heard_53 rfl (lv_at hl 1 rfl) ?_
          refine lv_i2d hx hb dX7_heard_54 ?_
          refine lv_ddiv hx hb dX7_heard_55 (by exact hd_ok _ (fun q9 => c_39 ((nI_eq0 (i := lens P) (by omega)).mp q9))) ?_
          exact q_wd hx hb hr hlocks hW hS dX7_heard_56 (by unfold hrP; first | (rw [if_pos c_39]; done) | (rw [if_neg c_39]; done)) (by exact ⟨⟨_, _, _, _, _, _, _, _, _, _, hm0, hm1, ⟨hRp, hP⟩, hm38, hsv, hm39, hm40, hsl, hm41, hbu, hm42, hm43, hm44⟩, by intro id h9; rw [fr6 id (by omega)]; rw [frw1 id (by omega)]; try rfl⟩) (by decide) (by decide)
        · skip
          have c_39 : (lens P) = 0 := (nI_eq0 (i := lens P) (by omega)).mp c_39
          refine lv_dconst1 hx hb dX7_heard_42 ?_
          refine lv_goto (tgt := 56) hx hb dX7_heard_43 (by decide) ?_
          exact q_wd hx hb hr hlocks hW hS dX7_heard_56 (by unfold hrP; first | (rw [if_pos c_39]; done) | (rw [if_neg c_39]; done)) (by exact ⟨⟨_, _, _, _, _, _, _, _, _, _, hm0, hm1, ⟨hRp, hP⟩, hm38, hsv, hm39, hm40, hsl, hm41, hbu, hm42, hm43, hm44⟩, by intro id h9; rw [fr6 id (by omega)]; rw [frw1 id (by omega)]; try rfl⟩) (by decide) (by decide)
      · skip
        have c_20 : ¬ (P.w ≤ u) := fun h__ => c_20 ((nI_leI (a := P.w) (b := u) (by omega) (by omega)).mpr h__)
        refine lv_iload_n hx hb dX7_heard_23 rfl (lv_at hl 1 rfl) ?_
        refine lv_aload_n hx hb dX7_heard_24 rfl (lv_at hl 0 rfl) ?_
        refine lv_iload_n hx hb dX7_heard_25 rfl (lv_at hl 2 rfl) ?_
        refine lv_iconst (v := nI 1) hx hb dX7_heard_26 (by decide) ?_
        refine q_R1 (va_runV (As := [.int (nI u), .int (nI 1)]) (rest := [.int (nI (sm (fun j => P.W j 1) u))]) ⟨hx, hb, hml, hown, hts⟩ (c_ofW l hm0 hm1 hRp hP (u) (1) (by omega) (by omega)) (cwV 2 hts gX7_heard_X7_ofWord rfl rfl rfl (by decide +kernel) ⟨Nat.le_of_ble_eq_true rfl, Nat.le_of_ble_eq_true rfl⟩) (q_preV hG hW hS hm0 rfl) rfl rfl hl.1 rfl (lv_room (Nat.le_of_ble_eq_true rfl)) dX7_heard_27 ⟨Nat.le_of_ble_eq_true rfl, Nat.le_of_ble_eq_true rfl⟩) ?_
        refine lv_iadd hx hb dX7_heard_30 ?_
        refine q_top (y := nI ((sm (fun j => P.W j 1) u) + (P.W u 1))) (nI_add _ _) ?_
        refine lv_istore_n (lv' := [(1, .int (nI ((sm (fun j => P.W j 1) u) + (P.W u 1)))), (0, .ref (b + 36)), (2, .int (nI u))]) hx hb dX7_heard_31 rfl hl (by decide) rfl (fun ls hl => ?_)
        refine lv_iinc (v := nI (u + 1)) (lv' := [(2, .int (nI (u + 1))), (1, .int (nI ((sm (fun j => P.W j 1) u) + (P.W u 1)))), (0, .ref (b + 36))]) hx hb dX7_heard_32 hl (k := 2) rfl (nI_add _ 1) (by decide) rfl (fun ls hl => ?_)
        refine lv_goto (tgt := 13) hx hb dX7_heard_35 (by decide) ?_
        exact ih13 (u + 1) (by omega) (by omega) _ _ (by rfl) (by first | rfl | (congr 1; omega)) _ (lv_sub hl [2, 1, 0] rfl)
  exact L13 ((P.w - 0) + 1) 0 (by omega) (Nat.lt_succ_self _) _ _ (by rfl) (by first | rfl | (congr 1; omega)) _ (lv_sub hl [2, 1, 0] rfl)

