set_option maxHeartbeats 300000 in
set_option maxRecDepth 100000 in
/-- layOut -/
theorem c_X7_layOut (l : Launch) {D : va_G} {dA : Nat → Nat} {b : Nat} {w : Wd} {sv nc th pl lt dn : Int32} (hm0 : w 36 = some (modO b sv nc th pl lt dn)) {F : Nat → Nat} (hm1 : w 37 = some (eN dA 85 F)) {P : Pl} (hRp : rep F P) (hP : okP P) {D0 M0 : Nat → Nat} (hm42 : w 42 = some (eN dA 120 D0)) (hm43 : w 43 = some (eN dA 120 M0)) : Met l yX7_layOut wsX7_layOut ({ frames := 5, cells := 0, slots := 0, locals := 117 } : Room) (PC D dA b w [.ref (b + 36)]) (QW D b (none) (fun w' => w' 42 = some (eN dA 120 (dk P)) ∧ w' 43 = some (eN dA 120 (mmk P)) ∧ ∀ id : Nat, id ≠ 42 ∧ id ≠ 43 → w' id = w id)) 0 0 (Fb b) := by
  refine q_of (cc := cX7_layOut) (maxL := 5) (ret := none) (by decide) rfl rfl ?_
  intro p e s m args below meth c ls hx hb hr hml hts hown hlocks hG hW hS hl
  have hown : s.vm.findClass RX7 = some m.cls := hown
  have hinX7 : ∀ w ∈ u_ws RX7 TX7 14, w ∈ wsX7_layOut := fun w h => (goodIn_r (big := wsX7_layOut) (u_ws RX7 TX7 14) [42, 43, 44, 45, 46, 47, 48, 49, 50, 51, 52, 53, 54, 55] (by decide +kernel) (by decide +kernel) w h).1
  have hl : lv_has ls 5 [(0, .ref (b + 36))] := hl
  obtain ⟨hPw, hPn, hPW, hPN, hPS⟩ := id hP
  have hr5 := hRp.2.1
  have hr6 := hRp.2.2.1
  refine lv_iconst (v := nI 0) hx hb dX7_layOut_0 (by decide) ?_
  refine lv_istore_n (lv' := [(1, .int (nI 0)), (0, .ref (b + 36))]) hx hb dX7_layOut_1 rfl hl (by decide) rfl (fun ls hl => ?_)
  have L2 : ∀ (n2 : Nat) (t : Nat), t ≤ 120 → 120 - t < n2 → ∀ (x2_1 : Int32), x2_1 = nI (t) → ∀ (wa : Wd) (H : Heap) (locs : List Loc), wa 36 = some (modO b sv nc th pl lt dn) → wa 37 = some (eN dA 85 F) → wa 42 = some (eN dA 120 (fun j => if j < t then dk P j else D0 j)) → wa 43 = some (eN dA 120 (fun j => if j < t then mmk P j else M0 j)) → (∀ id : Nat, id ≠ 42 ∧ id ≠ 43 → wa id = w id) → WP D b wa H → va_S (Fb b) s.heap H locs → ∀ (ls : Array Slot), lv_has ls 5 [(0, .ref (b + 36)), (1, .int x2_1)] → W p l e ({ frames := 5, cells := 0, slots := 0, locals := 117 } : Room) s m args below meth c H locs 0 0 (MQ below (QW D b (none) (fun w' => w' 42 = some (eN dA 120 (dk P)) ∧ w' 43 = some (eN dA 120 (mmk P)) ∧ ∀ id : Nat, id ≠ 42 ∧ id ≠ 43 → w' id = w id)) args s 0 0 (Fb b)) (F0 m 2 ls []) := by
    intro n2
    induction n2 with
    | zero =>
      intro t ht0 hn2 x2_1 ex2_1 wa H locs hm0 hm1 hm42 hm43 fr hW hS ls hl
      exact absurd hn2 (Nat.not_lt_zero _)
    | succ n2 ih2 =>
      intro t ht0 hn2 x2_1 ex2_1 wa H locs hm0 hm1 hm42 hm43 fr hW hS ls hl
      subst ex2_1
      have hpd := pdk_le P t
      have hp0 : t = 0 → pdk P t = 0 := fun h => by subst h; rfl
      have hwm := wmk_lt (V := P.W) (n := P.w) (by omega) t
      have hS0 := hPS.1
      have hS1 := hPS.2.2.1
      refine lv_iload_n hx hb dX7_layOut_2 rfl (lv_at hl 1 rfl) ?_
      refine lv_bipush (v := nI 120) hx hb dX7_layOut_3 (by decide) ?_
      refine lv_icmp_ge (tgt := 149) hx hb dX7_layOut_5 (by decide) (fun c_5 => ?_) (fun c_5 => ?_)
      · skip
        have c_5 : 120 ≤ t := (nI_leI (a := 120) (b := t) (by omega) (by omega)).mp c_5
        replace hW := hW.same (g := dk P) hm42 (fun j hj => if_pos (by omega))
        have h43 := (up_ne (w := wa) (k := 42) (j := 43) (e := some (eN dA 120 (dk P))) (by decide)).trans hm43
        replace hW := hW.same (g := mmk P) h43 (fun j hj => if_pos (by omega))
        exact q_wv hx hb hr hlocks hW hS dX7_layOut_149 (by exact ⟨(up_ne (by decide)).trans up_eq, up_eq, fun id h9 => (up_ne h9.2).trans ((up_ne h9.1).trans (fr id h9))⟩) (by decide) (by decide)
      · skip
        have c_5 : ¬ (120 ≤ t) := fun h__ => c_5 ((nI_leI (a := 120) (b := t) (by omega) (by omega)).mpr h__)
        refine lv_aload_n hx hb dX7_layOut_8 rfl (lv_at hl 0 rfl) ?_
        refine lv_iload_n hx hb dX7_layOut_9 rfl (lv_at hl 1 rfl) ?_
        refine q_R1 (va_runV (As := [.int (nI t)]) (rest := []) ⟨hx, hb, hml, hown, hts⟩ (c_X7_wordsAt l hm0 hm1 hRp hP (t) (by omega)) (cwV 1 hts gX7_layOut_X7_wordsAt rfl rfl rfl (by decide +kernel) ⟨Nat.le_of_ble_eq_true rfl, Nat.le_of_ble_eq_true rfl⟩) (q_preV hG hW hS hm0 rfl) rfl rfl hl.1 rfl (lv_room (Nat.le_of_ble_eq_true rfl)) dX7_layOut_10 ⟨Nat.le_of_ble_eq_true rfl, Nat.le_of_ble_eq_true rfl⟩) ?_
        refine lv_istore_n (lv' := [(2, .int (nI (wmk P.W P.w t))), (0, .ref (b + 36)), (1, .int (nI t))]) hx hb dX7_layOut_13 rfl hl (by decide) rfl (fun ls hl => ?_)
        refine lv_iload_n hx hb dX7_layOut_14 rfl (lv_at hl 2 rfl) ?_
        refine lv_if_ne (tgt := 22) hx hb dX7_layOut_15 (by decide) (fun c_15 => ?_) (fun c_15 => ?_)
        · skip
          have c_15 : ¬ (t = 0) := fun h__ => c_15 ((nI_eq0 (i := t) (by omega)).mpr h__)
          refine lv_aload_n hx hb dX7_layOut_22 rfl (lv_at hl 1 rfl) ?_
          refine q_get hx hb hts hinX7 hown hG hW hm0 rfl 8 (by decide) (hts (.fieldLink RX7 26 "FoleyMixerModel" "ducking" "[I") (List.mem_of_getElem? (i := 1) rfl)) rfl rfl dX7_layOut_23 ?_
          refine lv_iload_n hx hb dX7_layOut_26 rfl (lv_at hl 2 rfl) ?_
          refine lv_iconst (v := nI 1) hx hb dX7_layOut_27 (by decide) ?_
          refine lv_isub hx hb dX7_layOut_28 ?_
          refine q_top (y := nI (t - 1)) (nI_sub (by omega)) ?_
          refine q_iald hx hb hG hW hm42 (by omega) (by omega) dX7_layOut_29 ?_
          refine q_top (y := nI (pdk P t)) (by refine congrArg nI ?_; show (if t - 1 < t then dk P (t - 1) else D0 (t - 1)) = pdk P t; rw [if_pos (by omega)]; obtain ⟨v, rfl⟩ : ∃ v, t = v + 1 := ⟨t - 1, by omega⟩; rfl) ?_
          refine lv_aload_n hx hb dX7_layOut_30 rfl (lv_at hl 1 rfl) ?_
          refine q_get hx hb hts hinX7 hown hG hW hm0 rfl 0 (by decide) (hts (.fieldLink RX7 7 "FoleyMixerModel" "s" "[I") (List.mem_of_getElem? (i := 2) rfl)) rfl rfl dX7_layOut_31 ?_
          refine lv_iconst (v := nI 1) hx hb dX7_layOut_34 (by decide) ?_
          refine q_iald hx hb hG hW hm1 (by omega) (by omega) dX7_layOut_35 ?_
          refine q_top (y := nI (P.S 1)) (by exact congrArg nI (hRp.1 1 (by omega))) ?_
          refine lv_isub hx hb dX7_layOut_36 ?_
          by_cases hle9 : P.S 1 ≤ pdk P t
          · skip
            refine q_top (y := nI (pdk P t - P.S 1)) (nI_sub hle9) ?_
            refine lv_istore_n (lv' := [(3, .int (nI (pdk P t - P.S 1))), (2, .int (nI (wmk P.W P.w t))), (0, .ref (b + 36)), (1, .int (nI t))]) hx hb dX7_layOut_37 rfl hl (by decide) rfl (fun ls hl => ?_)
            refine lv_aload_n hx hb dX7_layOut_38 rfl (lv_at hl 2 rfl) ?_
            refine q_get hx hb hts hinX7 hown hG hW hm0 rfl 8 (by decide) (hts (.fieldLink RX7 26 "FoleyMixerModel" "ducking" "[I") (List.mem_of_getElem? (i := 1) rfl)) rfl rfl dX7_layOut_39 ?_
            refine lv_iload_n hx hb dX7_layOut_42 rfl (lv_at hl 3 rfl) ?_
            refine lv_iload_n hx hb dX7_layOut_43 rfl (lv_at hl 1 rfl) ?_
            refine lv_if_eq (tgt := 56) hx hb dX7_layOut_44 (by decide) (fun c_44 => ?_) (fun c_44 => ?_)
            · skip
              have c_44 : (wmk P.W P.w t) = 0 := (nI_eq0 (i := wmk P.W P.w t) (by omega)).mp c_44
              refine lv_iload_n hx hb dX7_layOut_56 rfl (lv_at hl 0 rfl) ?_
              refine lv_if_ge (tgt := 64) hx hb dX7_layOut_57 (by decide) (fun c_57 => ?_) (fun c_57 => ?_)
              · skip
                have c_57 : 0 ≤ (pdk P t - P.S 1) := (nI_0le (i := pdk P t - P.S 1) (by omega)).mp c_57
                refine lv_iload_n hx hb dX7_layOut_64 rfl (lv_at hl 0 rfl) ?_
                refine q_top (y := nI (dk P t)) (by refine congrArg nI ?_; rw [dk_step]; first | (rw [if_neg c_44]; exact hRp.1 0 (by omega)) | (rw [if_pos c_44] <;> omega)) ?_
                refine q_nast hx hb hG hW hS hm42 (by omega) (by omega) dX7_layOut_65 (fun H locs hW hS hz65 => ?_)
                obtain ⟨w1, ew1⟩ : ∃ wq__ : Wd, wq__ = va_up wa 42 (some (eN dA 120 (va_up (fun j => if j < t then dk P j else D0 j) t (dk P t)))) := ⟨_, rfl⟩
                replace hW : WP D b w1 H := by rw [ew1]; exact hW
                have frw1 : ∀ id : Nat, id ≠ 42 → w1 id = wa id := fun id h9 => by rw [ew1, up_ne h9]
                replace hm0 : w1 36 = some (modO b (sv) (nc) (th) (pl) (lt) (dn)) := (frw1 _ (by omega)).trans hm0
                replace hm1 : w1 37 = some (eN dA 85 F) := (frw1 _ (by omega)).trans hm1
                replace hm43 : w1 43 = some (eN dA 120 (fun j => if j < t then mmk P j else M0 j)) := (frw1 _ (by omega)).trans hm43
                replace hm42 : w1 42 = some (eN dA 120 (va_up (fun j => if j < t then dk P j else D0 j) t (dk P t))) := by rw [ew1]; exact up_eq
                replace hm42 := hm42.trans (eN_congr (fill_step (f := dk P) rfl))
                refine lv_aload_n hx hb dX7_layOut_66 rfl (lv_at hl 2 rfl) ?_
                refine q_get hx hb hts hinX7 hown hG hW hm0 rfl 9 (by decide) (hts (.fieldLink RX7 29 "FoleyMixerModel" "masked" "[I") (List.mem_of_getElem? (i := 3) rfl)) rfl rfl dX7_layOut_67 ?_
                refine lv_iload_n hx hb dX7_layOut_70 rfl (lv_at hl 3 rfl) ?_
                refine lv_iconst (v := nI 0) hx hb dX7_layOut_71 (by decide) ?_
                refine q_nast hx hb hG hW hS hm43 (by omega) (by omega) dX7_layOut_72 (fun H locs hW hS hz72 => ?_)
                obtain ⟨w2, ew2⟩ : ∃ wq__ : Wd, wq__ = va_up w1 43 (some (eN dA 120 (va_up (fun j => if j < t then mmk P j else M0 j) t 0))) := ⟨_, rfl⟩
                replace hW : WP D b w2 H := by rw [ew2]; exact hW
                have frw2 : ∀ id : Nat, id ≠ 43 → w2 id = w1 id := fun id h9 => by rw [ew2, up_ne h9]
                replace hm0 : w2 36 = some (modO b (sv) (nc) (th) (pl) (lt) (dn)) := (frw2 _ (by omega)).trans hm0
                replace hm1 : w2 37 = some (eN dA 85 F) := (frw2 _ (by omega)).trans hm1
                replace hm42 : w2 42 = some (eN dA 120 (fun j => if j < t + 1 then dk P j else D0 j)) := (frw2 _ (by omega)).trans hm42
                replace hm43 : w2 43 = some (eN dA 120 (va_up (fun j => if j < t then mmk P j else M0 j) t 0)) := by rw [ew2]; exact up_eq
                refine lv_iconst (v := nI 0) hx hb dX7_layOut_73 (by decide) ?_
                refine lv_istore (lv' := [(4, .int (nI 0)), (3, .int (nI (pdk P t - P.S 1))), (2, .int (nI (wmk P.W P.w t))), (0, .ref (b + 36)), (1, .int (nI t))]) hx hb dX7_layOut_74 hl (by decide) rfl (fun ls hl => ?_)
                have L76 : ∀ (n76 : Nat) (u : Nat), u ≤ P.w → P.w - u < n76 → ∀ (x76_4 : Int32), x76_4 = nI (u) → ∀ (wb : Wd) (H : Heap) (locs : List Loc), wb 36 = some (modO b sv nc th pl lt dn) → wb 37 = some (eN dA 85 F) → wb 42 = some (eN dA 120 (fun j => if j < t + 1 then dk P j else D0 j)) → (wb 43 = some (eN dA 120 (va_up (fun j => if j < t then mmk P j else M0 j) t (mk (fun i => snd P.W i t ∧ P.W i 2 < cov P i t + P.S 3) u)))) → (∀ id : Nat, id ≠ 42 ∧ id ≠ 43 → wb id = w id) → WP D b wb H → va_S (Fb b) s.heap H locs → ∀ (ls : Array Slot), lv_has ls 5 [(0, .ref (b + 36)), (1, .int (nI t)), (2, .int (nI (wmk P.W P.w t))), (4, .int x76_4)] → W p l e ({ frames := 5, cells := 0, slots := 0, locals := 117 } : Room) s m args below meth c H locs 0 0 (MQ below (QW D b (none) (fun w' => w' 42 = some (eN dA 120 (dk P)) ∧ w' 43 = some (eN dA 120 (mmk P)) ∧ ∀ id : Nat, id ≠ 42 ∧ id ≠ 43 → w' id = w id)) args s 0 0 (Fb b)) (F0 m 76 ls []) := by
                  intro n76
                  induction n76 with
                  | zero =>
                    intro u hu0 hn76 x76_4 ex76_4 wb H locs hm0 hm1 hm42 hm43 fr hW hS ls hl
                    exact absurd hn76 (Nat.not_lt_zero _)
                  | succ n76 ih76 =>
                    intro u hu0 hn76 x76_4 ex76_4 wb H locs hm0 hm1 hm42 hm43 fr hW hS ls hl
                    subst ex76_4
                    have hDK : (fun j => if j < t + 1 then dk P j else D0 j) t = dk P t := if_pos (by omega)
                    have hS3 := hPS.2.2.2.2.1
                    refine lv_iload hx hb dX7_layOut_76 (lv_at hl 3 rfl) ?_
                    refine lv_aload_n hx hb dX7_layOut_78 rfl (lv_at hl 0 rfl) ?_
                    refine q_get hx hb hts hinX7 hown hG hW hm0 rfl 0 (by decide) (hts (.fieldLink RX7 7 "FoleyMixerModel" "s" "[I") (List.mem_of_getElem? (i := 2) rfl)) rfl rfl dX7_layOut_79 ?_
                    refine lv_iconst (v := nI 5) hx hb dX7_layOut_82 (by decide) ?_
                    refine q_iald hx hb hG hW hm1 (by omega) (by omega) dX7_layOut_83 ?_
                    refine q_top (y := nI (P.w)) (by exact congrArg nI hr5) ?_
                    refine lv_icmp_ge (tgt := 143) hx hb dX7_layOut_84 (by decide) (fun c_84 => ?_) (fun c_84 => ?_)
                    · skip
                      have c_84 : P.w ≤ u := (nI_leI (a := P.w) (b := u) (by omega) (by omega)).mp c_84
                      refine lv_iinc (v := nI (t + 1)) (lv' := [(1, .int (nI (t + 1))), (0, .ref (b + 36)), (2, .int (nI (wmk P.W P.w t))), (4, .int (nI u))]) hx hb dX7_layOut_143 hl (k := 1) rfl (nI_add _ 1) (by decide) rfl (fun ls hl => ?_)
                      refine lv_goto (tgt := 2) hx hb dX7_layOut_146 (by decide) ?_
                      exact ih2 (t + 1) (by omega) (by omega) _ (by first | rfl | (congr 1; omega)) _ _ _ (by exact hm0) (by exact hm1) (by exact hm42) (by exact hm43.trans (eN_congr (fill_step (f := mmk P) (by rw [show u = P.w by omega]; rfl)))) (by intro id h9; exact fr id h9) hW hS _ (lv_sub hl [1, 0] rfl)
                    · skip
                      have c_84 : ¬ (P.w ≤ u) := fun h__ => c_84 ((nI_leI (a := P.w) (b := u) (by omega) (by omega)).mpr h__)
                      refine lv_aload_n hx hb dX7_layOut_87 rfl (lv_at hl 0 rfl) ?_
                      refine q_get hx hb hts hinX7 hown hG hW hm0 rfl 9 (by decide) (hts (.fieldLink RX7 29 "FoleyMixerModel" "masked" "[I") (List.mem_of_getElem? (i := 3) rfl)) rfl rfl dX7_layOut_88 ?_
                      refine lv_iload_n hx hb dX7_layOut_91 rfl (lv_at hl 1 rfl) ?_
                      refine lv_dup2_11 hx hb dX7_layOut_92 rfl rfl ?_
                      refine q_iald hx hb hG hW hm43 (by omega) (by omega) dX7_layOut_93 ?_
                      refine q_top (y := nI (mk (fun i => snd P.W i t ∧ P.W i 2 < cov P i t + P.S 3) u)) (by refine congrArg nI ?_; unfold va_up; exact if_pos rfl) ?_
                      refine lv_iload_n hx hb dX7_layOut_94 rfl (lv_at hl 2 rfl) ?_
                      refine lv_iload hx hb dX7_layOut_95 (lv_at hl 3 rfl) ?_
                      refine q_R1 (va_runS (As := [.int (nI (wmk P.W P.w t)), .int (nI u)]) (rest := [.int (nI (mk (fun i => snd P.W i t ∧ P.W i 2 < cov P i t + P.S 3) u)), .int (nI t), .ref (b + 43)]) ⟨hx, hb, hml, hown, hts⟩ (c_X7_has l (wmk P.W P.w t) (u) (by omega) (by omega)) (va_cwS 2 hts gX7_layOut_X7_has rfl rfl rfl (by decide +kernel) ⟨Nat.le_of_ble_eq_true rfl, Nat.le_of_ble_eq_true rfl⟩) (q_preS hG hW hS) rfl rfl hl.1 rfl (lv_room (Nat.le_of_ble_eq_true rfl)) dX7_layOut_97 ⟨Nat.le_of_ble_eq_true rfl, Nat.le_of_ble_eq_true rfl⟩) ?_
                      refine lv_if_eq (tgt := 134) hx hb dX7_layOut_100 (by decide) (fun c_100 => ?_) (fun c_100 => ?_)
                      · skip
                        have c_100 : ¬ ((wmk P.W P.w t).testBit u = true) := pI_eq0.mp c_100
                        refine lv_iconst (v := nI 0) hx hb dX7_layOut_134 (by decide) ?_
                        refine lv_ior hx hb dX7_layOut_135 ?_
                        refine q_top (y := nI (mk (fun i => snd P.W i t ∧ P.W i 2 < cov P i t + P.S 3) (u + 1))) (by rw [nI_or]; refine congrArg nI ?_; rw [mk]; first | (rw [if_pos ⟨hbt, by omega⟩]; done) | (rw [if_neg (fun q9 => absurd q9.2 (by omega))]; exact Nat.or_zero _) | (rw [if_neg (fun q9 => c_100 (by rw [mk_bit]; exact decide_eq_true ⟨by omega, q9.1⟩))]; exact Nat.or_zero _)) ?_
                        refine q_nast hx hb hG hW hS hm43 (by omega) (by omega) dX7_layOut_136 (fun H locs hW hS hz136 => ?_)
                        obtain ⟨w3, ew3⟩ : ∃ wq__ : Wd, wq__ = va_up wb 43 (some (eN dA 120 (va_up (va_up (fun j => if j < t then mmk P j else M0 j) t (mk (fun i => snd P.W i t ∧ P.W i 2 < cov P i t + P.S 3) u)) t (mk (fun i => snd P.W i t ∧ P.W i 2 < cov P i t + P.S 3) (u + 1))))) := ⟨_, rfl⟩
                        replace hW : WP D b w3 H := by rw [ew3]; exact hW
                        have frw3 : ∀ id : Nat, id ≠ 43 → w3 id = wb id := fun id h9 => by rw [ew3, up_ne h9]
                        replace hm0 : w3 36 = some (modO b (sv) (nc) (th) (pl) (lt) (dn)) := (frw3 _ (by omega)).trans hm0
                        replace hm1 : w3 37 = some (eN dA 85 F) := (frw3 _ (by omega)).trans hm1
                        replace hm42 : w3 42 = some (eN dA 120 (fun j => if j < t + 1 then dk P j else D0 j)) := (frw3 _ (by omega)).trans hm42
                        replace hm43 : w3 43 = some (eN dA 120 (va_up (va_up (fun j => if j < t then mmk P j else M0 j) t (mk (fun i => snd P.W i t ∧ P.W i 2 < cov P i t + P.S 3) u)) t (mk (fun i => snd P.W i t ∧ P.W i 2 < cov P i t + P.S 3) (u + 1)))) := by rw [ew3]; exact up_eq
                        refine lv_iinc (v := nI (u + 1)) (lv' := [(4, .int (nI (u + 1))), (0, .ref (b + 36)), (1, .int (nI t)), (2, .int (nI (wmk P.W P.w t)))]) hx hb dX7_layOut_137 hl (k := 3) rfl (nI_add _ 1) (by decide) rfl (fun ls hl => ?_)
                        refine lv_goto (tgt := 76) hx hb dX7_layOut_140 (by decide) ?_
                        exact ih76 (u + 1) (by omega) (by omega) _ (by first | rfl | (congr 1; omega)) _ _ _ (by exact hm0) (by exact hm1) (by exact hm42) (by exact hm43.trans (eN_congr fun j => by unfold va_up; by_cases e9 : j = t <;> simp [e9])) (by intro id h9; rw [frw3 id (by omega)]; exact fr id h9) hW hS _ (lv_sub hl [1, 2, 3, 0] rfl)
                      · skip
                        have c_100 : (wmk P.W P.w t).testBit u = true := Decidable.byContradiction (fun h__ => c_100 (pI_eq0.mpr h__))
                        have hWu := hPW u (by omega)
                        have hcv := cov_le hP u t
                        have hbt : snd P.W u t := by rw [mk_bit] at c_100; exact (decide_eq_true_eq.mp c_100).2
                        refine lv_aload_n hx hb dX7_layOut_103 rfl (lv_at hl 0 rfl) ?_
                        refine lv_iload hx hb dX7_layOut_104 (lv_at hl 3 rfl) ?_
                        refine lv_iconst (v := nI 2) hx hb dX7_layOut_106 (by decide) ?_
                        refine q_R1 (va_runV (As := [.int (nI u), .int (nI 2)]) (rest := [.int (nI (mk (fun i => snd P.W i t ∧ P.W i 2 < cov P i t + P.S 3) u)), .int (nI t), .ref (b + 43)]) ⟨hx, hb, hml, hown, hts⟩ (c_ofW l hm0 hm1 hRp hP (u) (2) (by omega) (by omega)) (cwV 2 hts gX7_layOut_X7_ofWord rfl rfl rfl (by decide +kernel) ⟨Nat.le_of_ble_eq_true rfl, Nat.le_of_ble_eq_true rfl⟩) (q_preV hG hW hS hm0 rfl) rfl rfl hl.1 rfl (lv_room (Nat.le_of_ble_eq_true rfl)) dX7_layOut_107 ⟨Nat.le_of_ble_eq_true rfl, Nat.le_of_ble_eq_true rfl⟩) ?_
                        refine lv_aload_n hx hb dX7_layOut_110 rfl (lv_at hl 0 rfl) ?_
                        refine lv_iload hx hb dX7_layOut_111 (lv_at hl 3 rfl) ?_
                        refine lv_iload_n hx hb dX7_layOut_113 rfl (lv_at hl 1 rfl) ?_
                        refine q_R1 (va_runV (As := [.int (nI u), .int (nI t)]) (rest := [.int (nI (P.W u 2)), .int (nI (mk (fun i => snd P.W i t ∧ P.W i 2 < cov P i t + P.S 3) u)), .int (nI t), .ref (b + 43)]) ⟨hx, hb, hml, hown, hts⟩ (c_X7_cover l hm0 hm1 hRp hP hm42 (u) (t) (by omega) (by omega) hDK) (cwV 2 hts gX7_layOut_X7_cover rfl rfl rfl (by decide +kernel) ⟨Nat.le_of_ble_eq_true rfl, Nat.le_of_ble_eq_true rfl⟩) (q_preV hG hW hS hm0 rfl) rfl rfl hl.1 rfl (lv_room (Nat.le_of_ble_eq_true rfl)) dX7_layOut_114 ⟨Nat.le_of_ble_eq_true rfl, Nat.le_of_ble_eq_true rfl⟩) ?_
                        refine lv_aload_n hx hb dX7_layOut_117 rfl (lv_at hl 0 rfl) ?_
                        refine q_get hx hb hts hinX7 hown hG hW hm0 rfl 0 (by decide) (hts (.fieldLink RX7 7 "FoleyMixerModel" "s" "[I") (List.mem_of_getElem? (i := 2) rfl)) rfl rfl dX7_layOut_118 ?_
                        refine lv_iconst (v := nI 3) hx hb dX7_layOut_121 (by decide) ?_
                        refine q_iald hx hb hG hW hm1 (by omega) (by omega) dX7_layOut_122 ?_
                        refine q_top (y := nI (P.S 3)) (by exact congrArg nI (hRp.1 3 (by omega))) ?_
                        refine lv_iadd hx hb dX7_layOut_123 ?_
                        refine q_top (y := nI ((cov P u t) + (P.S 3))) (nI_add _ _) ?_
                        refine lv_icmp_ge (tgt := 134) hx hb dX7_layOut_124 (by decide) (fun c_124 => ?_) (fun c_124 => ?_)
                        · skip
                          have c_124 : (cov P u t) + (P.S 3) ≤ P.W u 2 := (nI_leI (a := (cov P u t) + (P.S 3)) (b := P.W u 2) (by omega) (by omega)).mp c_124
                          refine lv_iconst (v := nI 0) hx hb dX7_layOut_134 (by decide) ?_
                          refine lv_ior hx hb dX7_layOut_135 ?_
                          refine q_top (y := nI (mk (fun i => snd P.W i t ∧ P.W i 2 < cov P i t + P.S 3) (u + 1))) (by rw [nI_or]; refine congrArg nI ?_; rw [mk]; first | (rw [if_pos ⟨hbt, by omega⟩]; done) | (rw [if_neg (fun q9 => absurd q9.2 (by omega))]; exact Nat.or_zero _) | (rw [if_neg (fun q9 => c_100 (by rw [mk_bit]; exact decide_eq_true ⟨by omega, q9.1⟩))]; exact Nat.or_zero _)) ?_
                          refine q_nast hx hb hG hW hS hm43 (by omega) (by omega) dX7_layOut_136 (fun H locs hW hS hz136 => ?_)
                          obtain ⟨w4, ew4⟩ : ∃ wq__ : Wd, wq__ = va_up wb 43 (some (eN dA 120 (va_up (va_up (fun j => if j < t then mmk P j else M0 j) t (mk (fun i => snd P.W i t ∧ P.W i 2 < cov P i t + P.S 3) u)) t (mk (fun i => snd P.W i t ∧ P.W i 2 < cov P i t + P.S 3) (u + 1))))) := ⟨_, rfl⟩
                          replace hW : WP D b w4 H := by rw [ew4]; exact hW
                          have frw4 : ∀ id : Nat, id ≠ 43 → w4 id = wb id := fun id h9 => by rw [ew4, up_ne h9]
                          replace hm0 : w4 36 = some (modO b (sv) (nc) (th) (pl) (lt) (dn)) := (frw4 _ (by omega)).trans hm0
                          replace hm1 : w4 37 = some (eN dA 85 F) := (frw4 _ (by omega)).trans hm1
                          replace hm42 : w4 42 = some (eN dA 120 (fun j => if j < t + 1 then dk P j else D0 j)) := (frw4 _ (by omega)).trans hm42
                          replace hm43 : w4 43 = some (eN dA 120 (va_up (va_up (fun j => if j < t then mmk P j else M0 j) t (mk (fun i => snd P.W i t ∧ P.W i 2 < cov P i t + P.S 3) u)) t (mk (fun i => snd P.W i t ∧ P.W i 2 < cov P i t + P.S 3) (u + 1)))) := by rw [ew4]; exact up_eq
                          refine lv_iinc (v := nI (u + 1)) (lv' := [(4, .int (nI (u + 1))), (0, .ref (b + 36)), (1, .int (nI t)), (2, .int (nI (wmk P.W P.w t)))]) hx hb dX7_layOut_137 hl (k := 3) rfl (nI_add _ 1) (by decide) rfl (fun ls hl => ?_)
                          refine lv_goto (tgt := 76) hx hb dX7_layOut_140 (by decide) ?_
                          exact ih76 (u + 1) (by omega) (by omega) _ (by first | rfl | (congr 1; omega)) _ _ _ (by exact hm0) (by exact hm1) (by exact hm42) (by exact hm43.trans (eN_congr fun j => by unfold va_up; by_cases e9 : j = t <;> simp [e9])) (by intro id h9; rw [frw4 id (by omega)]; exact fr id h9) hW hS _ (lv_sub hl [1, 2, 3, 0] rfl)
                        · skip
                          have c_124 : ¬ ((cov P u t) + (P.S 3) ≤ P.W u 2) := fun h__ => c_124 ((nI_leI (a := (cov P u t) + (P.S 3)) (b := P.W u 2) (by omega) (by omega)).mpr h__)
                          refine lv_iconst (v := nI 1) hx hb dX7_layOut_127 (by decide) ?_
                          refine lv_iload hx hb dX7_layOut_128 (lv_at hl 3 rfl) ?_
                          refine lv_ishl hx hb dX7_layOut_130 ?_
                          refine q_top (y := nI (2 ^ u)) (by exact nI_shl1 (by omega)) ?_
                          refine lv_goto (tgt := 135) hx hb dX7_layOut_131 (by decide) ?_
                          refine lv_ior hx hb dX7_layOut_135 ?_
                          refine q_top (y := nI (mk (fun i => snd P.W i t ∧ P.W i 2 < cov P i t + P.S 3) (u + 1))) (by rw [nI_or]; refine congrArg nI ?_; rw [mk]; first | (rw [if_pos ⟨hbt, by omega⟩]; done) | (rw [if_neg (fun q9 => absurd q9.2 (by omega))]; exact Nat.or_zero _) | (rw [if_neg (fun q9 => c_100 (by rw [mk_bit]; exact decide_eq_true ⟨by omega, q9.1⟩))]; exact Nat.or_zero _)) ?_
                          refine q_nast hx hb hG hW hS hm43 (by omega) (by omega) dX7_layOut_136 (fun H locs hW hS hz136 => ?_)
                          obtain ⟨w5, ew5⟩ : ∃ wq__ : Wd, wq__ = va_up wb 43 (some (eN dA 120 (va_up (va_up (fun j => if j < t then mmk P j else M0 j) t (mk (fun i => snd P.W i t ∧ P.W i 2 < cov P i t + P.S 3) u)) t (mk (fun i => snd P.W i t ∧ P.W i 2 < cov P i t + P.S 3) (u + 1))))) := ⟨_, rfl⟩
                          replace hW : WP D b w5 H := by rw [ew5]; exact hW
                          have frw5 : ∀ id : Nat, id ≠ 43 → w5 id = wb id := fun id h9 => by rw [ew5, up_ne h9]
                          replace hm0 : w5 36 = some (modO b (sv) (nc) (th) (pl) (lt) (dn)) := (frw5 _ (by omega)).trans hm0
                          replace hm1 : w5 37 = some (eN dA 85 F) := (frw5 _ (by omega)).trans hm1
                          replace hm42 : w5 42 = some (eN dA 120 (fun j => if j < t + 1 then dk P j else D0 j)) := (frw5 _ (by omega)).trans hm42
                          replace hm43 : w5 43 = some (eN dA 120 (va_up (va_up (fun j => if j < t then mmk P j else M0 j) t (mk (fun i => snd P.W i t ∧ P.W i 2 < cov P i t + P.S 3) u)) t (mk (fun i => snd P.W i t ∧ P.W i 2 < cov P i t + P.S 3) (u + 1)))) := by rw [ew5]; exact up_eq
                          refine lv_iinc (v := nI (u + 1)) (lv' := [(4, .int (nI (u + 1))), (0, .ref (b + 36)), (1, .int (nI t)), (2, .int (nI (wmk P.W P.w t)))]) hx hb dX7_layOut_137 hl (k := 3) rfl (nI_add _ 1) (by decide) rfl (fun ls hl => ?_)
                          refine lv_goto (tgt := 76) hx hb dX7_layOut_140 (by decide) ?_
                          exact ih76 (u + 1) (by omega) (by omega) _ (by first | rfl | (congr 1; omega)) _ _ _ (by exact hm0) (by exact hm1) (by exact hm42) (by exact hm43.trans (eN_congr fun j => by unfold va_up; by_cases e9 : j = t <;> simp [e9])) (by intro id h9; rw [frw5 id (by omega)]; exact fr id h9) hW hS _ (lv_sub hl [1, 2, 3, 0] rfl)
                exact L76 ((P.w - 0) + 1) 0 (by omega) (Nat.lt_succ_self _) _ (by first | rfl | (congr 1; omega)) _ _ _ (by exact hm0) (by exact hm1) (by exact hm42) (by exact hm43) (by intro id h9; rw [frw2 id (by omega)]; rw [frw1 id (by omega)]; exact fr id h9) hW hS _ (lv_sub hl [3, 4, 2, 0] rfl)
              · skip
                have c_57 : ¬ (0 ≤ (pdk P t - P.S 1)) := fun h__ => c_57 ((nI_0le (i := pdk P t - P.S 1) (by omega)).mpr h__)
                refine lv_iconst (v := nI 0) hx hb dX7_layOut_60 (by decide) ?_
                refine lv_goto (tgt := 65) hx hb dX7_layOut_61 (by decide) ?_
                refine q_top (y := nI (dk P t)) (by refine congrArg nI ?_; rw [dk_step]; first | (rw [if_neg c_44]; exact hRp.1 0 (by omega)) | (rw [if_pos c_44] <;> omega)) ?_
                refine q_nast hx hb hG hW hS hm42 (by omega) (by omega) dX7_layOut_65 (fun H locs hW hS hz65 => ?_)
                obtain ⟨w6, ew6⟩ : ∃ wq__ : Wd, wq__ = va_up wa 42 (some (eN dA 120 (va_up (fun j => if j < t then dk P j else D0 j) t (dk P t)))) := ⟨_, rfl⟩
                replace hW : WP D b w6 H := by rw [ew6]; exact hW
                have frw6 : ∀ id : Nat, id ≠ 42 → w6 id = wa id := fun id h9 => by rw [ew6, up_ne h9]
                replace hm0 : w6 36 = some (modO b (sv) (nc) (th) (pl) (lt) (dn)) := (frw6 _ (by omega)).trans hm0
                replace hm1 : w6 37 = some (eN dA 85 F) := (frw6 _ (by omega)).trans hm1
                replace hm43 : w6 43 = some (eN dA 120 (fun j => if j < t then mmk P j else M0 j)) := (frw6 _ (by omega)).trans hm43
                replace hm42 : w6 42 = some (eN dA 120 (va_up (fun j => if j < t then dk P j else D0 j) t (dk P t))) := by rw [ew6]; exact up_eq
                replace hm42 := hm42.trans (eN_congr (fill_step (f := dk P) rfl))
                refine lv_aload_n hx hb dX7_layOut_66 rfl (lv_at hl 2 rfl) ?_
                refine q_get hx hb hts hinX7 hown hG hW hm0 rfl 9 (by decide) (hts (.fieldLink RX7 29 "FoleyMixerModel" "masked" "[I") (List.mem_of_getElem? (i := 3) rfl)) rfl rfl dX7_layOut_67 ?_
                refine lv_iload_n hx hb dX7_layOut_70 rfl (lv_at hl 3 rfl) ?_
                refine lv_iconst (v := nI 0) hx hb dX7_layOut_71 (by decide) ?_
                refine q_nast hx hb hG hW hS hm43 (by omega) (by omega) dX7_layOut_72 (fun H locs hW hS hz72 => ?_)
                obtain ⟨w7, ew7⟩ : ∃ wq__ : Wd, wq__ = va_up w6 43 (some (eN dA 120 (va_up (fun j => if j < t then mmk P j else M0 j) t 0))) := ⟨_, rfl⟩
                replace hW : WP D b w7 H := by rw [ew7]; exact hW
                have frw7 : ∀ id : Nat, id ≠ 43 → w7 id = w6 id := fun id h9 => by rw [ew7, up_ne h9]
                replace hm0 : w7 36 = some (modO b (sv) (nc) (th) (pl) (lt) (dn)) := (frw7 _ (by omega)).trans hm0
                replace hm1 : w7 37 = some (eN dA 85 F) := (frw7 _ (by omega)).trans hm1
                replace hm42 : w7 42 = some (eN dA 120 (fun j => if j < t + 1 then dk P j else D0 j)) := (frw7 _ (by omega)).trans hm42
                replace hm43 : w7 43 = some (eN dA 120 (va_up (fun j => if j < t then mmk P j else M0 j) t 0)) := by rw [ew7]; exact up_eq
                refine lv_iconst (v := nI 0) hx hb dX7_layOut_73 (by decide) ?_
                refine lv_istore (lv' := [(4, .int (nI 0)), (3, .int (nI (pdk P t - P.S 1))), (2, .int (nI (wmk P.W P.w t))), (0, .ref (b + 36)), (1, .int (nI t))]) hx hb dX7_layOut_74 hl (by decide) rfl (fun ls hl => ?_)
                have L76 : ∀ (n76 : Nat) (u : Nat), u ≤ P.w → P.w - u < n76 → ∀ (x76_4 : Int32), x76_4 = nI (u) → ∀ (wb : Wd) (H : Heap) (locs : List Loc), wb 36 = some (modO b sv nc th pl lt dn) → wb 37 = some (eN dA 85 F) → wb 42 = some (eN dA 120 (fun j => if j < t + 1 then dk P j else D0 j)) → (wb 43 = some (eN dA 120 (va_up (fun j => if j < t then mmk P j else M0 j) t (mk (fun i => snd P.W i t ∧ P.W i 2 < cov P i t + P.S 3) u)))) → (∀ id : Nat, id ≠ 42 ∧ id ≠ 43 → wb id = w id) → WP D b wb H → va_S (Fb b) s.heap H locs → ∀ (ls : Array Slot), lv_has ls 5 [(0, .ref (b + 36)), (1, .int (nI t)), (2, .int (nI (wmk P.W P.w t))), (4, .int x76_4)] → W p l e ({ frames := 5, cells := 0, slots := 0, locals := 117 } : Room) s m args below meth c H locs 0 0 (MQ below (QW D b (none) (fun w' => w' 42 = some (eN dA 120 (dk P)) ∧ w' 43 = some (eN dA 120 (mmk P)) ∧ ∀ id : Nat, id ≠ 42 ∧ id ≠ 43 → w' id = w id)) args s 0 0 (Fb b)) (F0 m 76 ls []) := by
                  intro n76
                  induction n76 with
                  | zero =>
                    intro u hu0 hn76 x76_4 ex76_4 wb H locs hm0 hm1 hm42 hm43 fr hW hS ls hl
                    exact absurd hn76 (Nat.not_lt_zero _)
                  | succ n76 ih76 =>
                    intro u hu0 hn76 x76_4 ex76_4 wb H locs hm0 hm1 hm42 hm43 fr hW hS ls hl
                    subst ex76_4
                    have hDK : (fun j => if j < t + 1 then dk P j else D0 j) t = dk P t := if_pos (by omega)
                    have hS3 := hPS.2.2.2.2.1
                    refine lv_iload hx hb dX7_layOut_76 (lv_at hl 3 rfl) ?_
                    refine lv_aload_n hx hb dX7_layOut_78 rfl (lv_at hl 0 rfl) ?_
                    refine q_get hx hb hts hinX7 hown hG hW hm0 rfl 0 (by decide) (hts (.fieldLink RX7 7 "FoleyMixerModel" "s" "[I") (List.mem_of_getElem? (i := 2) rfl)) rfl rfl dX7_layOut_79 ?_
                    refine lv_iconst (v := nI 5) hx hb dX7_layOut_82 (by decide) ?_
                    refine q_iald hx hb hG hW hm1 (by omega) (by omega) dX7_layOut_83 ?_
                    refine q_top (y := nI (P.w)) (by exact congrArg nI hr5) ?_
                    refine lv_icmp_ge (tgt := 143) hx hb dX7_layOut_84 (by decide) (fun c_84 => ?_) (fun c_84 => ?_)
                    · skip
                      have c_84 : P.w ≤ u := (nI_leI (a := P.w) (b := u) (by omega) (by omega)).mp c_84
                      refine lv_iinc (v := nI (t + 1)) (lv' := [(1, .int (nI (t + 1))), (0, .ref (b + 36)), (2, .int (nI (wmk P.W P.w t))), (4, .int (nI u))]) hx hb dX7_layOut_143 hl (k := 1) rfl (nI_add _ 1) (by decide) rfl (fun ls hl => ?_)
                      refine lv_goto (tgt := 2) hx hb dX7_layOut_146 (by decide) ?_
                      exact ih2 (t + 1) (by omega) (by omega) _ (by first | rfl | (congr 1; omega)) _ _ _ (by exact hm0) (by exact hm1) (by exact hm42) (by exact hm43.trans (eN_congr (fill_step (f := mmk P) (by rw [show u = P.w by omega]; rfl)))) (by intro id h9; exact fr id h9) hW hS _ (lv_sub hl [1, 0] rfl)
                    · skip
                      have c_84 : ¬ (P.w ≤ u) := fun h__ => c_84 ((nI_leI (a := P.w) (b := u) (by omega) (by omega)).mpr h__)
                      refine lv_aload_n hx hb dX7_layOut_87 rfl (lv_at hl 0 rfl) ?_
                      refine q_get hx hb hts hinX7 hown hG hW hm0 rfl 9 (by decide) (hts (.fieldLink RX7 29 "FoleyMixerModel" "masked" "[I") (List.mem_of_getElem? (i := 3) rfl)) rfl rfl dX7_layOut_88 ?_
                      refine lv_iload_n hx hb dX7_layOut_91 rfl (lv_at hl 1 rfl) ?_
                      refine lv_dup2_11 hx hb dX7_layOut_92 rfl rfl ?_
                      refine q_iald hx hb hG hW hm43 (by omega) (by omega) dX7_layOut_93 ?_
                      refine q_top (y := nI (mk (fun i => snd P.W i t ∧ P.W i 2 < cov P i t + P.S 3) u)) (by refine congrArg nI ?_; unfold va_up; exact if_pos rfl) ?_
                      refine lv_iload_n hx hb dX7_layOut_94 rfl (lv_at hl 2 rfl) ?_
                      refine lv_iload hx hb dX7_layOut_95 (lv_at hl 3 rfl) ?_
                      refine q_R1 (va_runS (As := [.int (nI (wmk P.W P.w t)), .int (nI u)]) (rest := [.int (nI (mk (fun i => snd P.W i t ∧ P.W i 2 < cov P i t + P.S 3) u)), .int (nI t), .ref (b + 43)]) ⟨hx, hb, hml, hown, hts⟩ (c_X7_has l (wmk P.W P.w t) (u) (by omega) (by omega)) (va_cwS 2 hts gX7_layOut_X7_has rfl rfl rfl (by decide +kernel) ⟨Nat.le_of_ble_eq_true rfl, Nat.le_of_ble_eq_true rfl⟩) (q_preS hG hW hS) rfl rfl hl.1 rfl (lv_room (Nat.le_of_ble_eq_true rfl)) dX7_layOut_97 ⟨Nat.le_of_ble_eq_true rfl, Nat.le_of_ble_eq_true rfl⟩) ?_
                      refine lv_if_eq (tgt := 134) hx hb dX7_layOut_100 (by decide) (fun c_100 => ?_) (fun c_100 => ?_)
                      · skip
                        have c_100 : ¬ ((wmk P.W P.w t).testBit u = true) := pI_eq0.mp c_100
                        refine lv_iconst (v := nI 0) hx hb dX7_layOut_134 (by decide) ?_
                        refine lv_ior hx hb dX7_layOut_135 ?_
                        refine q_top (y := nI (mk (fun i => snd P.W i t ∧ P.W i 2 < cov P i t + P.S 3) (u + 1))) (by rw [nI_or]; refine congrArg nI ?_; rw [mk]; first | (rw [if_pos ⟨hbt, by omega⟩]; done) | (rw [if_neg (fun q9 => absurd q9.2 (by omega))]; exact Nat.or_zero _) | (rw [if_neg (fun q9 => c_100 (by rw [mk_bit]; exact decide_eq_true ⟨by omega, q9.1⟩))]; exact Nat.or_zero _)) ?_
                        refine q_nast hx hb hG hW hS hm43 (by omega) (by omega) dX7_layOut_136 (fun H locs hW hS hz136 => ?_)
                        obtain ⟨w8, ew8⟩ : ∃ wq__ : Wd, wq__ = va_up wb 43 (some (eN dA 120 (va_up (va_up (fun j => if j < t then mmk P j else M0 j) t (mk (fun i => snd P.W i t ∧ P.W i 2 < cov P i t + P.S 3) u)) t (mk (fun i => snd P.W i t ∧ P.W i 2 < cov P i t + P.S 3) (u + 1))))) := ⟨_, rfl⟩
                        replace hW : WP D b w8 H := by rw [ew8]; exact hW
                        have frw8 : ∀ id : Nat, id ≠ 43 → w8 id = wb id := fun id h9 => by rw [ew8, up_ne h9]
                        replace hm0 : w8 36 = some (modO b (sv) (nc) (th) (pl) (lt) (dn)) := (frw8 _ (by omega)).trans hm0
                        replace hm1 : w8 37 = some (eN dA 85 F) := (frw8 _ (by omega)).trans hm1
                        replace hm42 : w8 42 = some (eN dA 120 (fun j => if j < t + 1 then dk P j else D0 j)) := (frw8 _ (by omega)).trans hm42
                        replace hm43 : w8 43 = some (eN dA 120 (va_up (va_up (fun j => if j < t then mmk P j else M0 j) t (mk (fun i => snd P.W i t ∧ P.W i 2 < cov P i t + P.S 3) u)) t (mk (fun i => snd P.W i t ∧ P.W i 2 < cov P i t + P.S 3) (u + 1)))) := by rw [ew8]; exact up_eq
                        refine lv_iinc (v := nI (u + 1)) (lv' := [(4, .int (nI (u + 1))), (0, .ref (b + 36)), (1, .int (nI t)), (2, .int (nI (wmk P.W P.w t)))]) hx hb dX7_layOut_137 hl (k := 3) rfl (nI_add _ 1) (by decide) rfl (fun ls hl => ?_)
                        refine lv_goto (tgt := 76) hx hb dX7_layOut_140 (by decide) ?_
                        exact ih76 (u + 1) (by omega) (by omega) _ (by first | rfl | (congr 1; omega)) _ _ _ (by exact hm0) (by exact hm1) (by exact hm42) (by exact hm43.trans (eN_congr fun j => by unfold va_up; by_cases e9 : j = t <;> simp [e9])) (by intro id h9; rw [frw8 id (by omega)]; exact fr id h9) hW hS _ (lv_sub hl [1, 2, 3, 0] rfl)
                      · skip
                        have c_100 : (wmk P.W P.w t).testBit u = true := Decidable.byContradiction (fun h__ => c_100 (pI_eq0.mpr h__))
                        have hWu := hPW u (by omega)
                        have hcv := cov_le hP u t
                        have hbt : snd P.W u t := by rw [mk_bit] at c_100; exact (decide_eq_true_eq.mp c_100).2
                        refine lv_aload_n hx hb dX7_layOut_103 rfl (lv_at hl 0 rfl) ?_
                        refine lv_iload hx hb dX7_layOut_104 (lv_at hl 3 rfl) ?_
                        refine lv_iconst (v := nI 2) hx hb dX7_layOut_106 (by decide) ?_
                        refine q_R1 (va_runV (As := [.int (nI u), .int (nI 2)]) (rest := [.int (nI (mk (fun i => snd P.W i t ∧ P.W i 2 < cov P i t + P.S 3) u)), .int (nI t), .ref (b + 43)]) ⟨hx, hb, hml, hown, hts⟩ (c_ofW l hm0 hm1 hRp hP (u) (2) (by omega) (by omega)) (cwV 2 hts gX7_layOut_X7_ofWord rfl rfl rfl (by decide +kernel) ⟨Nat.le_of_ble_eq_true rfl, Nat.le_of_ble_eq_true rfl⟩) (q_preV hG hW hS hm0 rfl) rfl rfl hl.1 rfl (lv_room (Nat.le_of_ble_eq_true rfl)) dX7_layOut_107 ⟨Nat.le_of_ble_eq_true rfl, Nat.le_of_ble_eq_true rfl⟩) ?_
                        refine lv_aload_n hx hb dX7_layOut_110 rfl (lv_at hl 0 rfl) ?_
                        refine lv_iload hx hb dX7_layOut_111 (lv_at hl 3 rfl) ?_
                        refine lv_iload_n hx hb dX7_layOut_113 rfl (lv_at hl 1 rfl) ?_
                        refine q_R1 (va_runV (As := [.int (nI u), .int (nI t)]) (rest := [.int (nI (P.W u 2)), .int (nI (mk (fun i => snd P.W i t ∧ P.W i 2 < cov P i t + P.S 3) u)), .int (nI t), .ref (b + 43)]) ⟨hx, hb, hml, hown, hts⟩ (c_X7_cover l hm0 hm1 hRp hP hm42 (u) (t) (by omega) (by omega) hDK) (cwV 2 hts gX7_layOut_X7_cover rfl rfl rfl (by decide +kernel) ⟨Nat.le_of_ble_eq_true rfl, Nat.le_of_ble_eq_true rfl⟩) (q_preV hG hW hS hm0 rfl) rfl rfl hl.1 rfl (lv_room (Nat.le_of_ble_eq_true rfl)) dX7_layOut_114 ⟨Nat.le_of_ble_eq_true rfl, Nat.le_of_ble_eq_true rfl⟩) ?_
                        refine lv_aload_n hx hb dX7_layOut_117 rfl (lv_at hl 0 rfl) ?_
                        refine q_get hx hb hts hinX7 hown hG hW hm0 rfl 0 (by decide) (hts (.fieldLink RX7 7 "FoleyMixerModel" "s" "[I") (List.mem_of_getElem? (i := 2) rfl)) rfl rfl dX7_layOut_118 ?_
                        refine lv_iconst (v := nI 3) hx hb dX7_layOut_121 (by decide) ?_
                        refine q_iald hx hb hG hW hm1 (by omega) (by omega) dX7_layOut_122 ?_
                        refine q_top (y := nI (P.S 3)) (by exact congrArg nI (hRp.1 3 (by omega))) ?_
                        refine lv_iadd hx hb dX7_layOut_123 ?_
                        refine q_top (y := nI ((cov P u t) + (P.S 3))) (nI_add _ _) ?_
                        refine lv_icmp_ge (tgt := 134) hx hb dX7_layOut_124 (by decide) (fun c_124 => ?_) (fun c_124 => ?_)
                        · skip
                          have c_124 : (cov P u t) + (P.S 3) ≤ P.W u 2 := (nI_leI (a := (cov P u t) + (P.S 3)) (b := P.W u 2) (by omega) (by omega)).mp c_124
                          refine lv_iconst (v := nI 0) hx hb dX7_layOut_134 (by decide) ?_
                          refine lv_ior hx hb dX7_layOut_135 ?_
                          refine q_top (y := nI (mk (fun i => snd P.W i t ∧ P.W i 2 < cov P i t + P.S 3) (u + 1))) (by rw [nI_or]; refine congrArg nI ?_; rw [mk]; first | (rw [if_pos ⟨hbt, by omega⟩]; done) | (rw [if_neg (fun q9 => absurd q9.2 (by omega))]; exact Nat.or_zero _) | (rw [if_neg (fun q9 => c_100 (by rw [mk_bit]; exact decide_eq_true ⟨by omega, q9.1⟩))]; exact Nat.or_zero _)) ?_
                          refine q_nast hx hb hG hW hS hm43 (by omega) (by omega) dX7_layOut_136 (fun H locs hW hS hz136 => ?_)
                          obtain ⟨w9, ew9⟩ : ∃ wq__ : Wd, wq__ = va_up wb 43 (some (eN dA 120 (va_up (va_up (fun j => if j < t then mmk P j else M0 j) t (mk (fun i => snd P.W i t ∧ P.W i 2 < cov P i t + P.S 3) u)) t (mk (fun i => snd P.W i t ∧ P.W i 2 < cov P i t + P.S 3) (u + 1))))) := ⟨_, rfl⟩
                          replace hW : WP D b w9 H := by rw [ew9]; exact hW
                          have frw9 : ∀ id : Nat, id ≠ 43 → w9 id = wb id := fun id h9 => by rw [ew9, up_ne h9]
                          replace hm0 : w9 36 = some (modO b (sv) (nc) (th) (pl) (lt) (dn)) := (frw9 _ (by omega)).trans hm0
                          replace hm1 : w9 37 = some (eN dA 85 F) := (frw9 _ (by omega)).trans hm1
                          replace hm42 : w9 42 = some (eN dA 120 (fun j => if j < t + 1 then dk P j else D0 j)) := (frw9 _ (by omega)).trans hm42
                          replace hm43 : w9 43 = some (eN dA 120 (va_up (va_up (fun j => if j < t then mmk P j else M0 j) t (mk (fun i => snd P.W i t ∧ P.W i 2 < cov P i t + P.S 3) u)) t (mk (fun i => snd P.W i t ∧ P.W i 2 < cov P i t + P.S 3) (u + 1)))) := by rw [ew9]; exact up_eq
                          refine lv_iinc (v := nI (u + 1)) (lv' := [(4, .int (nI (u + 1))), (0, .ref (b + 36)), (1, .int (nI t)), (2, .int (nI (wmk P.W P.w t)))]) hx hb dX7_layOut_137 hl (k := 3) rfl (nI_add _ 1) (by decide) rfl (fun ls hl => ?_)
                          refine lv_goto (tgt := 76) hx hb dX7_layOut_140 (by decide) ?_
                          exact ih76 (u + 1) (by omega) (by omega) _ (by first | rfl | (congr 1; omega)) _ _ _ (by exact hm0) (by exact hm1) (by exact hm42) (by exact hm43.trans (eN_congr fun j => by unfold va_up; by_cases e9 : j = t <;> simp [e9])) (by intro id h9; rw [frw9 id (by omega)]; exact fr id h9) hW hS _ (lv_sub hl [1, 2, 3, 0] rfl)
                        · skip
                          have c_124 : ¬ ((cov P u t) + (P.S 3) ≤ P.W u 2) := fun h__ => c_124 ((nI_leI (a := (cov P u t) + (P.S 3)) (b := P.W u 2) (by omega) (by omega)).mpr h__)
                          refine lv_iconst (v := nI 1) hx hb dX7_layOut_127 (by decide) ?_
                          refine lv_iload hx hb dX7_layOut_128 (lv_at hl 3 rfl) ?_
                          refine lv_ishl hx hb dX7_layOut_130 ?_
                          refine q_top (y := nI (2 ^ u)) (by exact nI_shl1 (by omega)) ?_
                          refine lv_goto (tgt := 135) hx hb dX7_layOut_131 (by decide) ?_
                          refine lv_ior hx hb dX7_layOut_135 ?_
                          refine q_top (y := nI (mk (fun i => snd P.W i t ∧ P.W i 2 < cov P i t + P.S 3) (u + 1))) (by rw [nI_or]; refine congrArg nI ?_; rw [mk]; first | (rw [if_pos ⟨hbt, by omega⟩]; done) | (rw [if_neg (fun q9 => absurd q9.2 (by omega))]; exact Nat.or_zero _) | (rw [if_neg (fun q9 => c_100 (by rw [mk_bit]; exact decide_eq_true ⟨by omega, q9.1⟩))]; exact Nat.or_zero _)) ?_
                          refine q_nast hx hb hG hW hS hm43 (by omega) (by omega) dX7_layOut_136 (fun H locs hW hS hz136 => ?_)
                          obtain ⟨w10, ew10⟩ : ∃ wq__ : Wd, wq__ = va_up wb 43 (some (eN dA 120 (va_up (va_up (fun j => if j < t then mmk P j else M0 j) t (mk (fun i => snd P.W i t ∧ P.W i 2 < cov P i t + P.S 3) u)) t (mk (fun i => snd P.W i t ∧ P.W i 2 < cov P i t + P.S 3) (u + 1))))) := ⟨_, rfl⟩
                          replace hW : WP D b w10 H := by rw [ew10]; exact hW
                          have frw10 : ∀ id : Nat, id ≠ 43 → w10 id = wb id := fun id h9 => by rw [ew10, up_ne h9]
                          replace hm0 : w10 36 = some (modO b (sv) (nc) (th) (pl) (lt) (dn)) := (frw10 _ (by omega)).trans hm0
                          replace hm1 : w10 37 = some (eN dA 85 F) := (frw10 _ (by omega)).trans hm1
                          replace hm42 : w10 42 = some (eN dA 120 (fun j => if j < t + 1 then dk P j else D0 j)) := (frw10 _ (by omega)).trans hm42
                          replace hm43 : w10 43 = some (eN dA 120 (va_up (va_up (fun j => if j < t then mmk P j else M0 j) t (mk (fun i => snd P.W i t ∧ P.W i 2 < cov P i t + P.S 3) u)) t (mk (fun i => snd P.W i t ∧ P.W i 2 < cov P i t + P.S 3) (u + 1)))) := by rw [ew10]; exact up_eq
                          refine lv_iinc (v := nI (u + 1)) (lv' := [(4, .int (nI (u + 1))), (0, .ref (b + 36)), (1, .int (nI t)), (2, .int (nI (wmk P.W P.w t)))]) hx hb dX7_layOut_137 hl (k := 3) rfl (nI_add _ 1) (by decide) rfl (fun ls hl => ?_)
                          refine lv_goto (tgt := 76) hx hb dX7_layOut_140 (by decide) ?_
                          exact ih76 (u + 1) (by omega) (by omega) _ (by first | rfl | (congr 1; omega)) _ _ _ (by exact hm0) (by exact hm1) (by exact hm42) (by exact hm43.trans (eN_congr fun j => by unfold va_up; by_cases e9 : j = t <;> simp [e9])) (by intro id h9; rw [frw10 id (by omega)]; exact fr id h9) hW hS _ (lv_sub hl [1, 2, 3, 0] rfl)
                exact L76 ((P.w - 0) + 1) 0 (by omega) (Nat.lt_succ_self _) _ (by first | rfl | (congr 1; omega)) _ _ _ (by exact hm0) (by exact hm1) (by exact hm42) (by exact hm43) (by intro id h9; rw [frw7 id (by omega)]; rw [frw6 id (by omega)]; exact fr id h9) hW hS _ (lv_sub hl [3, 4, 2, 0] rfl)
            · skip
              have c_44 : ¬ ((wmk P.W P.w t) = 0) := fun h__ => c_44 ((nI_eq0 (i := wmk P.W P.w t) (by omega)).mpr h__)
              refine lv_aload_n hx hb dX7_layOut_47 rfl (lv_at hl 2 rfl) ?_
              refine q_get hx hb hts hinX7 hown hG hW hm0 rfl 0 (by decide) (hts (.fieldLink RX7 7 "FoleyMixerModel" "s" "[I") (List.mem_of_getElem? (i := 2) rfl)) rfl rfl dX7_layOut_48 ?_
              refine lv_iconst (v := nI 0) hx hb dX7_layOut_51 (by decide) ?_
              refine q_iald hx hb hG hW hm1 (by omega) (by omega) dX7_layOut_52 ?_
              refine lv_goto (tgt := 65) hx hb dX7_layOut_53 (by decide) ?_
              refine q_top (y := nI (dk P t)) (by refine congrArg nI ?_; rw [dk_step]; first | (rw [if_neg c_44]; exact hRp.1 0 (by omega)) | (rw [if_pos c_44] <;> omega)) ?_
              refine q_nast hx hb hG hW hS hm42 (by omega) (by omega) dX7_layOut_65 (fun H locs hW hS hz65 => ?_)
              obtain ⟨w11, ew11⟩ : ∃ wq__ : Wd, wq__ = va_up wa 42 (some (eN dA 120 (va_up (fun j => if j < t then dk P j else D0 j) t (dk P t)))) := ⟨_, rfl⟩
              replace hW : WP D b w11 H := by rw [ew11]; exact hW
              have frw11 : ∀ id : Nat, id ≠ 42 → w11 id = wa id := fun id h9 => by rw [ew11, up_ne h9]
              replace hm0 : w11 36 = some (modO b (sv) (nc) (th) (pl) (lt) (dn)) := (frw11 _ (by omega)).trans hm0
              replace hm1 : w11 37 = some (eN dA 85 F) := (frw11 _ (by omega)).trans hm1
              replace hm43 : w11 43 = some (eN dA 120 (fun j => if j < t then mmk P j else M0 j)) := (frw11 _ (by omega)).trans hm43
              replace hm42 : w11 42 = some (eN dA 120 (va_up (fun j => if j < t then dk P j else D0 j) t (dk P t))) := by rw [ew11]; exact up_eq
              replace hm42 := hm42.trans (eN_congr (fill_step (f := dk P) rfl))
              refine lv_aload_n hx hb dX7_layOut_66 rfl (lv_at hl 2 rfl) ?_
              refine q_get hx hb hts hinX7 hown hG hW hm0 rfl 9 (by decide) (hts (.fieldLink RX7 29 "FoleyMixerModel" "masked" "[I") (List.mem_of_getElem? (i := 3) rfl)) rfl rfl dX7_layOut_67 ?_
              refine lv_iload_n hx hb dX7_layOut_70 rfl (lv_at hl 3 rfl) ?_
              refine lv_iconst (v := nI 0) hx hb dX7_layOut_71 (by decide) ?_
              refine q_nast hx hb hG hW hS hm43 (by omega) (by omega) dX7_layOut_72 (fun H locs hW hS hz72 => ?_)
              obtain ⟨w12, ew12⟩ : ∃ wq__ : Wd, wq__ = va_up w11 43 (some (eN dA 120 (va_up (fun j => if j < t then mmk P j else M0 j) t 0))) := ⟨_, rfl⟩
              replace hW : WP D b w12 H := by rw [ew12]; exact hW
              have frw12 : ∀ id : Nat, id ≠ 43 → w12 id = w11 id := fun id h9 => by rw [ew12, up_ne h9]
              replace hm0 : w12 36 = some (modO b (sv) (nc) (th) (pl) (lt) (dn)) := (frw12 _ (by omega)).trans hm0
              replace hm1 : w12 37 = some (eN dA 85 F) := (frw12 _ (by omega)).trans hm1
              replace hm42 : w12 42 = some (eN dA 120 (fun j => if j < t + 1 then dk P j else D0 j)) := (frw12 _ (by omega)).trans hm42
              replace hm43 : w12 43 = some (eN dA 120 (va_up (fun j => if j < t then mmk P j else M0 j) t 0)) := by rw [ew12]; exact up_eq
              refine lv_iconst (v := nI 0) hx hb dX7_layOut_73 (by decide) ?_
              refine lv_istore (lv' := [(4, .int (nI 0)), (3, .int (nI (pdk P t - P.S 1))), (2, .int (nI (wmk P.W P.w t))), (0, .ref (b + 36)), (1, .int (nI t))]) hx hb dX7_layOut_74 hl (by decide) rfl (fun ls hl => ?_)
              have L76 : ∀ (n76 : Nat) (u : Nat), u ≤ P.w → P.w - u < n76 → ∀ (x76_4 : Int32), x76_4 = nI (u) → ∀ (wb : Wd) (H : Heap) (locs : List Loc), wb 36 = some (modO b sv nc th pl lt dn) → wb 37 = some (eN dA 85 F) → wb 42 = some (eN dA 120 (fun j => if j < t + 1 then dk P j else D0 j)) → (wb 43 = some (eN dA 120 (va_up (fun j => if j < t then mmk P j else M0 j) t (mk (fun i => snd P.W i t ∧ P.W i 2 < cov P i t + P.S 3) u)))) → (∀ id : Nat, id ≠ 42 ∧ id ≠ 43 → wb id = w id) → WP D b wb H → va_S (Fb b) s.heap H locs → ∀ (ls : Array Slot), lv_has ls 5 [(0, .ref (b + 36)), (1, .int (nI t)), (2, .int (nI (wmk P.W P.w t))), (4, .int x76_4)] → W p l e ({ frames := 5, cells := 0, slots := 0, locals := 117 } : Room) s m args below meth c H locs 0 0 (MQ below (QW D b (none) (fun w' => w' 42 = some (eN dA 120 (dk P)) ∧ w' 43 = some (eN dA 120 (mmk P)) ∧ ∀ id : Nat, id ≠ 42 ∧ id ≠ 43 → w' id = w id)) args s 0 0 (Fb b)) (F0 m 76 ls []) := by
                intro n76
                induction n76 with
                | zero =>
                  intro u hu0 hn76 x76_4 ex76_4 wb H locs hm0 hm1 hm42 hm43 fr hW hS ls hl
                  exact absurd hn76 (Nat.not_lt_zero _)
                | succ n76 ih76 =>
                  intro u hu0 hn76 x76_4 ex76_4 wb H locs hm0 hm1 hm42 hm43 fr hW hS ls hl
                  subst ex76_4
                  have hDK : (fun j => if j < t + 1 then dk P j else D0 j) t = dk P t := if_pos (by omega)
                  have hS3 := hPS.2.2.2.2.1
                  refine lv_iload hx hb dX7_layOut_76 (lv_at hl 3 rfl) ?_
                  refine lv_aload_n hx hb dX7_layOut_78 rfl (lv_at hl 0 rfl) ?_
                  refine q_get hx hb hts hinX7 hown hG hW hm0 rfl 0 (by decide) (hts (.fieldLink RX7 7 "FoleyMixerModel" "s" "[I") (List.mem_of_getElem? (i := 2) rfl)) rfl rfl dX7_layOut_79 ?_
                  refine lv_iconst (v := nI 5) hx hb dX7_layOut_82 (by decide) ?_
                  refine q_iald hx hb hG hW hm1 (by omega) (by omega) dX7_layOut_83 ?_
                  refine q_top (y := nI (P.w)) (by exact congrArg nI hr5) ?_
                  refine lv_icmp_ge (tgt := 143) hx hb dX7_layOut_84 (by decide) (fun c_84 => ?_) (fun c_84 => ?_)
                  · skip
                    have c_84 : P.w ≤ u := (nI_leI (a := P.w) (b := u) (by omega) (by omega)).mp c_84
                    refine lv_iinc (v := nI (t + 1)) (lv' := [(1, .int (nI (t + 1))), (0, .ref (b + 36)), (2, .int (nI (wmk P.W P.w t))), (4, .int (nI u))]) hx hb dX7_layOut_143 hl (k := 1) rfl (nI_add _ 1) (by decide) rfl (fun ls hl => ?_)
                    refine lv_goto (tgt := 2) hx hb dX7_layOut_146 (by decide) ?_
                    exact ih2 (t + 1) (by omega) (by omega) _ (by first | rfl | (congr 1; omega)) _ _ _ (by exact hm0) (by exact hm1) (by exact hm42) (by exact hm43.trans (eN_congr (fill_step (f := mmk P) (by rw [show u = P.w by omega]; rfl)))) (by intro id h9; exact fr id h9) hW hS _ (lv_sub hl [1, 0] rfl)
                  · skip
                    have c_84 : ¬ (P.w ≤ u) := fun h__ => c_84 ((nI_leI (a := P.w) (b := u) (by omega) (by omega)).mpr h__)
                    refine lv_aload_n hx hb dX7_layOut_87 rfl (lv_at hl 0 rfl) ?_
                    refine q_get hx hb hts hinX7 hown hG hW hm0 rfl 9 (by decide) (hts (.fieldLink RX7 29 "FoleyMixerModel" "masked" "[I") (List.mem_of_getElem? (i := 3) rfl)) rfl rfl dX7_layOut_88 ?_
                    refine lv_iload_n hx hb dX7_layOut_91 rfl (lv_at hl 1 rfl) ?_
                    refine lv_dup2_11 hx hb dX7_layOut_92 rfl rfl ?_
                    refine q_iald hx hb hG hW hm43 (by omega) (by omega) dX7_layOut_93 ?_
                    refine q_top (y := nI (mk (fun i => snd P.W i t ∧ P.W i 2 < cov P i t + P.S 3) u)) (by refine congrArg nI ?_; unfold va_up; exact if_pos rfl) ?_
                    refine lv_iload_n hx hb dX7_layOut_94 rfl (lv_at hl 2 rfl) ?_
                    refine lv_iload hx hb dX7_layOut_95 (lv_at hl 3 rfl) ?_
                    refine q_R1 (va_runS (As := [.int (nI (wmk P.W P.w t)), .int (nI u)]) (rest := [.int (nI (mk (fun i => snd P.W i t ∧ P.W i 2 < cov P i t + P.S 3) u)), .int (nI t), .ref (b + 43)]) ⟨hx, hb, hml, hown, hts⟩ (c_X7_has l (wmk P.W P.w t) (u) (by omega) (by omega)) (va_cwS 2 hts gX7_layOut_X7_has rfl rfl rfl (by decide +kernel) ⟨Nat.le_of_ble_eq_true rfl, Nat.le_of_ble_eq_true rfl⟩) (q_preS hG hW hS) rfl rfl hl.1 rfl (lv_room (Nat.le_of_ble_eq_true rfl)) dX7_layOut_97 ⟨Nat.le_of_ble_eq_true rfl, Nat.le_of_ble_eq_true rfl⟩) ?_
                    refine lv_if_eq (tgt := 134) hx hb dX7_layOut_100 (by decide) (fun c_100 => ?_) (fun c_100 => ?_)
                    · skip
                      have c_100 : ¬ ((wmk P.W P.w t).testBit u = true) := pI_eq0.mp c_100
                      refine lv_iconst (v := nI 0) hx hb dX7_layOut_134 (by decide) ?_
                      refine lv_ior hx hb dX7_layOut_135 ?_
                      refine q_top (y := nI (mk (fun i => snd P.W i t ∧ P.W i 2 < cov P i t + P.S 3) (u + 1))) (by rw [nI_or]; refine congrArg nI ?_; rw [mk]; first | (rw [if_pos ⟨hbt, by omega⟩]; done) | (rw [if_neg (fun q9 => absurd q9.2 (by omega))]; exact Nat.or_zero _) | (rw [if_neg (fun q9 => c_100 (by rw [mk_bit]; exact decide_eq_true ⟨by omega, q9.1⟩))]; exact Nat.or_zero _)) ?_
                      refine q_nast hx hb hG hW hS hm43 (by omega) (by omega) dX7_layOut_136 (fun H locs hW hS hz136 => ?_)
                      obtain ⟨w13, ew13⟩ : ∃ wq__ : Wd, wq__ = va_up wb 43 (some (eN dA 120 (va_up (va_up (fun j => if j < t then mmk P j else M0 j) t (mk (fun i => snd P.W i t ∧ P.W i 2 < cov P i t + P.S 3) u)) t (mk (fun i => snd P.W i t ∧ P.W i 2 < cov P i t + P.S 3) (u + 1))))) := ⟨_, rfl⟩
                      replace hW : WP D b w13 H := by rw [ew13]; exact hW
                      have frw13 : ∀ id : Nat, id ≠ 43 → w13 id = wb id := fun id h9 => by rw [ew13, up_ne h9]
                      replace hm0 : w13 36 = some (modO b (sv) (nc) (th) (pl) (lt) (dn)) := (frw13 _ (by omega)).trans hm0
                      replace hm1 : w13 37 = some (eN dA 85 F) := (frw13 _ (by omega)).trans hm1
                      replace hm42 : w13 42 = some (eN dA 120 (fun j => if j < t + 1 then dk P j else D0 j)) := (frw13 _ (by omega)).trans hm42
                      replace hm43 : w13 43 = some (eN dA 120 (va_up (va_up (fun j => if j < t then mmk P j else M0 j) t (mk (fun i => snd P.W i t ∧ P.W i 2 < cov P i t + P.S 3) u)) t (mk (fun i => snd P.W i t ∧ P.W i 2 < cov P i t + P.S 3) (u + 1)))) := by rw [ew13]; exact up_eq
                      refine lv_iinc (v := nI (u + 1)) (lv' := [(4, .int (nI (u + 1))), (0, .ref (b + 36)), (1, .int (nI t)), (2, .int (nI (wmk P.W P.w t)))]) hx hb dX7_layOut_137 hl (k := 3) rfl (nI_add _ 1) (by decide) rfl (fun ls hl => ?_)
                      refine lv_goto (tgt := 76) hx hb dX7_layOut_140 (by decide) ?_
                      exact ih76 (u + 1) (by omega) (by omega) _ (by first | rfl | (congr 1; omega)) _ _ _ (by exact hm0) (by exact hm1) (by exact hm42) (by exact hm43.trans (eN_congr fun j => by unfold va_up; by_cases e9 : j = t <;> simp [e9])) (by intro id h9; rw [frw13 id (by omega)]; exact fr id h9) hW hS _ (lv_sub hl [1, 2, 3, 0] rfl)
                    · skip
                      have c_100 : (wmk P.W P.w t).testBit u = true := Decidable.byContradiction (fun h__ => c_100 (pI_eq0.mpr h__))
                      have hWu := hPW u (by omega)
                      have hcv := cov_le hP u t
                      have hbt : snd P.W u t := by rw [mk_bit] at c_100; exact (decide_eq_true_eq.mp c_100).2
                      refine lv_aload_n hx hb dX7_layOut_103 rfl (lv_at hl 0 rfl) ?_
                      refine lv_iload hx hb dX7_layOut_104 (lv_at hl 3 rfl) ?_
                      refine lv_iconst (v := nI 2) hx hb dX7_layOut_106 (by decide) ?_
                      refine q_R1 (va_runV (As := [.int (nI u), .int (nI 2)]) (rest := [.int (nI (mk (fun i => snd P.W i t ∧ P.W i 2 < cov P i t + P.S 3) u)), .int (nI t), .ref (b + 43)]) ⟨hx, hb, hml, hown, hts⟩ (c_ofW l hm0 hm1 hRp hP (u) (2) (by omega) (by omega)) (cwV 2 hts gX7_layOut_X7_ofWord rfl rfl rfl (by decide +kernel) ⟨Nat.le_of_ble_eq_true rfl, Nat.le_of_ble_eq_true rfl⟩) (q_preV hG hW hS hm0 rfl) rfl rfl hl.1 rfl (lv_room (Nat.le_of_ble_eq_true rfl)) dX7_layOut_107 ⟨Nat.le_of_ble_eq_true rfl, Nat.le_of_ble_eq_true rfl⟩) ?_
                      refine lv_aload_n hx hb dX7_layOut_110 rfl (lv_at hl 0 rfl) ?_
                      refine lv_iload hx hb dX7_layOut_111 (lv_at hl 3 rfl) ?_
                      refine lv_iload_n hx hb dX7_layOut_113 rfl (lv_at hl 1 rfl) ?_
                      refine q_R1 (va_runV (As := [.int (nI u), .int (nI t)]) (rest := [.int (nI (P.W u 2)), .int (nI (mk (fun i => snd P.W i t ∧ P.W i 2 < cov P i t + P.S 3) u)), .int (nI t), .ref (b + 43)]) ⟨hx, hb, hml, hown, hts⟩ (c_X7_cover l hm0 hm1 hRp hP hm42 (u) (t) (by omega) (by omega) hDK) (cwV 2 hts gX7_layOut_X7_cover rfl rfl rfl (by decide +kernel) ⟨Nat.le_of_ble_eq_true rfl, Nat.le_of_ble_eq_true rfl⟩) (q_preV hG hW hS hm0 rfl) rfl rfl hl.1 rfl (lv_room (Nat.le_of_ble_eq_true rfl)) dX7_layOut_114 ⟨Nat.le_of_ble_eq_true rfl, Nat.le_of_ble_eq_true rfl⟩) ?_
                      refine lv_aload_n hx hb dX7_layOut_117 rfl (lv_at hl 0 rfl) ?_
                      refine q_get hx hb hts hinX7 hown hG hW hm0 rfl 0 (by decide) (hts (.fieldLink RX7 7 "FoleyMixerModel" "s" "[I") (List.mem_of_getElem? (i := 2) rfl)) rfl rfl dX7_layOut_118 ?_
                      refine lv_iconst (v := nI 3) hx hb dX7_layOut_121 (by decide) ?_
                      refine q_iald hx hb hG hW hm1 (by omega) (by omega) dX7_layOut_122 ?_
                      refine q_top (y := nI (P.S 3)) (by exact congrArg nI (hRp.1 3 (by omega))) ?_
                      refine lv_iadd hx hb dX7_layOut_123 ?_
                      refine q_top (y := nI ((cov P u t) + (P.S 3))) (nI_add _ _) ?_
                      refine lv_icmp_ge (tgt := 134) hx hb dX7_layOut_124 (by decide) (fun c_124 => ?_) (fun c_124 => ?_)
                      · skip
                        have c_124 : (cov P u t) + (P.S 3) ≤ P.W u 2 := (nI_leI (a := (cov P u t) + (P.S 3)) (b := P.W u 2) (by omega) (by omega)).mp c_124
                        refine lv_iconst (v := nI 0) hx hb dX7_layOut_134 (by decide) ?_
                        refine lv_ior hx hb dX7_layOut_135 ?_
                        refine q_top (y := nI (mk (fun i => snd P.W i t ∧ P.W i 2 < cov P i t + P.S 3) (u + 1))) (by rw [nI_or]; refine congrArg nI ?_; rw [mk]; first | (rw [if_pos ⟨hbt, by omega⟩]; done) | (rw [if_neg (fun q9 => absurd q9.2 (by omega))]; exact Nat.or_zero _) | (rw [if_neg (fun q9 => c_100 (by rw [mk_bit]; exact decide_eq_true ⟨by omega, q9.1⟩))]; exact Nat.or_zero _)) ?_
                        refine q_nast hx hb hG hW hS hm43 (by omega) (by omega) dX7_layOut_136 (fun H locs hW hS hz136 => ?_)
                        obtain ⟨w14, ew14⟩ : ∃ wq__ : Wd, wq__ = va_up wb 43 (some (eN dA 120 (va_up (va_up (fun j => if j < t then mmk P j else M0 j) t (mk (fun i => snd P.W i t ∧ P.W i 2 < cov P i t + P.S 3) u)) t (mk (fun i => snd P.W i t ∧ P.W i 2 < cov P i t + P.S 3) (u + 1))))) := ⟨_, rfl⟩
                        replace hW : WP D b w14 H := by rw [ew14]; exact hW
                        have frw14 : ∀ id : Nat, id ≠ 43 → w14 id = wb id := fun id h9 => by rw [ew14, up_ne h9]
                        replace hm0 : w14 36 = some (modO b (sv) (nc) (th) (pl) (lt) (dn)) := (frw14 _ (by omega)).trans hm0
                        replace hm1 : w14 37 = some (eN dA 85 F) := (frw14 _ (by omega)).trans hm1
                        replace hm42 : w14 42 = some (eN dA 120 (fun j => if j < t + 1 then dk P j else D0 j)) := (frw14 _ (by omega)).trans hm42
                        replace hm43 : w14 43 = some (eN dA 120 (va_up (va_up (fun j => if j < t then mmk P j else M0 j) t (mk (fun i => snd P.W i t ∧ P.W i 2 < cov P i t + P.S 3) u)) t (mk (fun i => snd P.W i t ∧ P.W i 2 < cov P i t + P.S 3) (u + 1)))) := by rw [ew14]; exact up_eq
                        refine lv_iinc (v := nI (u + 1)) (lv' := [(4, .int (nI (u + 1))), (0, .ref (b + 36)), (1, .int (nI t)), (2, .int (nI (wmk P.W P.w t)))]) hx hb dX7_layOut_137 hl (k := 3) rfl (nI_add _ 1) (by decide) rfl (fun ls hl => ?_)
                        refine lv_goto (tgt := 76) hx hb dX7_layOut_140 (by decide) ?_
                        exact ih76 (u + 1) (by omega) (by omega) _ (by first | rfl | (congr 1; omega)) _ _ _ (by exact hm0) (by exact hm1) (by exact hm42) (by exact hm43.trans (eN_congr fun j => by unfold va_up; by_cases e9 : j = t <;> simp [e9])) (by intro id h9; rw [frw14 id (by omega)]; exact fr id h9) hW hS _ (lv_sub hl [1, 2, 3, 0] rfl)
                      · skip
                        have c_124 : ¬ ((cov P u t) + (P.S 3) ≤ P.W u 2) := fun h__ => c_124 ((nI_leI (a := (cov P u t) + (P.S 3)) (b := P.W u 2) (by omega) (by omega)).mpr h__)
                        refine lv_iconst (v := nI 1) hx hb dX7_layOut_127 (by decide) ?_
                        refine lv_iload hx hb dX7_layOut_128 (lv_at hl 3 rfl) ?_
                        refine lv_ishl hx hb dX7_layOut_130 ?_
                        refine q_top (y := nI (2 ^ u)) (by exact nI_shl1 (by omega)) ?_
                        refine lv_goto (tgt := 135) hx hb dX7_layOut_131 (by decide) ?_
                        refine lv_ior hx hb dX7_layOut_135 ?_
                        refine q_top (y := nI (mk (fun i => snd P.W i t ∧ P.W i 2 < cov P i t + P.S 3) (u + 1))) (by rw [nI_or]; refine congrArg nI ?_; rw [mk]; first | (rw [if_pos ⟨hbt, by omega⟩]; done) | (rw [if_neg (fun q9 => absurd q9.2 (by omega))]; exact Nat.or_zero _) | (rw [if_neg (fun q9 => c_100 (by rw [mk_bit]; exact decide_eq_true ⟨by omega, q9.1⟩))]; exact Nat.or_zero _)) ?_
                        refine q_nast hx hb hG hW hS hm43 (by omega) (by omega) dX7_layOut_136 (fun H locs hW hS hz136 => ?_)
                        obtain ⟨w15, ew15⟩ : ∃ wq__ : Wd, wq__ = va_up wb 43 (some (eN dA 120 (va_up (va_up (fun j => if j < t then mmk P j else M0 j) t (mk (fun i => snd P.W i t ∧ P.W i 2 < cov P i t + P.S 3) u)) t (mk (fun i => snd P.W i t ∧ P.W i 2 < cov P i t + P.S 3) (u + 1))))) := ⟨_, rfl⟩
                        replace hW : WP D b w15 H := by rw [ew15]; exact hW
                        have frw15 : ∀ id : Nat, id ≠ 43 → w15 id = wb id := fun id h9 => by rw [ew15, up_ne h9]
                        replace hm0 : w15 36 = some (modO b (sv) (nc) (th) (pl) (lt) (dn)) := (frw15 _ (by omega)).trans hm0
                        replace hm1 : w15 37 = some (eN dA 85 F) := (frw15 _ (by omega)).trans hm1
                        replace hm42 : w15 42 = some (eN dA 120 (fun j => if j < t + 1 then dk P j else D0 j)) := (frw15 _ (by omega)).trans hm42
                        replace hm43 : w15 43 = some (eN dA 120 (va_up (va_up (fun j => if j < t then mmk P j else M0 j) t (mk (fun i => snd P.W i t ∧ P.W i 2 < cov P i t + P.S 3) u)) t (mk (fun i => snd P.W i t ∧ P.W i 2 < cov P i t + P.S 3) (u + 1)))) := by rw [ew15]; exact up_eq
                        refine lv_iinc (v := nI (u + 1)) (lv' := [(4, .int (nI (u + 1))), (0, .ref (b + 36)), (1, .int (nI t)), (2, .int (nI (wmk P.W P.w t)))]) hx hb dX7_layOut_137 hl (k := 3) rfl (nI_add _ 1) (by decide) rfl (fun ls hl => ?_)
                        refine lv_goto (tgt := 76) hx hb dX7_layOut_140 (by decide) ?_
                        exact ih76 (u + 1) (by omega) (by omega) _ (by first | rfl | (congr 1; omega)) _ _ _ (by exact hm0) (by exact hm1) (by exact hm42) (by exact hm43.trans (eN_congr fun j => by unfold va_up; by_cases e9 : j = t <;> simp [e9])) (by intro id h9; rw [frw15 id (by omega)]; exact fr id h9) hW hS _ (lv_sub hl [1, 2, 3, 0] rfl)
              exact L76 ((P.w - 0) + 1) 0 (by omega) (Nat.lt_succ_self _) _ (by first | rfl | (congr 1; omega)) _ _ _ (by exact hm0) (by exact hm1) (by exact hm42) (by exact hm43) (by intro id h9; rw [frw12 id (by omega)]; rw [frw11 id (by omega)]; exact fr id h9) hW hS _ (lv_sub hl [3, 4, 2, 0] rfl)
          · skip
            have hng9 := neg_lt (a := pdk P t) (c := P.S 1) (by omega) (by omega) (by omega)
            refine lv_istore_n (lv' := [(3, .int ((nI (pdk P t)) - (nI (P.S 1)))), (2, .int (nI (wmk P.W P.w t))), (0, .ref (b + 36)), (1, .int (nI t))]) hx hb dX7_layOut_37 rfl hl (by decide) rfl (fun ls hl => ?_)
            refine lv_aload_n hx hb dX7_layOut_38 rfl (lv_at hl 2 rfl) ?_
            refine q_get hx hb hts hinX7 hown hG hW hm0 rfl 8 (by decide) (hts (.fieldLink RX7 26 "FoleyMixerModel" "ducking" "[I") (List.mem_of_getElem? (i := 1) rfl)) rfl rfl dX7_layOut_39 ?_
            refine lv_iload_n hx hb dX7_layOut_42 rfl (lv_at hl 3 rfl) ?_
            refine lv_iload_n hx hb dX7_layOut_43 rfl (lv_at hl 1 rfl) ?_
            refine lv_if_eq (tgt := 56) hx hb dX7_layOut_44 (by decide) (fun c_44 => ?_) (fun c_44 => ?_)
            · skip
              have c_44 : (wmk P.W P.w t) = 0 := (nI_eq0 (i := wmk P.W P.w t) (by omega)).mp c_44
              refine lv_iload_n hx hb dX7_layOut_56 rfl (lv_at hl 0 rfl) ?_
              refine lv_if_ge (tgt := 64) hx hb dX7_layOut_57 (by decide) (fun c_57 => ?_) (fun c_57 => ?_)
              · skip
                exact absurd hng9 (Int32.not_lt.mpr (by first | exact c_57 | exact Int32.not_lt.mp c_57))
              · skip
                refine lv_iconst (v := nI 0) hx hb dX7_layOut_60 (by decide) ?_
                refine lv_goto (tgt := 65) hx hb dX7_layOut_61 (by decide) ?_
                refine q_top (y := nI (dk P t)) (by refine congrArg nI ?_; rw [dk_step]; first | (rw [if_neg c_44]; exact hRp.1 0 (by omega)) | (rw [if_pos c_44] <;> omega)) ?_
                refine q_nast hx hb hG hW hS hm42 (by omega) (by omega) dX7_layOut_65 (fun H locs hW hS hz65 => ?_)
                obtain ⟨w16, ew16⟩ : ∃ wq__ : Wd, wq__ = va_up wa 42 (some (eN dA 120 (va_up (fun j => if j < t then dk P j else D0 j) t (dk P t)))) := ⟨_, rfl⟩
                replace hW : WP D b w16 H := by rw [ew16]; exact hW
                have frw16 : ∀ id : Nat, id ≠ 42 → w16 id = wa id := fun id h9 => by rw [ew16, up_ne h9]
                replace hm0 : w16 36 = some (modO b (sv) (nc) (th) (pl) (lt) (dn)) := (frw16 _ (by omega)).trans hm0
                replace hm1 : w16 37 = some (eN dA 85 F) := (frw16 _ (by omega)).trans hm1
                replace hm43 : w16 43 = some (eN dA 120 (fun j => if j < t then mmk P j else M0 j)) := (frw16 _ (by omega)).trans hm43
                replace hm42 : w16 42 = some (eN dA 120 (va_up (fun j => if j < t then dk P j else D0 j) t (dk P t))) := by rw [ew16]; exact up_eq
                replace hm42 := hm42.trans (eN_congr (fill_step (f := dk P) rfl))
                refine lv_aload_n hx hb dX7_layOut_66 rfl (lv_at hl 2 rfl) ?_
                refine q_get hx hb hts hinX7 hown hG hW hm0 rfl 9 (by decide) (hts (.fieldLink RX7 29 "FoleyMixerModel" "masked" "[I") (List.mem_of_getElem? (i := 3) rfl)) rfl rfl dX7_layOut_67 ?_
                refine lv_iload_n hx hb dX7_layOut_70 rfl (lv_at hl 3 rfl) ?_
                refine lv_iconst (v := nI 0) hx hb dX7_layOut_71 (by decide) ?_
                refine q_nast hx hb hG hW hS hm43 (by omega) (by omega) dX7_layOut_72 (fun H locs hW hS hz72 => ?_)
                obtain ⟨w17, ew17⟩ : ∃ wq__ : Wd, wq__ = va_up w16 43 (some (eN dA 120 (va_up (fun j => if j < t then mmk P j else M0 j) t 0))) := ⟨_, rfl⟩
                replace hW : WP D b w17 H := by rw [ew17]; exact hW
                have frw17 : ∀ id : Nat, id ≠ 43 → w17 id = w16 id := fun id h9 => by rw [ew17, up_ne h9]
                replace hm0 : w17 36 = some (modO b (sv) (nc) (th) (pl) (lt) (dn)) := (frw17 _ (by omega)).trans hm0
                replace hm1 : w17 37 = some (eN dA 85 F) := (frw17 _ (by omega)).trans hm1
                replace hm42 : w17 42 = some (eN dA 120 (fun j => if j < t + 1 then dk P j else D0 j)) := (frw17 _ (by omega)).trans hm42
                replace hm43 : w17 43 = some (eN dA 120 (va_up (fun j => if j < t then mmk P j else M0 j) t 0)) := by rw [ew17]; exact up_eq
                refine lv_iconst (v := nI 0) hx hb dX7_layOut_73 (by decide) ?_
                refine lv_istore (lv' := [(4, .int (nI 0)), (3, .int ((nI (pdk P t)) - (nI (P.S 1)))), (2, .int (nI (wmk P.W P.w t))), (0, .ref (b + 36)), (1, .int (nI t))]) hx hb dX7_layOut_74 hl (by decide) rfl (fun ls hl => ?_)
                have L76 : ∀ (n76 : Nat) (u : Nat), u ≤ P.w → P.w - u < n76 → ∀ (x76_4 : Int32), x76_4 = nI (u) → ∀ (wb : Wd) (H : Heap) (locs : List Loc), wb 36 = some (modO b sv nc th pl lt dn) → wb 37 = some (eN dA 85 F) → wb 42 = some (eN dA 120 (fun j => if j < t + 1 then dk P j else D0 j)) → (wb 43 = some (eN dA 120 (va_up (fun j => if j < t then mmk P j else M0 j) t (mk (fun i => snd P.W i t ∧ P.W i 2 < cov P i t + P.S 3) u)))) → (∀ id : Nat, id ≠ 42 ∧ id ≠ 43 → wb id = w id) → WP D b wb H → va_S (Fb b) s.heap H locs → ∀ (ls : Array Slot), lv_has ls 5 [(0, .ref (b + 36)), (1, .int (nI t)), (2, .int (nI (wmk P.W P.w t))), (4, .int x76_4)] → W p l e ({ frames := 5, cells := 0, slots := 0, locals := 117 } : Room) s m args below meth c H locs 0 0 (MQ below (QW D b (none) (fun w' => w' 42 = some (eN dA 120 (dk P)) ∧ w' 43 = some (eN dA 120 (mmk P)) ∧ ∀ id : Nat, id ≠ 42 ∧ id ≠ 43 → w' id = w id)) args s 0 0 (Fb b)) (F0 m 76 ls []) := by
                  intro n76
                  induction n76 with
                  | zero =>
                    intro u hu0 hn76 x76_4 ex76_4 wb H locs hm0 hm1 hm42 hm43 fr hW hS ls hl
                    exact absurd hn76 (Nat.not_lt_zero _)
                  | succ n76 ih76 =>
                    intro u hu0 hn76 x76_4 ex76_4 wb H locs hm0 hm1 hm42 hm43 fr hW hS ls hl
                    subst ex76_4
                    have hDK : (fun j => if j < t + 1 then dk P j else D0 j) t = dk P t := if_pos (by omega)
                    have hS3 := hPS.2.2.2.2.1
                    refine lv_iload hx hb dX7_layOut_76 (lv_at hl 3 rfl) ?_
                    refine lv_aload_n hx hb dX7_layOut_78 rfl (lv_at hl 0 rfl) ?_
                    refine q_get hx hb hts hinX7 hown hG hW hm0 rfl 0 (by decide) (hts (.fieldLink RX7 7 "FoleyMixerModel" "s" "[I") (List.mem_of_getElem? (i := 2) rfl)) rfl rfl dX7_layOut_79 ?_
                    refine lv_iconst (v := nI 5) hx hb dX7_layOut_82 (by decide) ?_
                    refine q_iald hx hb hG hW hm1 (by omega) (by omega) dX7_layOut_83 ?_
                    refine q_top (y := nI (P.w)) (by exact congrArg nI hr5) ?_
                    refine lv_icmp_ge (tgt := 143) hx hb dX7_layOut_84 (by decide) (fun c_84 => ?_) (fun c_84 => ?_)
                    · skip
                      have c_84 : P.w ≤ u := (nI_leI (a := P.w) (b := u) (by omega) (by omega)).mp c_84
                      refine lv_iinc (v := nI (t + 1)) (lv' := [(1, .int (nI (t + 1))), (0, .ref (b + 36)), (2, .int (nI (wmk P.W P.w t))), (4, .int (nI u))]) hx hb dX7_layOut_143 hl (k := 1) rfl (nI_add _ 1) (by decide) rfl (fun ls hl => ?_)
                      refine lv_goto (tgt := 2) hx hb dX7_layOut_146 (by decide) ?_
                      exact ih2 (t + 1) (by omega) (by omega) _ (by first | rfl | (congr 1; omega)) _ _ _ (by exact hm0) (by exact hm1) (by exact hm42) (by exact hm43.trans (eN_congr (fill_step (f := mmk P) (by rw [show u = P.w by omega]; rfl)))) (by intro id h9; exact fr id h9) hW hS _ (lv_sub hl [1, 0] rfl)
                    · skip
                      have c_84 : ¬ (P.w ≤ u) := fun h__ => c_84 ((nI_leI (a := P.w) (b := u) (by omega) (by omega)).mpr h__)
                      refine lv_aload_n hx hb dX7_layOut_87 rfl (lv_at hl 0 rfl) ?_
                      refine q_get hx hb hts hinX7 hown hG hW hm0 rfl 9 (by decide) (hts (.fieldLink RX7 29 "FoleyMixerModel" "masked" "[I") (List.mem_of_getElem? (i := 3) rfl)) rfl rfl dX7_layOut_88 ?_
                      refine lv_iload_n hx hb dX7_layOut_91 rfl (lv_at hl 1 rfl) ?_
                      refine lv_dup2_11 hx hb dX7_layOut_92 rfl rfl ?_
                      refine q_iald hx hb hG hW hm43 (by omega) (by omega) dX7_layOut_93 ?_
                      refine q_top (y := nI (mk (fun i => snd P.W i t ∧ P.W i 2 < cov P i t + P.S 3) u)) (by refine congrArg nI ?_; unfold va_up; exact if_pos rfl) ?_
                      refine lv_iload_n hx hb dX7_layOut_94 rfl (lv_at hl 2 rfl) ?_
                      refine lv_iload hx hb dX7_layOut_95 (lv_at hl 3 rfl) ?_
                      refine q_R1 (va_runS (As := [.int (nI (wmk P.W P.w t)), .int (nI u)]) (rest := [.int (nI (mk (fun i => snd P.W i t ∧ P.W i 2 < cov P i t + P.S 3) u)), .int (nI t), .ref (b + 43)]) ⟨hx, hb, hml, hown, hts⟩ (c_X7_has l (wmk P.W P.w t) (u) (by omega) (by omega)) (va_cwS 2 hts gX7_layOut_X7_has rfl rfl rfl (by decide +kernel) ⟨Nat.le_of_ble_eq_true rfl, Nat.le_of_ble_eq_true rfl⟩) (q_preS hG hW hS) rfl rfl hl.1 rfl (lv_room (Nat.le_of_ble_eq_true rfl)) dX7_layOut_97 ⟨Nat.le_of_ble_eq_true rfl, Nat.le_of_ble_eq_true rfl⟩) ?_
                      refine lv_if_eq (tgt := 134) hx hb dX7_layOut_100 (by decide) (fun c_100 => ?_) (fun c_100 => ?_)
                      · skip
                        have c_100 : ¬ ((wmk P.W P.w t).testBit u = true) := pI_eq0.mp c_100
                        refine lv_iconst (v := nI 0) hx hb dX7_layOut_134 (by decide) ?_
                        refine lv_ior hx hb dX7_layOut_135 ?_
                        refine q_top (y := nI (mk (fun i => snd P.W i t ∧ P.W i 2 < cov P i t + P.S 3) (u + 1))) (by rw [nI_or]; refine congrArg nI ?_; rw [mk]; first | (rw [if_pos ⟨hbt, by omega⟩]; done) | (rw [if_neg (fun q9 => absurd q9.2 (by omega))]; exact Nat.or_zero _) | (rw [if_neg (fun q9 => c_100 (by rw [mk_bit]; exact decide_eq_true ⟨by omega, q9.1⟩))]; exact Nat.or_zero _)) ?_
                        refine q_nast hx hb hG hW hS hm43 (by omega) (by omega) dX7_layOut_136 (fun H locs hW hS hz136 => ?_)
                        obtain ⟨w18, ew18⟩ : ∃ wq__ : Wd, wq__ = va_up wb 43 (some (eN dA 120 (va_up (va_up (fun j => if j < t then mmk P j else M0 j) t (mk (fun i => snd P.W i t ∧ P.W i 2 < cov P i t + P.S 3) u)) t (mk (fun i => snd P.W i t ∧ P.W i 2 < cov P i t + P.S 3) (u + 1))))) := ⟨_, rfl⟩
                        replace hW : WP D b w18 H := by rw [ew18]; exact hW
                        have frw18 : ∀ id : Nat, id ≠ 43 → w18 id = wb id := fun id h9 => by rw [ew18, up_ne h9]
                        replace hm0 : w18 36 = some (modO b (sv) (nc) (th) (pl) (lt) (dn)) := (frw18 _ (by omega)).trans hm0
                        replace hm1 : w18 37 = some (eN dA 85 F) := (frw18 _ (by omega)).trans hm1
                        replace hm42 : w18 42 = some (eN dA 120 (fun j => if j < t + 1 then dk P j else D0 j)) := (frw18 _ (by omega)).trans hm42
                        replace hm43 : w18 43 = some (eN dA 120 (va_up (va_up (fun j => if j < t then mmk P j else M0 j) t (mk (fun i => snd P.W i t ∧ P.W i 2 < cov P i t + P.S 3) u)) t (mk (fun i => snd P.W i t ∧ P.W i 2 < cov P i t + P.S 3) (u + 1)))) := by rw [ew18]; exact up_eq
                        refine lv_iinc (v := nI (u + 1)) (lv' := [(4, .int (nI (u + 1))), (0, .ref (b + 36)), (1, .int (nI t)), (2, .int (nI (wmk P.W P.w t)))]) hx hb dX7_layOut_137 hl (k := 3) rfl (nI_add _ 1) (by decide) rfl (fun ls hl => ?_)
                        refine lv_goto (tgt := 76) hx hb dX7_layOut_140 (by decide) ?_
                        exact ih76 (u + 1) (by omega) (by omega) _ (by first | rfl | (congr 1; omega)) _ _ _ (by exact hm0) (by exact hm1) (by exact hm42) (by exact hm43.trans (eN_congr fun j => by unfold va_up; by_cases e9 : j = t <;> simp [e9])) (by intro id h9; rw [frw18 id (by omega)]; exact fr id h9) hW hS _ (lv_sub hl [1, 2, 3, 0] rfl)
                      · skip
                        have c_100 : (wmk P.W P.w t).testBit u = true := Decidable.byContradiction (fun h__ => c_100 (pI_eq0.mpr h__))
                        have hWu := hPW u (by omega)
                        have hcv := cov_le hP u t
                        have hbt : snd P.W u t := by rw [mk_bit] at c_100; exact (decide_eq_true_eq.mp c_100).2
                        refine lv_aload_n hx hb dX7_layOut_103 rfl (lv_at hl 0 rfl) ?_
                        refine lv_iload hx hb dX7_layOut_104 (lv_at hl 3 rfl) ?_
                        refine lv_iconst (v := nI 2) hx hb dX7_layOut_106 (by decide) ?_
                        refine q_R1 (va_runV (As := [.int (nI u), .int (nI 2)]) (rest := [.int (nI (mk (fun i => snd P.W i t ∧ P.W i 2 < cov P i t + P.S 3) u)), .int (nI t), .ref (b + 43)]) ⟨hx, hb, hml, hown, hts⟩ (c_ofW l hm0 hm1 hRp hP (u) (2) (by omega) (by omega)) (cwV 2 hts gX7_layOut_X7_ofWord rfl rfl rfl (by decide +kernel) ⟨Nat.le_of_ble_eq_true rfl, Nat.le_of_ble_eq_true rfl⟩) (q_preV hG hW hS hm0 rfl) rfl rfl hl.1 rfl (lv_room (Nat.le_of_ble_eq_true rfl)) dX7_layOut_107 ⟨Nat.le_of_ble_eq_true rfl, Nat.le_of_ble_eq_true rfl⟩) ?_
                        refine lv_aload_n hx hb dX7_layOut_110 rfl (lv_at hl 0 rfl) ?_
                        refine lv_iload hx hb dX7_layOut_111 (lv_at hl 3 rfl) ?_
                        refine lv_iload_n hx hb dX7_layOut_113 rfl (lv_at hl 1 rfl) ?_
                        refine q_R1 (va_runV (As := [.int (nI u), .int (nI t)]) (rest := [.int (nI (P.W u 2)), .int (nI (mk (fun i => snd P.W i t ∧ P.W i 2 < cov P i t + P.S 3) u)), .int (nI t), .ref (b + 43)]) ⟨hx, hb, hml, hown, hts⟩ (c_X7_cover l hm0 hm1 hRp hP hm42 (u) (t) (by omega) (by omega) hDK) (cwV 2 hts gX7_layOut_X7_cover rfl rfl rfl (by decide +kernel) ⟨Nat.le_of_ble_eq_true rfl, Nat.le_of_ble_eq_true rfl⟩) (q_preV hG hW hS hm0 rfl) rfl rfl hl.1 rfl (lv_room (Nat.le_of_ble_eq_true rfl)) dX7_layOut_114 ⟨Nat.le_of_ble_eq_true rfl, Nat.le_of_ble_eq_true rfl⟩) ?_
                        refine lv_aload_n hx hb dX7_layOut_117 rfl (lv_at hl 0 rfl) ?_
                        refine q_get hx hb hts hinX7 hown hG hW hm0 rfl 0 (by decide) (hts (.fieldLink RX7 7 "FoleyMixerModel" "s" "[I") (List.mem_of_getElem? (i := 2) rfl)) rfl rfl dX7_layOut_118 ?_
                        refine lv_iconst (v := nI 3) hx hb dX7_layOut_121 (by decide) ?_
                        refine q_iald hx hb hG hW hm1 (by omega) (by omega) dX7_layOut_122 ?_
                        refine q_top (y := nI (P.S 3)) (by exact congrArg nI (hRp.1 3 (by omega))) ?_
                        refine lv_iadd hx hb dX7_layOut_123 ?_
                        refine q_top (y := nI ((cov P u t) + (P.S 3))) (nI_add _ _) ?_
                        refine lv_icmp_ge (tgt := 134) hx hb dX7_layOut_124 (by decide) (fun c_124 => ?_) (fun c_124 => ?_)
                        · skip
                          have c_124 : (cov P u t) + (P.S 3) ≤ P.W u 2 := (nI_leI (a := (cov P u t) + (P.S 3)) (b := P.W u 2) (by omega) (by omega)).mp c_124
                          refine lv_iconst (v := nI 0) hx hb dX7_layOut_134 (by decide) ?_
                          refine lv_ior hx hb dX7_layOut_135 ?_
                          refine q_top (y := nI (mk (fun i => snd P.W i t ∧ P.W i 2 < cov P i t + P.S 3) (u + 1))) (by rw [nI_or]; refine congrArg nI ?_; rw [mk]; first | (rw [if_pos ⟨hbt, by omega⟩]; done) | (rw [if_neg (fun q9 => absurd q9.2 (by omega))]; exact Nat.or_zero _) | (rw [if_neg (fun q9 => c_100 (by rw [mk_bit]; exact decide_eq_true ⟨by omega, q9.1⟩))]; exact Nat.or_zero _)) ?_
                          refine q_nast hx hb hG hW hS hm43 (by omega) (by omega) dX7_layOut_136 (fun H locs hW hS hz136 => ?_)
                          obtain ⟨w19, ew19⟩ : ∃ wq__ : Wd, wq__ = va_up wb 43 (some (eN dA 120 (va_up (va_up (fun j => if j < t then mmk P j else M0 j) t (mk (fun i => snd P.W i t ∧ P.W i 2 < cov P i t + P.S 3) u)) t (mk (fun i => snd P.W i t ∧ P.W i 2 < cov P i t + P.S 3) (u + 1))))) := ⟨_, rfl⟩
                          replace hW : WP D b w19 H := by rw [ew19]; exact hW
                          have frw19 : ∀ id : Nat, id ≠ 43 → w19 id = wb id := fun id h9 => by rw [ew19, up_ne h9]
                          replace hm0 : w19 36 = some (modO b (sv) (nc) (th) (pl) (lt) (dn)) := (frw19 _ (by omega)).trans hm0
                          replace hm1 : w19 37 = some (eN dA 85 F) := (frw19 _ (by omega)).trans hm1
                          replace hm42 : w19 42 = some (eN dA 120 (fun j => if j < t + 1 then dk P j else D0 j)) := (frw19 _ (by omega)).trans hm42
                          replace hm43 : w19 43 = some (eN dA 120 (va_up (va_up (fun j => if j < t then mmk P j else M0 j) t (mk (fun i => snd P.W i t ∧ P.W i 2 < cov P i t + P.S 3) u)) t (mk (fun i => snd P.W i t ∧ P.W i 2 < cov P i t + P.S 3) (u + 1)))) := by rw [ew19]; exact up_eq
                          refine lv_iinc (v := nI (u + 1)) (lv' := [(4, .int (nI (u + 1))), (0, .ref (b + 36)), (1, .int (nI t)), (2, .int (nI (wmk P.W P.w t)))]) hx hb dX7_layOut_137 hl (k := 3) rfl (nI_add _ 1) (by decide) rfl (fun ls hl => ?_)
                          refine lv_goto (tgt := 76) hx hb dX7_layOut_140 (by decide) ?_
                          exact ih76 (u + 1) (by omega) (by omega) _ (by first | rfl | (congr 1; omega)) _ _ _ (by exact hm0) (by exact hm1) (by exact hm42) (by exact hm43.trans (eN_congr fun j => by unfold va_up; by_cases e9 : j = t <;> simp [e9])) (by intro id h9; rw [frw19 id (by omega)]; exact fr id h9) hW hS _ (lv_sub hl [1, 2, 3, 0] rfl)
                        · skip
                          have c_124 : ¬ ((cov P u t) + (P.S 3) ≤ P.W u 2) := fun h__ => c_124 ((nI_leI (a := (cov P u t) + (P.S 3)) (b := P.W u 2) (by omega) (by omega)).mpr h__)
                          refine lv_iconst (v := nI 1) hx hb dX7_layOut_127 (by decide) ?_
                          refine lv_iload hx hb dX7_layOut_128 (lv_at hl 3 rfl) ?_
                          refine lv_ishl hx hb dX7_layOut_130 ?_
                          refine q_top (y := nI (2 ^ u)) (by exact nI_shl1 (by omega)) ?_
                          refine lv_goto (tgt := 135) hx hb dX7_layOut_131 (by decide) ?_
                          refine lv_ior hx hb dX7_layOut_135 ?_
                          refine q_top (y := nI (mk (fun i => snd P.W i t ∧ P.W i 2 < cov P i t + P.S 3) (u + 1))) (by rw [nI_or]; refine congrArg nI ?_; rw [mk]; first | (rw [if_pos ⟨hbt, by omega⟩]; done) | (rw [if_neg (fun q9 => absurd q9.2 (by omega))]; exact Nat.or_zero _) | (rw [if_neg (fun q9 => c_100 (by rw [mk_bit]; exact decide_eq_true ⟨by omega, q9.1⟩))]; exact Nat.or_zero _)) ?_
                          refine q_nast hx hb hG hW hS hm43 (by omega) (by omega) dX7_layOut_136 (fun H locs hW hS hz136 => ?_)
                          obtain ⟨w20, ew20⟩ : ∃ wq__ : Wd, wq__ = va_up wb 43 (some (eN dA 120 (va_up (va_up (fun j => if j < t then mmk P j else M0 j) t (mk (fun i => snd P.W i t ∧ P.W i 2 < cov P i t + P.S 3) u)) t (mk (fun i => snd P.W i t ∧ P.W i 2 < cov P i t + P.S 3) (u + 1))))) := ⟨_, rfl⟩
                          replace hW : WP D b w20 H := by rw [ew20]; exact hW
                          have frw20 : ∀ id : Nat, id ≠ 43 → w20 id = wb id := fun id h9 => by rw [ew20, up_ne h9]
                          replace hm0 : w20 36 = some (modO b (sv) (nc) (th) (pl) (lt) (dn)) := (frw20 _ (by omega)).trans hm0
                          replace hm1 : w20 37 = some (eN dA 85 F) := (frw20 _ (by omega)).trans hm1
                          replace hm42 : w20 42 = some (eN dA 120 (fun j => if j < t + 1 then dk P j else D0 j)) := (frw20 _ (by omega)).trans hm42
                          replace hm43 : w20 43 = some (eN dA 120 (va_up (va_up (fun j => if j < t then mmk P j else M0 j) t (mk (fun i => snd P.W i t ∧ P.W i 2 < cov P i t + P.S 3) u)) t (mk (fun i => snd P.W i t ∧ P.W i 2 < cov P i t + P.S 3) (u + 1)))) := by rw [ew20]; exact up_eq
                          refine lv_iinc (v := nI (u + 1)) (lv' := [(4, .int (nI (u + 1))), (0, .ref (b + 36)), (1, .int (nI t)), (2, .int (nI (wmk P.W P.w t)))]) hx hb dX7_layOut_137 hl (k := 3) rfl (nI_add _ 1) (by decide) rfl (fun ls hl => ?_)
                          refine lv_goto (tgt := 76) hx hb dX7_layOut_140 (by decide) ?_
                          exact ih76 (u + 1) (by omega) (by omega) _ (by first | rfl | (congr 1; omega)) _ _ _ (by exact hm0) (by exact hm1) (by exact hm42) (by exact hm43.trans (eN_congr fun j => by unfold va_up; by_cases e9 : j = t <;> simp [e9])) (by intro id h9; rw [frw20 id (by omega)]; exact fr id h9) hW hS _ (lv_sub hl [1, 2, 3, 0] rfl)
                exact L76 ((P.w - 0) + 1) 0 (by omega) (Nat.lt_succ_self _) _ (by first | rfl | (congr 1; omega)) _ _ _ (by exact hm0) (by exact hm1) (by exact hm42) (by exact hm43) (by intro id h9; rw [frw17 id (by omega)]; rw [frw16 id (by omega)]; exact fr id h9) hW hS _ (lv_sub hl [3, 4, 2, 0] rfl)
            · skip
              have c_44 : ¬ ((wmk P.W P.w t) = 0) := fun h__ => c_44 ((nI_eq0 (i := wmk P.W P.w t) (by omega)).mpr h__)
              refine lv_aload_n hx hb dX7_layOut_47 rfl (lv_at hl 2 rfl) ?_
              refine q_get hx hb hts hinX7 hown hG hW hm0 rfl 0 (by decide) (hts (.fieldLink RX7 7 "FoleyMixerModel" "s" "[I") (List.mem_of_getElem? (i := 2) rfl)) rfl rfl dX7_layOut_48 ?_
              refine lv_iconst (v := nI 0) hx hb dX7_layOut_51 (by decide) ?_
              refine q_iald hx hb hG hW hm1 (by omega) (by omega) dX7_layOut_52 ?_
              refine lv_goto (tgt := 65) hx hb dX7_layOut_53 (by decide) ?_
              refine q_top (y := nI (dk P t)) (by refine congrArg nI ?_; rw [dk_step]; first | (rw [if_neg c_44]; exact hRp.1 0 (by omega)) | (rw [if_pos c_44] <;> omega)) ?_
              refine q_nast hx hb hG hW hS hm42 (by omega) (by omega) dX7_layOut_65 (fun H locs hW hS hz65 => ?_)
              obtain ⟨w21, ew21⟩ : ∃ wq__ : Wd, wq__ = va_up wa 42 (some (eN dA 120 (va_up (fun j => if j < t then dk P j else D0 j) t (dk P t)))) := ⟨_, rfl⟩
              replace hW : WP D b w21 H := by rw [ew21]; exact hW
              have frw21 : ∀ id : Nat, id ≠ 42 → w21 id = wa id := fun id h9 => by rw [ew21, up_ne h9]
              replace hm0 : w21 36 = some (modO b (sv) (nc) (th) (pl) (lt) (dn)) := (frw21 _ (by omega)).trans hm0
              replace hm1 : w21 37 = some (eN dA 85 F) := (frw21 _ (by omega)).trans hm1
              replace hm43 : w21 43 = some (eN dA 120 (fun j => if j < t then mmk P j else M0 j)) := (frw21 _ (by omega)).trans hm43
              replace hm42 : w21 42 = some (eN dA 120 (va_up (fun j => if j < t then dk P j else D0 j) t (dk P t))) := by rw [ew21]; exact up_eq
              replace hm42 := hm42.trans (eN_congr (fill_step (f := dk P) rfl))
              refine lv_aload_n hx hb dX7_layOut_66 rfl (lv_at hl 2 rfl) ?_
              refine q_get hx hb hts hinX7 hown hG hW hm0 rfl 9 (by decide) (hts (.fieldLink RX7 29 "FoleyMixerModel" "masked" "[I") (List.mem_of_getElem? (i := 3) rfl)) rfl rfl dX7_layOut_67 ?_
              refine lv_iload_n hx hb dX7_layOut_70 rfl (lv_at hl 3 rfl) ?_
              refine lv_iconst (v := nI 0) hx hb dX7_layOut_71 (by decide) ?_
              refine q_nast hx hb hG hW hS hm43 (by omega) (by omega) dX7_layOut_72 (fun H locs hW hS hz72 => ?_)
              obtain ⟨w22, ew22⟩ : ∃ wq__ : Wd, wq__ = va_up w21 43 (some (eN dA 120 (va_up (fun j => if j < t then mmk P j else M0 j) t 0))) := ⟨_, rfl⟩
              replace hW : WP D b w22 H := by rw [ew22]; exact hW
              have frw22 : ∀ id : Nat, id ≠ 43 → w22 id = w21 id := fun id h9 => by rw [ew22, up_ne h9]
              replace hm0 : w22 36 = some (modO b (sv) (nc) (th) (pl) (lt) (dn)) := (frw22 _ (by omega)).trans hm0
              replace hm1 : w22 37 = some (eN dA 85 F) := (frw22 _ (by omega)).trans hm1
              replace hm42 : w22 42 = some (eN dA 120 (fun j => if j < t + 1 then dk P j else D0 j)) := (frw22 _ (by omega)).trans hm42
              replace hm43 : w22 43 = some (eN dA 120 (va_up (fun j => if j < t then mmk P j else M0 j) t 0)) := by rw [ew22]; exact up_eq
              refine lv_iconst (v := nI 0) hx hb dX7_layOut_73 (by decide) ?_
              refine lv_istore (lv' := [(4, .int (nI 0)), (3, .int ((nI (pdk P t)) - (nI (P.S 1)))), (2, .int (nI (wmk P.W P.w t))), (0, .ref (b + 36)), (1, .int (nI t))]) hx hb dX7_layOut_74 hl (by decide) rfl (fun ls hl => ?_)
              have L76 : ∀ (n76 : Nat) (u : Nat), u ≤ P.w → P.w - u < n76 → ∀ (x76_4 : Int32), x76_4 = nI (u) → ∀ (wb : Wd) (H : Heap) (locs : List Loc), wb 36 = some (modO b sv nc th pl lt dn) → wb 37 = some (eN dA 85 F) → wb 42 = some (eN dA 120 (fun j => if j < t + 1 then dk P j else D0 j)) → (wb 43 = some (eN dA 120 (va_up (fun j => if j < t then mmk P j else M0 j) t (mk (fun i => snd P.W i t ∧ P.W i 2 < cov P i t + P.S 3) u)))) → (∀ id : Nat, id ≠ 42 ∧ id ≠ 43 → wb id = w id) → WP D b wb H → va_S (Fb b) s.heap H locs → ∀ (ls : Array Slot), lv_has ls 5 [(0, .ref (b + 36)), (1, .int (nI t)), (2, .int (nI (wmk P.W P.w t))), (4, .int x76_4)] → W p l e ({ frames := 5, cells := 0, slots := 0, locals := 117 } : Room) s m args below meth c H locs 0 0 (MQ below (QW D b (none) (fun w' => w' 42 = some (eN dA 120 (dk P)) ∧ w' 43 = some (eN dA 120 (mmk P)) ∧ ∀ id : Nat, id ≠ 42 ∧ id ≠ 43 → w' id = w id)) args s 0 0 (Fb b)) (F0 m 76 ls []) := by
                intro n76
                induction n76 with
                | zero =>
                  intro u hu0 hn76 x76_4 ex76_4 wb H locs hm0 hm1 hm42 hm43 fr hW hS ls hl
                  exact absurd hn76 (Nat.not_lt_zero _)
                | succ n76 ih76 =>
                  intro u hu0 hn76 x76_4 ex76_4 wb H locs hm0 hm1 hm42 hm43 fr hW hS ls hl
                  subst ex76_4
                  have hDK : (fun j => if j < t + 1 then dk P j else D0 j) t = dk P t := if_pos (by omega)
                  have hS3 := hPS.2.2.2.2.1
                  refine lv_iload hx hb dX7_layOut_76 (lv_at hl 3 rfl) ?_
                  refine lv_aload_n hx hb dX7_layOut_78 rfl (lv_at hl 0 rfl) ?_
                  refine q_get hx hb hts hinX7 hown hG hW hm0 rfl 0 (by decide) (hts (.fieldLink RX7 7 "FoleyMixerModel" "s" "[I") (List.mem_of_getElem? (i := 2) rfl)) rfl rfl dX7_layOut_79 ?_
                  refine lv_iconst (v := nI 5) hx hb dX7_layOut_82 (by decide) ?_
                  refine q_iald hx hb hG hW hm1 (by omega) (by omega) dX7_layOut_83 ?_
                  refine q_top (y := nI (P.w)) (by exact congrArg nI hr5) ?_
                  refine lv_icmp_ge (tgt := 143) hx hb dX7_layOut_84 (by decide) (fun c_84 => ?_) (fun c_84 => ?_)
                  · skip
                    have c_84 : P.w ≤ u := (nI_leI (a := P.w) (b := u) (by omega) (by omega)).mp c_84
                    refine lv_iinc (v := nI (t + 1)) (lv' := [(1, .int (nI (t + 1))), (0, .ref (b + 36)), (2, .int (nI (wmk P.W P.w t))), (4, .int (nI u))]) hx hb dX7_layOut_143 hl (k := 1) rfl (nI_add _ 1) (by decide) rfl (fun ls hl => ?_)
                    refine lv_goto (tgt := 2) hx hb dX7_layOut_146 (by decide) ?_
                    exact ih2 (t + 1) (by omega) (by omega) _ (by first | rfl | (congr 1; omega)) _ _ _ (by exact hm0) (by exact hm1) (by exact hm42) (by exact hm43.trans (eN_congr (fill_step (f := mmk P) (by rw [show u = P.w by omega]; rfl)))) (by intro id h9; exact fr id h9) hW hS _ (lv_sub hl [1, 0] rfl)
                  · skip
                    have c_84 : ¬ (P.w ≤ u) := fun h__ => c_84 ((nI_leI (a := P.w) (b := u) (by omega) (by omega)).mpr h__)
                    refine lv_aload_n hx hb dX7_layOut_87 rfl (lv_at hl 0 rfl) ?_
                    refine q_get hx hb hts hinX7 hown hG hW hm0 rfl 9 (by decide) (hts (.fieldLink RX7 29 "FoleyMixerModel" "masked" "[I") (List.mem_of_getElem? (i := 3) rfl)) rfl rfl dX7_layOut_88 ?_
                    refine lv_iload_n hx hb dX7_layOut_91 rfl (lv_at hl 1 rfl) ?_
                    refine lv_dup2_11 hx hb dX7_layOut_92 rfl rfl ?_
                    refine q_iald hx hb hG hW hm43 (by omega) (by omega) dX7_layOut_93 ?_
                    refine q_top (y := nI (mk (fun i => snd P.W i t ∧ P.W i 2 < cov P i t + P.S 3) u)) (by refine congrArg nI ?_; unfold va_up; exact if_pos rfl) ?_
                    refine lv_iload_n hx hb dX7_layOut_94 rfl (lv_at hl 2 rfl) ?_
                    refine lv_iload hx hb dX7_layOut_95 (lv_at hl 3 rfl) ?_
                    refine q_R1 (va_runS (As := [.int (nI (wmk P.W P.w t)), .int (nI u)]) (rest := [.int (nI (mk (fun i => snd P.W i t ∧ P.W i 2 < cov P i t + P.S 3) u)), .int (nI t), .ref (b + 43)]) ⟨hx, hb, hml, hown, hts⟩ (c_X7_has l (wmk P.W P.w t) (u) (by omega) (by omega)) (va_cwS 2 hts gX7_layOut_X7_has rfl rfl rfl (by decide +kernel) ⟨Nat.le_of_ble_eq_true rfl, Nat.le_of_ble_eq_true rfl⟩) (q_preS hG hW hS) rfl rfl hl.1 rfl (lv_room (Nat.le_of_ble_eq_true rfl)) dX7_layOut_97 ⟨Nat.le_of_ble_eq_true rfl, Nat.le_of_ble_eq_true rfl⟩) ?_
                    refine lv_if_eq (tgt := 134) hx hb dX7_layOut_100 (by decide) (fun c_100 => ?_) (fun c_100 => ?_)
                    · skip
                      have c_100 : ¬ ((wmk P.W P.w t).testBit u = true) := pI_eq0.mp c_100
                      refine lv_iconst (v := nI 0) hx hb dX7_layOut_134 (by decide) ?_
                      refine lv_ior hx hb dX7_layOut_135 ?_
                      refine q_top (y := nI (mk (fun i => snd P.W i t ∧ P.W i 2 < cov P i t + P.S 3) (u + 1))) (by rw [nI_or]; refine congrArg nI ?_; rw [mk]; first | (rw [if_pos ⟨hbt, by omega⟩]; done) | (rw [if_neg (fun q9 => absurd q9.2 (by omega))]; exact Nat.or_zero _) | (rw [if_neg (fun q9 => c_100 (by rw [mk_bit]; exact decide_eq_true ⟨by omega, q9.1⟩))]; exact Nat.or_zero _)) ?_
                      refine q_nast hx hb hG hW hS hm43 (by omega) (by omega) dX7_layOut_136 (fun H locs hW hS hz136 => ?_)
                      obtain ⟨w23, ew23⟩ : ∃ wq__ : Wd, wq__ = va_up wb 43 (some (eN dA 120 (va_up (va_up (fun j => if j < t then mmk P j else M0 j) t (mk (fun i => snd P.W i t ∧ P.W i 2 < cov P i t + P.S 3) u)) t (mk (fun i => snd P.W i t ∧ P.W i 2 < cov P i t + P.S 3) (u + 1))))) := ⟨_, rfl⟩
                      replace hW : WP D b w23 H := by rw [ew23]; exact hW
                      have frw23 : ∀ id : Nat, id ≠ 43 → w23 id = wb id := fun id h9 => by rw [ew23, up_ne h9]
                      replace hm0 : w23 36 = some (modO b (sv) (nc) (th) (pl) (lt) (dn)) := (frw23 _ (by omega)).trans hm0
                      replace hm1 : w23 37 = some (eN dA 85 F) := (frw23 _ (by omega)).trans hm1
                      replace hm42 : w23 42 = some (eN dA 120 (fun j => if j < t + 1 then dk P j else D0 j)) := (frw23 _ (by omega)).trans hm42
                      replace hm43 : w23 43 = some (eN dA 120 (va_up (va_up (fun j => if j < t then mmk P j else M0 j) t (mk (fun i => snd P.W i t ∧ P.W i 2 < cov P i t + P.S 3) u)) t (mk (fun i => snd P.W i t ∧ P.W i 2 < cov P i t + P.S 3) (u + 1)))) := by rw [ew23]; exact up_eq
                      refine lv_iinc (v := nI (u + 1)) (lv' := [(4, .int (nI (u + 1))), (0, .ref (b + 36)), (1, .int (nI t)), (2, .int (nI (wmk P.W P.w t)))]) hx hb dX7_layOut_137 hl (k := 3) rfl (nI_add _ 1) (by decide) rfl (fun ls hl => ?_)
                      refine lv_goto (tgt := 76) hx hb dX7_layOut_140 (by decide) ?_
                      exact ih76 (u + 1) (by omega) (by omega) _ (by first | rfl | (congr 1; omega)) _ _ _ (by exact hm0) (by exact hm1) (by exact hm42) (by exact hm43.trans (eN_congr fun j => by unfold va_up; by_cases e9 : j = t <;> simp [e9])) (by intro id h9; rw [frw23 id (by omega)]; exact fr id h9) hW hS _ (lv_sub hl [1, 2, 3, 0] rfl)
                    · skip
                      have c_100 : (wmk P.W P.w t).testBit u = true := Decidable.byContradiction (fun h__ => c_100 (pI_eq0.mpr h__))
                      have hWu := hPW u (by omega)
                      have hcv := cov_le hP u t
                      have hbt : snd P.W u t := by rw [mk_bit] at c_100; exact (decide_eq_true_eq.mp c_100).2
                      refine lv_aload_n hx hb dX7_layOut_103 rfl (lv_at hl 0 rfl) ?_
                      refine lv_iload hx hb dX7_layOut_104 (lv_at hl 3 rfl) ?_
                      refine lv_iconst (v := nI 2) hx hb dX7_layOut_106 (by decide) ?_
                      refine q_R1 (va_runV (As := [.int (nI u), .int (nI 2)]) (rest := [.int (nI (mk (fun i => snd P.W i t ∧ P.W i 2 < cov P i t + P.S 3) u)), .int (nI t), .ref (b + 43)]) ⟨hx, hb, hml, hown, hts⟩ (c_ofW l hm0 hm1 hRp hP (u) (2) (by omega) (by omega)) (cwV 2 hts gX7_layOut_X7_ofWord rfl rfl rfl (by decide +kernel) ⟨Nat.le_of_ble_eq_true rfl, Nat.le_of_ble_eq_true rfl⟩) (q_preV hG hW hS hm0 rfl) rfl rfl hl.1 rfl (lv_room (Nat.le_of_ble_eq_true rfl)) dX7_layOut_107 ⟨Nat.le_of_ble_eq_true rfl, Nat.le_of_ble_eq_true rfl⟩) ?_
                      refine lv_aload_n hx hb dX7_layOut_110 rfl (lv_at hl 0 rfl) ?_
                      refine lv_iload hx hb dX7_layOut_111 (lv_at hl 3 rfl) ?_
                      refine lv_iload_n hx hb dX7_layOut_113 rfl (lv_at hl 1 rfl) ?_
                      refine q_R1 (va_runV (As := [.int (nI u), .int (nI t)]) (rest := [.int (nI (P.W u 2)), .int (nI (mk (fun i => snd P.W i t ∧ P.W i 2 < cov P i t + P.S 3) u)), .int (nI t), .ref (b + 43)]) ⟨hx, hb, hml, hown, hts⟩ (c_X7_cover l hm0 hm1 hRp hP hm42 (u) (t) (by omega) (by omega) hDK) (cwV 2 hts gX7_layOut_X7_cover rfl rfl rfl (by decide +kernel) ⟨Nat.le_of_ble_eq_true rfl, Nat.le_of_ble_eq_true rfl⟩) (q_preV hG hW hS hm0 rfl) rfl rfl hl.1 rfl (lv_room (Nat.le_of_ble_eq_true rfl)) dX7_layOut_114 ⟨Nat.le_of_ble_eq_true rfl, Nat.le_of_ble_eq_true rfl⟩) ?_
                      refine lv_aload_n hx hb dX7_layOut_117 rfl (lv_at hl 0 rfl) ?_
                      refine q_get hx hb hts hinX7 hown hG hW hm0 rfl 0 (by decide) (hts (.fieldLink RX7 7 "FoleyMixerModel" "s" "[I") (List.mem_of_getElem? (i := 2) rfl)) rfl rfl dX7_layOut_118 ?_
                      refine lv_iconst (v := nI 3) hx hb dX7_layOut_121 (by decide) ?_
                      refine q_iald hx hb hG hW hm1 (by omega) (by omega) dX7_layOut_122 ?_
                      refine q_top (y := nI (P.S 3)) (by exact congrArg nI (hRp.1 3 (by omega))) ?_
                      refine lv_iadd hx hb dX7_layOut_123 ?_
                      refine q_top (y := nI ((cov P u t) + (P.S 3))) (nI_add _ _) ?_
                      refine lv_icmp_ge (tgt := 134) hx hb dX7_layOut_124 (by decide) (fun c_124 => ?_) (fun c_124 => ?_)
                      · skip
                        have c_124 : (cov P u t) + (P.S 3) ≤ P.W u 2 := (nI_leI (a := (cov P u t) + (P.S 3)) (b := P.W u 2) (by omega) (by omega)).mp c_124
                        refine lv_iconst (v := nI 0) hx hb dX7_layOut_134 (by decide) ?_
                        refine lv_ior hx hb dX7_layOut_135 ?_
                        refine q_top (y := nI (mk (fun i => snd P.W i t ∧ P.W i 2 < cov P i t + P.S 3) (u + 1))) (by rw [nI_or]; refine congrArg nI ?_; rw [mk]; first | (rw [if_pos ⟨hbt, by omega⟩]; done) | (rw [if_neg (fun q9 => absurd q9.2 (by omega))]; exact Nat.or_zero _) | (rw [if_neg (fun q9 => c_100 (by rw [mk_bit]; exact decide_eq_true ⟨by omega, q9.1⟩))]; exact Nat.or_zero _)) ?_
                        refine q_nast hx hb hG hW hS hm43 (by omega) (by omega) dX7_layOut_136 (fun H locs hW hS hz136 => ?_)
                        obtain ⟨w24, ew24⟩ : ∃ wq__ : Wd, wq__ = va_up wb 43 (some (eN dA 120 (va_up (va_up (fun j => if j < t then mmk P j else M0 j) t (mk (fun i => snd P.W i t ∧ P.W i 2 < cov P i t + P.S 3) u)) t (mk (fun i => snd P.W i t ∧ P.W i 2 < cov P i t + P.S 3) (u + 1))))) := ⟨_, rfl⟩
                        replace hW : WP D b w24 H := by rw [ew24]; exact hW
                        have frw24 : ∀ id : Nat, id ≠ 43 → w24 id = wb id := fun id h9 => by rw [ew24, up_ne h9]
                        replace hm0 : w24 36 = some (modO b (sv) (nc) (th) (pl) (lt) (dn)) := (frw24 _ (by omega)).trans hm0
                        replace hm1 : w24 37 = some (eN dA 85 F) := (frw24 _ (by omega)).trans hm1
                        replace hm42 : w24 42 = some (eN dA 120 (fun j => if j < t + 1 then dk P j else D0 j)) := (frw24 _ (by omega)).trans hm42
                        replace hm43 : w24 43 = some (eN dA 120 (va_up (va_up (fun j => if j < t then mmk P j else M0 j) t (mk (fun i => snd P.W i t ∧ P.W i 2 < cov P i t + P.S 3) u)) t (mk (fun i => snd P.W i t ∧ P.W i 2 < cov P i t + P.S 3) (u + 1)))) := by rw [ew24]; exact up_eq
                        refine lv_iinc (v := nI (u + 1)) (lv' := [(4, .int (nI (u + 1))), (0, .ref (b + 36)), (1, .int (nI t)), (2, .int (nI (wmk P.W P.w t)))]) hx hb dX7_layOut_137 hl (k := 3) rfl (nI_add _ 1) (by decide) rfl (fun ls hl => ?_)
                        refine lv_goto (tgt := 76) hx hb dX7_layOut_140 (by decide) ?_
                        exact ih76 (u + 1) (by omega) (by omega) _ (by first | rfl | (congr 1; omega)) _ _ _ (by exact hm0) (by exact hm1) (by exact hm42) (by exact hm43.trans (eN_congr fun j => by unfold va_up; by_cases e9 : j = t <;> simp [e9])) (by intro id h9; rw [frw24 id (by omega)]; exact fr id h9) hW hS _ (lv_sub hl [1, 2, 3, 0] rfl)
                      · skip
                        have c_124 : ¬ ((cov P u t) + (P.S 3) ≤ P.W u 2) := fun h__ => c_124 ((nI_leI (a := (cov P u t) + (P.S 3)) (b := P.W u 2) (by omega) (by omega)).mpr h__)
                        refine lv_iconst (v := nI 1) hx hb dX7_layOut_127 (by decide) ?_
                        refine lv_iload hx hb dX7_layOut_128 (lv_at hl 3 rfl) ?_
                        refine lv_ishl hx hb dX7_layOut_130 ?_
                        refine q_top (y := nI (2 ^ u)) (by exact nI_shl1 (by omega)) ?_
                        refine lv_goto (tgt := 135) hx hb dX7_layOut_131 (by decide) ?_
                        refine lv_ior hx hb dX7_layOut_135 ?_
                        refine q_top (y := nI (mk (fun i => snd P.W i t ∧ P.W i 2 < cov P i t + P.S 3) (u + 1))) (by rw [nI_or]; refine congrArg nI ?_; rw [mk]; first | (rw [if_pos ⟨hbt, by omega⟩]; done) | (rw [if_neg (fun q9 => absurd q9.2 (by omega))]; exact Nat.or_zero _) | (rw [if_neg (fun q9 => c_100 (by rw [mk_bit]; exact decide_eq_true ⟨by omega, q9.1⟩))]; exact Nat.or_zero _)) ?_
                        refine q_nast hx hb hG hW hS hm43 (by omega) (by omega) dX7_layOut_136 (fun H locs hW hS hz136 => ?_)
                        obtain ⟨w25, ew25⟩ : ∃ wq__ : Wd, wq__ = va_up wb 43 (some (eN dA 120 (va_up (va_up (fun j => if j < t then mmk P j else M0 j) t (mk (fun i => snd P.W i t ∧ P.W i 2 < cov P i t + P.S 3) u)) t (mk (fun i => snd P.W i t ∧ P.W i 2 < cov P i t + P.S 3) (u + 1))))) := ⟨_, rfl⟩
                        replace hW : WP D b w25 H := by rw [ew25]; exact hW
                        have frw25 : ∀ id : Nat, id ≠ 43 → w25 id = wb id := fun id h9 => by rw [ew25, up_ne h9]
                        replace hm0 : w25 36 = some (modO b (sv) (nc) (th) (pl) (lt) (dn)) := (frw25 _ (by omega)).trans hm0
                        replace hm1 : w25 37 = some (eN dA 85 F) := (frw25 _ (by omega)).trans hm1
                        replace hm42 : w25 42 = some (eN dA 120 (fun j => if j < t + 1 then dk P j else D0 j)) := (frw25 _ (by omega)).trans hm42
                        replace hm43 : w25 43 = some (eN dA 120 (va_up (va_up (fun j => if j < t then mmk P j else M0 j) t (mk (fun i => snd P.W i t ∧ P.W i 2 < cov P i t + P.S 3) u)) t (mk (fun i => snd P.W i t ∧ P.W i 2 < cov P i t + P.S 3) (u + 1)))) := by rw [ew25]; exact up_eq
                        refine lv_iinc (v := nI (u + 1)) (lv' := [(4, .int (nI (u + 1))), (0, .ref (b + 36)), (1, .int (nI t)), (2, .int (nI (wmk P.W P.w t)))]) hx hb dX7_layOut_137 hl (k := 3) rfl (nI_add _ 1) (by decide) rfl (fun ls hl => ?_)
                        refine lv_goto (tgt := 76) hx hb dX7_layOut_140 (by decide) ?_
                        exact ih76 (u + 1) (by omega) (by omega) _ (by first | rfl | (congr 1; omega)) _ _ _ (by exact hm0) (by exact hm1) (by exact hm42) (by exact hm43.trans (eN_congr fun j => by unfold va_up; by_cases e9 : j = t <;> simp [e9])) (by intro id h9; rw [frw25 id (by omega)]; exact fr id h9) hW hS _ (lv_sub hl [1, 2, 3, 0] rfl)
              exact L76 ((P.w - 0) + 1) 0 (by omega) (Nat.lt_succ_self _) _ (by first | rfl | (congr 1; omega)) _ _ _ (by exact hm0) (by exact hm1) (by exact hm42) (by exact hm43) (by intro id h9; rw [frw22 id (by omega)]; rw [frw21 id (by omega)]; exact fr id h9) hW hS _ (lv_sub hl [3, 4, 2, 0] rfl)
        · skip
          have c_15 : t = 0 := (nI_eq0 (i := t) (by omega)).mp c_15
          refine lv_iconst (v := nI 0) hx hb dX7_layOut_18 (by decide) ?_
          refine lv_goto (tgt := 37) hx hb dX7_layOut_19 (by decide) ?_
          refine lv_istore_n (lv' := [(3, .int (nI 0)), (2, .int (nI (wmk P.W P.w t))), (0, .ref (b + 36)), (1, .int (nI t))]) hx hb dX7_layOut_37 rfl hl (by decide) rfl (fun ls hl => ?_)
          refine lv_aload_n hx hb dX7_layOut_38 rfl (lv_at hl 2 rfl) ?_
          refine q_get hx hb hts hinX7 hown hG hW hm0 rfl 8 (by decide) (hts (.fieldLink RX7 26 "FoleyMixerModel" "ducking" "[I") (List.mem_of_getElem? (i := 1) rfl)) rfl rfl dX7_layOut_39 ?_
          refine lv_iload_n hx hb dX7_layOut_42 rfl (lv_at hl 3 rfl) ?_
          refine lv_iload_n hx hb dX7_layOut_43 rfl (lv_at hl 1 rfl) ?_
          refine lv_if_eq (tgt := 56) hx hb dX7_layOut_44 (by decide) (fun c_44 => ?_) (fun c_44 => ?_)
          · skip
            have c_44 : (wmk P.W P.w t) = 0 := (nI_eq0 (i := wmk P.W P.w t) (by omega)).mp c_44
            refine lv_iload_n hx hb dX7_layOut_56 rfl (lv_at hl 0 rfl) ?_
            refine lv_if_ge (tgt := 64) hx hb dX7_layOut_57 (by decide) (fun c_57 => ?_) (fun c_57 => ?_)
            · skip
              have c_57 : 0 ≤ 0 := (nI_0le (i := 0) (by omega)).mp c_57
              refine lv_iload_n hx hb dX7_layOut_64 rfl (lv_at hl 0 rfl) ?_
              refine q_top (y := nI (dk P t)) (by refine congrArg nI ?_; rw [dk_step]; first | (rw [if_neg c_44]; exact hRp.1 0 (by omega)) | (rw [if_pos c_44] <;> omega)) ?_
              refine q_nast hx hb hG hW hS hm42 (by omega) (by omega) dX7_layOut_65 (fun H locs hW hS hz65 => ?_)
              obtain ⟨w26, ew26⟩ : ∃ wq__ : Wd, wq__ = va_up wa 42 (some (eN dA 120 (va_up (fun j => if j < t then dk P j else D0 j) t (dk P t)))) := ⟨_, rfl⟩
              replace hW : WP D b w26 H := by rw [ew26]; exact hW
              have frw26 : ∀ id : Nat, id ≠ 42 → w26 id = wa id := fun id h9 => by rw [ew26, up_ne h9]
              replace hm0 : w26 36 = some (modO b (sv) (nc) (th) (pl) (lt) (dn)) := (frw26 _ (by omega)).trans hm0
              replace hm1 : w26 37 = some (eN dA 85 F) := (frw26 _ (by omega)).trans hm1
              replace hm43 : w26 43 = some (eN dA 120 (fun j => if j < t then mmk P j else M0 j)) := (frw26 _ (by omega)).trans hm43
              replace hm42 : w26 42 = some (eN dA 120 (va_up (fun j => if j < t then dk P j else D0 j) t (dk P t))) := by rw [ew26]; exact up_eq
              replace hm42 := hm42.trans (eN_congr (fill_step (f := dk P) rfl))
              refine lv_aload_n hx hb dX7_layOut_66 rfl (lv_at hl 2 rfl) ?_
              refine q_get hx hb hts hinX7 hown hG hW hm0 rfl 9 (by decide) (hts (.fieldLink RX7 29 "FoleyMixerModel" "masked" "[I") (List.mem_of_getElem? (i := 3) rfl)) rfl rfl dX7_layOut_67 ?_
              refine lv_iload_n hx hb dX7_layOut_70 rfl (lv_at hl 3 rfl) ?_
              refine lv_iconst (v := nI 0) hx hb dX7_layOut_71 (by decide) ?_
              refine q_nast hx hb hG hW hS hm43 (by omega) (by omega) dX7_layOut_72 (fun H locs hW hS hz72 => ?_)
              obtain ⟨w27, ew27⟩ : ∃ wq__ : Wd, wq__ = va_up w26 43 (some (eN dA 120 (va_up (fun j => if j < t then mmk P j else M0 j) t 0))) := ⟨_, rfl⟩
              replace hW : WP D b w27 H := by rw [ew27]; exact hW
              have frw27 : ∀ id : Nat, id ≠ 43 → w27 id = w26 id := fun id h9 => by rw [ew27, up_ne h9]
              replace hm0 : w27 36 = some (modO b (sv) (nc) (th) (pl) (lt) (dn)) := (frw27 _ (by omega)).trans hm0
              replace hm1 : w27 37 = some (eN dA 85 F) := (frw27 _ (by omega)).trans hm1
              replace hm42 : w27 42 = some (eN dA 120 (fun j => if j < t + 1 then dk P j else D0 j)) := (frw27 _ (by omega)).trans hm42
              replace hm43 : w27 43 = some (eN dA 120 (va_up (fun j => if j < t then mmk P j else M0 j) t 0)) := by rw [ew27]; exact up_eq
              refine lv_iconst (v := nI 0) hx hb dX7_layOut_73 (by decide) ?_
              refine lv_istore (lv' := [(4, .int (nI 0)), (3, .int (nI 0)), (2, .int (nI (wmk P.W P.w t))), (0, .ref (b + 36)), (1, .int (nI t))]) hx hb dX7_layOut_74 hl (by decide) rfl (fun ls hl => ?_)
              have L76 : ∀ (n76 : Nat) (u : Nat), u ≤ P.w → P.w - u < n76 → ∀ (x76_4 : Int32), x76_4 = nI (u) → ∀ (wb : Wd) (H : Heap) (locs : List Loc), wb 36 = some (modO b sv nc th pl lt dn) → wb 37 = some (eN dA 85 F) → wb 42 = some (eN dA 120 (fun j => if j < t + 1 then dk P j else D0 j)) → (wb 43 = some (eN dA 120 (va_up (fun j => if j < t then mmk P j else M0 j) t (mk (fun i => snd P.W i t ∧ P.W i 2 < cov P i t + P.S 3) u)))) → (∀ id : Nat, id ≠ 42 ∧ id ≠ 43 → wb id = w id) → WP D b wb H → va_S (Fb b) s.heap H locs → ∀ (ls : Array Slot), lv_has ls 5 [(0, .ref (b + 36)), (1, .int (nI t)), (2, .int (nI (wmk P.W P.w t))), (4, .int x76_4)] → W p l e ({ frames := 5, cells := 0, slots := 0, locals := 117 } : Room) s m args below meth c H locs 0 0 (MQ below (QW D b (none) (fun w' => w' 42 = some (eN dA 120 (dk P)) ∧ w' 43 = some (eN dA 120 (mmk P)) ∧ ∀ id : Nat, id ≠ 42 ∧ id ≠ 43 → w' id = w id)) args s 0 0 (Fb b)) (F0 m 76 ls []) := by
                intro n76
                induction n76 with
                | zero =>
                  intro u hu0 hn76 x76_4 ex76_4 wb H locs hm0 hm1 hm42 hm43 fr hW hS ls hl
                  exact absurd hn76 (Nat.not_lt_zero _)
                | succ n76 ih76 =>
                  intro u hu0 hn76 x76_4 ex76_4 wb H locs hm0 hm1 hm42 hm43 fr hW hS ls hl
                  subst ex76_4
                  have hDK : (fun j => if j < t + 1 then dk P j else D0 j) t = dk P t := if_pos (by omega)
                  have hS3 := hPS.2.2.2.2.1
                  refine lv_iload hx hb dX7_layOut_76 (lv_at hl 3 rfl) ?_
                  refine lv_aload_n hx hb dX7_layOut_78 rfl (lv_at hl 0 rfl) ?_
                  refine q_get hx hb hts hinX7 hown hG hW hm0 rfl 0 (by decide) (hts (.fieldLink RX7 7 "FoleyMixerModel" "s" "[I") (List.mem_of_getElem? (i := 2) rfl)) rfl rfl dX7_layOut_79 ?_
                  refine lv_iconst (v := nI 5) hx hb dX7_layOut_82 (by decide) ?_
                  refine q_iald hx hb hG hW hm1 (by omega) (by omega) dX7_layOut_83 ?_
                  refine q_top (y := nI (P.w)) (by exact congrArg nI hr5) ?_
                  refine lv_icmp_ge (tgt := 143) hx hb dX7_layOut_84 (by decide) (fun c_84 => ?_) (fun c_84 => ?_)
                  · skip
                    have c_84 : P.w ≤ u := (nI_leI (a := P.w) (b := u) (by omega) (by omega)).mp c_84
                    refine lv_iinc (v := nI (t + 1)) (lv' := [(1, .int (nI (t + 1))), (0, .ref (b + 36)), (2, .int (nI (wmk P.W P.w t))), (4, .int (nI u))]) hx hb dX7_layOut_143 hl (k := 1) rfl (nI_add _ 1) (by decide) rfl (fun ls hl => ?_)
                    refine lv_goto (tgt := 2) hx hb dX7_layOut_146 (by decide) ?_
                    exact ih2 (t + 1) (by omega) (by omega) _ (by first | rfl | (congr 1; omega)) _ _ _ (by exact hm0) (by exact hm1) (by exact hm42) (by exact hm43.trans (eN_congr (fill_step (f := mmk P) (by rw [show u = P.w by omega]; rfl)))) (by intro id h9; exact fr id h9) hW hS _ (lv_sub hl [1, 0] rfl)
                  · skip
                    have c_84 : ¬ (P.w ≤ u) := fun h__ => c_84 ((nI_leI (a := P.w) (b := u) (by omega) (by omega)).mpr h__)
                    refine lv_aload_n hx hb dX7_layOut_87 rfl (lv_at hl 0 rfl) ?_
                    refine q_get hx hb hts hinX7 hown hG hW hm0 rfl 9 (by decide) (hts (.fieldLink RX7 29 "FoleyMixerModel" "masked" "[I") (List.mem_of_getElem? (i := 3) rfl)) rfl rfl dX7_layOut_88 ?_
                    refine lv_iload_n hx hb dX7_layOut_91 rfl (lv_at hl 1 rfl) ?_
                    refine lv_dup2_11 hx hb dX7_layOut_92 rfl rfl ?_
                    refine q_iald hx hb hG hW hm43 (by omega) (by omega) dX7_layOut_93 ?_
                    refine q_top (y := nI (mk (fun i => snd P.W i t ∧ P.W i 2 < cov P i t + P.S 3) u)) (by refine congrArg nI ?_; unfold va_up; exact if_pos rfl) ?_
                    refine lv_iload_n hx hb dX7_layOut_94 rfl (lv_at hl 2 rfl) ?_
                    refine lv_iload hx hb dX7_layOut_95 (lv_at hl 3 rfl) ?_
                    refine q_R1 (va_runS (As := [.int (nI (wmk P.W P.w t)), .int (nI u)]) (rest := [.int (nI (mk (fun i => snd P.W i t ∧ P.W i 2 < cov P i t + P.S 3) u)), .int (nI t), .ref (b + 43)]) ⟨hx, hb, hml, hown, hts⟩ (c_X7_has l (wmk P.W P.w t) (u) (by omega) (by omega)) (va_cwS 2 hts gX7_layOut_X7_has rfl rfl rfl (by decide +kernel) ⟨Nat.le_of_ble_eq_true rfl, Nat.le_of_ble_eq_true rfl⟩) (q_preS hG hW hS) rfl rfl hl.1 rfl (lv_room (Nat.le_of_ble_eq_true rfl)) dX7_layOut_97 ⟨Nat.le_of_ble_eq_true rfl, Nat.le_of_ble_eq_true rfl⟩) ?_
                    refine lv_if_eq (tgt := 134) hx hb dX7_layOut_100 (by decide) (fun c_100 => ?_) (fun c_100 => ?_)
                    · skip
                      have c_100 : ¬ ((wmk P.W P.w t).testBit u = true) := pI_eq0.mp c_100
                      refine lv_iconst (v := nI 0) hx hb dX7_layOut_134 (by decide) ?_
                      refine lv_ior hx hb dX7_layOut_135 ?_
                      refine q_top (y := nI (mk (fun i => snd P.W i t ∧ P.W i 2 < cov P i t + P.S 3) (u + 1))) (by rw [nI_or]; refine congrArg nI ?_; rw [mk]; first | (rw [if_pos ⟨hbt, by omega⟩]; done) | (rw [if_neg (fun q9 => absurd q9.2 (by omega))]; exact Nat.or_zero _) | (rw [if_neg (fun q9 => c_100 (by rw [mk_bit]; exact decide_eq_true ⟨by omega, q9.1⟩))]; exact Nat.or_zero _)) ?_
                      refine q_nast hx hb hG hW hS hm43 (by omega) (by omega) dX7_layOut_136 (fun H locs hW hS hz136 => ?_)
                      obtain ⟨w28, ew28⟩ : ∃ wq__ : Wd, wq__ = va_up wb 43 (some (eN dA 120 (va_up (va_up (fun j => if j < t then mmk P j else M0 j) t (mk (fun i => snd P.W i t ∧ P.W i 2 < cov P i t + P.S 3) u)) t (mk (fun i => snd P.W i t ∧ P.W i 2 < cov P i t + P.S 3) (u + 1))))) := ⟨_, rfl⟩
                      replace hW : WP D b w28 H := by rw [ew28]; exact hW
                      have frw28 : ∀ id : Nat, id ≠ 43 → w28 id = wb id := fun id h9 => by rw [ew28, up_ne h9]
                      replace hm0 : w28 36 = some (modO b (sv) (nc) (th) (pl) (lt) (dn)) := (frw28 _ (by omega)).trans hm0
                      replace hm1 : w28 37 = some (eN dA 85 F) := (frw28 _ (by omega)).trans hm1
                      replace hm42 : w28 42 = some (eN dA 120 (fun j => if j < t + 1 then dk P j else D0 j)) := (frw28 _ (by omega)).trans hm42
                      replace hm43 : w28 43 = some (eN dA 120 (va_up (va_up (fun j => if j < t then mmk P j else M0 j) t (mk (fun i => snd P.W i t ∧ P.W i 2 < cov P i t + P.S 3) u)) t (mk (fun i => snd P.W i t ∧ P.W i 2 < cov P i t + P.S 3) (u + 1)))) := by rw [ew28]; exact up_eq
                      refine lv_iinc (v := nI (u + 1)) (lv' := [(4, .int (nI (u + 1))), (0, .ref (b + 36)), (1, .int (nI t)), (2, .int (nI (wmk P.W P.w t)))]) hx hb dX7_layOut_137 hl (k := 3) rfl (nI_add _ 1) (by decide) rfl (fun ls hl => ?_)
                      refine lv_goto (tgt := 76) hx hb dX7_layOut_140 (by decide) ?_
                      exact ih76 (u + 1) (by omega) (by omega) _ (by first | rfl | (congr 1; omega)) _ _ _ (by exact hm0) (by exact hm1) (by exact hm42) (by exact hm43.trans (eN_congr fun j => by unfold va_up; by_cases e9 : j = t <;> simp [e9])) (by intro id h9; rw [frw28 id (by omega)]; exact fr id h9) hW hS _ (lv_sub hl [1, 2, 3, 0] rfl)
                    · skip
                      have c_100 : (wmk P.W P.w t).testBit u = true := Decidable.byContradiction (fun h__ => c_100 (pI_eq0.mpr h__))
                      have hWu := hPW u (by omega)
                      have hcv := cov_le hP u t
                      have hbt : snd P.W u t := by rw [mk_bit] at c_100; exact (decide_eq_true_eq.mp c_100).2
                      refine lv_aload_n hx hb dX7_layOut_103 rfl (lv_at hl 0 rfl) ?_
                      refine lv_iload hx hb dX7_layOut_104 (lv_at hl 3 rfl) ?_
                      refine lv_iconst (v := nI 2) hx hb dX7_layOut_106 (by decide) ?_
                      refine q_R1 (va_runV (As := [.int (nI u), .int (nI 2)]) (rest := [.int (nI (mk (fun i => snd P.W i t ∧ P.W i 2 < cov P i t + P.S 3) u)), .int (nI t), .ref (b + 43)]) ⟨hx, hb, hml, hown, hts⟩ (c_ofW l hm0 hm1 hRp hP (u) (2) (by omega) (by omega)) (cwV 2 hts gX7_layOut_X7_ofWord rfl rfl rfl (by decide +kernel) ⟨Nat.le_of_ble_eq_true rfl, Nat.le_of_ble_eq_true rfl⟩) (q_preV hG hW hS hm0 rfl) rfl rfl hl.1 rfl (lv_room (Nat.le_of_ble_eq_true rfl)) dX7_layOut_107 ⟨Nat.le_of_ble_eq_true rfl, Nat.le_of_ble_eq_true rfl⟩) ?_
                      refine lv_aload_n hx hb dX7_layOut_110 rfl (lv_at hl 0 rfl) ?_
                      refine lv_iload hx hb dX7_layOut_111 (lv_at hl 3 rfl) ?_
                      refine lv_iload_n hx hb dX7_layOut_113 rfl (lv_at hl 1 rfl) ?_
                      refine q_R1 (va_runV (As := [.int (nI u), .int (nI t)]) (rest := [.int (nI (P.W u 2)), .int (nI (mk (fun i => snd P.W i t ∧ P.W i 2 < cov P i t + P.S 3) u)), .int (nI t), .ref (b + 43)]) ⟨hx, hb, hml, hown, hts⟩ (c_X7_cover l hm0 hm1 hRp hP hm42 (u) (t) (by omega) (by omega) hDK) (cwV 2 hts gX7_layOut_X7_cover rfl rfl rfl (by decide +kernel) ⟨Nat.le_of_ble_eq_true rfl, Nat.le_of_ble_eq_true rfl⟩) (q_preV hG hW hS hm0 rfl) rfl rfl hl.1 rfl (lv_room (Nat.le_of_ble_eq_true rfl)) dX7_layOut_114 ⟨Nat.le_of_ble_eq_true rfl, Nat.le_of_ble_eq_true rfl⟩) ?_
                      refine lv_aload_n hx hb dX7_layOut_117 rfl (lv_at hl 0 rfl) ?_
                      refine q_get hx hb hts hinX7 hown hG hW hm0 rfl 0 (by decide) (hts (.fieldLink RX7 7 "FoleyMixerModel" "s" "[I") (List.mem_of_getElem? (i := 2) rfl)) rfl rfl dX7_layOut_118 ?_
                      refine lv_iconst (v := nI 3) hx hb dX7_layOut_121 (by decide) ?_
                      refine q_iald hx hb hG hW hm1 (by omega) (by omega) dX7_layOut_122 ?_
                      refine q_top (y := nI (P.S 3)) (by exact congrArg nI (hRp.1 3 (by omega))) ?_
                      refine lv_iadd hx hb dX7_layOut_123 ?_
                      refine q_top (y := nI ((cov P u t) + (P.S 3))) (nI_add _ _) ?_
                      refine lv_icmp_ge (tgt := 134) hx hb dX7_layOut_124 (by decide) (fun c_124 => ?_) (fun c_124 => ?_)
                      · skip
                        have c_124 : (cov P u t) + (P.S 3) ≤ P.W u 2 := (nI_leI (a := (cov P u t) + (P.S 3)) (b := P.W u 2) (by omega) (by omega)).mp c_124
                        refine lv_iconst (v := nI 0) hx hb dX7_layOut_134 (by decide) ?_
                        refine lv_ior hx hb dX7_layOut_135 ?_
                        refine q_top (y := nI (mk (fun i => snd P.W i t ∧ P.W i 2 < cov P i t + P.S 3) (u + 1))) (by rw [nI_or]; refine congrArg nI ?_; rw [mk]; first | (rw [if_pos ⟨hbt, by omega⟩]; done) | (rw [if_neg (fun q9 => absurd q9.2 (by omega))]; exact Nat.or_zero _) | (rw [if_neg (fun q9 => c_100 (by rw [mk_bit]; exact decide_eq_true ⟨by omega, q9.1⟩))]; exact Nat.or_zero _)) ?_
                        refine q_nast hx hb hG hW hS hm43 (by omega) (by omega) dX7_layOut_136 (fun H locs hW hS hz136 => ?_)
                        obtain ⟨w29, ew29⟩ : ∃ wq__ : Wd, wq__ = va_up wb 43 (some (eN dA 120 (va_up (va_up (fun j => if j < t then mmk P j else M0 j) t (mk (fun i => snd P.W i t ∧ P.W i 2 < cov P i t + P.S 3) u)) t (mk (fun i => snd P.W i t ∧ P.W i 2 < cov P i t + P.S 3) (u + 1))))) := ⟨_, rfl⟩
                        replace hW : WP D b w29 H := by rw [ew29]; exact hW
                        have frw29 : ∀ id : Nat, id ≠ 43 → w29 id = wb id := fun id h9 => by rw [ew29, up_ne h9]
                        replace hm0 : w29 36 = some (modO b (sv) (nc) (th) (pl) (lt) (dn)) := (frw29 _ (by omega)).trans hm0
                        replace hm1 : w29 37 = some (eN dA 85 F) := (frw29 _ (by omega)).trans hm1
                        replace hm42 : w29 42 = some (eN dA 120 (fun j => if j < t + 1 then dk P j else D0 j)) := (frw29 _ (by omega)).trans hm42
                        replace hm43 : w29 43 = some (eN dA 120 (va_up (va_up (fun j => if j < t then mmk P j else M0 j) t (mk (fun i => snd P.W i t ∧ P.W i 2 < cov P i t + P.S 3) u)) t (mk (fun i => snd P.W i t ∧ P.W i 2 < cov P i t + P.S 3) (u + 1)))) := by rw [ew29]; exact up_eq
                        refine lv_iinc (v := nI (u + 1)) (lv' := [(4, .int (nI (u + 1))), (0, .ref (b + 36)), (1, .int (nI t)), (2, .int (nI (wmk P.W P.w t)))]) hx hb dX7_layOut_137 hl (k := 3) rfl (nI_add _ 1) (by decide) rfl (fun ls hl => ?_)
                        refine lv_goto (tgt := 76) hx hb dX7_layOut_140 (by decide) ?_
                        exact ih76 (u + 1) (by omega) (by omega) _ (by first | rfl | (congr 1; omega)) _ _ _ (by exact hm0) (by exact hm1) (by exact hm42) (by exact hm43.trans (eN_congr fun j => by unfold va_up; by_cases e9 : j = t <;> simp [e9])) (by intro id h9; rw [frw29 id (by omega)]; exact fr id h9) hW hS _ (lv_sub hl [1, 2, 3, 0] rfl)
                      · skip
                        have c_124 : ¬ ((cov P u t) + (P.S 3) ≤ P.W u 2) := fun h__ => c_124 ((nI_leI (a := (cov P u t) + (P.S 3)) (b := P.W u 2) (by omega) (by omega)).mpr h__)
                        refine lv_iconst (v := nI 1) hx hb dX7_layOut_127 (by decide) ?_
                        refine lv_iload hx hb dX7_layOut_128 (lv_at hl 3 rfl) ?_
                        refine lv_ishl hx hb dX7_layOut_130 ?_
                        refine q_top (y := nI (2 ^ u)) (by exact nI_shl1 (by omega)) ?_
                        refine lv_goto (tgt := 135) hx hb dX7_layOut_131 (by decide) ?_
                        refine lv_ior hx hb dX7_layOut_135 ?_
                        refine q_top (y := nI (mk (fun i => snd P.W i t ∧ P.W i 2 < cov P i t + P.S 3) (u + 1))) (by rw [nI_or]; refine congrArg nI ?_; rw [mk]; first | (rw [if_pos ⟨hbt, by omega⟩]; done) | (rw [if_neg (fun q9 => absurd q9.2 (by omega))]; exact Nat.or_zero _) | (rw [if_neg (fun q9 => c_100 (by rw [mk_bit]; exact decide_eq_true ⟨by omega, q9.1⟩))]; exact Nat.or_zero _)) ?_
                        refine q_nast hx hb hG hW hS hm43 (by omega) (by omega) dX7_layOut_136 (fun H locs hW hS hz136 => ?_)
                        obtain ⟨w30, ew30⟩ : ∃ wq__ : Wd, wq__ = va_up wb 43 (some (eN dA 120 (va_up (va_up (fun j => if j < t then mmk P j else M0 j) t (mk (fun i => snd P.W i t ∧ P.W i 2 < cov P i t + P.S 3) u)) t (mk (fun i => snd P.W i t ∧ P.W i 2 < cov P i t + P.S 3) (u + 1))))) := ⟨_, rfl⟩
                        replace hW : WP D b w30 H := by rw [ew30]; exact hW
                        have frw30 : ∀ id : Nat, id ≠ 43 → w30 id = wb id := fun id h9 => by rw [ew30, up_ne h9]
                        replace hm0 : w30 36 = some (modO b (sv) (nc) (th) (pl) (lt) (dn)) := (frw30 _ (by omega)).trans hm0
                        replace hm1 : w30 37 = some (eN dA 85 F) := (frw30 _ (by omega)).trans hm1
                        replace hm42 : w30 42 = some (eN dA 120 (fun j => if j < t + 1 then dk P j else D0 j)) := (frw30 _ (by omega)).trans hm42
                        replace hm43 : w30 43 = some (eN dA 120 (va_up (va_up (fun j => if j < t then mmk P j else M0 j) t (mk (fun i => snd P.W i t ∧ P.W i 2 < cov P i t + P.S 3) u)) t (mk (fun i => snd P.W i t ∧ P.W i 2 < cov P i t + P.S 3) (u + 1)))) := by rw [ew30]; exact up_eq
                        refine lv_iinc (v := nI (u + 1)) (lv' := [(4, .int (nI (u + 1))), (0, .ref (b + 36)), (1, .int (nI t)), (2, .int (nI (wmk P.W P.w t)))]) hx hb dX7_layOut_137 hl (k := 3) rfl (nI_add _ 1) (by decide) rfl (fun ls hl => ?_)
                        refine lv_goto (tgt := 76) hx hb dX7_layOut_140 (by decide) ?_
                        exact ih76 (u + 1) (by omega) (by omega) _ (by first | rfl | (congr 1; omega)) _ _ _ (by exact hm0) (by exact hm1) (by exact hm42) (by exact hm43.trans (eN_congr fun j => by unfold va_up; by_cases e9 : j = t <;> simp [e9])) (by intro id h9; rw [frw30 id (by omega)]; exact fr id h9) hW hS _ (lv_sub hl [1, 2, 3, 0] rfl)
              exact L76 ((P.w - 0) + 1) 0 (by omega) (Nat.lt_succ_self _) _ (by first | rfl | (congr 1; omega)) _ _ _ (by exact hm0) (by exact hm1) (by exact hm42) (by exact hm43) (by intro id h9; rw [frw27 id (by omega)]; rw [frw26 id (by omega)]; exact fr id h9) hW hS _ (lv_sub hl [3, 4, 2, 0] rfl)
            · skip
              have c_57 : ¬ (0 ≤ 0) := fun h__ => c_57 ((nI_0le (i := 0) (by omega)).mpr h__)
              exact absurd c_57 (by omega)
          · skip
            have c_44 : ¬ ((wmk P.W P.w t) = 0) := fun h__ => c_44 ((nI_eq0 (i := wmk P.W P.w t) (by omega)).mpr h__)
            refine lv_aload_n hx hb dX7_layOut_47 rfl (lv_at hl 2 rfl) ?_
            refine q_get hx hb hts hinX7 hown hG hW hm0 rfl 0 (by decide) (hts (.fieldLink RX7 7 "FoleyMixerModel" "s" "[I") (List.mem_of_getElem? (i := 2) rfl)) rfl rfl dX7_layOut_48 ?_
            refine lv_iconst (v := nI 0) hx hb dX7_layOut_51 (by decide) ?_
            refine q_iald hx hb hG hW hm1 (by omega) (by omega) dX7_layOut_52 ?_
            refine lv_goto (tgt := 65) hx hb dX7_layOut_53 (by decide) ?_
            refine q_top (y := nI (dk P t)) (by refine congrArg nI ?_; rw [dk_step]; first | (rw [if_neg c_44]; exact hRp.1 0 (by omega)) | (rw [if_pos c_44] <;> omega)) ?_
            refine q_nast hx hb hG hW hS hm42 (by omega) (by omega) dX7_layOut_65 (fun H locs hW hS hz65 => ?_)
            obtain ⟨w31, ew31⟩ : ∃ wq__ : Wd, wq__ = va_up wa 42 (some (eN dA 120 (va_up (fun j => if j < t then dk P j else D0 j) t (dk P t)))) := ⟨_, rfl⟩
            replace hW : WP D b w31 H := by rw [ew31]; exact hW
            have frw31 : ∀ id : Nat, id ≠ 42 → w31 id = wa id := fun id h9 => by rw [ew31, up_ne h9]
            replace hm0 : w31 36 = some (modO b (sv) (nc) (th) (pl) (lt) (dn)) := (frw31 _ (by omega)).trans hm0
            replace hm1 : w31 37 = some (eN dA 85 F) := (frw31 _ (by omega)).trans hm1
            replace hm43 : w31 43 = some (eN dA 120 (fun j => if j < t then mmk P j else M0 j)) := (frw31 _ (by omega)).trans hm43
            replace hm42 : w31 42 = some (eN dA 120 (va_up (fun j => if j < t then dk P j else D0 j) t (dk P t))) := by rw [ew31]; exact up_eq
            replace hm42 := hm42.trans (eN_congr (fill_step (f := dk P) rfl))
            refine lv_aload_n hx hb dX7_layOut_66 rfl (lv_at hl 2 rfl) ?_
            refine q_get hx hb hts hinX7 hown hG hW hm0 rfl 9 (by decide) (hts (.fieldLink RX7 29 "FoleyMixerModel" "masked" "[I") (List.mem_of_getElem? (i := 3) rfl)) rfl rfl dX7_layOut_67 ?_
            refine lv_iload_n hx hb dX7_layOut_70 rfl (lv_at hl 3 rfl) ?_
            refine lv_iconst (v := nI 0) hx hb dX7_layOut_71 (by decide) ?_
            refine q_nast hx hb hG hW hS hm43 (by omega) (by omega) dX7_layOut_72 (fun H locs hW hS hz72 => ?_)
            obtain ⟨w32, ew32⟩ : ∃ wq__ : Wd, wq__ = va_up w31 43 (some (eN dA 120 (va_up (fun j => if j < t then mmk P j else M0 j) t 0))) := ⟨_, rfl⟩
            replace hW : WP D b w32 H := by rw [ew32]; exact hW
            have frw32 : ∀ id : Nat, id ≠ 43 → w32 id = w31 id := fun id h9 => by rw [ew32, up_ne h9]
            replace hm0 : w32 36 = some (modO b (sv) (nc) (th) (pl) (lt) (dn)) := (frw32 _ (by omega)).trans hm0
            replace hm1 : w32 37 = some (eN dA 85 F) := (frw32 _ (by omega)).trans hm1
            replace hm42 : w32 42 = some (eN dA 120 (fun j => if j < t + 1 then dk P j else D0 j)) := (frw32 _ (by omega)).trans hm42
            replace hm43 : w32 43 = some (eN dA 120 (va_up (fun j => if j < t then mmk P j else M0 j) t 0)) := by rw [ew32]; exact up_eq
            refine lv_iconst (v := nI 0) hx hb dX7_layOut_73 (by decide) ?_
            refine lv_istore (lv' := [(4, .int (nI 0)), (3, .int (nI 0)), (2, .int (nI (wmk P.W P.w t))), (0, .ref (b + 36)), (1, .int (nI t))]) hx hb dX7_layOut_74 hl (by decide) rfl (fun ls hl => ?_)
            have L76 : ∀ (n76 : Nat) (u : Nat), u ≤ P.w → P.w - u < n76 → ∀ (x76_4 : Int32), x76_4 = nI (u) → ∀ (wb : Wd) (H : Heap) (locs : List Loc), wb 36 = some (modO b sv nc th pl lt dn) → wb 37 = some (eN dA 85 F) → wb 42 = some (eN dA 120 (fun j => if j < t + 1 then dk P j else D0 j)) → (wb 43 = some (eN dA 120 (va_up (fun j => if j < t then mmk P j else M0 j) t (mk (fun i => snd P.W i t ∧ P.W i 2 < cov P i t + P.S 3) u)))) → (∀ id : Nat, id ≠ 42 ∧ id ≠ 43 → wb id = w id) → WP D b wb H → va_S (Fb b) s.heap H locs → ∀ (ls : Array Slot), lv_has ls 5 [(0, .ref (b + 36)), (1, .int (nI t)), (2, .int (nI (wmk P.W P.w t))), (4, .int x76_4)] → W p l e ({ frames := 5, cells := 0, slots := 0, locals := 117 } : Room) s m args below meth c H locs 0 0 (MQ below (QW D b (none) (fun w' => w' 42 = some (eN dA 120 (dk P)) ∧ w' 43 = some (eN dA 120 (mmk P)) ∧ ∀ id : Nat, id ≠ 42 ∧ id ≠ 43 → w' id = w id)) args s 0 0 (Fb b)) (F0 m 76 ls []) := by
              intro n76
              induction n76 with
              | zero =>
                intro u hu0 hn76 x76_4 ex76_4 wb H locs hm0 hm1 hm42 hm43 fr hW hS ls hl
                exact absurd hn76 (Nat.not_lt_zero _)
              | succ n76 ih76 =>
                intro u hu0 hn76 x76_4 ex76_4 wb H locs hm0 hm1 hm42 hm43 fr hW hS ls hl
                subst ex76_4
                have hDK : (fun j => if j < t + 1 then dk P j else D0 j) t = dk P t := if_pos (by omega)
                have hS3 := hPS.2.2.2.2.1
                refine lv_iload hx hb dX7_layOut_76 (lv_at hl 3 rfl) ?_
                refine lv_aload_n hx hb dX7_layOut_78 rfl (lv_at hl 0 rfl) ?_
                refine q_get hx hb hts hinX7 hown hG hW hm0 rfl 0 (by decide) (hts (.fieldLink RX7 7 "FoleyMixerModel" "s" "[I") (List.mem_of_getElem? (i := 2) rfl)) rfl rfl dX7_layOut_79 ?_
                refine lv_iconst (v := nI 5) hx hb dX7_layOut_82 (by decide) ?_
                refine q_iald hx hb hG hW hm1 (by omega) (by omega) dX7_layOut_83 ?_
                refine q_top (y := nI (P.w)) (by exact congrArg nI hr5) ?_
                refine lv_icmp_ge (tgt := 143) hx hb dX7_layOut_84 (by decide) (fun c_84 => ?_) (fun c_84 => ?_)
                · skip
                  have c_84 : P.w ≤ u := (nI_leI (a := P.w) (b := u) (by omega) (by omega)).mp c_84
                  refine lv_iinc (v := nI (t + 1)) (lv' := [(1, .int (nI (t + 1))), (0, .ref (b + 36)), (2, .int (nI (wmk P.W P.w t))), (4, .int (nI u))]) hx hb dX7_layOut_143 hl (k := 1) rfl (nI_add _ 1) (by decide) rfl (fun ls hl => ?_)
                  refine lv_goto (tgt := 2) hx hb dX7_layOut_146 (by decide) ?_
                  exact ih2 (t + 1) (by omega) (by omega) _ (by first | rfl | (congr 1; omega)) _ _ _ (by exact hm0) (by exact hm1) (by exact hm42) (by exact hm43.trans (eN_congr (fill_step (f := mmk P) (by rw [show u = P.w by omega]; rfl)))) (by intro id h9; exact fr id h9) hW hS _ (lv_sub hl [1, 0] rfl)
                · skip
                  have c_84 : ¬ (P.w ≤ u) := fun h__ => c_84 ((nI_leI (a := P.w) (b := u) (by omega) (by omega)).mpr h__)
                  refine lv_aload_n hx hb dX7_layOut_87 rfl (lv_at hl 0 rfl) ?_
                  refine q_get hx hb hts hinX7 hown hG hW hm0 rfl 9 (by decide) (hts (.fieldLink RX7 29 "FoleyMixerModel" "masked" "[I") (List.mem_of_getElem? (i := 3) rfl)) rfl rfl dX7_layOut_88 ?_
                  refine lv_iload_n hx hb dX7_layOut_91 rfl (lv_at hl 1 rfl) ?_
                  refine lv_dup2_11 hx hb dX7_layOut_92 rfl rfl ?_
                  refine q_iald hx hb hG hW hm43 (by omega) (by omega) dX7_layOut_93 ?_
                  refine q_top (y := nI (mk (fun i => snd P.W i t ∧ P.W i 2 < cov P i t + P.S 3) u)) (by refine congrArg nI ?_; unfold va_up; exact if_pos rfl) ?_
                  refine lv_iload_n hx hb dX7_layOut_94 rfl (lv_at hl 2 rfl) ?_
                  refine lv_iload hx hb dX7_layOut_95 (lv_at hl 3 rfl) ?_
                  refine q_R1 (va_runS (As := [.int (nI (wmk P.W P.w t)), .int (nI u)]) (rest := [.int (nI (mk (fun i => snd P.W i t ∧ P.W i 2 < cov P i t + P.S 3) u)), .int (nI t), .ref (b + 43)]) ⟨hx, hb, hml, hown, hts⟩ (c_X7_has l (wmk P.W P.w t) (u) (by omega) (by omega)) (va_cwS 2 hts gX7_layOut_X7_has rfl rfl rfl (by decide +kernel) ⟨Nat.le_of_ble_eq_true rfl, Nat.le_of_ble_eq_true rfl⟩) (q_preS hG hW hS) rfl rfl hl.1 rfl (lv_room (Nat.le_of_ble_eq_true rfl)) dX7_layOut_97 ⟨Nat.le_of_ble_eq_true rfl, Nat.le_of_ble_eq_true rfl⟩) ?_
                  refine lv_if_eq (tgt := 134) hx hb dX7_layOut_100 (by decide) (fun c_100 => ?_) (fun c_100 => ?_)
                  · skip
                    have c_100 : ¬ ((wmk P.W P.w t).testBit u = true) := pI_eq0.mp c_100
                    refine lv_iconst (v := nI 0) hx hb dX7_layOut_134 (by decide) ?_
                    refine lv_ior hx hb dX7_layOut_135 ?_
                    refine q_top (y := nI (mk (fun i => snd P.W i t ∧ P.W i 2 < cov P i t + P.S 3) (u + 1))) (by rw [nI_or]; refine congrArg nI ?_; rw [mk]; first | (rw [if_pos ⟨hbt, by omega⟩]; done) | (rw [if_neg (fun q9 => absurd q9.2 (by omega))]; exact Nat.or_zero _) | (rw [if_neg (fun q9 => c_100 (by rw [mk_bit]; exact decide_eq_true ⟨by omega, q9.1⟩))]; exact Nat.or_zero _)) ?_
                    refine q_nast hx hb hG hW hS hm43 (by omega) (by omega) dX7_layOut_136 (fun H locs hW hS hz136 => ?_)
                    obtain ⟨w33, ew33⟩ : ∃ wq__ : Wd, wq__ = va_up wb 43 (some (eN dA 120 (va_up (va_up (fun j => if j < t then mmk P j else M0 j) t (mk (fun i => snd P.W i t ∧ P.W i 2 < cov P i t + P.S 3) u)) t (mk (fun i => snd P.W i t ∧ P.W i 2 < cov P i t + P.S 3) (u + 1))))) := ⟨_, rfl⟩
                    replace hW : WP D b w33 H := by rw [ew33]; exact hW
                    have frw33 : ∀ id : Nat, id ≠ 43 → w33 id = wb id := fun id h9 => by rw [ew33, up_ne h9]
                    replace hm0 : w33 36 = some (modO b (sv) (nc) (th) (pl) (lt) (dn)) := (frw33 _ (by omega)).trans hm0
                    replace hm1 : w33 37 = some (eN dA 85 F) := (frw33 _ (by omega)).trans hm1
                    replace hm42 : w33 42 = some (eN dA 120 (fun j => if j < t + 1 then dk P j else D0 j)) := (frw33 _ (by omega)).trans hm42
                    replace hm43 : w33 43 = some (eN dA 120 (va_up (va_up (fun j => if j < t then mmk P j else M0 j) t (mk (fun i => snd P.W i t ∧ P.W i 2 < cov P i t + P.S 3) u)) t (mk (fun i => snd P.W i t ∧ P.W i 2 < cov P i t + P.S 3) (u + 1)))) := by rw [ew33]; exact up_eq
                    refine lv_iinc (v := nI (u + 1)) (lv' := [(4, .int (nI (u + 1))), (0, .ref (b + 36)), (1, .int (nI t)), (2, .int (nI (wmk P.W P.w t)))]) hx hb dX7_layOut_137 hl (k := 3) rfl (nI_add _ 1) (by decide) rfl (fun ls hl => ?_)
                    refine lv_goto (tgt := 76) hx hb dX7_layOut_140 (by decide) ?_
                    exact ih76 (u + 1) (by omega) (by omega) _ (by first | rfl | (congr 1; omega)) _ _ _ (by exact hm0) (by exact hm1) (by exact hm42) (by exact hm43.trans (eN_congr fun j => by unfold va_up; by_cases e9 : j = t <;> simp [e9])) (by intro id h9; rw [frw33 id (by omega)]; exact fr id h9) hW hS _ (lv_sub hl [1, 2, 3, 0] rfl)
                  · skip
                    have c_100 : (wmk P.W P.w t).testBit u = true := Decidable.byContradiction (fun h__ => c_100 (pI_eq0.mpr h__))
                    have hWu := hPW u (by omega)
                    have hcv := cov_le hP u t
                    have hbt : snd P.W u t := by rw [mk_bit] at c_100; exact (decide_eq_true_eq.mp c_100).2
                    refine lv_aload_n hx hb dX7_layOut_103 rfl (lv_at hl 0 rfl) ?_
                    refine lv_iload hx hb dX7_layOut_104 (lv_at hl 3 rfl) ?_
                    refine lv_iconst (v := nI 2) hx hb dX7_layOut_106 (by decide) ?_
                    refine q_R1 (va_runV (As := [.int (nI u), .int (nI 2)]) (rest := [.int (nI (mk (fun i => snd P.W i t ∧ P.W i 2 < cov P i t + P.S 3) u)), .int (nI t), .ref (b + 43)]) ⟨hx, hb, hml, hown, hts⟩ (c_ofW l hm0 hm1 hRp hP (u) (2) (by omega) (by omega)) (cwV 2 hts gX7_layOut_X7_ofWord rfl rfl rfl (by decide +kernel) ⟨Nat.le_of_ble_eq_true rfl, Nat.le_of_ble_eq_true rfl⟩) (q_preV hG hW hS hm0 rfl) rfl rfl hl.1 rfl (lv_room (Nat.le_of_ble_eq_true rfl)) dX7_layOut_107 ⟨Nat.le_of_ble_eq_true rfl, Nat.le_of_ble_eq_true rfl⟩) ?_
                    refine lv_aload_n hx hb dX7_layOut_110 rfl (lv_at hl 0 rfl) ?_
                    refine lv_iload hx hb dX7_layOut_111 (lv_at hl 3 rfl) ?_
                    refine lv_iload_n hx hb dX7_layOut_113 rfl (lv_at hl 1 rfl) ?_
                    refine q_R1 (va_runV (As := [.int (nI u), .int (nI t)]) (rest := [.int (nI (P.W u 2)), .int (nI (mk (fun i => snd P.W i t ∧ P.W i 2 < cov P i t + P.S 3) u)), .int (nI t), .ref (b + 43)]) ⟨hx, hb, hml, hown, hts⟩ (c_X7_cover l hm0 hm1 hRp hP hm42 (u) (t) (by omega) (by omega) hDK) (cwV 2 hts gX7_layOut_X7_cover rfl rfl rfl (by decide +kernel) ⟨Nat.le_of_ble_eq_true rfl, Nat.le_of_ble_eq_true rfl⟩) (q_preV hG hW hS hm0 rfl) rfl rfl hl.1 rfl (lv_room (Nat.le_of_ble_eq_true rfl)) dX7_layOut_114 ⟨Nat.le_of_ble_eq_true rfl, Nat.le_of_ble_eq_true rfl⟩) ?_
                    refine lv_aload_n hx hb dX7_layOut_117 rfl (lv_at hl 0 rfl) ?_
                    refine q_get hx hb hts hinX7 hown hG hW hm0 rfl 0 (by decide) (hts (.fieldLink RX7 7 "FoleyMixerModel" "s" "[I") (List.mem_of_getElem? (i := 2) rfl)) rfl rfl dX7_layOut_118 ?_
                    refine lv_iconst (v := nI 3) hx hb dX7_layOut_121 (by decide) ?_
                    refine q_iald hx hb hG hW hm1 (by omega) (by omega) dX7_layOut_122 ?_
                    refine q_top (y := nI (P.S 3)) (by exact congrArg nI (hRp.1 3 (by omega))) ?_
                    refine lv_iadd hx hb dX7_layOut_123 ?_
                    refine q_top (y := nI ((cov P u t) + (P.S 3))) (nI_add _ _) ?_
                    refine lv_icmp_ge (tgt := 134) hx hb dX7_layOut_124 (by decide) (fun c_124 => ?_) (fun c_124 => ?_)
                    · skip
                      have c_124 : (cov P u t) + (P.S 3) ≤ P.W u 2 := (nI_leI (a := (cov P u t) + (P.S 3)) (b := P.W u 2) (by omega) (by omega)).mp c_124
                      refine lv_iconst (v := nI 0) hx hb dX7_layOut_134 (by decide) ?_
                      refine lv_ior hx hb dX7_layOut_135 ?_
                      refine q_top (y := nI (mk (fun i => snd P.W i t ∧ P.W i 2 < cov P i t + P.S 3) (u + 1))) (by rw [nI_or]; refine congrArg nI ?_; rw [mk]; first | (rw [if_pos ⟨hbt, by omega⟩]; done) | (rw [if_neg (fun q9 => absurd q9.2 (by omega))]; exact Nat.or_zero _) | (rw [if_neg (fun q9 => c_100 (by rw [mk_bit]; exact decide_eq_true ⟨by omega, q9.1⟩))]; exact Nat.or_zero _)) ?_
                      refine q_nast hx hb hG hW hS hm43 (by omega) (by omega) dX7_layOut_136 (fun H locs hW hS hz136 => ?_)
                      obtain ⟨w34, ew34⟩ : ∃ wq__ : Wd, wq__ = va_up wb 43 (some (eN dA 120 (va_up (va_up (fun j => if j < t then mmk P j else M0 j) t (mk (fun i => snd P.W i t ∧ P.W i 2 < cov P i t + P.S 3) u)) t (mk (fun i => snd P.W i t ∧ P.W i 2 < cov P i t + P.S 3) (u + 1))))) := ⟨_, rfl⟩
                      replace hW : WP D b w34 H := by rw [ew34]; exact hW
                      have frw34 : ∀ id : Nat, id ≠ 43 → w34 id = wb id := fun id h9 => by rw [ew34, up_ne h9]
                      replace hm0 : w34 36 = some (modO b (sv) (nc) (th) (pl) (lt) (dn)) := (frw34 _ (by omega)).trans hm0
                      replace hm1 : w34 37 = some (eN dA 85 F) := (frw34 _ (by omega)).trans hm1
                      replace hm42 : w34 42 = some (eN dA 120 (fun j => if j < t + 1 then dk P j else D0 j)) := (frw34 _ (by omega)).trans hm42
                      replace hm43 : w34 43 = some (eN dA 120 (va_up (va_up (fun j => if j < t then mmk P j else M0 j) t (mk (fun i => snd P.W i t ∧ P.W i 2 < cov P i t + P.S 3) u)) t (mk (fun i => snd P.W i t ∧ P.W i 2 < cov P i t + P.S 3) (u + 1)))) := by rw [ew34]; exact up_eq
                      refine lv_iinc (v := nI (u + 1)) (lv' := [(4, .int (nI (u + 1))), (0, .ref (b + 36)), (1, .int (nI t)), (2, .int (nI (wmk P.W P.w t)))]) hx hb dX7_layOut_137 hl (k := 3) rfl (nI_add _ 1) (by decide) rfl (fun ls hl => ?_)
                      refine lv_goto (tgt := 76) hx hb dX7_layOut_140 (by decide) ?_
                      exact ih76 (u + 1) (by omega) (by omega) _ (by first | rfl | (congr 1; omega)) _ _ _ (by exact hm0) (by exact hm1) (by exact hm42) (by exact hm43.trans (eN_congr fun j => by unfold va_up; by_cases e9 : j = t <;> simp [e9])) (by intro id h9; rw [frw34 id (by omega)]; exact fr id h9) hW hS _ (lv_sub hl [1, 2, 3, 0] rfl)
                    · skip
                      have c_124 : ¬ ((cov P u t) + (P.S 3) ≤ P.W u 2) := fun h__ => c_124 ((nI_leI (a := (cov P u t) + (P.S 3)) (b := P.W u 2) (by omega) (by omega)).mpr h__)
                      refine lv_iconst (v := nI 1) hx hb dX7_layOut_127 (by decide) ?_
                      refine lv_iload hx hb dX7_layOut_128 (lv_at hl 3 rfl) ?_
                      refine lv_ishl hx hb dX7_layOut_130 ?_
                      refine q_top (y := nI (2 ^ u)) (by exact nI_shl1 (by omega)) ?_
                      refine lv_goto (tgt := 135) hx hb dX7_layOut_131 (by decide) ?_
                      refine lv_ior hx hb dX7_layOut_135 ?_
                      refine q_top (y := nI (mk (fun i => snd P.W i t ∧ P.W i 2 < cov P i t + P.S 3) (u + 1))) (by rw [nI_or]; refine congrArg nI ?_; rw [mk]; first | (rw [if_pos ⟨hbt, by omega⟩]; done) | (rw [if_neg (fun q9 => absurd q9.2 (by omega))]; exact Nat.or_zero _) | (rw [if_neg (fun q9 => c_100 (by rw [mk_bit]; exact decide_eq_true ⟨by omega, q9.1⟩))]; exact Nat.or_zero _)) ?_
                      refine q_nast hx hb hG hW hS hm43 (by omega) (by omega) dX7_layOut_136 (fun H locs hW hS hz136 => ?_)
                      obtain ⟨w35, ew35⟩ : ∃ wq__ : Wd, wq__ = va_up wb 43 (some (eN dA 120 (va_up (va_up (fun j => if j < t then mmk P j else M0 j) t (mk (fun i => snd P.W i t ∧ P.W i 2 < cov P i t + P.S 3) u)) t (mk (fun i => snd P.W i t ∧ P.W i 2 < cov P i t + P.S 3) (u + 1))))) := ⟨_, rfl⟩
                      replace hW : WP D b w35 H := by rw [ew35]; exact hW
                      have frw35 : ∀ id : Nat, id ≠ 43 → w35 id = wb id := fun id h9 => by rw [ew35, up_ne h9]
                      replace hm0 : w35 36 = some (modO b (sv) (nc) (th) (pl) (lt) (dn)) := (frw35 _ (by omega)).trans hm0
                      replace hm1 : w35 37 = some (eN dA 85 F) := (frw35 _ (by omega)).trans hm1
                      replace hm42 : w35 42 = some (eN dA 120 (fun j => if j < t + 1 then dk P j else D0 j)) := (frw35 _ (by omega)).trans hm42
                      replace hm43 : w35 43 = some (eN dA 120 (va_up (va_up (fun j => if j < t then mmk P j else M0 j) t (mk (fun i => snd P.W i t ∧ P.W i 2 < cov P i t + P.S 3) u)) t (mk (fun i => snd P.W i t ∧ P.W i 2 < cov P i t + P.S 3) (u + 1)))) := by rw [ew35]; exact up_eq
                      refine lv_iinc (v := nI (u + 1)) (lv' := [(4, .int (nI (u + 1))), (0, .ref (b + 36)), (1, .int (nI t)), (2, .int (nI (wmk P.W P.w t)))]) hx hb dX7_layOut_137 hl (k := 3) rfl (nI_add _ 1) (by decide) rfl (fun ls hl => ?_)
                      refine lv_goto (tgt := 76) hx hb dX7_layOut_140 (by decide) ?_
                      exact ih76 (u + 1) (by omega) (by omega) _ (by first | rfl | (congr 1; omega)) _ _ _ (by exact hm0) (by exact hm1) (by exact hm42) (by exact hm43.trans (eN_congr fun j => by unfold va_up; by_cases e9 : j = t <;> simp [e9])) (by intro id h9; rw [frw35 id (by omega)]; exact fr id h9) hW hS _ (lv_sub hl [1, 2, 3, 0] rfl)
            exact L76 ((P.w - 0) + 1) 0 (by omega) (Nat.lt_succ_self _) _ (by first | rfl | (congr 1; omega)) _ _ _ (by exact hm0) (by exact hm1) (by exact hm42) (by exact hm43) (by intro id h9; rw [frw32 id (by omega)]; rw [frw31 id (by omega)]; exact fr id h9) hW hS _ (lv_sub hl [3, 4, 2, 0] rfl)
  exact L2 ((120 - 0) + 1) 0 (by omega) (Nat.lt_succ_self _) _ (by first | rfl | (congr 1; omega)) _ _ _ (by exact hm0) (by exact hm1) (by exact hm42.trans (eN_congr (fill_0 (f := dk P)))) (by exact hm43.trans (eN_congr (fill_0 (f := mmk P)))) (by intro id h9; rfl) hW hS _ (lv_sub hl [1, 0] rfl)

