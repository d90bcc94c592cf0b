theorem sst_b {P : Pl} (h : okP P) {j : Nat} (hj : j < P.n) (t : Nat) : sst P j t ≤ 30 := by
  have h1 := h.2.2.2.1 j hj
  have h2 := stg_le P j t
  unfold sst; split <;> omega
theorem tb_not : ∀ i, i < 12 → ∀ j, j < 12 → (4095 - 2 ^ i).testBit j = decide (j ≠ i) := by decide +kernel
theorem lo_not : ∀ i, i < 12 → nI 4095 &&& ((nI 1 <<< (nI i &&& 31)) ^^^ (-1)) = nI (4095 - 2 ^ i) := by decide +kernel
theorem msk_not {x i : Nat} (hx : x < 4096) (hi : i < 12) : nI x &&& ((nI 1 <<< (nI i &&& 31)) ^^^ (-1)) = nI (x &&& (4095 - 2 ^ i)) := by
  have e1 : nI x &&& nI 4095 = nI x := by
    rw [nI_and, show x &&& 4095 = x from by rw [show 4095 = 2 ^ 12 - 1 from rfl, Nat.and_two_pow_sub_one_eq_mod]; exact Nat.mod_eq_of_lt hx]
  rw [← e1, Int32.and_assoc, lo_not i hi, nI_and]
theorem msk_bit {P : Pl} {i t j : Nat} (hj : j < P.w) (hw : P.w ≤ 10) (hi : i < P.w) : (wmk P.W P.w t &&& (4095 - 2 ^ i)).testBit j = true ↔ j ≠ i ∧ snd P.W j t := by
  rw [Nat.testBit_and, tb_not i (by omega) j (by omega), mk_bit]
  simp only [Bool.and_eq_true, decide_eq_true_eq]
  constructor
  · rintro ⟨⟨_, a⟩, c⟩; exact ⟨c, a⟩
  · rintro ⟨c, a⟩; exact ⟨⟨hj, a⟩, c⟩

set_option maxHeartbeats 300000 in
set_option maxRecDepth 100000 in
/-- has(set, k) -/
theorem c_X7_has (l : Launch) {D : va_G} {dA : Nat → Nat} {b : Nat} {w : Wd} (x i : Nat) (hx0 : x < 2 ^ 31) (hi : i < 31) : Met l yX7_has wsX7_has ({ frames := 0, cells := 0, slots := 0, locals := 0 } : Room) (PC D dA b w [.int (nI x), .int (nI i)]) (QR (some (.int (if x.testBit i = true then 1 else 0)))) 0 0 Fno := by
  refine q_of (cc := cX7_has) (maxL := 2) (ret := (some .boolean)) (by decide) rfl rfl ?_
  intro p e s m args below meth c ls hx hb hr hml hts hown hlocks hG hW hS hl
  have hown : s.vm.findClass RX7 = some m.cls := hown
  have hl : lv_has ls 2 [(0, .int (nI x)), (1, .int (nI i))] := hl
  refine lv_iload_n hx hb dX7_has_0 rfl (lv_at hl 0 rfl) ?_
  refine lv_iload_n hx hb dX7_has_1 rfl (lv_at hl 1 rfl) ?_
  refine lv_ishr hx hb dX7_has_2 ?_
  refine q_top (y := nI (x / 2 ^ i)) (by exact nI_shr hx0 hi) ?_
  refine lv_iconst (v := nI 1) hx hb dX7_has_3 (by decide) ?_
  refine lv_iand hx hb dX7_has_4 ?_
  refine q_top (y := nI (x / 2 ^ i % 2)) (by exact nI_and1 _) ?_
  have e9 := bit_div (x := x) (n := i)
  refine lv_iconst (v := nI 1) hx hb dX7_has_5 (by decide) ?_
  refine lv_icmp_ne (tgt := 13) hx hb dX7_has_6 (by decide) (fun c_6 => ?_) (fun c_6 => ?_)
  · skip
    have c_6 : ¬ (x / 2 ^ i % 2 = 1) := fun h__ => c_6 ((nI_eq (a := x / 2 ^ i % 2) (b := 1) (by omega) (by omega)).mpr h__)
    refine lv_iconst (v := nI 0) hx hb dX7_has_13 (by decide) ?_
    exact q_rz hx hb hr hlocks dX7_has_14 (by first | (rw [if_pos (show x.testBit i = true from Decidable.byContradiction fun q9 => by rw [if_neg q9] at e9; omega)]; rfl) | (rw [if_neg (fun q9 => by rw [if_pos q9] at e9; omega)]; rfl)) (q_bn _)
  · skip
    have c_6 : x / 2 ^ i % 2 = 1 := (nI_eq (a := x / 2 ^ i % 2) (b := 1) (by omega) (by omega)).mp c_6
    refine lv_iconst (v := nI 1) hx hb dX7_has_9 (by decide) ?_
    refine lv_goto (tgt := 14) hx hb dX7_has_10 (by decide) ?_
    exact q_rz hx hb hr hlocks dX7_has_14 (by first | (rw [if_pos (show x.testBit i = true from Decidable.byContradiction fun q9 => by rw [if_neg q9] at e9; omega)]; rfl) | (rw [if_neg (fun q9 => by rw [if_pos q9] at e9; omega)]; rfl)) (q_bn _)

set_option maxHeartbeats 300000 in
set_option maxRecDepth 100000 in
/-- level -/
theorem c_X7_level (l : Launch) {D : va_G} {dA : Nat → Nat} {b : Nat} {w : Wd} {sv nc th pl lt dn : Int32} (hm0 : w 36 = some (modO b sv nc th pl lt dn)) {F : Nat → Nat} (hm1 : w 37 = some (eN dA 85 F)) {P : Pl} (hRp : rep F P) (hP : okP P) {DK : Nat → Nat} (hm42 : w 42 = some (eN dA 120 DK)) (t q : Nat) (ht : t < 120) (hq : q < 2 ^ 31) (hDK : DK t = dk P t) : Met l yX7_level wsX7_level ({ frames := 3, cells := 0, slots := 0, locals := 69 } : Room) (PC D dA b w [.ref (b + 36), .int (nI t), .int (nI q)]) (QR (some (.int (nI (lvl P (wgr P q t P.w) (wct P q t P.w)))))) 0 0 Fno := by
  refine q_of (cc := cX7_level) (maxL := 7) (ret := (some .int)) (by decide) rfl rfl ?_
  intro p e s m args below meth c ls hx hb hr hml hts hown hlocks hG hW hS hl
  have hown : s.vm.findClass RX7 = some m.cls := hown
  have hinX7 : ∀ w ∈ u_ws RX7 TX7 14, w ∈ wsX7_level := fun w h => (goodIn_r (big := wsX7_level) (u_ws RX7 TX7 14) [29, 30, 31, 32, 33, 34, 35, 36, 37, 38, 39, 40, 41, 42] (by decide +kernel) (by decide +kernel) w h).1
  have hl : lv_has ls 7 [(0, .ref (b + 36)), (1, .int (nI t)), (2, .int (nI q))] := hl
  obtain ⟨hPw, hPn, hPW, hPN, hPS⟩ := id hP
  have hr5 := hRp.2.1
  have hr6 := hRp.2.2.1
  refine lv_iconst (v := nI 0) hx hb dX7_level_0 (by decide) ?_
  refine lv_istore_n (lv' := [(3, .int (nI 0)), (0, .ref (b + 36)), (1, .int (nI t)), (2, .int (nI q))]) hx hb dX7_level_1 rfl hl (by decide) rfl (fun ls hl => ?_)
  refine lv_iconst (v := nI 0) hx hb dX7_level_2 (by decide) ?_
  refine lv_istore (lv' := [(4, .int (nI 0)), (3, .int (nI 0)), (0, .ref (b + 36)), (1, .int (nI t)), (2, .int (nI q))]) hx hb dX7_level_3 hl (by decide) rfl (fun ls hl => ?_)
  refine lv_iconst (v := nI 0) hx hb dX7_level_5 (by decide) ?_
  refine lv_istore (lv' := [(5, .int (nI 0)), (4, .int (nI 0)), (3, .int (nI 0)), (0, .ref (b + 36)), (1, .int (nI t)), (2, .int (nI q))]) hx hb dX7_level_6 hl (by decide) rfl (fun ls hl => ?_)
  have L8 : ∀ (n8 : Nat) (j : Nat), j ≤ P.n → P.n - j < n8 → ∀ (x8_3 : Int32) (x8_4 : Int32) (x8_5 : Int32), x8_3 = nI (gst P t j) → x8_4 = nI (gct P t j) → x8_5 = nI (j) → ∀ (ls : Array Slot), lv_has ls 7 [(0, .ref (b + 36)), (1, .int (nI t)), (2, .int (nI q)), (3, .int x8_3), (4, .int x8_4), (5, .int x8_5)] → W p l e ({ frames := 3, cells := 0, slots := 0, locals := 69 } : Room) s m args below meth c s.heap [] 0 0 (MQ below (QR (some (.int (nI (lvl P (wgr P q t P.w) (wct P q t P.w)))))) args s 0 0 Fno) (F0 m 8 ls []) := by
    intro n8
    induction n8 with
    | zero =>
      intro j hj0 hn8 x8_3 x8_4 x8_5 ex8_3 ex8_4 ex8_5 ls hl
      exact absurd hn8 (Nat.not_lt_zero _)
    | succ n8 ih8 =>
      intro j hj0 hn8 x8_3 x8_4 x8_5 ex8_3 ex8_4 ex8_5 ls hl
      subst ex8_3 ex8_4 ex8_5
      have hgs := gst_le hPN t j hj0
      have hgc := ct_le (fun i => snd P.N i t ∧ 0 < stg P i t) j
      change gct P t j ≤ j at hgc
      refine lv_iload hx hb dX7_level_8 (lv_at hl 5 rfl) ?_
      refine lv_aload_n hx hb dX7_level_10 rfl (lv_at hl 0 rfl) ?_
      refine q_get hx hb hts hinX7 hown hG hW hm0 rfl 0 (by decide) (hts (.fieldLink RX7 7 "FoleyMixerModel" "s" "[I") (List.mem_of_getElem? (i := 1) rfl)) rfl rfl dX7_level_11 ?_
      refine lv_bipush (v := nI 6) hx hb dX7_level_14 (by decide) ?_
      refine q_iald hx hb hG hW hm1 (by omega) (by omega) dX7_level_16 ?_
      refine q_top (y := nI (P.n)) (by exact congrArg nI hr6) ?_
      refine lv_icmp_ge (tgt := 63) hx hb dX7_level_17 (by decide) (fun c_17 => ?_) (fun c_17 => ?_)
      · skip
        have c_17 : P.n ≤ j := (nI_leI (a := P.n) (b := j) (by omega) (by omega)).mp c_17
        refine lv_iconst (v := nI 0) hx hb dX7_level_63 (by decide) ?_
        refine lv_istore (lv' := [(5, .int (nI 0)), (0, .ref (b + 36)), (1, .int (nI t)), (2, .int (nI q)), (3, .int (nI (gst P t j))), (4, .int (nI (gct P t j)))]) hx hb dX7_level_64 hl (by decide) rfl (fun ls hl => ?_)
        have L66 : ∀ (n66 : Nat) (u : Nat), u ≤ P.w → P.w - u < n66 → ∀ (x66_3 : Int32) (x66_4 : Int32) (x66_5 : Int32), x66_3 = nI (wgr P q t u) → x66_4 = nI (wct P q t u) → x66_5 = nI (u) → ∀ (ls : Array Slot), lv_has ls 7 [(0, .ref (b + 36)), (1, .int (nI t)), (2, .int (nI q)), (3, .int x66_3), (4, .int x66_4), (5, .int x66_5)] → W p l e ({ frames := 3, cells := 0, slots := 0, locals := 69 } : Room) s m args below meth c s.heap [] 0 0 (MQ below (QR (some (.int (nI (lvl P (wgr P q t P.w) (wct P q t P.w)))))) args s 0 0 Fno) (F0 m 66 ls []) := by
          intro n66
          induction n66 with
          | zero =>
            intro u hu0 hn66 x66_3 x66_4 x66_5 ex66_3 ex66_4 ex66_5 ls hl
            exact absurd hn66 (Nat.not_lt_zero _)
          | succ n66 ih66 =>
            intro u hu0 hn66 x66_3 x66_4 x66_5 ex66_3 ex66_4 ex66_5 ls hl
            subst ex66_3 ex66_4 ex66_5
            have hwl := wgr_le hP q t u hu0
            have hwu := wgr_le hP q t P.w (Nat.le_refl _)
            refine lv_iload hx hb dX7_level_66 (lv_at hl 5 rfl) ?_
            refine lv_aload_n hx hb dX7_level_68 rfl (lv_at hl 0 rfl) ?_
            refine q_get hx hb hts hinX7 hown hG hW hm0 rfl 0 (by decide) (hts (.fieldLink RX7 7 "FoleyMixerModel" "s" "[I") (List.mem_of_getElem? (i := 1) rfl)) rfl rfl dX7_level_69 ?_
            refine lv_iconst (v := nI 5) hx hb dX7_level_72 (by decide) ?_
            refine q_iald hx hb hG hW hm1 (by omega) (by omega) dX7_level_73 ?_
            refine q_top (y := nI (P.w)) (by exact congrArg nI hr5) ?_
            refine lv_icmp_ge (tgt := 118) hx hb dX7_level_74 (by decide) (fun c_74 => ?_) (fun c_74 => ?_)
            · skip
              have c_74 : P.w ≤ u := (nI_leI (a := P.w) (b := u) (by omega) (by omega)).mp c_74
              refine lv_iload hx hb dX7_level_118 (lv_at hl 4 rfl) ?_
              refine lv_if_ne (tgt := 127) hx hb dX7_level_120 (by decide) (fun c_120 => ?_) (fun c_120 => ?_)
              · skip
                have c_120 : ¬ ((wct P q t u) = 0) := fun h__ => c_120 ((nI_eq0 (i := wct P q t u) (by omega)).mpr h__)
                refine lv_iload_n hx hb dX7_level_127 rfl (lv_at hl 3 rfl) ?_
                refine lv_aload_n hx hb dX7_level_128 rfl (lv_at hl 0 rfl) ?_
                refine q_get hx hb hts hinX7 hown hG hW hm0 rfl 0 (by decide) (hts (.fieldLink RX7 7 "FoleyMixerModel" "s" "[I") (List.mem_of_getElem? (i := 1) rfl)) rfl rfl dX7_level_129 ?_
                refine lv_iconst (v := nI 2) hx hb dX7_level_132 (by decide) ?_
                refine q_iald hx hb hG hW hm1 (by omega) (by omega) dX7_level_133 ?_
                refine q_top (y := nI (P.S 2)) (by exact congrArg nI (hRp.1 2 (by omega))) ?_
                refine lv_iload hx hb dX7_level_134 (lv_at hl 4 rfl) ?_
                refine lv_iconst (v := nI 1) hx hb dX7_level_136 (by decide) ?_
                refine lv_isub hx hb dX7_level_137 ?_
                refine q_top (y := nI ((wct P q t u) - 1)) (nI_sub (by omega)) ?_
                refine lv_imul hx hb dX7_level_138 ?_
                refine q_top (y := nI ((P.S 2) * ((wct P q t u) - 1))) (nI_mul _ _) ?_
                refine lv_iadd hx hb dX7_level_139 ?_
                refine q_top (y := nI ((wgr P q t u) + ((P.S 2) * ((wct P q t u) - 1)))) (nI_add _ _) ?_
                exact q_ri hx hb hr hlocks dX7_level_140 (by refine congrArg nI ?_; rw [show P.w = u by omega]; unfold lvl; first | (rw [if_pos (by omega)]; done) | (rw [if_neg (by omega)]; done))
              · skip
                have c_120 : (wct P q t u) = 0 := (nI_eq0 (i := wct P q t u) (by omega)).mp c_120
                refine lv_iconst (v := nI 0) hx hb dX7_level_123 (by decide) ?_
                refine lv_goto (tgt := 140) hx hb dX7_level_124 (by decide) ?_
                exact q_ri hx hb hr hlocks dX7_level_140 (by refine congrArg nI ?_; rw [show P.w = u by omega]; unfold lvl; first | (rw [if_pos (by omega)]; done) | (rw [if_neg (by omega)]; done))
            · skip
              have c_74 : ¬ (P.w ≤ u) := fun h__ => c_74 ((nI_leI (a := P.w) (b := u) (by omega) (by omega)).mpr h__)
              refine lv_iload_n hx hb dX7_level_77 rfl (lv_at hl 2 rfl) ?_
              refine lv_iload hx hb dX7_level_78 (lv_at hl 5 rfl) ?_
              refine q_R1 (va_runS (As := [.int (nI q), .int (nI u)]) (rest := []) ⟨hx, hb, hml, hown, hts⟩ (c_X7_has l (q) (u) (by omega) (by omega)) (va_cwS 2 hts gX7_level_X7_has rfl rfl rfl (by decide +kernel) ⟨Nat.le_of_ble_eq_true rfl, Nat.le_of_ble_eq_true rfl⟩) (q_preS hG hW hS) rfl rfl hl.1 rfl (lv_room (Nat.le_of_ble_eq_true rfl)) dX7_level_80 ⟨Nat.le_of_ble_eq_true rfl, Nat.le_of_ble_eq_true rfl⟩) ?_
              refine lv_if_eq (tgt := 112) hx hb dX7_level_83 (by decide) (fun c_83 => ?_) (fun c_83 => ?_)
              · skip
                have c_83 : ¬ ((q).testBit u = true) := pI_eq0.mp c_83
                refine lv_iinc (v := nI (u + 1)) (lv' := [(5, .int (nI (u + 1))), (0, .ref (b + 36)), (1, .int (nI t)), (2, .int (nI q)), (3, .int (nI (wgr P q t u))), (4, .int (nI (wct P q t u)))]) hx hb dX7_level_112 hl (k := 5) rfl (nI_add _ 1) (by decide) rfl (fun ls hl => ?_)
                refine lv_goto (tgt := 66) hx hb dX7_level_115 (by decide) ?_
                exact ih66 (u + 1) (by omega) (by omega) _ _ _ (by first | rfl | (rw [wgr, if_neg c_83])) (by first | (rw [wct, if_pos c_83]; done) | (rw [wct, if_neg c_83])) (by first | rfl | (congr 1; omega)) _ (lv_sub hl [1, 2, 3, 4, 5, 0] rfl)
              · skip
                have c_83 : (q).testBit u = true := Decidable.byContradiction (fun h__ => c_83 (pI_eq0.mpr h__))
                have hWu := hPW u (by omega)
                refine lv_aload_n hx hb dX7_level_86 rfl (lv_at hl 0 rfl) ?_
                refine lv_iload hx hb dX7_level_87 (lv_at hl 5 rfl) ?_
                refine lv_iconst (v := nI 2) hx hb dX7_level_89 (by decide) ?_
                refine q_R1 (va_runV (As := [.int (nI u), .int (nI 2)]) (rest := []) ⟨hx, hb, hml, hown, hts⟩ (c_ofW l hm0 hm1 hRp hP (u) (2) (by omega) (by omega)) (cwV 2 hts gX7_level_X7_ofWord rfl rfl rfl (by decide +kernel) ⟨Nat.le_of_ble_eq_true rfl, Nat.le_of_ble_eq_true rfl⟩) (q_preV hG hW hS hm0 rfl) rfl rfl hl.1 rfl (lv_room (Nat.le_of_ble_eq_true rfl)) dX7_level_90 ⟨Nat.le_of_ble_eq_true rfl, Nat.le_of_ble_eq_true rfl⟩) ?_
                refine lv_iload_n hx hb dX7_level_93 rfl (lv_at hl 3 rfl) ?_
                refine lv_icmp_le (tgt := 107) hx hb dX7_level_94 (by decide) (fun c_94 => ?_) (fun c_94 => ?_)
                · skip
                  have c_94 : P.W u 2 ≤ wgr P q t u := (nI_leI (a := P.W u 2) (b := wgr P q t u) (by omega) (by omega)).mp c_94
                  refine lv_iload_n hx hb dX7_level_107 rfl (lv_at hl 3 rfl) ?_
                  refine q_top (y := nI (wgr P q t (u + 1))) (by refine congrArg nI ?_; rw [wgr, if_pos c_83]; omega) ?_
                  refine lv_istore_n (lv' := [(3, .int (nI (wgr P q t (u + 1)))), (0, .ref (b + 36)), (1, .int (nI t)), (2, .int (nI q)), (4, .int (nI (wct P q t u))), (5, .int (nI u))]) hx hb dX7_level_108 rfl hl (by decide) rfl (fun ls hl => ?_)
                  refine lv_iinc (v := nI ((wct P q t u) + 1)) (lv' := [(4, .int (nI ((wct P q t u) + 1))), (3, .int (nI (wgr P q t (u + 1)))), (0, .ref (b + 36)), (1, .int (nI t)), (2, .int (nI q)), (5, .int (nI u))]) hx hb dX7_level_109 hl (k := 4) rfl (nI_add _ 1) (by decide) rfl (fun ls hl => ?_)
                  refine lv_iinc (v := nI (u + 1)) (lv' := [(5, .int (nI (u + 1))), (4, .int (nI ((wct P q t u) + 1))), (3, .int (nI (wgr P q t (u + 1)))), (0, .ref (b + 36)), (1, .int (nI t)), (2, .int (nI q))]) hx hb dX7_level_112 hl (k := 5) rfl (nI_add _ 1) (by decide) rfl (fun ls hl => ?_)
                  refine lv_goto (tgt := 66) hx hb dX7_level_115 (by decide) ?_
                  exact ih66 (u + 1) (by omega) (by omega) _ _ _ (by first | rfl | (rw [wgr, if_neg c_83])) (by first | (rw [wct, if_pos c_83]; done) | (rw [wct, if_neg c_83])) (by first | rfl | (congr 1; omega)) _ (lv_sub hl [3, 4, 5, 2, 1, 0] rfl)
                · skip
                  have c_94 : ¬ (P.W u 2 ≤ wgr P q t u) := fun h__ => c_94 ((nI_leI (a := P.W u 2) (b := wgr P q t u) (by omega) (by omega)).mpr h__)
                  refine lv_aload_n hx hb dX7_level_97 rfl (lv_at hl 0 rfl) ?_
                  refine lv_iload hx hb dX7_level_98 (lv_at hl 5 rfl) ?_
                  refine lv_iconst (v := nI 2) hx hb dX7_level_100 (by decide) ?_
                  refine q_R1 (va_runV (As := [.int (nI u), .int (nI 2)]) (rest := []) ⟨hx, hb, hml, hown, hts⟩ (c_ofW l hm0 hm1 hRp hP (u) (2) (by omega) (by omega)) (cwV 2 hts gX7_level_X7_ofWord rfl rfl rfl (by decide +kernel) ⟨Nat.le_of_ble_eq_true rfl, Nat.le_of_ble_eq_true rfl⟩) (q_preV hG hW hS hm0 rfl) rfl rfl hl.1 rfl (lv_room (Nat.le_of_ble_eq_true rfl)) dX7_level_101 ⟨Nat.le_of_ble_eq_true rfl, Nat.le_of_ble_eq_true rfl⟩) ?_
                  refine lv_goto (tgt := 108) hx hb dX7_level_104 (by decide) ?_
                  refine q_top (y := nI (wgr P q t (u + 1))) (by refine congrArg nI ?_; rw [wgr, if_pos c_83]; omega) ?_
                  refine lv_istore_n (lv' := [(3, .int (nI (wgr P q t (u + 1)))), (0, .ref (b + 36)), (1, .int (nI t)), (2, .int (nI q)), (4, .int (nI (wct P q t u))), (5, .int (nI u))]) hx hb dX7_level_108 rfl hl (by decide) rfl (fun ls hl => ?_)
                  refine lv_iinc (v := nI ((wct P q t u) + 1)) (lv' := [(4, .int (nI ((wct P q t u) + 1))), (3, .int (nI (wgr P q t (u + 1)))), (0, .ref (b + 36)), (1, .int (nI t)), (2, .int (nI q)), (5, .int (nI u))]) hx hb dX7_level_109 hl (k := 4) rfl (nI_add _ 1) (by decide) rfl (fun ls hl => ?_)
                  refine lv_iinc (v := nI (u + 1)) (lv' := [(5, .int (nI (u + 1))), (4, .int (nI ((wct P q t u) + 1))), (3, .int (nI (wgr P q t (u + 1)))), (0, .ref (b + 36)), (1, .int (nI t)), (2, .int (nI q))]) hx hb dX7_level_112 hl (k := 5) rfl (nI_add _ 1) (by decide) rfl (fun ls hl => ?_)
                  refine lv_goto (tgt := 66) hx hb dX7_level_115 (by decide) ?_
                  exact ih66 (u + 1) (by omega) (by omega) _ _ _ (by first | rfl | (rw [wgr, if_neg c_83])) (by first | (rw [wct, if_pos c_83]; done) | (rw [wct, if_neg c_83])) (by first | rfl | (congr 1; omega)) _ (lv_sub hl [3, 4, 5, 2, 1, 0] rfl)
        exact L66 ((P.w - 0) + 1) 0 (by omega) (Nat.lt_succ_self _) _ _ _ (by rw [show j = P.n by omega]; rfl) (by rw [show j = P.n by omega]; rfl) (by first | rfl | (congr 1; omega)) _ (lv_sub hl [1, 2, 3, 4, 5, 0] rfl)
      · skip
        have c_17 : ¬ (P.n ≤ j) := fun h__ => c_17 ((nI_leI (a := P.n) (b := j) (by omega) (by omega)).mpr h__)
        refine lv_aload_n hx hb dX7_level_20 rfl (lv_at hl 0 rfl) ?_
        refine lv_iload hx hb dX7_level_21 (lv_at hl 5 rfl) ?_
        refine lv_iload_n hx hb dX7_level_23 rfl (lv_at hl 1 rfl) ?_
        refine q_R1 (va_runV (As := [.int (nI j), .int (nI t)]) (rest := []) ⟨hx, hb, hml, hown, hts⟩ (c_X7_strength l hm0 hm1 hRp hP hm42 (j) (t) (by omega) (by omega) hDK) (cwV 2 hts gX7_level_X7_strength rfl rfl rfl (by decide +kernel) ⟨Nat.le_of_ble_eq_true rfl, Nat.le_of_ble_eq_true rfl⟩) (q_preV hG hW hS hm0 rfl) rfl rfl hl.1 rfl (lv_room (Nat.le_of_ble_eq_true rfl)) dX7_level_24 ⟨Nat.le_of_ble_eq_true rfl, Nat.le_of_ble_eq_true rfl⟩) ?_
        have hss := sst_b hP (show j < P.n by omega) t
        refine lv_istore (lv' := [(6, .int (nI (sst P j t))), (0, .ref (b + 36)), (1, .int (nI t)), (2, .int (nI q)), (3, .int (nI (gst P t j))), (4, .int (nI (gct P t j))), (5, .int (nI j))]) hx hb dX7_level_27 hl (by decide) rfl (fun ls hl => ?_)
        refine lv_iload hx hb dX7_level_29 (lv_at hl 0 rfl) ?_
        refine lv_iload_n hx hb dX7_level_31 rfl (lv_at hl 4 rfl) ?_
        refine lv_icmp_le (tgt := 40) hx hb dX7_level_32 (by decide) (fun c_32 => ?_) (fun c_32 => ?_)
        · skip
          have c_32 : sst P j t ≤ gst P t j := (nI_leI (a := sst P j t) (b := gst P t j) (by omega) (by omega)).mp c_32
          refine lv_iload_n hx hb dX7_level_40 rfl (lv_at hl 4 rfl) ?_
          refine q_top (y := nI (gst P t (j + 1))) (by refine congrArg nI ?_; rw [gst_step]; first | (rw [if_pos (by omega)]; done) | (rw [if_neg (by omega)]; done) | (rw [if_neg (by omega)]; rfl)) ?_
          refine lv_istore_n (lv' := [(3, .int (nI (gst P t (j + 1)))), (6, .int (nI (sst P j t))), (0, .ref (b + 36)), (1, .int (nI t)), (2, .int (nI q)), (4, .int (nI (gct P t j))), (5, .int (nI j))]) hx hb dX7_level_41 rfl hl (by decide) rfl (fun ls hl => ?_)
          refine lv_iload hx hb dX7_level_42 (lv_at hl 5 rfl) ?_
          refine lv_iload hx hb dX7_level_44 (lv_at hl 1 rfl) ?_
          refine lv_if_le (tgt := 53) hx hb dX7_level_46 (by decide) (fun c_46 => ?_) (fun c_46 => ?_)
          · skip
            have c_46 : (sst P j t) ≤ 0 := (nI_le0 (i := sst P j t) (by omega)).mp c_46
            refine lv_iconst (v := nI 0) hx hb dX7_level_53 (by decide) ?_
            refine lv_iadd hx hb dX7_level_54 ?_
            refine q_top (y := nI ((gct P t j) + 0)) (nI_add _ _) ?_
            refine q_top (y := nI (gct P t (j + 1))) (by refine congrArg nI ?_; rw [gct_step]; first | (rw [if_pos (by omega)]; done) | (rw [if_neg (by omega)]; done) | (rw [if_neg (by omega)]; rfl)) ?_
            refine lv_istore (lv' := [(4, .int (nI (gct P t (j + 1)))), (3, .int (nI (gst P t (j + 1)))), (6, .int (nI (sst P j t))), (0, .ref (b + 36)), (1, .int (nI t)), (2, .int (nI q)), (5, .int (nI j))]) hx hb dX7_level_55 hl (by decide) rfl (fun ls hl => ?_)
            refine lv_iinc (v := nI (j + 1)) (lv' := [(5, .int (nI (j + 1))), (4, .int (nI (gct P t (j + 1)))), (3, .int (nI (gst P t (j + 1)))), (6, .int (nI (sst P j t))), (0, .ref (b + 36)), (1, .int (nI t)), (2, .int (nI q))]) hx hb dX7_level_57 hl (k := 6) rfl (nI_add _ 1) (by decide) rfl (fun ls hl => ?_)
            refine lv_goto (tgt := 8) hx hb dX7_level_60 (by decide) ?_
            exact ih8 (j + 1) (by omega) (by omega) _ _ _ (by rfl) (by rfl) (by first | rfl | (congr 1; omega)) _ (lv_sub hl [4, 5, 6, 2, 1, 0] rfl)
          · skip
            have c_46 : ¬ ((sst P j t) ≤ 0) := fun h__ => c_46 ((nI_le0 (i := sst P j t) (by omega)).mpr h__)
            refine lv_iconst (v := nI 1) hx hb dX7_level_49 (by decide) ?_
            refine lv_goto (tgt := 54) hx hb dX7_level_50 (by decide) ?_
            refine lv_iadd hx hb dX7_level_54 ?_
            refine q_top (y := nI ((gct P t j) + 1)) (nI_add _ _) ?_
            refine q_top (y := nI (gct P t (j + 1))) (by refine congrArg nI ?_; rw [gct_step]; first | (rw [if_pos (by omega)]; done) | (rw [if_neg (by omega)]; done) | (rw [if_neg (by omega)]; rfl)) ?_
            refine lv_istore (lv' := [(4, .int (nI (gct P t (j + 1)))), (3, .int (nI (gst P t (j + 1)))), (6, .int (nI (sst P j t))), (0, .ref (b + 36)), (1, .int (nI t)), (2, .int (nI q)), (5, .int (nI j))]) hx hb dX7_level_55 hl (by decide) rfl (fun ls hl => ?_)
            refine lv_iinc (v := nI (j + 1)) (lv' := [(5, .int (nI (j + 1))), (4, .int (nI (gct P t (j + 1)))), (3, .int (nI (gst P t (j + 1)))), (6, .int (nI (sst P j t))), (0, .ref (b + 36)), (1, .int (nI t)), (2, .int (nI q))]) hx hb dX7_level_57 hl (k := 6) rfl (nI_add _ 1) (by decide) rfl (fun ls hl => ?_)
            refine lv_goto (tgt := 8) hx hb dX7_level_60 (by decide) ?_
            exact ih8 (j + 1) (by omega) (by omega) _ _ _ (by rfl) (by rfl) (by first | rfl | (congr 1; omega)) _ (lv_sub hl [4, 5, 6, 2, 1, 0] rfl)
        · skip
          have c_32 : ¬ (sst P j t ≤ gst P t j) := fun h__ => c_32 ((nI_leI (a := sst P j t) (b := gst P t j) (by omega) (by omega)).mpr h__)
          refine lv_iload hx hb dX7_level_35 (lv_at hl 0 rfl) ?_
          refine lv_goto (tgt := 41) hx hb dX7_level_37 (by decide) ?_
          refine q_top (y := nI (gst P t (j + 1))) (by refine congrArg nI ?_; rw [gst_step]; first | (rw [if_pos (by omega)]; done) | (rw [if_neg (by omega)]; done) | (rw [if_neg (by omega)]; rfl)) ?_
          refine lv_istore_n (lv' := [(3, .int (nI (gst P t (j + 1)))), (6, .int (nI (sst P j t))), (0, .ref (b + 36)), (1, .int (nI t)), (2, .int (nI q)), (4, .int (nI (gct P t j))), (5, .int (nI j))]) hx hb dX7_level_41 rfl hl (by decide) rfl (fun ls hl => ?_)
          refine lv_iload hx hb dX7_level_42 (lv_at hl 5 rfl) ?_
          refine lv_iload hx hb dX7_level_44 (lv_at hl 1 rfl) ?_
          refine lv_if_le (tgt := 53) hx hb dX7_level_46 (by decide) (fun c_46 => ?_) (fun c_46 => ?_)
          · skip
            have c_46 : (sst P j t) ≤ 0 := (nI_le0 (i := sst P j t) (by omega)).mp c_46
            refine lv_iconst (v := nI 0) hx hb dX7_level_53 (by decide) ?_
            refine lv_iadd hx hb dX7_level_54 ?_
            refine q_top (y := nI ((gct P t j) + 0)) (nI_add _ _) ?_
            refine q_top (y := nI (gct P t (j + 1))) (by refine congrArg nI ?_; rw [gct_step]; first | (rw [if_pos (by omega)]; done) | (rw [if_neg (by omega)]; done) | (rw [if_neg (by omega)]; rfl)) ?_
            refine lv_istore (lv' := [(4, .int (nI (gct P t (j + 1)))), (3, .int (nI (gst P t (j + 1)))), (6, .int (nI (sst P j t))), (0, .ref (b + 36)), (1, .int (nI t)), (2, .int (nI q)), (5, .int (nI j))]) hx hb dX7_level_55 hl (by decide) rfl (fun ls hl => ?_)
            refine lv_iinc (v := nI (j + 1)) (lv' := [(5, .int (nI (j + 1))), (4, .int (nI (gct P t (j + 1)))), (3, .int (nI (gst P t (j + 1)))), (6, .int (nI (sst P j t))), (0, .ref (b + 36)), (1, .int (nI t)), (2, .int (nI q))]) hx hb dX7_level_57 hl (k := 6) rfl (nI_add _ 1) (by decide) rfl (fun ls hl => ?_)
            refine lv_goto (tgt := 8) hx hb dX7_level_60 (by decide) ?_
            exact ih8 (j + 1) (by omega) (by omega) _ _ _ (by rfl) (by rfl) (by first | rfl | (congr 1; omega)) _ (lv_sub hl [4, 5, 6, 2, 1, 0] rfl)
          · skip
            have c_46 : ¬ ((sst P j t) ≤ 0) := fun h__ => c_46 ((nI_le0 (i := sst P j t) (by omega)).mpr h__)
            refine lv_iconst (v := nI 1) hx hb dX7_level_49 (by decide) ?_
            refine lv_goto (tgt := 54) hx hb dX7_level_50 (by decide) ?_
            refine lv_iadd hx hb dX7_level_54 ?_
            refine q_top (y := nI ((gct P t j) + 1)) (nI_add _ _) ?_
            refine q_top (y := nI (gct P t (j + 1))) (by refine congrArg nI ?_; rw [gct_step]; first | (rw [if_pos (by omega)]; done) | (rw [if_neg (by omega)]; done) | (rw [if_neg (by omega)]; rfl)) ?_
            refine lv_istore (lv' := [(4, .int (nI (gct P t (j + 1)))), (3, .int (nI (gst P t (j + 1)))), (6, .int (nI (sst P j t))), (0, .ref (b + 36)), (1, .int (nI t)), (2, .int (nI q)), (5, .int (nI j))]) hx hb dX7_level_55 hl (by decide) rfl (fun ls hl => ?_)
            refine lv_iinc (v := nI (j + 1)) (lv' := [(5, .int (nI (j + 1))), (4, .int (nI (gct P t (j + 1)))), (3, .int (nI (gst P t (j + 1)))), (6, .int (nI (sst P j t))), (0, .ref (b + 36)), (1, .int (nI t)), (2, .int (nI q))]) hx hb dX7_level_57 hl (k := 6) rfl (nI_add _ 1) (by decide) rfl (fun ls hl => ?_)
            refine lv_goto (tgt := 8) hx hb dX7_level_60 (by decide) ?_
            exact ih8 (j + 1) (by omega) (by omega) _ _ _ (by rfl) (by rfl) (by first | rfl | (congr 1; omega)) _ (lv_sub hl [4, 5, 6, 2, 1, 0] rfl)
  exact L8 ((P.n - 0) + 1) 0 (by omega) (Nat.lt_succ_self _) _ _ _ (by rfl) (by rfl) (by first | rfl | (congr 1; omega)) _ (lv_sub hl [3, 4, 5, 2, 1, 0] rfl)

set_option maxHeartbeats 300000 in
set_option maxRecDepth 100000 in
/-- cover -/
theorem c_X7_cover (l : Launch) {D : va_G} {dA : Nat → Nat} {b : Nat} {w : Wd} {sv nc th pl lt dn : Int32} (hm0 : w 36 = some (modO b sv nc th pl lt dn)) {F : Nat → Nat} (hm1 : w 37 = some (eN dA 85 F)) {P : Pl} (hRp : rep F P) (hP : okP P) {DK : Nat → Nat} (hm42 : w 42 = some (eN dA 120 DK)) (i t : Nat) (hi : i < P.w) (ht : t < 120) (hDK : DK t = dk P t) : Met l yX7_cover wsX7_cover ({ frames := 4, cells := 0, slots := 0, locals := 95 } : Room) (PC D dA b w [.ref (b + 36), .int (nI i), .int (nI t)]) (QR (some (.int (nI (cov P i t))))) 0 0 Fno := by
  refine q_of (cc := cX7_cover) (maxL := 3) (ret := (some .int)) (by decide) rfl rfl ?_
  intro p e s m args below meth c ls hx hb hr hml hts hown hlocks hG hW hS hl
  have hown : s.vm.findClass RX7 = some m.cls := hown
  have hl : lv_has ls 3 [(0, .ref (b + 36)), (1, .int (nI i)), (2, .int (nI t))] := hl
  obtain ⟨hPw, hPn, hPW, hPN, hPS⟩ := id hP
  have hr5 := hRp.2.1
  have hr6 := hRp.2.2.1
  have hwm := wmk_lt (V := P.W) (n := P.w) (by omega) t
  refine lv_aload_n hx hb dX7_cover_0 rfl (lv_at hl 0 rfl) ?_
  refine lv_iload_n hx hb dX7_cover_1 rfl (lv_at hl 2 rfl) ?_
  refine lv_aload_n hx hb dX7_cover_2 rfl (lv_at hl 0 rfl) ?_
  refine lv_iload_n hx hb dX7_cover_3 rfl (lv_at hl 2 rfl) ?_
  refine q_R1 (va_runV (As := [.int (nI t)]) (rest := [.int (nI t), .ref (b + 36)]) ⟨hx, hb, hml, hown, hts⟩ (c_X7_wordsAt l hm0 hm1 hRp hP (t) (by omega)) (cwV 1 hts gX7_cover_X7_wordsAt rfl rfl rfl (by decide +kernel) ⟨Nat.le_of_ble_eq_true rfl, Nat.le_of_ble_eq_true rfl⟩) (q_preV hG hW hS hm0 rfl) rfl rfl hl.1 rfl (lv_room (Nat.le_of_ble_eq_true rfl)) dX7_cover_4 ⟨Nat.le_of_ble_eq_true rfl, Nat.le_of_ble_eq_true rfl⟩) ?_
  refine lv_iconst (v := nI 1) hx hb dX7_cover_7 (by decide) ?_
  refine lv_iload_n hx hb dX7_cover_8 rfl (lv_at hl 1 rfl) ?_
  refine lv_ishl hx hb dX7_cover_9 ?_
  refine lv_iconst (v := (-1)) hx hb dX7_cover_10 (by decide) ?_
  refine lv_ixor hx hb dX7_cover_11 ?_
  refine lv_iand hx hb dX7_cover_12 ?_
  refine q_top (y := nI (wmk P.W P.w t &&& (4095 - 2 ^ i))) (by exact msk_not hwm (by omega)) ?_
  have hlt9 := Nat.lt_of_le_of_lt (Nat.and_le_left (n := wmk P.W P.w t) (m := 4095 - 2 ^ i)) hwm
  refine q_R1 (va_runV (As := [.int (nI t), .int (nI (wmk P.W P.w t &&& (4095 - 2 ^ i)))]) (rest := []) ⟨hx, hb, hml, hown, hts⟩ (c_X7_level l hm0 hm1 hRp hP hm42 (t) (wmk P.W P.w t &&& (4095 - 2 ^ i)) (by omega) (by omega) hDK) (cwV 2 hts gX7_cover_X7_level rfl rfl rfl (by decide +kernel) ⟨Nat.le_of_ble_eq_true rfl, Nat.le_of_ble_eq_true rfl⟩) (q_preV hG hW hS hm0 rfl) rfl rfl hl.1 rfl (lv_room (Nat.le_of_ble_eq_true rfl)) dX7_cover_13 ⟨Nat.le_of_ble_eq_true rfl, Nat.le_of_ble_eq_true rfl⟩) ?_
  exact q_ri hx hb hr hlocks dX7_cover_16 (by refine congrArg nI ?_; unfold cov; rw [(wgr_cov P.w (fun j hj => msk_bit hj hPw hi)).1, (wgr_cov P.w (fun j hj => msk_bit hj hPw hi)).2])

