set_option maxHeartbeats 300000 in
set_option maxRecDepth 100000 in
/-- readText(false) -/
theorem c_X7_readText_f (l : Launch) {D : va_G} {dA : Nat → Nat} {b : Nat} {w : Wd} {sv th pl lt dn : Int32} {nc : Nat} (hm0 : w 36 = some (modO b sv (nI nc) th pl lt dn)) {C : Nat → Nat} (hm41 : w 41 = some (eN dA 80 C)) (hbu : mBu nc C) {TD : Nat → Nat} (hm44 : w 44 = some (eN dA 3 TD)) : Met l yX7_readText wsX7_readText ({ frames := 4, cells := 0, slots := 0, locals := 88 } : Room) (PC D dA b w [.ref (b + 36), .int (nI 0)]) (QE D b (fun r w' => r < 2 ∧ ∃ (u d : Nat) (kd : Int32) (TD1 : Nat → Nat), w' 36 = some (modO b sv (nI nc) th (nI u) kd (nI d)) ∧ u ≤ nc ∧ w' 44 = some (eN dA 3 TD1) ∧ ((r = 1 ∧ whl nc C R0) ∨ (r = 0 ∧ pNo nc C u)) ∧ ∀ id : Nat, id ≠ 36 ∧ id ≠ 44 → w' id = w id)) 0 0 (Fb b) := by
  refine q_of (cc := cX7_readText) (maxL := 3) (ret := (some .boolean)) (by decide) rfl rfl ?_
  intro p e s m args below meth c ls hx hb hr hml hts hown hlocks hG hW hS hl
  have hown : s.vm.findClass RX7 = some m.cls := hown
  have hinX7 : ∀ w ∈ u_ws RX7 TX7 14, w ∈ wsX7_readText := fun w h => (goodIn_r (big := wsX7_readText) (u_ws RX7 TX7 14) [39, 40, 41, 42, 43, 44, 45, 46, 47, 48, 49, 50, 51, 52] (by decide +kernel) (by decide +kernel) w h).1
  have hl : lv_has ls 3 [(0, .ref (b + 36)), (1, .int (nI 0))] := hl
  have hnc := hbu.1
  have hm41o := hm41
  refine lv_aload_n hx hb dX7_readText_0 rfl (lv_at hl 0 rfl) ?_
  refine lv_iconst (v := nI 0) hx hb dX7_readText_1 (by decide) ?_
  refine q_put hx hb hts hinX7 tyX7_ok nmX7 hown hG hW hS hm0 rfl 10 (by decide) (hts (.fieldLink RX7 120 "FoleyMixerModel" "place" "I") (List.mem_of_getElem? (i := 1) rfl)) rfl rfl rfl rfl (Nat.le_of_ble_eq_true rfl) dX7_readText_2 (fun H locs hW hS hz2 => ?_)
  obtain ⟨w1, ew1⟩ : ∃ wq__ : Wd, wq__ = va_up w 36 (some (modO b (sv) (nI (nc)) (th) (nI (0)) (lt) (dn))) := ⟨_, rfl⟩
  replace hW : WP D b w1 H := by rw [ew1]; exact hW
  have frw1 : ∀ id : Nat, id ≠ 36 → w1 id = w id := fun id h9 => by rw [ew1, up_ne h9]
  replace hm41 : w1 41 = some (eN dA 80 C) := (frw1 _ (by omega)).trans hm41
  replace hm44 : w1 44 = some (eN dA 3 TD) := (frw1 _ (by omega)).trans hm44
  replace hm0 : w1 36 = some (modO b (sv) (nI (nc)) (th) (nI (0)) (lt) (dn)) := by rw [ew1]; exact up_eq
  refine lv_aload_n hx hb dX7_readText_5 rfl (lv_at hl 0 rfl) ?_
  refine lv_iconst (v := nI 0) hx hb dX7_readText_6 (by decide) ?_
  refine q_put hx hb hts hinX7 tyX7_ok nmX7 hown hG hW hS hm0 rfl 13 (by decide) (hts (.fieldLink RX7 135 "FoleyMixerModel" "done" "I") (List.mem_of_getElem? (i := 2) rfl)) rfl rfl rfl rfl (Nat.le_of_ble_eq_true rfl) dX7_readText_7 (fun H locs hW hS hz7 => ?_)
  obtain ⟨w2, ew2⟩ : ∃ wq__ : Wd, wq__ = va_up w1 36 (some (modO b (sv) (nI (nc)) (th) (nI (0)) (lt) (nI (0)))) := ⟨_, rfl⟩
  replace hW : WP D b w2 H := by rw [ew2]; exact hW
  have frw2 : ∀ id : Nat, id ≠ 36 → w2 id = w1 id := fun id h9 => by rw [ew2, up_ne h9]
  replace hm41 : w2 41 = some (eN dA 80 C) := (frw2 _ (by omega)).trans hm41
  replace hm44 : w2 44 = some (eN dA 3 TD) := (frw2 _ (by omega)).trans hm44
  replace hm0 : w2 36 = some (modO b (sv) (nI (nc)) (th) (nI (0)) (lt) (nI (0))) := by rw [ew2]; exact up_eq
  have hK := pKd_0 nc C
  refine lv_aload_n hx hb dX7_readText_10 rfl (lv_at hl 0 rfl) ?_
  refine q_E1 (va_runV (As := []) (rest := []) ⟨hx, hb, hml, hown, hts⟩ (c_X7_readCue l hm0 hm41 hbu hm44 hK) (cwV 0 hts gX7_readText_X7_readCue rfl rfl rfl (by decide +kernel) ⟨Nat.le_of_ble_eq_true rfl, Nat.le_of_ble_eq_true rfl⟩) (q_preV hG hW hS hm0 rfl) rfl rfl hl.1 rfl (lv_room (Nat.le_of_ble_eq_true rfl)) dX7_readText_11 ⟨Nat.le_of_ble_eq_true rfl, Nat.le_of_ble_eq_true rfl⟩) hS (fun r11 w_11 H locs hp11 hW hS => ?_)
  obtain ⟨hr11, u11, kd11, TD11, hm0, hul11, hm44, hor11, fr11⟩ := hp11
  replace hm41 : w_11 41 = some (eN dA 80 C) := (fr11 _ (by omega)).trans hm41
  refine lv_istore_n (lv' := [(2, .int (nI r11)), (0, .ref (b + 36)), (1, .int (nI 0))]) hx hb dX7_readText_14 rfl hl (by decide) rfl (fun ls hl => ?_)
  have L15 : ∀ (n15 : Nat) (g8 u8 q8 d8 : Nat) (kd8 : Int32) (TD8 : Nat → Nat), g8 < 2 → u8 ≤ nc → q8 ≤ nc → ((g8 = 1 ∧ pCue nc C q8 u8 kd8 TD8) ∨ (g8 = 0 ∧ pNo nc C u8)) → 2 * (nc + 1 - q8) + g8 < n15 → ∀ (x15_2 : Int32), x15_2 = nI (g8) → ∀ (wa : Wd) (H : Heap) (locs : List Loc), wa 36 = some (modO b sv (nI nc) th (nI u8) kd8 (nI d8)) → wa 44 = some (eN dA 3 TD8) → (∀ id : Nat, id ≠ 36 ∧ id ≠ 44 → wa id = w id) → WP D b wa H → va_S (Fb b) s.heap H locs → ∀ (ls : Array Slot), lv_has ls 3 [(0, .ref (b + 36)), (1, .int (nI 0)), (2, .int x15_2)] → W p l e ({ frames := 4, cells := 0, slots := 0, locals := 88 } : Room) s m args below meth c H locs 0 0 (MQ below (QE D b (fun r w' => r < 2 ∧ ∃ (u d : Nat) (kd : Int32) (TD1 : Nat → Nat), w' 36 = some (modO b sv (nI nc) th (nI u) kd (nI d)) ∧ u ≤ nc ∧ w' 44 = some (eN dA 3 TD1) ∧ ((r = 1 ∧ whl nc C R0) ∨ (r = 0 ∧ pNo nc C u)) ∧ ∀ id : Nat, id ≠ 36 ∧ id ≠ 44 → w' id = w id)) args s 0 0 (Fb b)) (F0 m 15 ls []) := by
    intro n15
    induction n15 with
    | zero =>
      intro g8 u8 q8 d8 kd8 TD8 hg8 hul8 hq8 hor8 hn15 x15_2 ex15_2 wa H locs hm0 hm44 fr hW hS ls hl
      exact absurd hn15 (Nat.not_lt_zero _)
    | succ n15 ih15 =>
      intro g8 u8 q8 d8 kd8 TD8 hg8 hul8 hq8 hor8 hn15 x15_2 ex15_2 wa H locs hm0 hm44 fr hW hS ls hl
      subst ex15_2
      replace hm41 := (fr 41 (by omega)).trans hm41o
      refine lv_iload_n hx hb dX7_readText_15 rfl (lv_at hl 2 rfl) ?_
      refine lv_if_eq (tgt := 145) hx hb dX7_readText_16 (by decide) (fun c_16 => ?_) (fun c_16 => ?_)
      · skip
        have c_16 : g8 = 0 := (nI_eq0 (i := g8) (by omega)).mp c_16
        refine lv_iconst (v := nI 0) hx hb dX7_readText_145 (by decide) ?_
        exact q_ez hx hb hr hlocks hW hS dX7_readText_146 (by omega) (by exact ⟨by omega, u8, _, _, _, hm0, hul8, hm44, Or.inr ⟨rfl, (hor8.resolve_left (fun h => absurd h.1 (by omega))).2⟩, fr⟩) (by decide) (by decide)
      · skip
        have c_16 : ¬ (g8 = 0) := fun h__ => c_16 ((nI_eq0 (i := g8) (by omega)).mpr h__)
        have hcue := (hor8.resolve_right (fun h => c_16 h.1)).2
        have hqu := hcue.1.1
        refine lv_iload_n hx hb dX7_readText_19 rfl (lv_at hl 1 rfl) ?_
        refine lv_if_eq (tgt := 97) hx hb dX7_readText_20 (by decide) (fun c_20 => ?_) (fun c_20 => ?_)
        · skip
          have c_20 : 0 = 0 := (nI_eq0 (i := 0) (by omega)).mp c_20
          refine lv_aload_n hx hb dX7_readText_97 rfl (lv_at hl 0 rfl) ?_
          refine lv_dup hx hb dX7_readText_98 rfl ?_
          refine q_get hx hb hts hinX7 hown hG hW hm0 rfl 13 (by decide) (hts (.fieldLink RX7 135 "FoleyMixerModel" "done" "I") (List.mem_of_getElem? (i := 2) rfl)) rfl rfl dX7_readText_99 ?_
          refine lv_iconst (v := nI 1) hx hb dX7_readText_102 (by decide) ?_
          refine lv_iadd hx hb dX7_readText_103 ?_
          refine q_top (y := nI (d8 + 1)) (nI_add _ _) ?_
          refine q_put hx hb hts hinX7 tyX7_ok nmX7 hown hG hW hS hm0 rfl 13 (by decide) (hts (.fieldLink RX7 135 "FoleyMixerModel" "done" "I") (List.mem_of_getElem? (i := 2) rfl)) rfl rfl rfl rfl (Nat.le_of_ble_eq_true rfl) dX7_readText_104 (fun H locs hW hS hz104 => ?_)
          obtain ⟨w3, ew3⟩ : ∃ wq__ : Wd, wq__ = va_up wa 36 (some (modO b (sv) (nI (nc)) (th) (nI (u8)) (kd8) (nI (d8 + 1)))) := ⟨_, rfl⟩
          replace hW : WP D b w3 H := by rw [ew3]; exact hW
          have frw3 : ∀ id : Nat, id ≠ 36 → w3 id = wa id := fun id h9 => by rw [ew3, up_ne h9]
          replace hm41 : w3 41 = some (eN dA 80 C) := (frw3 _ (by omega)).trans hm41
          replace hm44 : w3 44 = some (eN dA 3 TD8) := (frw3 _ (by omega)).trans hm44
          replace hm0 : w3 36 = some (modO b (sv) (nI (nc)) (th) (nI (u8)) (kd8) (nI (d8 + 1))) := by rw [ew3]; exact up_eq
          refine lv_aload_n hx hb dX7_readText_107 rfl (lv_at hl 0 rfl) ?_
          refine q_get hx hb hts hinX7 hown hG hW hm0 rfl 10 (by decide) (hts (.fieldLink RX7 120 "FoleyMixerModel" "place" "I") (List.mem_of_getElem? (i := 1) rfl)) rfl rfl dX7_readText_108 ?_
          refine lv_aload_n hx hb dX7_readText_111 rfl (lv_at hl 0 rfl) ?_
          refine q_get hx hb hts hinX7 hown hG hW hm0 rfl 6 (by decide) (hts (.fieldLink RX7 117 "FoleyMixerModel" "length" "I") (List.mem_of_getElem? (i := 5) rfl)) rfl rfl dX7_readText_112 ?_
          refine lv_icmp_ne (tgt := 120) hx hb dX7_readText_115 (by decide) (fun c_115 => ?_) (fun c_115 => ?_)
          · skip
            have c_115 : ¬ (u8 = nc) := fun h__ => c_115 ((nI_eq (a := u8) (b := nc) (by omega) (by omega)).mpr h__)
            refine lv_aload_n hx hb dX7_readText_120 rfl (lv_at hl 0 rfl) ?_
            refine lv_bipush (v := nI 59) hx hb dX7_readText_121 (by decide) ?_
            refine q_W1 (va_runV (As := [.int (nI 59)]) (rest := []) ⟨hx, hb, hml, hown, hts⟩ (c_X7_takes l hm0 hm41 hbu 59 (by omega) (by omega)) (cwV 1 hts gX7_readText_X7_takes rfl rfl rfl (by decide +kernel) ⟨Nat.le_of_ble_eq_true rfl, Nat.le_of_ble_eq_true rfl⟩) (q_preV hG hW hS hm0 rfl) rfl rfl hl.1 rfl (lv_room (Nat.le_of_ble_eq_true rfl)) dX7_readText_123 ⟨Nat.le_of_ble_eq_true rfl, Nat.le_of_ble_eq_true rfl⟩) hS (fun w_123 H locs hp123 hW hS => ?_)
            obtain ⟨hm0, fr123⟩ := hp123
            replace hm41 : w_123 41 = some (eN dA 80 C) := (fr123 _ (by omega)).trans hm41
            replace hm44 : w_123 44 = some (eN dA 3 TD8) := (fr123 _ (by omega)).trans hm44
            refine lv_if_eq (tgt := 140) hx hb dX7_readText_126 (by decide) (fun c_126 => ?_) (fun c_126 => ?_)
            · skip
              have c_126 : ¬ (u8 < nc ∧ C u8 = 59) := pI_eq0.mp c_126
              rw [if_neg c_126] at hm0
              refine lv_iconst (v := nI 0) hx hb dX7_readText_140 (by decide) ?_
              refine lv_istore_n (lv' := [(2, .int (nI 0)), (0, .ref (b + 36)), (1, .int (nI 0))]) hx hb dX7_readText_141 rfl hl (by decide) rfl (fun ls hl => ?_)
              refine lv_goto (tgt := 15) hx hb dX7_readText_142 (by decide) ?_
              exact ih15 0 u8 (u8 + 1) (d8 + 1) kd8 TD8 (by omega) (by omega) (by omega) (by exact Or.inr ⟨rfl, pNo_sgn hcue.1 hcue.2 (by decide) (fun _ => c_115) c_126⟩) (by omega) _ (by first | rfl | (congr 1; omega)) _ _ _ (by exact hm0) (by exact hm44) (by intro id h9; rw [fr123 id (by omega)]; rw [frw3 id (by omega)]; exact fr id h9) hW hS _ (lv_sub hl [1, 2, 0] rfl)
            · skip
              have c_126 : u8 < nc ∧ C u8 = 59 := Decidable.byContradiction (fun h__ => c_126 (pI_eq0.mpr h__))
              rw [if_pos c_126] at hm0
              have hK := pKd_sgn hcue.1 c_126.1 c_126.2
              refine lv_aload_n hx hb dX7_readText_129 rfl (lv_at hl 0 rfl) ?_
              refine q_E1 (va_runV (As := []) (rest := []) ⟨hx, hb, hml, hown, hts⟩ (c_X7_readCue l hm0 hm41 hbu hm44 hK) (cwV 0 hts gX7_readText_X7_readCue rfl rfl rfl (by decide +kernel) ⟨Nat.le_of_ble_eq_true rfl, Nat.le_of_ble_eq_true rfl⟩) (q_preV hG hW hS hm0 rfl) rfl rfl hl.1 rfl (lv_room (Nat.le_of_ble_eq_true rfl)) dX7_readText_130 ⟨Nat.le_of_ble_eq_true rfl, Nat.le_of_ble_eq_true rfl⟩) hS (fun r130 w_130 H locs hp130 hW hS => ?_)
              obtain ⟨hr130, u130, kd130, TD130, hm0, hul130, hm44, hor130, fr130⟩ := hp130
              replace hm41 : w_130 41 = some (eN dA 80 C) := (fr130 _ (by omega)).trans hm41
              refine lv_if_eq (tgt := 140) hx hb dX7_readText_133 (by decide) (fun c_133 => ?_) (fun c_133 => ?_)
              · skip
                have c_133 : r130 = 0 := (nI_eq0 (i := r130) (by omega)).mp c_133
                refine lv_iconst (v := nI 0) hx hb dX7_readText_140 (by decide) ?_
                refine lv_istore_n (lv' := [(2, .int (nI 0)), (0, .ref (b + 36)), (1, .int (nI 0))]) hx hb dX7_readText_141 rfl hl (by decide) rfl (fun ls hl => ?_)
                refine lv_goto (tgt := 15) hx hb dX7_readText_142 (by decide) ?_
                exact ih15 0 u130 (u8 + 1) (d8 + 1) kd130 TD130 (by omega) (by omega) (by omega) (by exact Or.inr ⟨rfl, (hor130.resolve_left (fun h => absurd h.1 (by omega))).2⟩) (by omega) _ (by first | rfl | (congr 1; omega)) _ _ _ (by exact hm0) (by exact hm44) (by intro id h9; rw [fr130 id (by omega)]; rw [fr123 id (by omega)]; rw [frw3 id (by omega)]; exact fr id h9) hW hS _ (lv_sub hl [1, 2, 0] rfl)
              · skip
                have c_133 : ¬ (r130 = 0) := fun h__ => c_133 ((nI_eq0 (i := r130) (by omega)).mpr h__)
                refine lv_iconst (v := nI 1) hx hb dX7_readText_136 (by decide) ?_
                refine lv_goto (tgt := 141) hx hb dX7_readText_137 (by decide) ?_
                refine lv_istore_n (lv' := [(2, .int (nI 1)), (0, .ref (b + 36)), (1, .int (nI 0))]) hx hb dX7_readText_141 rfl hl (by decide) rfl (fun ls hl => ?_)
                refine lv_goto (tgt := 15) hx hb dX7_readText_142 (by decide) ?_
                exact ih15 1 u130 (u8 + 1) (d8 + 1) kd130 TD130 (by omega) (by omega) (by omega) (by exact Or.inl ⟨rfl, (hor130.resolve_right (fun h => c_133 h.1)).2⟩) (by omega) _ (by first | rfl | (congr 1; omega)) _ _ _ (by exact hm0) (by exact hm44) (by intro id h9; rw [fr130 id (by omega)]; rw [fr123 id (by omega)]; rw [frw3 id (by omega)]; exact fr id h9) hW hS _ (lv_sub hl [1, 2, 0] rfl)
          · skip
            have c_115 : u8 = nc := (nI_eq (a := u8) (b := nc) (by omega) (by omega)).mp c_115
            refine lv_iconst (v := nI 1) hx hb dX7_readText_118 (by decide) ?_
            exact q_ez hx hb hr hlocks hW hS dX7_readText_119 (by omega) (by exact ⟨by omega, u8, _, _, _, hm0, hul8, hm44, Or.inl ⟨rfl, by rw [c_115] at hcue; exact whl_cue hcue⟩, by intro id h9; rw [frw3 id (by omega)]; exact fr id h9⟩) (by decide) (by decide)
        · skip
          have c_20 : ¬ (0 = 0) := fun h__ => c_20 ((nI_eq0 (i := 0) (by omega)).mpr h__)
          exact absurd c_20 (by omega)
  exact L15 ((2 * (nc + 1 - 0) + r11) + 1) r11 u11 0 0 kd11 TD11 (by omega) (by omega) (by omega) (by exact hor11) (Nat.lt_succ_self _) _ (by first | rfl | (congr 1; omega)) _ _ _ (by exact hm0) (by exact hm44) (by intro id h9; rw [fr11 id (by omega)]; rw [frw2 id (by omega)]; rw [frw1 id (by omega)]; try rfl) hW hS _ (lv_sub hl [1, 2, 0] rfl)

set_option maxHeartbeats 300000 in
set_option maxRecDepth 100000 in
/-- readText(true) -/
theorem c_X7_readText_t (l : Launch) {D : va_G} {dA : Nat → Nat} {b : Nat} {w : Wd} {sv th pl lt dn : Int32} {nc : Nat} (hm0 : w 36 = some (modO b sv (nI nc) th pl lt dn)) {C : Nat → Nat} (hm41 : w 41 = some (eN dA 80 C)) (hbu : mBu nc C) {TD : Nat → Nat} (hm44 : w 44 = some (eN dA 3 TD)) {F : Nat → Nat} (hm1 : w 37 = some (eN dA 85 F)) {Q9 : Pl} (hRq : rep F Q9) (hPq : okP Q9) (hw : whl nc C R0) : Met l yX7_readText wsX7_readText ({ frames := 4, cells := 0, slots := 0, locals := 88 } : Room) (PC D dA b w [.ref (b + 36), .int (nI 1)]) (QE D b (fun r w' => r = 1 ∧ ∃ (u : Nat) (kd : Int32) (TD1 F1 : Nat → Nat), w' 36 = some (modO b sv (nI nc) th (nI u) kd (nI (rgo nc C R0 (nc + 1) Q9 0).2)) ∧ w' 44 = some (eN dA 3 TD1) ∧ w' 37 = some (eN dA 85 F1) ∧ rep F1 (rgo nc C R0 (nc + 1) Q9 0).1 ∧ okP (rgo nc C R0 (nc + 1) Q9 0).1 ∧ ∀ id : Nat, id ≠ 36 ∧ id ≠ 37 ∧ id ≠ 44 → w' id = w id)) 0 0 (Fb b) := by
  refine q_of (cc := cX7_readText) (maxL := 3) (ret := (some .boolean)) (by decide) rfl rfl ?_
  intro p e s m args below meth c ls hx hb hr hml hts hown hlocks hG hW hS hl
  have hown : s.vm.findClass RX7 = some m.cls := hown
  have hinX7 : ∀ w ∈ u_ws RX7 TX7 14, w ∈ wsX7_readText := fun w h => (goodIn_r (big := wsX7_readText) (u_ws RX7 TX7 14) [39, 40, 41, 42, 43, 44, 45, 46, 47, 48, 49, 50, 51, 52] (by decide +kernel) (by decide +kernel) w h).1
  have hl : lv_has ls 3 [(0, .ref (b + 36)), (1, .int (nI 1))] := hl
  have hnc := hbu.1
  have hm41o := hm41
  refine lv_aload_n hx hb dX7_readText_0 rfl (lv_at hl 0 rfl) ?_
  refine lv_iconst (v := nI 0) hx hb dX7_readText_1 (by decide) ?_
  refine q_put hx hb hts hinX7 tyX7_ok nmX7 hown hG hW hS hm0 rfl 10 (by decide) (hts (.fieldLink RX7 120 "FoleyMixerModel" "place" "I") (List.mem_of_getElem? (i := 1) rfl)) rfl rfl rfl rfl (Nat.le_of_ble_eq_true rfl) dX7_readText_2 (fun H locs hW hS hz2 => ?_)
  obtain ⟨w1, ew1⟩ : ∃ wq__ : Wd, wq__ = va_up w 36 (some (modO b (sv) (nI (nc)) (th) (nI (0)) (lt) (dn))) := ⟨_, rfl⟩
  replace hW : WP D b w1 H := by rw [ew1]; exact hW
  have frw1 : ∀ id : Nat, id ≠ 36 → w1 id = w id := fun id h9 => by rw [ew1, up_ne h9]
  replace hm41 : w1 41 = some (eN dA 80 C) := (frw1 _ (by omega)).trans hm41
  replace hm44 : w1 44 = some (eN dA 3 TD) := (frw1 _ (by omega)).trans hm44
  replace hm1 : w1 37 = some (eN dA 85 F) := (frw1 _ (by omega)).trans hm1
  replace hm0 : w1 36 = some (modO b (sv) (nI (nc)) (th) (nI (0)) (lt) (dn)) := by rw [ew1]; exact up_eq
  refine lv_aload_n hx hb dX7_readText_5 rfl (lv_at hl 0 rfl) ?_
  refine lv_iconst (v := nI 0) hx hb dX7_readText_6 (by decide) ?_
  refine q_put hx hb hts hinX7 tyX7_ok nmX7 hown hG hW hS hm0 rfl 13 (by decide) (hts (.fieldLink RX7 135 "FoleyMixerModel" "done" "I") (List.mem_of_getElem? (i := 2) rfl)) rfl rfl rfl rfl (Nat.le_of_ble_eq_true rfl) dX7_readText_7 (fun H locs hW hS hz7 => ?_)
  obtain ⟨w2, ew2⟩ : ∃ wq__ : Wd, wq__ = va_up w1 36 (some (modO b (sv) (nI (nc)) (th) (nI (0)) (lt) (nI (0)))) := ⟨_, rfl⟩
  replace hW : WP D b w2 H := by rw [ew2]; exact hW
  have frw2 : ∀ id : Nat, id ≠ 36 → w2 id = w1 id := fun id h9 => by rw [ew2, up_ne h9]
  replace hm41 : w2 41 = some (eN dA 80 C) := (frw2 _ (by omega)).trans hm41
  replace hm44 : w2 44 = some (eN dA 3 TD) := (frw2 _ (by omega)).trans hm44
  replace hm1 : w2 37 = some (eN dA 85 F) := (frw2 _ (by omega)).trans hm1
  replace hm0 : w2 36 = some (modO b (sv) (nI (nc)) (th) (nI (0)) (lt) (nI (0))) := by rw [ew2]; exact up_eq
  have hK := pKd_0 nc C
  refine lv_aload_n hx hb dX7_readText_10 rfl (lv_at hl 0 rfl) ?_
  refine q_E1 (va_runV (As := []) (rest := []) ⟨hx, hb, hml, hown, hts⟩ (c_X7_readCue l hm0 hm41 hbu hm44 hK) (cwV 0 hts gX7_readText_X7_readCue rfl rfl rfl (by decide +kernel) ⟨Nat.le_of_ble_eq_true rfl, Nat.le_of_ble_eq_true rfl⟩) (q_preV hG hW hS hm0 rfl) rfl rfl hl.1 rfl (lv_room (Nat.le_of_ble_eq_true rfl)) dX7_readText_11 ⟨Nat.le_of_ble_eq_true rfl, Nat.le_of_ble_eq_true rfl⟩) hS (fun r11 w_11 H locs hp11 hW hS => ?_)
  obtain ⟨hr11, u11, kd11, TD11, hm0, hul11, hm44, hor11, fr11⟩ := hp11
  replace hm41 : w_11 41 = some (eN dA 80 C) := (fr11 _ (by omega)).trans hm41
  replace hm1 : w_11 37 = some (eN dA 85 F) := (fr11 _ (by omega)).trans hm1
  obtain ⟨hr1, hcu1⟩ := hor11.resolve_right (fun h => pNo_whl h.2 hw)
  refine q_top (y := nI (1)) (by exact congrArg nI hr1) ?_
  refine lv_istore_n (lv' := [(2, .int (nI 1)), (0, .ref (b + 36)), (1, .int (nI 1))]) hx hb dX7_readText_14 rfl hl (by decide) rfl (fun ls hl => ?_)
  have L15 : ∀ (n15 : Nat) (u8 q8 d8 : Nat) (kd8 : Int32) (TD8 F8 : Nat → Nat) (P : Pl), u8 ≤ nc → pCue nc C q8 u8 kd8 TD8 → rep F8 P → okP P → rgo nc C R0 (nc + 1 - q8) P d8 = rgo nc C R0 (nc + 1) Q9 0 → nc + 1 - q8 < n15 → ∀ (wa : Wd) (H : Heap) (locs : List Loc), wa 36 = some (modO b sv (nI nc) th (nI u8) kd8 (nI d8)) → wa 37 = some (eN dA 85 F8) → wa 44 = some (eN dA 3 TD8) → (∀ id : Nat, id ≠ 36 ∧ id ≠ 37 ∧ id ≠ 44 → wa id = w id) → WP D b wa H → va_S (Fb b) s.heap H locs → ∀ (ls : Array Slot), lv_has ls 3 [(0, .ref (b + 36)), (1, .int (nI 1)), (2, .int (nI 1))] → W p l e ({ frames := 4, cells := 0, slots := 0, locals := 88 } : Room) s m args below meth c H locs 0 0 (MQ below (QE D b (fun r w' => r = 1 ∧ ∃ (u : Nat) (kd : Int32) (TD1 F1 : Nat → Nat), w' 36 = some (modO b sv (nI nc) th (nI u) kd (nI (rgo nc C R0 (nc + 1) Q9 0).2)) ∧ w' 44 = some (eN dA 3 TD1) ∧ w' 37 = some (eN dA 85 F1) ∧ rep F1 (rgo nc C R0 (nc + 1) Q9 0).1 ∧ okP (rgo nc C R0 (nc + 1) Q9 0).1 ∧ ∀ id : Nat, id ≠ 36 ∧ id ≠ 37 ∧ id ≠ 44 → w' id = w id)) args s 0 0 (Fb b)) (F0 m 15 ls []) := by
    intro n15
    induction n15 with
    | zero =>
      intro u8 q8 d8 kd8 TD8 F8 P hul8 hcue hRp hP hres hn15 wa H locs hm0 hm1 hm44 fr hW hS ls hl
      exact absurd hn15 (Nat.not_lt_zero _)
    | succ n15 ih15 =>
      intro u8 q8 d8 kd8 TD8 F8 P hul8 hcue hRp hP hres hn15 wa H locs hm0 hm1 hm44 fr hW hS ls hl
      obtain ⟨hkd, hb0, hb1, hb2, hb3, hb4, hk5, hk6, hk7, hk8⟩ := cue_b hcue
      have hce := cue_end hw hcue
      have hgo := cue_go (P := P) (c := d8) hcue
      have hqu := hcue.1.1
      replace hm41 := (fr 41 (by omega)).trans hm41o
      refine lv_iload_n hx hb dX7_readText_15 rfl (lv_at hl 2 rfl) ?_
      refine lv_if_eq (tgt := 145) hx hb dX7_readText_16 (by decide) (fun c_16 => ?_) (fun c_16 => ?_)
      · skip
        have c_16 : 1 = 0 := (nI_eq0 (i := 1) (by omega)).mp c_16
        exact absurd c_16 (by omega)
      · skip
        have c_16 : ¬ (1 = 0) := fun h__ => c_16 ((nI_eq0 (i := 1) (by omega)).mpr h__)
        refine lv_iload_n hx hb dX7_readText_19 rfl (lv_at hl 1 rfl) ?_
        refine lv_if_eq (tgt := 97) hx hb dX7_readText_20 (by decide) (fun c_20 => ?_) (fun c_20 => ?_)
        · skip
          have c_20 : 1 = 0 := (nI_eq0 (i := 1) (by omega)).mp c_20
          exact absurd c_20 (by omega)
        · skip
          have c_20 : ¬ (1 = 0) := fun h__ => c_20 ((nI_eq0 (i := 1) (by omega)).mpr h__)
          refine lv_aload_n hx hb dX7_readText_23 rfl (lv_at hl 0 rfl) ?_
          refine lv_aload_n hx hb dX7_readText_24 rfl (lv_at hl 0 rfl) ?_
          refine q_get hx hb hts hinX7 hown hG hW hm0 rfl 11 (by decide) (hts (.fieldLink RX7 126 "FoleyMixerModel" "letter" "I") (List.mem_of_getElem? (i := 3) rfl)) rfl rfl dX7_readText_25 ?_
          refine lv_bipush (v := nI 119) hx hb dX7_readText_28 (by decide) ?_
          refine lv_icmp_ne (tgt := 37) hx hb dX7_readText_30 (by decide) (fun c_30 => ?_) (fun c_30 => ?_)
          · skip
            have hk9 : ¬ kd8 = nI 119 := c_30
            refine lv_iconst (v := nI 0) hx hb dX7_readText_37 (by decide) ?_
            refine q_R1 (va_runV (As := [.int (nI 0)]) (rest := []) ⟨hx, hb, hml, hown, hts⟩ (c_X7_isRoom_f l hm0 hm1 hRp hP) (cwV 1 hts gX7_readText_X7_isRoom rfl rfl rfl (by decide +kernel) ⟨Nat.le_of_ble_eq_true rfl, Nat.le_of_ble_eq_true rfl⟩) (q_preV hG hW hS hm0 rfl) rfl rfl hl.1 rfl (lv_room (Nat.le_of_ble_eq_true rfl)) dX7_readText_38 ⟨Nat.le_of_ble_eq_true rfl, Nat.le_of_ble_eq_true rfl⟩) ?_
            refine lv_if_ne (tgt := 46) hx hb dX7_readText_41 (by decide) (fun c_41 => ?_) (fun c_41 => ?_)
            · skip
              have c_41 : P.n < 12 := Decidable.byContradiction (fun h__ => c_41 (pI_eq0.mpr h__))
              have hnf : ¬ rfull P (rrun nc C R0 u8) := by unfold rfull; rw [hk5]; first | (rw [if_pos hk9]; omega) | (rw [if_neg hk9]; omega)
              refine lv_aload_n hx hb dX7_readText_46 rfl (lv_at hl 0 rfl) ?_
              refine lv_aload_n hx hb dX7_readText_47 rfl (lv_at hl 0 rfl) ?_
              refine q_get hx hb hts hinX7 hown hG hW hm0 rfl 11 (by decide) (hts (.fieldLink RX7 126 "FoleyMixerModel" "letter" "I") (List.mem_of_getElem? (i := 3) rfl)) rfl rfl dX7_readText_48 ?_
              refine lv_bipush (v := nI 119) hx hb dX7_readText_51 (by decide) ?_
              refine lv_icmp_ne (tgt := 60) hx hb dX7_readText_53 (by decide) (fun c_53 => ?_) (fun c_53 => ?_)
              · skip
                refine lv_iconst (v := nI 0) hx hb dX7_readText_60 (by decide) ?_
                refine lv_aload_n hx hb dX7_readText_61 rfl (lv_at hl 0 rfl) ?_
                refine q_get hx hb hts hinX7 hown hG hW hm0 rfl 12 (by decide) (hts (.fieldLink RX7 32 "FoleyMixerModel" "told" "[I") (List.mem_of_getElem? (i := 4) rfl)) rfl rfl dX7_readText_62 ?_
                refine lv_iconst (v := nI 0) hx hb dX7_readText_65 (by decide) ?_
                refine q_iald hx hb hG hW hm44 (by omega) (by omega) dX7_readText_66 ?_
                refine lv_aload_n hx hb dX7_readText_67 rfl (lv_at hl 0 rfl) ?_
                refine q_get hx hb hts hinX7 hown hG hW hm0 rfl 12 (by decide) (hts (.fieldLink RX7 32 "FoleyMixerModel" "told" "[I") (List.mem_of_getElem? (i := 4) rfl)) rfl rfl dX7_readText_68 ?_
                refine lv_iconst (v := nI 1) hx hb dX7_readText_71 (by decide) ?_
                refine q_iald hx hb hG hW hm44 (by omega) (by omega) dX7_readText_72 ?_
                refine lv_aload_n hx hb dX7_readText_73 rfl (lv_at hl 0 rfl) ?_
                refine q_get hx hb hts hinX7 hown hG hW hm0 rfl 12 (by decide) (hts (.fieldLink RX7 32 "FoleyMixerModel" "told" "[I") (List.mem_of_getElem? (i := 4) rfl)) rfl rfl dX7_readText_74 ?_
                refine lv_iconst (v := nI 2) hx hb dX7_readText_77 (by decide) ?_
                refine q_iald hx hb hG hW hm44 (by omega) (by omega) dX7_readText_78 ?_
                refine lv_aload_n hx hb dX7_readText_79 rfl (lv_at hl 0 rfl) ?_
                refine q_get hx hb hts hinX7 hown hG hW hm0 rfl 11 (by decide) (hts (.fieldLink RX7 126 "FoleyMixerModel" "letter" "I") (List.mem_of_getElem? (i := 3) rfl)) rfl rfl dX7_readText_80 ?_
                refine lv_bipush (v := nI 78) hx hb dX7_readText_83 (by decide) ?_
                refine lv_icmp_ne (tgt := 92) hx hb dX7_readText_85 (by decide) (fun c_85 => ?_) (fun c_85 => ?_)
                · skip
                  have hg9 : ¬ kd8 = nI 78 := c_85
                  refine lv_iconst (v := nI 0) hx hb dX7_readText_92 (by decide) ?_
                  refine q_W1 (va_runV (As := [.int (nI 0), .int (nI (TD8 0)), .int (nI (TD8 1)), .int (nI (TD8 2)), .int (nI 0)]) (rest := []) ⟨hx, hb, hml, hown, hts⟩ (c_X7_add_f l hm0 hm1 hRp hP (TD8 0) (TD8 1) (TD8 2) 0 (by omega) (by omega) (by omega) (by omega) (by omega) (by omega)) (cwV 5 hts gX7_readText_X7_add rfl rfl rfl (by decide +kernel) ⟨Nat.le_of_ble_eq_true rfl, Nat.le_of_ble_eq_true rfl⟩) (q_preV hG hW hS hm0 rfl) rfl rfl hl.1 rfl (lv_room (Nat.le_of_ble_eq_true rfl)) dX7_readText_93 ⟨Nat.le_of_ble_eq_true rfl, Nat.le_of_ble_eq_true rfl⟩) hS (fun w_93 H locs hp93 hW hS => ?_)
                  obtain ⟨F93, hm1, hRp, hP, fr93⟩ := hp93
                  replace hm41 : w_93 41 = some (eN dA 80 C) := (fr93 _ (by omega)).trans hm41
                  replace hm0 : w_93 36 = some (modO b (sv) (nI (nc)) (th) (nI (u8)) (kd8) (nI (d8))) := (fr93 _ (by omega)).trans hm0
                  replace hm44 : w_93 44 = some (eN dA 3 TD8) := (fr93 _ (by omega)).trans hm44
                  refine lv_pop hx hb dX7_readText_96 rfl ?_
                  have hra : radd P (rrun nc C R0 u8) = (P.w, P.W, P.n + 1, addV P.N P.n (TD8 0) (TD8 1) (TD8 2) 0, P.S) := by unfold radd; rw [hk5, hk6, hk7, hk8, if_neg hk9, if_neg hg9]; try rfl
                  have hres2 : rgo nc C R0 (nc + 1 - (u8 + 1)) (P.w, P.W, P.n + 1, addV P.N P.n (TD8 0) (TD8 1) (TD8 2) 0, P.S) (d8 + 1) = rgo nc C R0 (nc + 1) Q9 0 := by rw [← hra]; exact (rgo_add hul8 hce hnf).symm.trans (hgo.symm.trans hres)
                  refine lv_aload_n hx hb dX7_readText_97 rfl (lv_at hl 0 rfl) ?_
                  refine lv_dup hx hb dX7_readText_98 rfl ?_
                  refine q_get hx hb hts hinX7 hown hG hW hm0 rfl 13 (by decide) (hts (.fieldLink RX7 135 "FoleyMixerModel" "done" "I") (List.mem_of_getElem? (i := 2) rfl)) rfl rfl dX7_readText_99 ?_
                  refine lv_iconst (v := nI 1) hx hb dX7_readText_102 (by decide) ?_
                  refine lv_iadd hx hb dX7_readText_103 ?_
                  refine q_top (y := nI (d8 + 1)) (nI_add _ _) ?_
                  refine q_put hx hb hts hinX7 tyX7_ok nmX7 hown hG hW hS hm0 rfl 13 (by decide) (hts (.fieldLink RX7 135 "FoleyMixerModel" "done" "I") (List.mem_of_getElem? (i := 2) rfl)) rfl rfl rfl rfl (Nat.le_of_ble_eq_true rfl) dX7_readText_104 (fun H locs hW hS hz104 => ?_)
                  obtain ⟨w3, ew3⟩ : ∃ wq__ : Wd, wq__ = va_up w_93 36 (some (modO b (sv) (nI (nc)) (th) (nI (u8)) (kd8) (nI (d8 + 1)))) := ⟨_, rfl⟩
                  replace hW : WP D b w3 H := by rw [ew3]; exact hW
                  have frw3 : ∀ id : Nat, id ≠ 36 → w3 id = w_93 id := fun id h9 => by rw [ew3, up_ne h9]
                  replace hm41 : w3 41 = some (eN dA 80 C) := (frw3 _ (by omega)).trans hm41
                  replace hm44 : w3 44 = some (eN dA 3 TD8) := (frw3 _ (by omega)).trans hm44
                  replace hm1 : w3 37 = some (eN dA 85 F93) := (frw3 _ (by omega)).trans hm1
                  replace hm0 : w3 36 = some (modO b (sv) (nI (nc)) (th) (nI (u8)) (kd8) (nI (d8 + 1))) := by rw [ew3]; exact up_eq
                  refine lv_aload_n hx hb dX7_readText_107 rfl (lv_at hl 0 rfl) ?_
                  refine q_get hx hb hts hinX7 hown hG hW hm0 rfl 10 (by decide) (hts (.fieldLink RX7 120 "FoleyMixerModel" "place" "I") (List.mem_of_getElem? (i := 1) rfl)) rfl rfl dX7_readText_108 ?_
                  refine lv_aload_n hx hb dX7_readText_111 rfl (lv_at hl 0 rfl) ?_
                  refine q_get hx hb hts hinX7 hown hG hW hm0 rfl 6 (by decide) (hts (.fieldLink RX7 117 "FoleyMixerModel" "length" "I") (List.mem_of_getElem? (i := 5) rfl)) rfl rfl dX7_readText_112 ?_
                  refine lv_icmp_ne (tgt := 120) hx hb dX7_readText_115 (by decide) (fun c_115 => ?_) (fun c_115 => ?_)
                  · skip
                    have c_115 : ¬ (u8 = nc) := fun h__ => c_115 ((nI_eq (a := u8) (b := nc) (by omega) (by omega)).mpr h__)
                    refine lv_aload_n hx hb dX7_readText_120 rfl (lv_at hl 0 rfl) ?_
                    refine lv_bipush (v := nI 59) hx hb dX7_readText_121 (by decide) ?_
                    refine q_W1 (va_runV (As := [.int (nI 59)]) (rest := []) ⟨hx, hb, hml, hown, hts⟩ (c_X7_takes l hm0 hm41 hbu 59 (by omega) (by omega)) (cwV 1 hts gX7_readText_X7_takes rfl rfl rfl (by decide +kernel) ⟨Nat.le_of_ble_eq_true rfl, Nat.le_of_ble_eq_true rfl⟩) (q_preV hG hW hS hm0 rfl) rfl rfl hl.1 rfl (lv_room (Nat.le_of_ble_eq_true rfl)) dX7_readText_123 ⟨Nat.le_of_ble_eq_true rfl, Nat.le_of_ble_eq_true rfl⟩) hS (fun w_123 H locs hp123 hW hS => ?_)
                    obtain ⟨hm0, fr123⟩ := hp123
                    replace hm41 : w_123 41 = some (eN dA 80 C) := (fr123 _ (by omega)).trans hm41
                    replace hm44 : w_123 44 = some (eN dA 3 TD8) := (fr123 _ (by omega)).trans hm44
                    replace hm1 : w_123 37 = some (eN dA 85 F93) := (fr123 _ (by omega)).trans hm1
                    refine lv_if_eq (tgt := 140) hx hb dX7_readText_126 (by decide) (fun c_126 => ?_) (fun c_126 => ?_)
                    · skip
                      have c_126 : ¬ (u8 < nc ∧ C u8 = 59) := pI_eq0.mp c_126
                      exact absurd (whl_stop hw hcue c_115) c_126
                    · skip
                      have c_126 : u8 < nc ∧ C u8 = 59 := Decidable.byContradiction (fun h__ => c_126 (pI_eq0.mpr h__))
                      rw [if_pos c_126] at hm0
                      have hK := pKd_sgn hcue.1 c_126.1 c_126.2
                      refine lv_aload_n hx hb dX7_readText_129 rfl (lv_at hl 0 rfl) ?_
                      refine q_E1 (va_runV (As := []) (rest := []) ⟨hx, hb, hml, hown, hts⟩ (c_X7_readCue l hm0 hm41 hbu hm44 hK) (cwV 0 hts gX7_readText_X7_readCue rfl rfl rfl (by decide +kernel) ⟨Nat.le_of_ble_eq_true rfl, Nat.le_of_ble_eq_true rfl⟩) (q_preV hG hW hS hm0 rfl) rfl rfl hl.1 rfl (lv_room (Nat.le_of_ble_eq_true rfl)) dX7_readText_130 ⟨Nat.le_of_ble_eq_true rfl, Nat.le_of_ble_eq_true rfl⟩) hS (fun r130 w_130 H locs hp130 hW hS => ?_)
                      obtain ⟨hr130, u130, kd130, TD130, hm0, hul130, hm44, hor130, fr130⟩ := hp130
                      replace hm41 : w_130 41 = some (eN dA 80 C) := (fr130 _ (by omega)).trans hm41
                      replace hm1 : w_130 37 = some (eN dA 85 F93) := (fr130 _ (by omega)).trans hm1
                      obtain ⟨hr2, hcue2⟩ := hor130.resolve_right (fun h => pNo_whl h.2 hw)
                      refine q_top (y := nI (1)) (by exact congrArg nI hr2) ?_
                      refine lv_if_eq (tgt := 140) hx hb dX7_readText_133 (by decide) (fun c_133 => ?_) (fun c_133 => ?_)
                      · skip
                        have c_133 : 1 = 0 := (nI_eq0 (i := 1) (by omega)).mp c_133
                        exact absurd c_133 (by omega)
                      · skip
                        have c_133 : ¬ (1 = 0) := fun h__ => c_133 ((nI_eq0 (i := 1) (by omega)).mpr h__)
                        refine lv_iconst (v := nI 1) hx hb dX7_readText_136 (by decide) ?_
                        refine lv_goto (tgt := 141) hx hb dX7_readText_137 (by decide) ?_
                        refine lv_istore_n (lv' := [(2, .int (nI 1)), (0, .ref (b + 36)), (1, .int (nI 1))]) hx hb dX7_readText_141 rfl hl (by decide) rfl (fun ls hl => ?_)
                        refine lv_goto (tgt := 15) hx hb dX7_readText_142 (by decide) ?_
                        exact ih15 u130 (u8 + 1) (d8 + 1) kd130 TD130 F93 (P.w, P.W, P.n + 1, addV P.N P.n (TD8 0) (TD8 1) (TD8 2) 0, P.S) (by first | exact hul130 | exact hul11) (by first | exact hcue2 | exact hcu1) (by first | exact hRp | exact hRq) (by first | exact hP | exact hPq) (by first | exact hres2 | rfl) (by omega) _ _ _ (by exact hm0) (by exact hm1) (by exact hm44) (by intro id h9; rw [fr130 id (by omega)]; rw [fr123 id (by omega)]; rw [frw3 id (by omega)]; rw [fr93 id (by omega)]; exact fr id h9) hW hS _ (lv_sub hl [1, 2, 0] rfl)
                  · skip
                    have c_115 : u8 = nc := (nI_eq (a := u8) (b := nc) (by omega) (by omega)).mp c_115
                    refine lv_iconst (v := nI 1) hx hb dX7_readText_118 (by decide) ?_
                    exact q_ez hx hb hr hlocks hW hS dX7_readText_119 (by omega) (by have hrf : rgo nc C R0 (nc + 1) Q9 0 = ((P.w, P.W, P.n + 1, addV P.N P.n (TD8 0) (TD8 1) (TD8 2) 0, P.S), d8 + 1) := (by rw [← hres2, show nc + 1 - (u8 + 1) = 0 by omega]; try rfl); exact ⟨rfl, u8, kd8, TD8, F93, by rw [hrf]; exact hm0, hm44, hm1, by rw [hrf]; exact hRp, by rw [hrf]; exact hP, by intro id h9; rw [frw3 id (by omega)]; rw [fr93 id (by omega)]; exact fr id h9⟩) (by decide) (by decide)
                · skip
                  have hg9 : kd8 = nI 78 := by first | exact c_85 | exact Decidable.of_not_not c_85
                  refine lv_iconst (v := nI 1) hx hb dX7_readText_88 (by decide) ?_
                  refine lv_goto (tgt := 93) hx hb dX7_readText_89 (by decide) ?_
                  refine q_W1 (va_runV (As := [.int (nI 0), .int (nI (TD8 0)), .int (nI (TD8 1)), .int (nI (TD8 2)), .int (nI 1)]) (rest := []) ⟨hx, hb, hml, hown, hts⟩ (c_X7_add_f l hm0 hm1 hRp hP (TD8 0) (TD8 1) (TD8 2) 1 (by omega) (by omega) (by omega) (by omega) (by omega) (by omega)) (cwV 5 hts gX7_readText_X7_add rfl rfl rfl (by decide +kernel) ⟨Nat.le_of_ble_eq_true rfl, Nat.le_of_ble_eq_true rfl⟩) (q_preV hG hW hS hm0 rfl) rfl rfl hl.1 rfl (lv_room (Nat.le_of_ble_eq_true rfl)) dX7_readText_93 ⟨Nat.le_of_ble_eq_true rfl, Nat.le_of_ble_eq_true rfl⟩) hS (fun w_93 H locs hp93 hW hS => ?_)
                  obtain ⟨F93, hm1, hRp, hP, fr93⟩ := hp93
                  replace hm41 : w_93 41 = some (eN dA 80 C) := (fr93 _ (by omega)).trans hm41
                  replace hm0 : w_93 36 = some (modO b (sv) (nI (nc)) (th) (nI (u8)) (kd8) (nI (d8))) := (fr93 _ (by omega)).trans hm0
                  replace hm44 : w_93 44 = some (eN dA 3 TD8) := (fr93 _ (by omega)).trans hm44
                  refine lv_pop hx hb dX7_readText_96 rfl ?_
                  have hra : radd P (rrun nc C R0 u8) = (P.w, P.W, P.n + 1, addV P.N P.n (TD8 0) (TD8 1) (TD8 2) 1, P.S) := by unfold radd; rw [hk5, hk6, hk7, hk8, if_neg hk9, if_pos hg9]; try rfl
                  have hres2 : rgo nc C R0 (nc + 1 - (u8 + 1)) (P.w, P.W, P.n + 1, addV P.N P.n (TD8 0) (TD8 1) (TD8 2) 1, P.S) (d8 + 1) = rgo nc C R0 (nc + 1) Q9 0 := by rw [← hra]; exact (rgo_add hul8 hce hnf).symm.trans (hgo.symm.trans hres)
                  refine lv_aload_n hx hb dX7_readText_97 rfl (lv_at hl 0 rfl) ?_
                  refine lv_dup hx hb dX7_readText_98 rfl ?_
                  refine q_get hx hb hts hinX7 hown hG hW hm0 rfl 13 (by decide) (hts (.fieldLink RX7 135 "FoleyMixerModel" "done" "I") (List.mem_of_getElem? (i := 2) rfl)) rfl rfl dX7_readText_99 ?_
                  refine lv_iconst (v := nI 1) hx hb dX7_readText_102 (by decide) ?_
                  refine lv_iadd hx hb dX7_readText_103 ?_
                  refine q_top (y := nI (d8 + 1)) (nI_add _ _) ?_
                  refine q_put hx hb hts hinX7 tyX7_ok nmX7 hown hG hW hS hm0 rfl 13 (by decide) (hts (.fieldLink RX7 135 "FoleyMixerModel" "done" "I") (List.mem_of_getElem? (i := 2) rfl)) rfl rfl rfl rfl (Nat.le_of_ble_eq_true rfl) dX7_readText_104 (fun H locs hW hS hz104 => ?_)
                  obtain ⟨w4, ew4⟩ : ∃ wq__ : Wd, wq__ = va_up w_93 36 (some (modO b (sv) (nI (nc)) (th) (nI (u8)) (kd8) (nI (d8 + 1)))) := ⟨_, rfl⟩
                  replace hW : WP D b w4 H := by rw [ew4]; exact hW
                  have frw4 : ∀ id : Nat, id ≠ 36 → w4 id = w_93 id := fun id h9 => by rw [ew4, up_ne h9]
                  replace hm41 : w4 41 = some (eN dA 80 C) := (frw4 _ (by omega)).trans hm41
                  replace hm44 : w4 44 = some (eN dA 3 TD8) := (frw4 _ (by omega)).trans hm44
                  replace hm1 : w4 37 = some (eN dA 85 F93) := (frw4 _ (by omega)).trans hm1
                  replace hm0 : w4 36 = some (modO b (sv) (nI (nc)) (th) (nI (u8)) (kd8) (nI (d8 + 1))) := by rw [ew4]; exact up_eq
                  refine lv_aload_n hx hb dX7_readText_107 rfl (lv_at hl 0 rfl) ?_
                  refine q_get hx hb hts hinX7 hown hG hW hm0 rfl 10 (by decide) (hts (.fieldLink RX7 120 "FoleyMixerModel" "place" "I") (List.mem_of_getElem? (i := 1) rfl)) rfl rfl dX7_readText_108 ?_
                  refine lv_aload_n hx hb dX7_readText_111 rfl (lv_at hl 0 rfl) ?_
                  refine q_get hx hb hts hinX7 hown hG hW hm0 rfl 6 (by decide) (hts (.fieldLink RX7 117 "FoleyMixerModel" "length" "I") (List.mem_of_getElem? (i := 5) rfl)) rfl rfl dX7_readText_112 ?_
                  refine lv_icmp_ne (tgt := 120) hx hb dX7_readText_115 (by decide) (fun c_115 => ?_) (fun c_115 => ?_)
                  · skip
                    have c_115 : ¬ (u8 = nc) := fun h__ => c_115 ((nI_eq (a := u8) (b := nc) (by omega) (by omega)).mpr h__)
                    refine lv_aload_n hx hb dX7_readText_120 rfl (lv_at hl 0 rfl) ?_
                    refine lv_bipush (v := nI 59) hx hb dX7_readText_121 (by decide) ?_
                    refine q_W1 (va_runV (As := [.int (nI 59)]) (rest := []) ⟨hx, hb, hml, hown, hts⟩ (c_X7_takes l hm0 hm41 hbu 59 (by omega) (by omega)) (cwV 1 hts gX7_readText_X7_takes rfl rfl rfl (by decide +kernel) ⟨Nat.le_of_ble_eq_true rfl, Nat.le_of_ble_eq_true rfl⟩) (q_preV hG hW hS hm0 rfl) rfl rfl hl.1 rfl (lv_room (Nat.le_of_ble_eq_true rfl)) dX7_readText_123 ⟨Nat.le_of_ble_eq_true rfl, Nat.le_of_ble_eq_true rfl⟩) hS (fun w_123 H locs hp123 hW hS => ?_)
                    obtain ⟨hm0, fr123⟩ := hp123
                    replace hm41 : w_123 41 = some (eN dA 80 C) := (fr123 _ (by omega)).trans hm41
                    replace hm44 : w_123 44 = some (eN dA 3 TD8) := (fr123 _ (by omega)).trans hm44
                    replace hm1 : w_123 37 = some (eN dA 85 F93) := (fr123 _ (by omega)).trans hm1
                    refine lv_if_eq (tgt := 140) hx hb dX7_readText_126 (by decide) (fun c_126 => ?_) (fun c_126 => ?_)
                    · skip
                      have c_126 : ¬ (u8 < nc ∧ C u8 = 59) := pI_eq0.mp c_126
                      exact absurd (whl_stop hw hcue c_115) c_126
                    · skip
                      have c_126 : u8 < nc ∧ C u8 = 59 := Decidable.byContradiction (fun h__ => c_126 (pI_eq0.mpr h__))
                      rw [if_pos c_126] at hm0
                      have hK := pKd_sgn hcue.1 c_126.1 c_126.2
                      refine lv_aload_n hx hb dX7_readText_129 rfl (lv_at hl 0 rfl) ?_
                      refine q_E1 (va_runV (As := []) (rest := []) ⟨hx, hb, hml, hown, hts⟩ (c_X7_readCue l hm0 hm41 hbu hm44 hK) (cwV 0 hts gX7_readText_X7_readCue rfl rfl rfl (by decide +kernel) ⟨Nat.le_of_ble_eq_true rfl, Nat.le_of_ble_eq_true rfl⟩) (q_preV hG hW hS hm0 rfl) rfl rfl hl.1 rfl (lv_room (Nat.le_of_ble_eq_true rfl)) dX7_readText_130 ⟨Nat.le_of_ble_eq_true rfl, Nat.le_of_ble_eq_true rfl⟩) hS (fun r130 w_130 H locs hp130 hW hS => ?_)
                      obtain ⟨hr130, u130, kd130, TD130, hm0, hul130, hm44, hor130, fr130⟩ := hp130
                      replace hm41 : w_130 41 = some (eN dA 80 C) := (fr130 _ (by omega)).trans hm41
                      replace hm1 : w_130 37 = some (eN dA 85 F93) := (fr130 _ (by omega)).trans hm1
                      obtain ⟨hr2, hcue2⟩ := hor130.resolve_right (fun h => pNo_whl h.2 hw)
                      refine q_top (y := nI (1)) (by exact congrArg nI hr2) ?_
                      refine lv_if_eq (tgt := 140) hx hb dX7_readText_133 (by decide) (fun c_133 => ?_) (fun c_133 => ?_)
                      · skip
                        have c_133 : 1 = 0 := (nI_eq0 (i := 1) (by omega)).mp c_133
                        exact absurd c_133 (by omega)
                      · skip
                        have c_133 : ¬ (1 = 0) := fun h__ => c_133 ((nI_eq0 (i := 1) (by omega)).mpr h__)
                        refine lv_iconst (v := nI 1) hx hb dX7_readText_136 (by decide) ?_
                        refine lv_goto (tgt := 141) hx hb dX7_readText_137 (by decide) ?_
                        refine lv_istore_n (lv' := [(2, .int (nI 1)), (0, .ref (b + 36)), (1, .int (nI 1))]) hx hb dX7_readText_141 rfl hl (by decide) rfl (fun ls hl => ?_)
                        refine lv_goto (tgt := 15) hx hb dX7_readText_142 (by decide) ?_
                        exact ih15 u130 (u8 + 1) (d8 + 1) kd130 TD130 F93 (P.w, P.W, P.n + 1, addV P.N P.n (TD8 0) (TD8 1) (TD8 2) 1, P.S) (by first | exact hul130 | exact hul11) (by first | exact hcue2 | exact hcu1) (by first | exact hRp | exact hRq) (by first | exact hP | exact hPq) (by first | exact hres2 | rfl) (by omega) _ _ _ (by exact hm0) (by exact hm1) (by exact hm44) (by intro id h9; rw [fr130 id (by omega)]; rw [fr123 id (by omega)]; rw [frw4 id (by omega)]; rw [fr93 id (by omega)]; exact fr id h9) hW hS _ (lv_sub hl [1, 2, 0] rfl)
                  · skip
                    have c_115 : u8 = nc := (nI_eq (a := u8) (b := nc) (by omega) (by omega)).mp c_115
                    refine lv_iconst (v := nI 1) hx hb dX7_readText_118 (by decide) ?_
                    exact q_ez hx hb hr hlocks hW hS dX7_readText_119 (by omega) (by have hrf : rgo nc C R0 (nc + 1) Q9 0 = ((P.w, P.W, P.n + 1, addV P.N P.n (TD8 0) (TD8 1) (TD8 2) 1, P.S), d8 + 1) := (by rw [← hres2, show nc + 1 - (u8 + 1) = 0 by omega]; try rfl); exact ⟨rfl, u8, kd8, TD8, F93, by rw [hrf]; exact hm0, hm44, hm1, by rw [hrf]; exact hRp, by rw [hrf]; exact hP, by intro id h9; rw [frw4 id (by omega)]; rw [fr93 id (by omega)]; exact fr id h9⟩) (by decide) (by decide)
              · skip
                exact absurd (by first | exact c_53 | exact Decidable.of_not_not c_53) hk9
            · skip
              have c_41 : ¬ (P.n < 12) := pI_eq0.mp c_41
              refine lv_iconst (v := nI 1) hx hb dX7_readText_44 (by decide) ?_
              exact q_ez hx hb hr hlocks hW hS dX7_readText_45 (by omega) (by have hrf : rgo nc C R0 (nc + 1) Q9 0 = (P, d8) := hres.symm.trans (hgo.trans (rgo_full hul8 hce (by unfold rfull; rw [hk5]; first | (rw [if_pos hk9]; omega) | (rw [if_neg hk9]; omega)))); exact ⟨rfl, u8, kd8, TD8, F8, by rw [hrf]; exact hm0, hm44, hm1, by rw [hrf]; exact hRp, by rw [hrf]; exact hP, by intro id h9; exact fr id h9⟩) (by decide) (by decide)
          · skip
            have hk9 : kd8 = nI 119 := by first | exact c_30 | exact Decidable.of_not_not c_30
            refine lv_iconst (v := nI 1) hx hb dX7_readText_33 (by decide) ?_
            refine lv_goto (tgt := 38) hx hb dX7_readText_34 (by decide) ?_
            refine q_R1 (va_runV (As := [.int (nI 1)]) (rest := []) ⟨hx, hb, hml, hown, hts⟩ (c_X7_isRoom_t l hm0 hm1 hRp hP) (cwV 1 hts gX7_readText_X7_isRoom rfl rfl rfl (by decide +kernel) ⟨Nat.le_of_ble_eq_true rfl, Nat.le_of_ble_eq_true rfl⟩) (q_preV hG hW hS hm0 rfl) rfl rfl hl.1 rfl (lv_room (Nat.le_of_ble_eq_true rfl)) dX7_readText_38 ⟨Nat.le_of_ble_eq_true rfl, Nat.le_of_ble_eq_true rfl⟩) ?_
            refine lv_if_ne (tgt := 46) hx hb dX7_readText_41 (by decide) (fun c_41 => ?_) (fun c_41 => ?_)
            · skip
              have c_41 : P.w < 10 := Decidable.byContradiction (fun h__ => c_41 (pI_eq0.mpr h__))
              have hnf : ¬ rfull P (rrun nc C R0 u8) := by unfold rfull; rw [hk5]; first | (rw [if_pos hk9]; omega) | (rw [if_neg hk9]; omega)
              refine lv_aload_n hx hb dX7_readText_46 rfl (lv_at hl 0 rfl) ?_
              refine lv_aload_n hx hb dX7_readText_47 rfl (lv_at hl 0 rfl) ?_
              refine q_get hx hb hts hinX7 hown hG hW hm0 rfl 11 (by decide) (hts (.fieldLink RX7 126 "FoleyMixerModel" "letter" "I") (List.mem_of_getElem? (i := 3) rfl)) rfl rfl dX7_readText_48 ?_
              refine lv_bipush (v := nI 119) hx hb dX7_readText_51 (by decide) ?_
              refine lv_icmp_ne (tgt := 60) hx hb dX7_readText_53 (by decide) (fun c_53 => ?_) (fun c_53 => ?_)
              · skip
                exact absurd hk9 c_53
              · skip
                refine lv_iconst (v := nI 1) hx hb dX7_readText_56 (by decide) ?_
                refine lv_goto (tgt := 61) hx hb dX7_readText_57 (by decide) ?_
                refine lv_aload_n hx hb dX7_readText_61 rfl (lv_at hl 0 rfl) ?_
                refine q_get hx hb hts hinX7 hown hG hW hm0 rfl 12 (by decide) (hts (.fieldLink RX7 32 "FoleyMixerModel" "told" "[I") (List.mem_of_getElem? (i := 4) rfl)) rfl rfl dX7_readText_62 ?_
                refine lv_iconst (v := nI 0) hx hb dX7_readText_65 (by decide) ?_
                refine q_iald hx hb hG hW hm44 (by omega) (by omega) dX7_readText_66 ?_
                refine lv_aload_n hx hb dX7_readText_67 rfl (lv_at hl 0 rfl) ?_
                refine q_get hx hb hts hinX7 hown hG hW hm0 rfl 12 (by decide) (hts (.fieldLink RX7 32 "FoleyMixerModel" "told" "[I") (List.mem_of_getElem? (i := 4) rfl)) rfl rfl dX7_readText_68 ?_
                refine lv_iconst (v := nI 1) hx hb dX7_readText_71 (by decide) ?_
                refine q_iald hx hb hG hW hm44 (by omega) (by omega) dX7_readText_72 ?_
                refine lv_aload_n hx hb dX7_readText_73 rfl (lv_at hl 0 rfl) ?_
                refine q_get hx hb hts hinX7 hown hG hW hm0 rfl 12 (by decide) (hts (.fieldLink RX7 32 "FoleyMixerModel" "told" "[I") (List.mem_of_getElem? (i := 4) rfl)) rfl rfl dX7_readText_74 ?_
                refine lv_iconst (v := nI 2) hx hb dX7_readText_77 (by decide) ?_
                refine q_iald hx hb hG hW hm44 (by omega) (by omega) dX7_readText_78 ?_
                refine lv_aload_n hx hb dX7_readText_79 rfl (lv_at hl 0 rfl) ?_
                refine q_get hx hb hts hinX7 hown hG hW hm0 rfl 11 (by decide) (hts (.fieldLink RX7 126 "FoleyMixerModel" "letter" "I") (List.mem_of_getElem? (i := 3) rfl)) rfl rfl dX7_readText_80 ?_
                refine lv_bipush (v := nI 78) hx hb dX7_readText_83 (by decide) ?_
                refine lv_icmp_ne (tgt := 92) hx hb dX7_readText_85 (by decide) (fun c_85 => ?_) (fun c_85 => ?_)
                · skip
                  have hg9 : ¬ kd8 = nI 78 := c_85
                  refine lv_iconst (v := nI 0) hx hb dX7_readText_92 (by decide) ?_
                  refine q_W1 (va_runV (As := [.int (nI 1), .int (nI (TD8 0)), .int (nI (TD8 1)), .int (nI (TD8 2)), .int (nI 0)]) (rest := []) ⟨hx, hb, hml, hown, hts⟩ (c_X7_add_t l hm0 hm1 hRp hP (TD8 0) (TD8 1) (TD8 2) 0 (by omega) (by omega) (by omega) (by omega) (by omega) (by omega)) (cwV 5 hts gX7_readText_X7_add rfl rfl rfl (by decide +kernel) ⟨Nat.le_of_ble_eq_true rfl, Nat.le_of_ble_eq_true rfl⟩) (q_preV hG hW hS hm0 rfl) rfl rfl hl.1 rfl (lv_room (Nat.le_of_ble_eq_true rfl)) dX7_readText_93 ⟨Nat.le_of_ble_eq_true rfl, Nat.le_of_ble_eq_true rfl⟩) hS (fun w_93 H locs hp93 hW hS => ?_)
                  obtain ⟨F93, hm1, hRp, hP, fr93⟩ := hp93
                  replace hm41 : w_93 41 = some (eN dA 80 C) := (fr93 _ (by omega)).trans hm41
                  replace hm0 : w_93 36 = some (modO b (sv) (nI (nc)) (th) (nI (u8)) (kd8) (nI (d8))) := (fr93 _ (by omega)).trans hm0
                  replace hm44 : w_93 44 = some (eN dA 3 TD8) := (fr93 _ (by omega)).trans hm44
                  refine lv_pop hx hb dX7_readText_96 rfl ?_
                  have hra : radd P (rrun nc C R0 u8) = (P.w + 1, addV P.W P.w (TD8 0) (TD8 1) (TD8 2) 0, P.n, P.N, P.S) := by unfold radd; rw [hk5, hk6, hk7, hk8, if_pos hk9]; try rfl
                  have hres2 : rgo nc C R0 (nc + 1 - (u8 + 1)) (P.w + 1, addV P.W P.w (TD8 0) (TD8 1) (TD8 2) 0, P.n, P.N, P.S) (d8 + 1) = rgo nc C R0 (nc + 1) Q9 0 := by rw [← hra]; exact (rgo_add hul8 hce hnf).symm.trans (hgo.symm.trans hres)
                  refine lv_aload_n hx hb dX7_readText_97 rfl (lv_at hl 0 rfl) ?_
                  refine lv_dup hx hb dX7_readText_98 rfl ?_
                  refine q_get hx hb hts hinX7 hown hG hW hm0 rfl 13 (by decide) (hts (.fieldLink RX7 135 "FoleyMixerModel" "done" "I") (List.mem_of_getElem? (i := 2) rfl)) rfl rfl dX7_readText_99 ?_
                  refine lv_iconst (v := nI 1) hx hb dX7_readText_102 (by decide) ?_
                  refine lv_iadd hx hb dX7_readText_103 ?_
                  refine q_top (y := nI (d8 + 1)) (nI_add _ _) ?_
                  refine q_put hx hb hts hinX7 tyX7_ok nmX7 hown hG hW hS hm0 rfl 13 (by decide) (hts (.fieldLink RX7 135 "FoleyMixerModel" "done" "I") (List.mem_of_getElem? (i := 2) rfl)) rfl rfl rfl rfl (Nat.le_of_ble_eq_true rfl) dX7_readText_104 (fun H locs hW hS hz104 => ?_)
                  obtain ⟨w5, ew5⟩ : ∃ wq__ : Wd, wq__ = va_up w_93 36 (some (modO b (sv) (nI (nc)) (th) (nI (u8)) (kd8) (nI (d8 + 1)))) := ⟨_, rfl⟩
                  replace hW : WP D b w5 H := by rw [ew5]; exact hW
                  have frw5 : ∀ id : Nat, id ≠ 36 → w5 id = w_93 id := fun id h9 => by rw [ew5, up_ne h9]
                  replace hm41 : w5 41 = some (eN dA 80 C) := (frw5 _ (by omega)).trans hm41
                  replace hm44 : w5 44 = some (eN dA 3 TD8) := (frw5 _ (by omega)).trans hm44
                  replace hm1 : w5 37 = some (eN dA 85 F93) := (frw5 _ (by omega)).trans hm1
                  replace hm0 : w5 36 = some (modO b (sv) (nI (nc)) (th) (nI (u8)) (kd8) (nI (d8 + 1))) := by rw [ew5]; exact up_eq
                  refine lv_aload_n hx hb dX7_readText_107 rfl (lv_at hl 0 rfl) ?_
                  refine q_get hx hb hts hinX7 hown hG hW hm0 rfl 10 (by decide) (hts (.fieldLink RX7 120 "FoleyMixerModel" "place" "I") (List.mem_of_getElem? (i := 1) rfl)) rfl rfl dX7_readText_108 ?_
                  refine lv_aload_n hx hb dX7_readText_111 rfl (lv_at hl 0 rfl) ?_
                  refine q_get hx hb hts hinX7 hown hG hW hm0 rfl 6 (by decide) (hts (.fieldLink RX7 117 "FoleyMixerModel" "length" "I") (List.mem_of_getElem? (i := 5) rfl)) rfl rfl dX7_readText_112 ?_
                  refine lv_icmp_ne (tgt := 120) hx hb dX7_readText_115 (by decide) (fun c_115 => ?_) (fun c_115 => ?_)
                  · skip
                    have c_115 : ¬ (u8 = nc) := fun h__ => c_115 ((nI_eq (a := u8) (b := nc) (by omega) (by omega)).mpr h__)
                    refine lv_aload_n hx hb dX7_readText_120 rfl (lv_at hl 0 rfl) ?_
                    refine lv_bipush (v := nI 59) hx hb dX7_readText_121 (by decide) ?_
                    refine q_W1 (va_runV (As := [.int (nI 59)]) (rest := []) ⟨hx, hb, hml, hown, hts⟩ (c_X7_takes l hm0 hm41 hbu 59 (by omega) (by omega)) (cwV 1 hts gX7_readText_X7_takes rfl rfl rfl (by decide +kernel) ⟨Nat.le_of_ble_eq_true rfl, Nat.le_of_ble_eq_true rfl⟩) (q_preV hG hW hS hm0 rfl) rfl rfl hl.1 rfl (lv_room (Nat.le_of_ble_eq_true rfl)) dX7_readText_123 ⟨Nat.le_of_ble_eq_true rfl, Nat.le_of_ble_eq_true rfl⟩) hS (fun w_123 H locs hp123 hW hS => ?_)
                    obtain ⟨hm0, fr123⟩ := hp123
                    replace hm41 : w_123 41 = some (eN dA 80 C) := (fr123 _ (by omega)).trans hm41
                    replace hm44 : w_123 44 = some (eN dA 3 TD8) := (fr123 _ (by omega)).trans hm44
                    replace hm1 : w_123 37 = some (eN dA 85 F93) := (fr123 _ (by omega)).trans hm1
                    refine lv_if_eq (tgt := 140) hx hb dX7_readText_126 (by decide) (fun c_126 => ?_) (fun c_126 => ?_)
                    · skip
                      have c_126 : ¬ (u8 < nc ∧ C u8 = 59) := pI_eq0.mp c_126
                      exact absurd (whl_stop hw hcue c_115) c_126
                    · skip
                      have c_126 : u8 < nc ∧ C u8 = 59 := Decidable.byContradiction (fun h__ => c_126 (pI_eq0.mpr h__))
                      rw [if_pos c_126] at hm0
                      have hK := pKd_sgn hcue.1 c_126.1 c_126.2
                      refine lv_aload_n hx hb dX7_readText_129 rfl (lv_at hl 0 rfl) ?_
                      refine q_E1 (va_runV (As := []) (rest := []) ⟨hx, hb, hml, hown, hts⟩ (c_X7_readCue l hm0 hm41 hbu hm44 hK) (cwV 0 hts gX7_readText_X7_readCue rfl rfl rfl (by decide +kernel) ⟨Nat.le_of_ble_eq_true rfl, Nat.le_of_ble_eq_true rfl⟩) (q_preV hG hW hS hm0 rfl) rfl rfl hl.1 rfl (lv_room (Nat.le_of_ble_eq_true rfl)) dX7_readText_130 ⟨Nat.le_of_ble_eq_true rfl, Nat.le_of_ble_eq_true rfl⟩) hS (fun r130 w_130 H locs hp130 hW hS => ?_)
                      obtain ⟨hr130, u130, kd130, TD130, hm0, hul130, hm44, hor130, fr130⟩ := hp130
                      replace hm41 : w_130 41 = some (eN dA 80 C) := (fr130 _ (by omega)).trans hm41
                      replace hm1 : w_130 37 = some (eN dA 85 F93) := (fr130 _ (by omega)).trans hm1
                      obtain ⟨hr2, hcue2⟩ := hor130.resolve_right (fun h => pNo_whl h.2 hw)
                      refine q_top (y := nI (1)) (by exact congrArg nI hr2) ?_
                      refine lv_if_eq (tgt := 140) hx hb dX7_readText_133 (by decide) (fun c_133 => ?_) (fun c_133 => ?_)
                      · skip
                        have c_133 : 1 = 0 := (nI_eq0 (i := 1) (by omega)).mp c_133
                        exact absurd c_133 (by omega)
                      · skip
                        have c_133 : ¬ (1 = 0) := fun h__ => c_133 ((nI_eq0 (i := 1) (by omega)).mpr h__)
                        refine lv_iconst (v := nI 1) hx hb dX7_readText_136 (by decide) ?_
                        refine lv_goto (tgt := 141) hx hb dX7_readText_137 (by decide) ?_
                        refine lv_istore_n (lv' := [(2, .int (nI 1)), (0, .ref (b + 36)), (1, .int (nI 1))]) hx hb dX7_readText_141 rfl hl (by decide) rfl (fun ls hl => ?_)
                        refine lv_goto (tgt := 15) hx hb dX7_readText_142 (by decide) ?_
                        exact ih15 u130 (u8 + 1) (d8 + 1) kd130 TD130 F93 (P.w + 1, addV P.W P.w (TD8 0) (TD8 1) (TD8 2) 0, P.n, P.N, P.S) (by first | exact hul130 | exact hul11) (by first | exact hcue2 | exact hcu1) (by first | exact hRp | exact hRq) (by first | exact hP | exact hPq) (by first | exact hres2 | rfl) (by omega) _ _ _ (by exact hm0) (by exact hm1) (by exact hm44) (by intro id h9; rw [fr130 id (by omega)]; rw [fr123 id (by omega)]; rw [frw5 id (by omega)]; rw [fr93 id (by omega)]; exact fr id h9) hW hS _ (lv_sub hl [1, 2, 0] rfl)
                  · skip
                    have c_115 : u8 = nc := (nI_eq (a := u8) (b := nc) (by omega) (by omega)).mp c_115
                    refine lv_iconst (v := nI 1) hx hb dX7_readText_118 (by decide) ?_
                    exact q_ez hx hb hr hlocks hW hS dX7_readText_119 (by omega) (by have hrf : rgo nc C R0 (nc + 1) Q9 0 = ((P.w + 1, addV P.W P.w (TD8 0) (TD8 1) (TD8 2) 0, P.n, P.N, P.S), d8 + 1) := (by rw [← hres2, show nc + 1 - (u8 + 1) = 0 by omega]; try rfl); exact ⟨rfl, u8, kd8, TD8, F93, by rw [hrf]; exact hm0, hm44, hm1, by rw [hrf]; exact hRp, by rw [hrf]; exact hP, by intro id h9; rw [frw5 id (by omega)]; rw [fr93 id (by omega)]; exact fr id h9⟩) (by decide) (by decide)
                · skip
                  exact absurd (hk9.symm.trans (by first | exact c_85 | exact Decidable.of_not_not c_85)) (by decide)
            · skip
              have c_41 : ¬ (P.w < 10) := pI_eq0.mp c_41
              refine lv_iconst (v := nI 1) hx hb dX7_readText_44 (by decide) ?_
              exact q_ez hx hb hr hlocks hW hS dX7_readText_45 (by omega) (by have hrf : rgo nc C R0 (nc + 1) Q9 0 = (P, d8) := hres.symm.trans (hgo.trans (rgo_full hul8 hce (by unfold rfull; rw [hk5]; first | (rw [if_pos hk9]; omega) | (rw [if_neg hk9]; omega)))); exact ⟨rfl, u8, kd8, TD8, F8, by rw [hrf]; exact hm0, hm44, hm1, by rw [hrf]; exact hRp, by rw [hrf]; exact hP, by intro id h9; exact fr id h9⟩) (by decide) (by decide)
  exact L15 ((nc + 1 - 0) + 1) u11 0 0 kd11 TD11 F Q9 (by first | exact hul130 | exact hul11) (by first | exact hcue2 | exact hcu1) (by first | exact hRp | exact hRq) (by first | exact hP | exact hPq) (by first | exact hres2 | rfl) (Nat.lt_succ_self _) _ _ _ (by exact hm0) (by exact hm1) (by exact hm44) (by intro id h9; rw [fr11 id (by omega)]; rw [frw2 id (by omega)]; rw [frw1 id (by omega)]; try rfl) hW hS _ (lv_sub hl [1, 2, 0] rfl)

set_option maxHeartbeats 300000 in
set_option maxRecDepth 100000 in
/-- firstError -/
theorem c_X7_firstError (l : Launch) {D : va_G} {dA : Nat → Nat} {b : Nat} {w : Wd} {n nc : Nat} {P : Pl} {Hs : Nat → Pl} {SL : Nat → Option Pl} {C : Nat → Nat} {tt : Int32} (hmd : isMod dA b w (P, (n, Hs), SL, (nc, C)) tt) : Met l yX7_firstError wsX7_firstError ({ frames := 5, cells := 0, slots := 0, locals := 110 } : Room) (PC D dA b w [.ref (b + 36)]) (QW D b (some (.int (nI (rerr nc C R0 nc)))) (fun w' => isMod dA b w' (P, (n, Hs), SL, (nc, C)) (nI 0) ∧ ∀ id : Nat, (id < 36 ∨ 45 ≤ id) → w' id = w id)) 0 0 (Fb b) := by
  refine q_of (cc := cX7_firstError) (maxL := 1) (ret := (some .int)) (by decide) rfl rfl ?_
  intro p e s m args below meth c ls hx hb hr hml hts hown hlocks hG hW hS hl
  have hown : s.vm.findClass RX7 = some m.cls := hown
  have hinX7 : ∀ w ∈ u_ws RX7 TX7 14, w ∈ wsX7_firstError := fun w h => (goodIn_r (big := wsX7_firstError) (u_ws RX7 TX7 14) [44, 45, 46, 47, 48, 49, 50, 51, 52, 53, 54, 55, 56, 57] (by decide +kernel) (by decide +kernel) w h).1
  have hl : lv_has ls 1 [(0, .ref (b + 36))] := hl
  obtain ⟨pl, lt, dn, F, G, GS, Zt, D0, M0, TD, hm0, hm1, ⟨hRp, hP⟩, hm38, hsv, hm39, hm40, hsl, hm41, hbu, hm42, hm43, hm44⟩ := id hmd
  change w 36 = some (modO b (nI n) (nI nc) tt pl lt dn) at hm0
  change rep F P at hRp
  change okP P at hP
  change mSv n G Hs at hsv
  change mSl GS Zt SL at hsl
  change w 41 = some (eN dA 80 C) at hm41
  change mBu nc C at hbu
  have hn6 := hsv.1
  have hnc := hbu.1
  obtain ⟨hPw, hPn, hPW, hPN, hPS⟩ := id hP
  have hr5 := hRp.2.1
  have hr6 := hRp.2.2.1
  refine lv_aload_n hx hb dX7_firstError_0 rfl (lv_at hl 0 rfl) ?_
  refine lv_iconst (v := nI 0) hx hb dX7_firstError_1 (by decide) ?_
  refine q_put hx hb hts hinX7 tyX7_ok nmX7 hown hG hW hS hm0 rfl 7 (by decide) (hts (.fieldLink RX7 35 "FoleyMixerModel" "thrown" "I") (List.mem_of_getElem? (i := 1) rfl)) rfl rfl rfl rfl (Nat.le_of_ble_eq_true rfl) dX7_firstError_2 (fun H locs hW hS hz2 => ?_)
  obtain ⟨w1, ew1⟩ : ∃ wq__ : Wd, wq__ = va_up w 36 (some (modO b (nI (n)) (nI (nc)) (nI (0)) (pl) (lt) (dn))) := ⟨_, rfl⟩
  replace hW : WP D b w1 H := by rw [ew1]; exact hW
  have frw1 : ∀ id : Nat, id ≠ 36 → w1 id = w id := fun id h9 => by rw [ew1, up_ne h9]
  replace hm1 : w1 37 = some (eN dA 85 F) := (frw1 _ (by omega)).trans hm1
  replace hm38 : w1 38 = some (eN dA 510 G) := (frw1 _ (by omega)).trans hm38
  replace hm39 : w1 39 = some (eN dA 170 GS) := (frw1 _ (by omega)).trans hm39
  replace hm40 : w1 40 = some (eZ dA 2 Zt) := (frw1 _ (by omega)).trans hm40
  replace hm41 : w1 41 = some (eN dA 80 C) := (frw1 _ (by omega)).trans hm41
  replace hm42 : w1 42 = some (eN dA 120 D0) := (frw1 _ (by omega)).trans hm42
  replace hm43 : w1 43 = some (eN dA 120 M0) := (frw1 _ (by omega)).trans hm43
  replace hm44 : w1 44 = some (eN dA 3 TD) := (frw1 _ (by omega)).trans hm44
  replace hm0 : w1 36 = some (modO b (nI (n)) (nI (nc)) (nI (0)) (pl) (lt) (dn)) := by rw [ew1]; exact up_eq
  refine lv_aload_n hx hb dX7_firstError_5 rfl (lv_at hl 0 rfl) ?_
  refine lv_iconst (v := nI 0) hx hb dX7_firstError_6 (by decide) ?_
  refine q_E1 (va_runV (As := [.int (nI 0)]) (rest := []) ⟨hx, hb, hml, hown, hts⟩ (c_X7_readText_f l hm0 hm41 hbu hm44) (cwV 1 hts gX7_firstError_X7_readText rfl rfl rfl (by decide +kernel) ⟨Nat.le_of_ble_eq_true rfl, Nat.le_of_ble_eq_true rfl⟩) (q_preV hG hW hS hm0 rfl) rfl rfl hl.1 rfl (lv_room (Nat.le_of_ble_eq_true rfl)) dX7_firstError_7 ⟨Nat.le_of_ble_eq_true rfl, Nat.le_of_ble_eq_true rfl⟩) hS (fun r7 w_7 H locs hp7 hW hS => ?_)
  obtain ⟨hr7, u7, d7, kd7, TD7, hm0, hul7, hm44, hor7, fr7⟩ := hp7
  replace hm1 : w_7 37 = some (eN dA 85 F) := (fr7 _ (by omega)).trans hm1
  replace hm38 : w_7 38 = some (eN dA 510 G) := (fr7 _ (by omega)).trans hm38
  replace hm39 : w_7 39 = some (eN dA 170 GS) := (fr7 _ (by omega)).trans hm39
  replace hm40 : w_7 40 = some (eZ dA 2 Zt) := (fr7 _ (by omega)).trans hm40
  replace hm41 : w_7 41 = some (eN dA 80 C) := (fr7 _ (by omega)).trans hm41
  replace hm42 : w_7 42 = some (eN dA 120 D0) := (fr7 _ (by omega)).trans hm42
  replace hm43 : w_7 43 = some (eN dA 120 M0) := (fr7 _ (by omega)).trans hm43
  refine lv_if_eq (tgt := 20) hx hb dX7_firstError_10 (by decide) (fun c_10 => ?_) (fun c_10 => ?_)
  · skip
    have c_10 : r7 = 0 := (nI_eq0 (i := r7) (by omega)).mp c_10
    have he9 := pNo_err (hor7.resolve_left (fun h => absurd h.1 (by omega))).2
    refine lv_aload_n hx hb dX7_firstError_20 rfl (lv_at hl 0 rfl) ?_
    refine q_get hx hb hts hinX7 hown hG hW hm0 rfl 10 (by decide) (hts (.fieldLink RX7 120 "FoleyMixerModel" "place" "I") (List.mem_of_getElem? (i := 3) rfl)) rfl rfl dX7_firstError_21 ?_
    exact q_wi hx hb hr hlocks hW hS dX7_firstError_24 (by rw [he9]) (by exact ⟨⟨_, _, _, _, _, _, _, _, _, _, hm0, hm1, ⟨hRp, hP⟩, hm38, hsv, hm39, hm40, hsl, hm41, hbu, hm42, hm43, hm44⟩, by intro id h9; rw [fr7 id (by omega)]; rw [frw1 id (by omega)]; try rfl⟩) (by decide) (by decide)
  · skip
    have c_10 : ¬ (r7 = 0) := fun h__ => c_10 ((nI_eq0 (i := r7) (by omega)).mpr h__)
    have he9 := whl_err (hor7.resolve_right (fun h => c_10 h.1)).2
    refine lv_aload_n hx hb dX7_firstError_13 rfl (lv_at hl 0 rfl) ?_
    refine q_get hx hb hts hinX7 hown hG hW hm0 rfl 6 (by decide) (hts (.fieldLink RX7 117 "FoleyMixerModel" "length" "I") (List.mem_of_getElem? (i := 2) rfl)) rfl rfl dX7_firstError_14 ?_
    refine lv_goto (tgt := 24) hx hb dX7_firstError_17 (by decide) ?_
    exact q_wi hx hb hr hlocks hW hS dX7_firstError_24 (by rw [he9]) (by exact ⟨⟨_, _, _, _, _, _, _, _, _, _, hm0, hm1, ⟨hRp, hP⟩, hm38, hsv, hm39, hm40, hsl, hm41, hbu, hm42, hm43, hm44⟩, by intro id h9; rw [fr7 id (by omega)]; rw [frw1 id (by omega)]; try rfl⟩) (by decide) (by decide)

set_option maxHeartbeats 300000 in
set_option maxRecDepth 100000 in
/-- read -/
theorem c_X7_read (l : Launch) {D : va_G} {dA : Nat → Nat} {b : Nat} {w : Wd} {n nc : Nat} {P : Pl} {Hs : Nat → Pl} {SL : Nat → Option Pl} {C : Nat → Nat} {tt : Int32} (hmd : isMod dA b w (P, (n, Hs), SL, (nc, C)) tt) : Met l yX7_read wsX7_read ({ frames := 5, cells := 0, slots := 0, locals := 110 } : Room) (PC D dA b w [.ref (b + 36)]) (QE D b (fun r w' => ((whl nc C R0 ∧ r = (rgo nc C R0 (nc + 1) P 0).2 ∧ isMod dA b w' ((rgo nc C R0 (nc + 1) P 0).1, (pshN n, psh n Hs P), SL, (0, C)) (nI 0)) ∨ (¬ whl nc C R0 ∧ isMod dA b w' (P, (n, Hs), SL, (nc, C)) (nI 1))) ∧ ∀ id : Nat, (id < 36 ∨ 45 ≤ id) → w' id = w id)) 0 0 (Fb b) := by
  refine q_of (cc := cX7_read) (maxL := 2) (ret := (some .int)) (by decide) rfl rfl ?_
  intro p e s m args below meth c ls hx hb hr hml hts hown hlocks hG hW hS hl
  have hown : s.vm.findClass RX7 = some m.cls := hown
  have hinX7 : ∀ w ∈ u_ws RX7 TX7 14, w ∈ wsX7_read := fun w h => (goodIn_r (big := wsX7_read) (u_ws RX7 TX7 14) [57, 58, 59, 60, 61, 62, 63, 64, 65, 66, 67, 68, 69, 70] (by decide +kernel) (by decide +kernel) w h).1
  have hl : lv_has ls 2 [(0, .ref (b + 36))] := hl
  obtain ⟨pl, lt, dn, F, G, GS, Zt, D0, M0, TD, hm0, hm1, ⟨hRp, hP⟩, hm38, hsv, hm39, hm40, hsl, hm41, hbu, hm42, hm43, hm44⟩ := id hmd
  change w 36 = some (modO b (nI n) (nI nc) tt pl lt dn) at hm0
  change rep F P at hRp
  change okP P at hP
  change mSv n G Hs at hsv
  change mSl GS Zt SL at hsl
  change w 41 = some (eN dA 80 C) at hm41
  change mBu nc C at hbu
  have hn6 := hsv.1
  have hnc := hbu.1
  obtain ⟨hPw, hPn, hPW, hPN, hPS⟩ := id hP
  have hr5 := hRp.2.1
  have hr6 := hRp.2.2.1
  refine lv_aload_n hx hb dX7_read_0 rfl (lv_at hl 0 rfl) ?_
  refine lv_aload_n hx hb dX7_read_1 rfl (lv_at hl 0 rfl) ?_
  refine lv_iconst (v := nI 0) hx hb dX7_read_2 (by decide) ?_
  refine q_E1 (va_runV (As := [.int (nI 0)]) (rest := [.ref (b + 36)]) ⟨hx, hb, hml, hown, hts⟩ (c_X7_readText_f l hm0 hm41 hbu hm44) (cwV 1 hts gX7_read_X7_readText rfl rfl rfl (by decide +kernel) ⟨Nat.le_of_ble_eq_true rfl, Nat.le_of_ble_eq_true rfl⟩) (q_preV hG hW hS hm0 rfl) rfl rfl hl.1 rfl (lv_room (Nat.le_of_ble_eq_true rfl)) dX7_read_3 ⟨Nat.le_of_ble_eq_true rfl, Nat.le_of_ble_eq_true rfl⟩) hS (fun r3 w_3 H locs hp3 hW hS => ?_)
  obtain ⟨hr3, u3, d3, kd3, TD3, hm0, hul3, hm44, hor3, fr3⟩ := hp3
  replace hm1 : w_3 37 = some (eN dA 85 F) := (fr3 _ (by omega)).trans hm1
  replace hm38 : w_3 38 = some (eN dA 510 G) := (fr3 _ (by omega)).trans hm38
  replace hm39 : w_3 39 = some (eN dA 170 GS) := (fr3 _ (by omega)).trans hm39
  replace hm40 : w_3 40 = some (eZ dA 2 Zt) := (fr3 _ (by omega)).trans hm40
  replace hm41 : w_3 41 = some (eN dA 80 C) := (fr3 _ (by omega)).trans hm41
  replace hm42 : w_3 42 = some (eN dA 120 D0) := (fr3 _ (by omega)).trans hm42
  replace hm43 : w_3 43 = some (eN dA 120 M0) := (fr3 _ (by omega)).trans hm43
  refine lv_if_eq (tgt := 13) hx hb dX7_read_6 (by decide) (fun c_6 => ?_) (fun c_6 => ?_)
  · skip
    have c_6 : r3 = 0 := (nI_eq0 (i := r3) (by omega)).mp c_6
    have hno9 := (hor3.resolve_left (fun h => absurd h.1 (by omega))).2
    refine lv_iconst (v := nI 1) hx hb dX7_read_13 (by decide) ?_
    refine q_W1 (va_runV (As := [.int (nI 1)]) (rest := []) ⟨hx, hb, hml, hown, hts⟩ (c_X7_holds l hm0 (nI (1))) (cwV 1 hts gX7_read_X7_holds rfl rfl rfl (by decide +kernel) ⟨Nat.le_of_ble_eq_true rfl, Nat.le_of_ble_eq_true rfl⟩) (q_preV hG hW hS hm0 rfl) rfl rfl hl.1 rfl (lv_room (Nat.le_of_ble_eq_true rfl)) dX7_read_14 ⟨Nat.le_of_ble_eq_true rfl, Nat.le_of_ble_eq_true rfl⟩) hS (fun w_14 H locs hp14 hW hS => ?_)
    obtain ⟨hm0, fr14⟩ := hp14
    replace hm1 : w_14 37 = some (eN dA 85 F) := (fr14 _ (by omega)).trans hm1
    replace hm38 : w_14 38 = some (eN dA 510 G) := (fr14 _ (by omega)).trans hm38
    replace hm39 : w_14 39 = some (eN dA 170 GS) := (fr14 _ (by omega)).trans hm39
    replace hm40 : w_14 40 = some (eZ dA 2 Zt) := (fr14 _ (by omega)).trans hm40
    replace hm41 : w_14 41 = some (eN dA 80 C) := (fr14 _ (by omega)).trans hm41
    replace hm42 : w_14 42 = some (eN dA 120 D0) := (fr14 _ (by omega)).trans hm42
    replace hm43 : w_14 43 = some (eN dA 120 M0) := (fr14 _ (by omega)).trans hm43
    replace hm44 : w_14 44 = some (eN dA 3 TD3) := (fr14 _ (by omega)).trans hm44
    refine q_topv (v' := .int (nI 0)) (congrArg Value.int (by decide)) ?_
    refine lv_if_ne (tgt := 22) hx hb dX7_read_17 (by decide) (fun c_17 => ?_) (fun c_17 => ?_)
    · skip
      have c_17 : ¬ (0 = 0) := fun h__ => c_17 ((nI_eq0 (i := 0) (by omega)).mpr h__)
      exact absurd c_17 (by omega)
    · skip
      have c_17 : 0 = 0 := (nI_eq0 (i := 0) (by omega)).mp c_17
      refine lv_iconst (v := nI 0) hx hb dX7_read_20 (by decide) ?_
      exact q_ei hx hb hr hlocks hW hS dX7_read_21 (by exact ⟨Or.inr ⟨fun h => pNo_whl hno9 h, ⟨_, _, _, _, _, _, _, _, _, _, hm0, hm1, ⟨hRp, hP⟩, hm38, hsv, hm39, hm40, hsl, hm41, hbu, hm42, hm43, hm44⟩⟩, by intro id h9; rw [fr14 id (by omega)]; rw [fr3 id (by omega)]; try rfl⟩) (by decide) (by decide)
  · skip
    have c_6 : ¬ (r3 = 0) := fun h__ => c_6 ((nI_eq0 (i := r3) (by omega)).mpr h__)
    have hw9 := (hor3.resolve_right (fun h => c_6 h.1)).2
    refine lv_iconst (v := nI 0) hx hb dX7_read_9 (by decide) ?_
    refine lv_goto (tgt := 14) hx hb dX7_read_10 (by decide) ?_
    refine q_W1 (va_runV (As := [.int (nI 0)]) (rest := []) ⟨hx, hb, hml, hown, hts⟩ (c_X7_holds l hm0 (nI (0))) (cwV 1 hts gX7_read_X7_holds rfl rfl rfl (by decide +kernel) ⟨Nat.le_of_ble_eq_true rfl, Nat.le_of_ble_eq_true rfl⟩) (q_preV hG hW hS hm0 rfl) rfl rfl hl.1 rfl (lv_room (Nat.le_of_ble_eq_true rfl)) dX7_read_14 ⟨Nat.le_of_ble_eq_true rfl, Nat.le_of_ble_eq_true rfl⟩) hS (fun w_14 H locs hp14 hW hS => ?_)
    obtain ⟨hm0, fr14⟩ := hp14
    replace hm1 : w_14 37 = some (eN dA 85 F) := (fr14 _ (by omega)).trans hm1
    replace hm38 : w_14 38 = some (eN dA 510 G) := (fr14 _ (by omega)).trans hm38
    replace hm39 : w_14 39 = some (eN dA 170 GS) := (fr14 _ (by omega)).trans hm39
    replace hm40 : w_14 40 = some (eZ dA 2 Zt) := (fr14 _ (by omega)).trans hm40
    replace hm41 : w_14 41 = some (eN dA 80 C) := (fr14 _ (by omega)).trans hm41
    replace hm42 : w_14 42 = some (eN dA 120 D0) := (fr14 _ (by omega)).trans hm42
    replace hm43 : w_14 43 = some (eN dA 120 M0) := (fr14 _ (by omega)).trans hm43
    replace hm44 : w_14 44 = some (eN dA 3 TD3) := (fr14 _ (by omega)).trans hm44
    refine q_topv (v' := .int (nI 1)) (congrArg Value.int (by decide)) ?_
    refine lv_if_ne (tgt := 22) hx hb dX7_read_17 (by decide) (fun c_17 => ?_) (fun c_17 => ?_)
    · skip
      have c_17 : ¬ (1 = 0) := fun h__ => c_17 ((nI_eq0 (i := 1) (by omega)).mpr h__)
      refine lv_aload_n hx hb dX7_read_22 rfl (lv_at hl 0 rfl) ?_
      refine q_W0 (va_runV (As := []) (rest := []) ⟨hx, hb, hml, hown, hts⟩ (c_X7_save l hm0 hm1 hm38 hsv.1) (cwV 0 hts gX7_read_X7_save rfl rfl rfl (by decide +kernel) ⟨Nat.le_of_ble_eq_true rfl, Nat.le_of_ble_eq_true rfl⟩) (q_preV hG hW hS hm0 rfl) rfl rfl hl.1 rfl (lv_room (Nat.le_of_ble_eq_true rfl)) dX7_read_23 ⟨Nat.le_of_ble_eq_true rfl, Nat.le_of_ble_eq_true rfl⟩) hS (fun w_23 H locs hp23 hW hS => ?_)
      obtain ⟨hm0, hm38, fr23⟩ := hp23
      replace hm1 : w_23 37 = some (eN dA 85 F) := (fr23 _ (by omega)).trans hm1
      replace hm39 : w_23 39 = some (eN dA 170 GS) := (fr23 _ (by omega)).trans hm39
      replace hm40 : w_23 40 = some (eZ dA 2 Zt) := (fr23 _ (by omega)).trans hm40
      replace hm41 : w_23 41 = some (eN dA 80 C) := (fr23 _ (by omega)).trans hm41
      replace hm42 : w_23 42 = some (eN dA 120 D0) := (fr23 _ (by omega)).trans hm42
      replace hm43 : w_23 43 = some (eN dA 120 M0) := (fr23 _ (by omega)).trans hm43
      replace hm44 : w_23 44 = some (eN dA 3 TD3) := (fr23 _ (by omega)).trans hm44
      replace hsv := sav_rep hsv hRp hP
      refine lv_aload_n hx hb dX7_read_26 rfl (lv_at hl 0 rfl) ?_
      refine lv_iconst (v := nI 1) hx hb dX7_read_27 (by decide) ?_
      refine q_E1 (va_runV (As := [.int (nI 1)]) (rest := []) ⟨hx, hb, hml, hown, hts⟩ (c_X7_readText_t l hm0 hm41 hbu hm44 hm1 hRp hP hw9) (cwV 1 hts gX7_read_X7_readText rfl rfl rfl (by decide +kernel) ⟨Nat.le_of_ble_eq_true rfl, Nat.le_of_ble_eq_true rfl⟩) (q_preV hG hW hS hm0 rfl) rfl rfl hl.1 rfl (lv_room (Nat.le_of_ble_eq_true rfl)) dX7_read_28 ⟨Nat.le_of_ble_eq_true rfl, Nat.le_of_ble_eq_true rfl⟩) hS (fun r28 w_28 H locs hp28 hW hS => ?_)
      obtain ⟨hr28, u28, kd28, TD28, F28, hm0, hm44, hm1, hRp, hP, fr28⟩ := hp28
      replace hm39 : w_28 39 = some (eN dA 170 GS) := (fr28 _ (by omega)).trans hm39
      replace hm40 : w_28 40 = some (eZ dA 2 Zt) := (fr28 _ (by omega)).trans hm40
      replace hm41 : w_28 41 = some (eN dA 80 C) := (fr28 _ (by omega)).trans hm41
      replace hm42 : w_28 42 = some (eN dA 120 D0) := (fr28 _ (by omega)).trans hm42
      replace hm43 : w_28 43 = some (eN dA 120 M0) := (fr28 _ (by omega)).trans hm43
      replace hm38 : w_28 38 = some (eN dA 510 (savG n F G)) := (fr28 _ (by omega)).trans hm38
      refine lv_istore_n (lv' := [(1, .int (nI r28)), (0, .ref (b + 36))]) hx hb dX7_read_31 rfl hl (by decide) rfl (fun ls hl => ?_)
      refine lv_aload_n hx hb dX7_read_32 rfl (lv_at hl 1 rfl) ?_
      refine lv_iconst (v := nI 0) hx hb dX7_read_33 (by decide) ?_
      refine q_put hx hb hts hinX7 tyX7_ok nmX7 hown hG hW hS hm0 rfl 6 (by decide) (hts (.fieldLink RX7 117 "FoleyMixerModel" "length" "I") (List.mem_of_getElem? (i := 1) rfl)) rfl rfl rfl rfl (Nat.le_of_ble_eq_true rfl) dX7_read_34 (fun H locs hW hS hz34 => ?_)
      obtain ⟨w1, ew1⟩ : ∃ wq__ : Wd, wq__ = va_up w_28 36 (some (modO b (nI (pshN n)) (nI (0)) (nI (0)) (nI (u28)) (kd28) (nI ((rgo nc C R0 (nc + 1) P 0).2)))) := ⟨_, rfl⟩
      replace hW : WP D b w1 H := by rw [ew1]; exact hW
      have frw1 : ∀ id : Nat, id ≠ 36 → w1 id = w_28 id := fun id h9 => by rw [ew1, up_ne h9]
      replace hm39 : w1 39 = some (eN dA 170 GS) := (frw1 _ (by omega)).trans hm39
      replace hm40 : w1 40 = some (eZ dA 2 Zt) := (frw1 _ (by omega)).trans hm40
      replace hm41 : w1 41 = some (eN dA 80 C) := (frw1 _ (by omega)).trans hm41
      replace hm42 : w1 42 = some (eN dA 120 D0) := (frw1 _ (by omega)).trans hm42
      replace hm43 : w1 43 = some (eN dA 120 M0) := (frw1 _ (by omega)).trans hm43
      replace hm38 : w1 38 = some (eN dA 510 (savG n F G)) := (frw1 _ (by omega)).trans hm38
      replace hm44 : w1 44 = some (eN dA 3 TD28) := (frw1 _ (by omega)).trans hm44
      replace hm1 : w1 37 = some (eN dA 85 F28) := (frw1 _ (by omega)).trans hm1
      replace hm0 : w1 36 = some (modO b (nI (pshN n)) (nI (0)) (nI (0)) (nI (u28)) (kd28) (nI ((rgo nc C R0 (nc + 1) P 0).2))) := by rw [ew1]; exact up_eq
      refine lv_iload_n hx hb dX7_read_37 rfl (lv_at hl 0 rfl) ?_
      refine lv_if_eq (tgt := 48) hx hb dX7_read_38 (by decide) (fun c_38 => ?_) (fun c_38 => ?_)
      · skip
        have c_38 : r28 = 0 := (nI_eq0 (i := r28) (by omega)).mp c_38
        exact absurd hr28 (by omega)
      · skip
        have c_38 : ¬ (r28 = 0) := fun h__ => c_38 ((nI_eq0 (i := r28) (by omega)).mpr h__)
        refine lv_aload_n hx hb dX7_read_41 rfl (lv_at hl 1 rfl) ?_
        refine q_get hx hb hts hinX7 hown hG hW hm0 rfl 13 (by decide) (hts (.fieldLink RX7 135 "FoleyMixerModel" "done" "I") (List.mem_of_getElem? (i := 2) rfl)) rfl rfl dX7_read_42 ?_
        refine lv_goto (tgt := 49) hx hb dX7_read_45 (by decide) ?_
        exact q_ei hx hb hr hlocks hW hS dX7_read_49 (by replace hbu : mBu 0 C := ⟨by omega, fun i hi => absurd hi (Nat.not_lt_zero _)⟩; exact ⟨Or.inl ⟨hw9, rfl, ⟨_, _, _, _, _, _, _, _, _, _, hm0, hm1, ⟨hRp, hP⟩, hm38, hsv, hm39, hm40, hsl, hm41, hbu, hm42, hm43, hm44⟩⟩, by intro id h9; rw [frw1 id (by omega)]; rw [fr28 id (by omega)]; rw [fr23 id (by omega)]; rw [fr14 id (by omega)]; rw [fr3 id (by omega)]; try rfl⟩) (by decide) (by decide)
    · skip
      have c_17 : 1 = 0 := (nI_eq0 (i := 1) (by omega)).mp c_17
      exact absurd c_17 (by omega)

