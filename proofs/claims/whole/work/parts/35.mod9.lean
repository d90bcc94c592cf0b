theorem c33 {x : Int32} (h : nI 33 ≤ x ∧ x ≤ nI 126) : 33 ≤ x ∧ x ≤ 126 := h
theorem zt_ne : ¬ ((1 : Int32) = 0) := by decide
theorem sl_keep {GS F : Nat → Nat} {Zt : Nat → Int32} {SL : Nat → Option Pl} {P : Pl} {i : Nat} (h : mSl GS Zt SL) (hi : i < 2) (hF : rep F P) (hP : okP P) : mSl (fun j => if 85 * i ≤ j ∧ j < 85 * i + 85 then F (0 + (j - 85 * i)) else GS j) (va_up Zt i 1) (va_up SL i (some P)) := by
  intro j hj
  by_cases e : j = i
  · subst e
    refine Or.inr ⟨P, va_up_self _ _ _, va_up_self _ _ _, rep_congr hP hF (fun k hk => ?_), hP⟩
    dsimp only; rw [if_pos (by omega)]; congr 1; omega
  · rw [va_up_ne _ _ e, va_up_ne _ _ e]
    rcases h j hj with h | ⟨Q, h1, h2, h3, h4⟩
    · exact Or.inl h
    · refine Or.inr ⟨Q, h1, h2, rep_congr h4 h3 (fun k hk => ?_), h4⟩
      dsimp only; rw [if_neg (by omega)]
theorem rep_back {G F : Nat → Nat} {Q : Pl} {o : Nat} (h : rep (fun k => G (o + k)) Q) (hQ : okP Q) : rep (fun j => if 0 ≤ j ∧ j < 0 + 85 then G (o + (j - 0)) else F j) Q := rep_congr hQ h (fun k hk => by rw [if_pos (by omega)]; rfl)
set_option maxHeartbeats 300000 in
set_option maxRecDepth 100000 in
/-- word -/
theorem c_X7_word (l : Launch) {D : va_G} {dA : Nat → Nat} {b : Nat} {w : Wd} {n nc : Nat} {P : Pl} {Hs : Nat → Pl} {SL : Nat → Option Pl} {C : Nat → Nat} {tt : Int32} (hmd : isMod dA b w (P, (n, Hs), SL, (nc, C)) tt) (x y z : Int32) : Met l yX7_word wsX7_word ({ frames := 2, cells := 0, slots := 0, locals := 48 } : Room) (PC D dA b w [.ref (b + 36), .int (x), .int (y), .int (z)]) (QW D b (some (.int (if okC x y z ∧ P.w < 10 then nI P.w else 0))) (fun w' => (((okC x y z ∧ P.w < 10) ∧ isMod dA b w' ((P.w + 1, addV P.W P.w (i32n x) (i32n y) (i32n z) 0, P.n, P.N, P.S), (pshN n, psh n Hs P), SL, (nc, C)) (nI 0)) ∨ ((¬ okC x y z) ∧ isMod dA b w' (P, (n, Hs), SL, (nc, C)) (nI 1)) ∨ ((okC x y z ∧ 10 ≤ P.w) ∧ isMod dA b w' (P, (n, Hs), SL, (nc, C)) (nI 2))) ∧ ∀ id : Nat, (id < 36 ∨ 45 ≤ id) → w' id = w id)) 0 0 (Fb b) := by
  refine q_of (cc := cX7_word) (maxL := 4) (ret := (some .int)) (by decide) rfl rfl ?_
  intro p e s m args below meth c ls hx hb hr hml hts hown hlocks hG hW hS hl
  have hown : s.vm.findClass RX7 = some m.cls := hown
  have hl : lv_has ls 4 [(0, .ref (b + 36)), (1, .int (x)), (2, .int (y)), (3, .int (z))] := hl
  obtain ⟨pl, lt, dn, F, G, GS, Zt, D0, M0, TD, hm0, hm1, ⟨hRp, hP⟩, hm38, hsv, hm39, hm40, hsl, hm41, hbu, hm42, hm43, hm44⟩ := id hmd
  change w 36 = some (modO b (nI n) (nI nc) tt pl lt dn) at hm0
  change rep F P at hRp
  change okP P at hP
  change mSv n G Hs at hsv
  change mSl GS Zt SL at hsl
  change w 41 = some (eN dA 80 C) at hm41
  change mBu nc C at hbu
  have hn6 := hsv.1
  have hnc := hbu.1
  obtain ⟨hPw, hPn, hPW, hPN, hPS⟩ := id hP
  have hr5 := hRp.2.1
  have hr6 := hRp.2.2.1
  refine lv_aload_n hx hb dX7_word_0 rfl (lv_at hl 0 rfl) ?_
  refine lv_iload_n hx hb dX7_word_1 rfl (lv_at hl 1 rfl) ?_
  refine lv_iload_n hx hb dX7_word_2 rfl (lv_at hl 2 rfl) ?_
  refine lv_iload_n hx hb dX7_word_3 rfl (lv_at hl 3 rfl) ?_
  refine q_R1 (va_runS (As := [.int (x), .int (y), .int (z)]) (rest := [.ref (b + 36)]) ⟨hx, hb, hml, hown, hts⟩ (c_X7_areNumbers l (x) (y) (z)) (va_cwS 3 hts gX7_word_X7_areNumbers rfl rfl rfl (by decide +kernel) ⟨Nat.le_of_ble_eq_true rfl, Nat.le_of_ble_eq_true rfl⟩) (q_preS hG hW hS) rfl rfl hl.1 rfl (lv_room (Nat.le_of_ble_eq_true rfl)) dX7_word_4 ⟨Nat.le_of_ble_eq_true rfl, Nat.le_of_ble_eq_true rfl⟩) ?_
  refine lv_if_ne (tgt := 14) hx hb dX7_word_7 (by decide) (fun c_7 => ?_) (fun c_7 => ?_)
  · skip
    have c_7 : okC (x) (y) (z) := Decidable.byContradiction (fun h__ => c_7 (pI_eq0.mpr h__))
    refine lv_aload_n hx hb dX7_word_14 rfl (lv_at hl 0 rfl) ?_
    refine lv_iconst (v := nI 1) hx hb dX7_word_15 (by decide) ?_
    refine q_R1 (va_runV (As := [.int (nI 1)]) (rest := [.ref (b + 36)]) ⟨hx, hb, hml, hown, hts⟩ (c_X7_isRoom_t l hm0 hm1 hRp hP) (cwV 1 hts gX7_word_X7_isRoom rfl rfl rfl (by decide +kernel) ⟨Nat.le_of_ble_eq_true rfl, Nat.le_of_ble_eq_true rfl⟩) (q_preV hG hW hS hm0 rfl) rfl rfl hl.1 rfl (lv_room (Nat.le_of_ble_eq_true rfl)) dX7_word_16 ⟨Nat.le_of_ble_eq_true rfl, Nat.le_of_ble_eq_true rfl⟩) ?_
    refine lv_if_eq (tgt := 26) hx hb dX7_word_19 (by decide) (fun c_19 => ?_) (fun c_19 => ?_)
    · skip
      have c_19 : ¬ (P.w < 10) := pI_eq0.mp c_19
      refine lv_iconst (v := nI 2) hx hb dX7_word_26 (by decide) ?_
      refine q_W1 (va_runV (As := [.int (nI 2)]) (rest := []) ⟨hx, hb, hml, hown, hts⟩ (c_X7_holds l hm0 (nI (2))) (cwV 1 hts gX7_word_X7_holds rfl rfl rfl (by decide +kernel) ⟨Nat.le_of_ble_eq_true rfl, Nat.le_of_ble_eq_true rfl⟩) (q_preV hG hW hS hm0 rfl) rfl rfl hl.1 rfl (lv_room (Nat.le_of_ble_eq_true rfl)) dX7_word_27 ⟨Nat.le_of_ble_eq_true rfl, Nat.le_of_ble_eq_true rfl⟩) hS (fun w_27 H locs hp27 hW hS => ?_)
      obtain ⟨hm0, fr27⟩ := hp27
      replace hm1 : w_27 37 = some (eN dA 85 F) := (fr27 _ (by omega)).trans hm1
      replace hm38 : w_27 38 = some (eN dA 510 G) := (fr27 _ (by omega)).trans hm38
      replace hm39 : w_27 39 = some (eN dA 170 GS) := (fr27 _ (by omega)).trans hm39
      replace hm40 : w_27 40 = some (eZ dA 2 Zt) := (fr27 _ (by omega)).trans hm40
      replace hm41 : w_27 41 = some (eN dA 80 C) := (fr27 _ (by omega)).trans hm41
      replace hm42 : w_27 42 = some (eN dA 120 D0) := (fr27 _ (by omega)).trans hm42
      replace hm43 : w_27 43 = some (eN dA 120 M0) := (fr27 _ (by omega)).trans hm43
      replace hm44 : w_27 44 = some (eN dA 3 TD) := (fr27 _ (by omega)).trans hm44
      refine q_topv (v' := .int (nI 0)) (congrArg Value.int (by decide)) ?_
      refine lv_if_ne (tgt := 35) hx hb dX7_word_30 (by decide) (fun c_30 => ?_) (fun c_30 => ?_)
      · skip
        have c_30 : ¬ (0 = 0) := fun h__ => c_30 ((nI_eq0 (i := 0) (by omega)).mpr h__)
        exact absurd c_30 (by omega)
      · skip
        have c_30 : 0 = 0 := (nI_eq0 (i := 0) (by omega)).mp c_30
        refine lv_iconst (v := nI 0) hx hb dX7_word_33 (by decide) ?_
        exact q_wi hx hb hr hlocks hW hS dX7_word_34 (by first | (rw [if_neg (fun q9 => absurd q9.1 c_7)]; rfl) | (rw [if_neg (fun q9 => absurd q9.2 c_19)]; rfl)) (by exact ⟨Or.inr (Or.inr ⟨⟨c_7, by omega⟩, ⟨_, _, _, _, _, _, _, _, _, _, hm0, hm1, ⟨hRp, hP⟩, hm38, hsv, hm39, hm40, hsl, hm41, hbu, hm42, hm43, hm44⟩⟩), by intro id h9; rw [fr27 id (by omega)]; try rfl⟩) (by decide) (by decide)
    · skip
      have c_19 : P.w < 10 := Decidable.byContradiction (fun h__ => c_19 (pI_eq0.mpr h__))
      refine lv_iconst (v := nI 0) hx hb dX7_word_22 (by decide) ?_
      refine lv_goto (tgt := 27) hx hb dX7_word_23 (by decide) ?_
      refine q_W1 (va_runV (As := [.int (nI 0)]) (rest := []) ⟨hx, hb, hml, hown, hts⟩ (c_X7_holds l hm0 (nI (0))) (cwV 1 hts gX7_word_X7_holds rfl rfl rfl (by decide +kernel) ⟨Nat.le_of_ble_eq_true rfl, Nat.le_of_ble_eq_true rfl⟩) (q_preV hG hW hS hm0 rfl) rfl rfl hl.1 rfl (lv_room (Nat.le_of_ble_eq_true rfl)) dX7_word_27 ⟨Nat.le_of_ble_eq_true rfl, Nat.le_of_ble_eq_true rfl⟩) hS (fun w_27 H locs hp27 hW hS => ?_)
      obtain ⟨hm0, fr27⟩ := hp27
      replace hm1 : w_27 37 = some (eN dA 85 F) := (fr27 _ (by omega)).trans hm1
      replace hm38 : w_27 38 = some (eN dA 510 G) := (fr27 _ (by omega)).trans hm38
      replace hm39 : w_27 39 = some (eN dA 170 GS) := (fr27 _ (by omega)).trans hm39
      replace hm40 : w_27 40 = some (eZ dA 2 Zt) := (fr27 _ (by omega)).trans hm40
      replace hm41 : w_27 41 = some (eN dA 80 C) := (fr27 _ (by omega)).trans hm41
      replace hm42 : w_27 42 = some (eN dA 120 D0) := (fr27 _ (by omega)).trans hm42
      replace hm43 : w_27 43 = some (eN dA 120 M0) := (fr27 _ (by omega)).trans hm43
      replace hm44 : w_27 44 = some (eN dA 3 TD) := (fr27 _ (by omega)).trans hm44
      refine q_topv (v' := .int (nI 1)) (congrArg Value.int (by decide)) ?_
      refine lv_if_ne (tgt := 35) hx hb dX7_word_30 (by decide) (fun c_30 => ?_) (fun c_30 => ?_)
      · skip
        have c_30 : ¬ (1 = 0) := fun h__ => c_30 ((nI_eq0 (i := 1) (by omega)).mpr h__)
        obtain ⟨⟨ex9, bx9⟩, ⟨ey9, by9, by8⟩, ⟨ez9, bz9, bz8⟩⟩ := okC_n c_7
        have el_35 : x = nI (i32n x) := by exact ex9
        rw [el_35] at hl
        have el_35 : y = nI (i32n y) := by exact ey9
        rw [el_35] at hl
        have el_35 : z = nI (i32n z) := by exact ez9
        rw [el_35] at hl
        refine lv_aload_n hx hb dX7_word_35 rfl (lv_at hl 0 rfl) ?_
        refine q_W0 (va_runV (As := []) (rest := []) ⟨hx, hb, hml, hown, hts⟩ (c_X7_save l hm0 hm1 hm38 hsv.1) (cwV 0 hts gX7_word_X7_save rfl rfl rfl (by decide +kernel) ⟨Nat.le_of_ble_eq_true rfl, Nat.le_of_ble_eq_true rfl⟩) (q_preV hG hW hS hm0 rfl) rfl rfl hl.1 rfl (lv_room (Nat.le_of_ble_eq_true rfl)) dX7_word_36 ⟨Nat.le_of_ble_eq_true rfl, Nat.le_of_ble_eq_true rfl⟩) hS (fun w_36 H locs hp36 hW hS => ?_)
        obtain ⟨hm0, hm38, fr36⟩ := hp36
        replace hm1 : w_36 37 = some (eN dA 85 F) := (fr36 _ (by omega)).trans hm1
        replace hm39 : w_36 39 = some (eN dA 170 GS) := (fr36 _ (by omega)).trans hm39
        replace hm40 : w_36 40 = some (eZ dA 2 Zt) := (fr36 _ (by omega)).trans hm40
        replace hm41 : w_36 41 = some (eN dA 80 C) := (fr36 _ (by omega)).trans hm41
        replace hm42 : w_36 42 = some (eN dA 120 D0) := (fr36 _ (by omega)).trans hm42
        replace hm43 : w_36 43 = some (eN dA 120 M0) := (fr36 _ (by omega)).trans hm43
        replace hm44 : w_36 44 = some (eN dA 3 TD) := (fr36 _ (by omega)).trans hm44
        replace hsv := sav_rep hsv hRp hP
        refine lv_aload_n hx hb dX7_word_39 rfl (lv_at hl 0 rfl) ?_
        refine lv_iconst (v := nI 1) hx hb dX7_word_40 (by decide) ?_
        refine lv_iload_n hx hb dX7_word_41 rfl (lv_at hl 1 rfl) ?_
        refine lv_iload_n hx hb dX7_word_42 rfl (lv_at hl 2 rfl) ?_
        refine lv_iload_n hx hb dX7_word_43 rfl (lv_at hl 3 rfl) ?_
        refine lv_iconst (v := nI 0) hx hb dX7_word_44 (by decide) ?_
        refine q_W1 (va_runV (As := [.int (nI 1), .int (nI (i32n x)), .int (nI (i32n y)), .int (nI (i32n z)), .int (nI 0)]) (rest := []) ⟨hx, hb, hml, hown, hts⟩ (c_X7_add_t l hm0 hm1 hRp hP (i32n x) (i32n y) (i32n z) 0 (by omega) (by omega) (by omega) (by omega) (by omega) (by omega)) (cwV 5 hts gX7_word_X7_add rfl rfl rfl (by decide +kernel) ⟨Nat.le_of_ble_eq_true rfl, Nat.le_of_ble_eq_true rfl⟩) (q_preV hG hW hS hm0 rfl) rfl rfl hl.1 rfl (lv_room (Nat.le_of_ble_eq_true rfl)) dX7_word_45 ⟨Nat.le_of_ble_eq_true rfl, Nat.le_of_ble_eq_true rfl⟩) hS (fun w_45 H locs hp45 hW hS => ?_)
        obtain ⟨F45, hm1, hRp, hP, fr45⟩ := hp45
        replace hm39 : w_45 39 = some (eN dA 170 GS) := (fr45 _ (by omega)).trans hm39
        replace hm40 : w_45 40 = some (eZ dA 2 Zt) := (fr45 _ (by omega)).trans hm40
        replace hm41 : w_45 41 = some (eN dA 80 C) := (fr45 _ (by omega)).trans hm41
        replace hm42 : w_45 42 = some (eN dA 120 D0) := (fr45 _ (by omega)).trans hm42
        replace hm43 : w_45 43 = some (eN dA 120 M0) := (fr45 _ (by omega)).trans hm43
        replace hm44 : w_45 44 = some (eN dA 3 TD) := (fr45 _ (by omega)).trans hm44
        replace hm0 : w_45 36 = some (modO b (nI (pshN n)) (nI (nc)) (nI (0)) (pl) (lt) (dn)) := (fr45 _ (by omega)).trans hm0
        replace hm38 : w_45 38 = some (eN dA 510 (savG n F G)) := (fr45 _ (by omega)).trans hm38
        exact q_wi hx hb hr hlocks hW hS dX7_word_48 (by rw [if_pos (⟨c_7, c_19⟩)]) (by exact ⟨Or.inl ⟨⟨c_7, c_19⟩, ⟨_, _, _, _, _, _, _, _, _, _, hm0, hm1, ⟨hRp, hP⟩, hm38, hsv, hm39, hm40, hsl, hm41, hbu, hm42, hm43, hm44⟩⟩, by intro id h9; rw [fr45 id (by omega)]; rw [fr36 id (by omega)]; rw [fr27 id (by omega)]; try rfl⟩) (by decide) (by decide)
      · skip
        have c_30 : 1 = 0 := (nI_eq0 (i := 1) (by omega)).mp c_30
        exact absurd c_30 (by omega)
  · skip
    have c_7 : ¬ (okC (x) (y) (z)) := pI_eq0.mp c_7
    refine lv_iconst (v := nI 1) hx hb dX7_word_10 (by decide) ?_
    refine lv_goto (tgt := 27) hx hb dX7_word_11 (by decide) ?_
    refine q_W1 (va_runV (As := [.int (nI 1)]) (rest := []) ⟨hx, hb, hml, hown, hts⟩ (c_X7_holds l hm0 (nI (1))) (cwV 1 hts gX7_word_X7_holds rfl rfl rfl (by decide +kernel) ⟨Nat.le_of_ble_eq_true rfl, Nat.le_of_ble_eq_true rfl⟩) (q_preV hG hW hS hm0 rfl) rfl rfl hl.1 rfl (lv_room (Nat.le_of_ble_eq_true rfl)) dX7_word_27 ⟨Nat.le_of_ble_eq_true rfl, Nat.le_of_ble_eq_true rfl⟩) hS (fun w_27 H locs hp27 hW hS => ?_)
    obtain ⟨hm0, fr27⟩ := hp27
    replace hm1 : w_27 37 = some (eN dA 85 F) := (fr27 _ (by omega)).trans hm1
    replace hm38 : w_27 38 = some (eN dA 510 G) := (fr27 _ (by omega)).trans hm38
    replace hm39 : w_27 39 = some (eN dA 170 GS) := (fr27 _ (by omega)).trans hm39
    replace hm40 : w_27 40 = some (eZ dA 2 Zt) := (fr27 _ (by omega)).trans hm40
    replace hm41 : w_27 41 = some (eN dA 80 C) := (fr27 _ (by omega)).trans hm41
    replace hm42 : w_27 42 = some (eN dA 120 D0) := (fr27 _ (by omega)).trans hm42
    replace hm43 : w_27 43 = some (eN dA 120 M0) := (fr27 _ (by omega)).trans hm43
    replace hm44 : w_27 44 = some (eN dA 3 TD) := (fr27 _ (by omega)).trans hm44
    refine q_topv (v' := .int (nI 0)) (congrArg Value.int (by decide)) ?_
    refine lv_if_ne (tgt := 35) hx hb dX7_word_30 (by decide) (fun c_30 => ?_) (fun c_30 => ?_)
    · skip
      have c_30 : ¬ (0 = 0) := fun h__ => c_30 ((nI_eq0 (i := 0) (by omega)).mpr h__)
      exact absurd c_30 (by omega)
    · skip
      have c_30 : 0 = 0 := (nI_eq0 (i := 0) (by omega)).mp c_30
      refine lv_iconst (v := nI 0) hx hb dX7_word_33 (by decide) ?_
      exact q_wi hx hb hr hlocks hW hS dX7_word_34 (by first | (rw [if_neg (fun q9 => absurd q9.1 c_7)]; rfl) | (rw [if_neg (fun q9 => absurd q9.2 c_19)]; rfl)) (by exact ⟨Or.inr (Or.inl ⟨c_7, ⟨_, _, _, _, _, _, _, _, _, _, hm0, hm1, ⟨hRp, hP⟩, hm38, hsv, hm39, hm40, hsl, hm41, hbu, hm42, hm43, hm44⟩⟩), by intro id h9; rw [fr27 id (by omega)]; try rfl⟩) (by decide) (by decide)

set_option maxHeartbeats 300000 in
set_option maxRecDepth 100000 in
/-- noise -/
theorem c_X7_noise (l : Launch) {D : va_G} {dA : Nat → Nat} {b : Nat} {w : Wd} {n nc : Nat} {P : Pl} {Hs : Nat → Pl} {SL : Nat → Option Pl} {C : Nat → Nat} {tt : Int32} (hmd : isMod dA b w (P, (n, Hs), SL, (nc, C)) tt) (x y z : Int32) (g9 : Nat) (h4 : g9 ≤ 1) : Met l yX7_noise wsX7_noise ({ frames := 2, cells := 0, slots := 0, locals := 48 } : Room) (PC D dA b w [.ref (b + 36), .int (x), .int (y), .int (z), .int (nI g9)]) (QW D b (some (.int (if okC x y z ∧ P.n < 12 then nI P.n else 0))) (fun w' => (((okC x y z ∧ P.n < 12) ∧ isMod dA b w' ((P.w, P.W, P.n + 1, addV P.N P.n (i32n x) (i32n y) (i32n z) g9, P.S), (pshN n, psh n Hs P), SL, (nc, C)) (nI 0)) ∨ ((¬ okC x y z) ∧ isMod dA b w' (P, (n, Hs), SL, (nc, C)) (nI 1)) ∨ ((okC x y z ∧ 12 ≤ P.n) ∧ isMod dA b w' (P, (n, Hs), SL, (nc, C)) (nI 2))) ∧ ∀ id : Nat, (id < 36 ∨ 45 ≤ id) → w' id = w id)) 0 0 (Fb b) := by
  refine q_of (cc := cX7_noise) (maxL := 5) (ret := (some .int)) (by decide) rfl rfl ?_
  intro p e s m args below meth c ls hx hb hr hml hts hown hlocks hG hW hS hl
  have hown : s.vm.findClass RX7 = some m.cls := hown
  have hl : lv_has ls 5 [(0, .ref (b + 36)), (1, .int (x)), (2, .int (y)), (3, .int (z)), (4, .int (nI g9))] := hl
  obtain ⟨pl, lt, dn, F, G, GS, Zt, D0, M0, TD, hm0, hm1, ⟨hRp, hP⟩, hm38, hsv, hm39, hm40, hsl, hm41, hbu, hm42, hm43, hm44⟩ := id hmd
  change w 36 = some (modO b (nI n) (nI nc) tt pl lt dn) at hm0
  change rep F P at hRp
  change okP P at hP
  change mSv n G Hs at hsv
  change mSl GS Zt SL at hsl
  change w 41 = some (eN dA 80 C) at hm41
  change mBu nc C at hbu
  have hn6 := hsv.1
  have hnc := hbu.1
  obtain ⟨hPw, hPn, hPW, hPN, hPS⟩ := id hP
  have hr5 := hRp.2.1
  have hr6 := hRp.2.2.1
  refine lv_aload_n hx hb dX7_noise_0 rfl (lv_at hl 0 rfl) ?_
  refine lv_iload_n hx hb dX7_noise_1 rfl (lv_at hl 1 rfl) ?_
  refine lv_iload_n hx hb dX7_noise_2 rfl (lv_at hl 2 rfl) ?_
  refine lv_iload_n hx hb dX7_noise_3 rfl (lv_at hl 3 rfl) ?_
  refine q_R1 (va_runS (As := [.int (x), .int (y), .int (z)]) (rest := [.ref (b + 36)]) ⟨hx, hb, hml, hown, hts⟩ (c_X7_areNumbers l (x) (y) (z)) (va_cwS 3 hts gX7_noise_X7_areNumbers rfl rfl rfl (by decide +kernel) ⟨Nat.le_of_ble_eq_true rfl, Nat.le_of_ble_eq_true rfl⟩) (q_preS hG hW hS) rfl rfl hl.1 rfl (lv_room (Nat.le_of_ble_eq_true rfl)) dX7_noise_4 ⟨Nat.le_of_ble_eq_true rfl, Nat.le_of_ble_eq_true rfl⟩) ?_
  refine lv_if_ne (tgt := 14) hx hb dX7_noise_7 (by decide) (fun c_7 => ?_) (fun c_7 => ?_)
  · skip
    have c_7 : okC (x) (y) (z) := Decidable.byContradiction (fun h__ => c_7 (pI_eq0.mpr h__))
    refine lv_aload_n hx hb dX7_noise_14 rfl (lv_at hl 0 rfl) ?_
    refine lv_iconst (v := nI 0) hx hb dX7_noise_15 (by decide) ?_
    refine q_R1 (va_runV (As := [.int (nI 0)]) (rest := [.ref (b + 36)]) ⟨hx, hb, hml, hown, hts⟩ (c_X7_isRoom_f l hm0 hm1 hRp hP) (cwV 1 hts gX7_noise_X7_isRoom rfl rfl rfl (by decide +kernel) ⟨Nat.le_of_ble_eq_true rfl, Nat.le_of_ble_eq_true rfl⟩) (q_preV hG hW hS hm0 rfl) rfl rfl hl.1 rfl (lv_room (Nat.le_of_ble_eq_true rfl)) dX7_noise_16 ⟨Nat.le_of_ble_eq_true rfl, Nat.le_of_ble_eq_true rfl⟩) ?_
    refine lv_if_eq (tgt := 26) hx hb dX7_noise_19 (by decide) (fun c_19 => ?_) (fun c_19 => ?_)
    · skip
      have c_19 : ¬ (P.n < 12) := pI_eq0.mp c_19
      refine lv_iconst (v := nI 2) hx hb dX7_noise_26 (by decide) ?_
      refine q_W1 (va_runV (As := [.int (nI 2)]) (rest := []) ⟨hx, hb, hml, hown, hts⟩ (c_X7_holds l hm0 (nI (2))) (cwV 1 hts gX7_noise_X7_holds rfl rfl rfl (by decide +kernel) ⟨Nat.le_of_ble_eq_true rfl, Nat.le_of_ble_eq_true rfl⟩) (q_preV hG hW hS hm0 rfl) rfl rfl hl.1 rfl (lv_room (Nat.le_of_ble_eq_true rfl)) dX7_noise_27 ⟨Nat.le_of_ble_eq_true rfl, Nat.le_of_ble_eq_true rfl⟩) hS (fun w_27 H locs hp27 hW hS => ?_)
      obtain ⟨hm0, fr27⟩ := hp27
      replace hm1 : w_27 37 = some (eN dA 85 F) := (fr27 _ (by omega)).trans hm1
      replace hm38 : w_27 38 = some (eN dA 510 G) := (fr27 _ (by omega)).trans hm38
      replace hm39 : w_27 39 = some (eN dA 170 GS) := (fr27 _ (by omega)).trans hm39
      replace hm40 : w_27 40 = some (eZ dA 2 Zt) := (fr27 _ (by omega)).trans hm40
      replace hm41 : w_27 41 = some (eN dA 80 C) := (fr27 _ (by omega)).trans hm41
      replace hm42 : w_27 42 = some (eN dA 120 D0) := (fr27 _ (by omega)).trans hm42
      replace hm43 : w_27 43 = some (eN dA 120 M0) := (fr27 _ (by omega)).trans hm43
      replace hm44 : w_27 44 = some (eN dA 3 TD) := (fr27 _ (by omega)).trans hm44
      refine q_topv (v' := .int (nI 0)) (congrArg Value.int (by decide)) ?_
      refine lv_if_ne (tgt := 35) hx hb dX7_noise_30 (by decide) (fun c_30 => ?_) (fun c_30 => ?_)
      · skip
        have c_30 : ¬ (0 = 0) := fun h__ => c_30 ((nI_eq0 (i := 0) (by omega)).mpr h__)
        exact absurd c_30 (by omega)
      · skip
        have c_30 : 0 = 0 := (nI_eq0 (i := 0) (by omega)).mp c_30
        refine lv_iconst (v := nI 0) hx hb dX7_noise_33 (by decide) ?_
        exact q_wi hx hb hr hlocks hW hS dX7_noise_34 (by first | (rw [if_neg (fun q9 => absurd q9.1 c_7)]; rfl) | (rw [if_neg (fun q9 => absurd q9.2 c_19)]; rfl)) (by exact ⟨Or.inr (Or.inr ⟨⟨c_7, by omega⟩, ⟨_, _, _, _, _, _, _, _, _, _, hm0, hm1, ⟨hRp, hP⟩, hm38, hsv, hm39, hm40, hsl, hm41, hbu, hm42, hm43, hm44⟩⟩), by intro id h9; rw [fr27 id (by omega)]; try rfl⟩) (by decide) (by decide)
    · skip
      have c_19 : P.n < 12 := Decidable.byContradiction (fun h__ => c_19 (pI_eq0.mpr h__))
      refine lv_iconst (v := nI 0) hx hb dX7_noise_22 (by decide) ?_
      refine lv_goto (tgt := 27) hx hb dX7_noise_23 (by decide) ?_
      refine q_W1 (va_runV (As := [.int (nI 0)]) (rest := []) ⟨hx, hb, hml, hown, hts⟩ (c_X7_holds l hm0 (nI (0))) (cwV 1 hts gX7_noise_X7_holds rfl rfl rfl (by decide +kernel) ⟨Nat.le_of_ble_eq_true rfl, Nat.le_of_ble_eq_true rfl⟩) (q_preV hG hW hS hm0 rfl) rfl rfl hl.1 rfl (lv_room (Nat.le_of_ble_eq_true rfl)) dX7_noise_27 ⟨Nat.le_of_ble_eq_true rfl, Nat.le_of_ble_eq_true rfl⟩) hS (fun w_27 H locs hp27 hW hS => ?_)
      obtain ⟨hm0, fr27⟩ := hp27
      replace hm1 : w_27 37 = some (eN dA 85 F) := (fr27 _ (by omega)).trans hm1
      replace hm38 : w_27 38 = some (eN dA 510 G) := (fr27 _ (by omega)).trans hm38
      replace hm39 : w_27 39 = some (eN dA 170 GS) := (fr27 _ (by omega)).trans hm39
      replace hm40 : w_27 40 = some (eZ dA 2 Zt) := (fr27 _ (by omega)).trans hm40
      replace hm41 : w_27 41 = some (eN dA 80 C) := (fr27 _ (by omega)).trans hm41
      replace hm42 : w_27 42 = some (eN dA 120 D0) := (fr27 _ (by omega)).trans hm42
      replace hm43 : w_27 43 = some (eN dA 120 M0) := (fr27 _ (by omega)).trans hm43
      replace hm44 : w_27 44 = some (eN dA 3 TD) := (fr27 _ (by omega)).trans hm44
      refine q_topv (v' := .int (nI 1)) (congrArg Value.int (by decide)) ?_
      refine lv_if_ne (tgt := 35) hx hb dX7_noise_30 (by decide) (fun c_30 => ?_) (fun c_30 => ?_)
      · skip
        have c_30 : ¬ (1 = 0) := fun h__ => c_30 ((nI_eq0 (i := 1) (by omega)).mpr h__)
        obtain ⟨⟨ex9, bx9⟩, ⟨ey9, by9, by8⟩, ⟨ez9, bz9, bz8⟩⟩ := okC_n c_7
        have el_35 : x = nI (i32n x) := by exact ex9
        rw [el_35] at hl
        have el_35 : y = nI (i32n y) := by exact ey9
        rw [el_35] at hl
        have el_35 : z = nI (i32n z) := by exact ez9
        rw [el_35] at hl
        refine lv_aload_n hx hb dX7_noise_35 rfl (lv_at hl 0 rfl) ?_
        refine q_W0 (va_runV (As := []) (rest := []) ⟨hx, hb, hml, hown, hts⟩ (c_X7_save l hm0 hm1 hm38 hsv.1) (cwV 0 hts gX7_noise_X7_save rfl rfl rfl (by decide +kernel) ⟨Nat.le_of_ble_eq_true rfl, Nat.le_of_ble_eq_true rfl⟩) (q_preV hG hW hS hm0 rfl) rfl rfl hl.1 rfl (lv_room (Nat.le_of_ble_eq_true rfl)) dX7_noise_36 ⟨Nat.le_of_ble_eq_true rfl, Nat.le_of_ble_eq_true rfl⟩) hS (fun w_36 H locs hp36 hW hS => ?_)
        obtain ⟨hm0, hm38, fr36⟩ := hp36
        replace hm1 : w_36 37 = some (eN dA 85 F) := (fr36 _ (by omega)).trans hm1
        replace hm39 : w_36 39 = some (eN dA 170 GS) := (fr36 _ (by omega)).trans hm39
        replace hm40 : w_36 40 = some (eZ dA 2 Zt) := (fr36 _ (by omega)).trans hm40
        replace hm41 : w_36 41 = some (eN dA 80 C) := (fr36 _ (by omega)).trans hm41
        replace hm42 : w_36 42 = some (eN dA 120 D0) := (fr36 _ (by omega)).trans hm42
        replace hm43 : w_36 43 = some (eN dA 120 M0) := (fr36 _ (by omega)).trans hm43
        replace hm44 : w_36 44 = some (eN dA 3 TD) := (fr36 _ (by omega)).trans hm44
        replace hsv := sav_rep hsv hRp hP
        refine lv_aload_n hx hb dX7_noise_39 rfl (lv_at hl 0 rfl) ?_
        refine lv_iconst (v := nI 0) hx hb dX7_noise_40 (by decide) ?_
        refine lv_iload_n hx hb dX7_noise_41 rfl (lv_at hl 1 rfl) ?_
        refine lv_iload_n hx hb dX7_noise_42 rfl (lv_at hl 2 rfl) ?_
        refine lv_iload_n hx hb dX7_noise_43 rfl (lv_at hl 3 rfl) ?_
        refine lv_iload hx hb dX7_noise_44 (lv_at hl 4 rfl) ?_
        refine lv_if_eq (tgt := 53) hx hb dX7_noise_46 (by decide) (fun c_46 => ?_) (fun c_46 => ?_)
        · skip
          have c_46 : g9 = 0 := (nI_eq0 (i := g9) (by omega)).mp c_46
          refine lv_iconst (v := nI 0) hx hb dX7_noise_53 (by decide) ?_
          refine q_top (y := nI (g9)) (by exact congrArg nI (by omega)) ?_
          refine q_W1 (va_runV (As := [.int (nI 0), .int (nI (i32n x)), .int (nI (i32n y)), .int (nI (i32n z)), .int (nI g9)]) (rest := []) ⟨hx, hb, hml, hown, hts⟩ (c_X7_add_f l hm0 hm1 hRp hP (i32n x) (i32n y) (i32n z) g9 (by omega) (by omega) (by omega) (by omega) (by omega) (by omega)) (cwV 5 hts gX7_noise_X7_add rfl rfl rfl (by decide +kernel) ⟨Nat.le_of_ble_eq_true rfl, Nat.le_of_ble_eq_true rfl⟩) (q_preV hG hW hS hm0 rfl) rfl rfl hl.1 rfl (lv_room (Nat.le_of_ble_eq_true rfl)) dX7_noise_54 ⟨Nat.le_of_ble_eq_true rfl, Nat.le_of_ble_eq_true rfl⟩) hS (fun w_54 H locs hp54 hW hS => ?_)
          obtain ⟨F54, hm1, hRp, hP, fr54⟩ := hp54
          replace hm39 : w_54 39 = some (eN dA 170 GS) := (fr54 _ (by omega)).trans hm39
          replace hm40 : w_54 40 = some (eZ dA 2 Zt) := (fr54 _ (by omega)).trans hm40
          replace hm41 : w_54 41 = some (eN dA 80 C) := (fr54 _ (by omega)).trans hm41
          replace hm42 : w_54 42 = some (eN dA 120 D0) := (fr54 _ (by omega)).trans hm42
          replace hm43 : w_54 43 = some (eN dA 120 M0) := (fr54 _ (by omega)).trans hm43
          replace hm44 : w_54 44 = some (eN dA 3 TD) := (fr54 _ (by omega)).trans hm44
          replace hm0 : w_54 36 = some (modO b (nI (pshN n)) (nI (nc)) (nI (0)) (pl) (lt) (dn)) := (fr54 _ (by omega)).trans hm0
          replace hm38 : w_54 38 = some (eN dA 510 (savG n F G)) := (fr54 _ (by omega)).trans hm38
          exact q_wi hx hb hr hlocks hW hS dX7_noise_57 (by rw [if_pos (⟨c_7, c_19⟩)]) (by exact ⟨Or.inl ⟨⟨c_7, c_19⟩, ⟨_, _, _, _, _, _, _, _, _, _, hm0, hm1, ⟨hRp, hP⟩, hm38, hsv, hm39, hm40, hsl, hm41, hbu, hm42, hm43, hm44⟩⟩, by intro id h9; rw [fr54 id (by omega)]; rw [fr36 id (by omega)]; rw [fr27 id (by omega)]; try rfl⟩) (by decide) (by decide)
        · skip
          have c_46 : ¬ (g9 = 0) := fun h__ => c_46 ((nI_eq0 (i := g9) (by omega)).mpr h__)
          refine lv_iconst (v := nI 1) hx hb dX7_noise_49 (by decide) ?_
          refine lv_goto (tgt := 54) hx hb dX7_noise_50 (by decide) ?_
          refine q_top (y := nI (g9)) (by exact congrArg nI (by omega)) ?_
          refine q_W1 (va_runV (As := [.int (nI 0), .int (nI (i32n x)), .int (nI (i32n y)), .int (nI (i32n z)), .int (nI g9)]) (rest := []) ⟨hx, hb, hml, hown, hts⟩ (c_X7_add_f l hm0 hm1 hRp hP (i32n x) (i32n y) (i32n z) g9 (by omega) (by omega) (by omega) (by omega) (by omega) (by omega)) (cwV 5 hts gX7_noise_X7_add rfl rfl rfl (by decide +kernel) ⟨Nat.le_of_ble_eq_true rfl, Nat.le_of_ble_eq_true rfl⟩) (q_preV hG hW hS hm0 rfl) rfl rfl hl.1 rfl (lv_room (Nat.le_of_ble_eq_true rfl)) dX7_noise_54 ⟨Nat.le_of_ble_eq_true rfl, Nat.le_of_ble_eq_true rfl⟩) hS (fun w_54 H locs hp54 hW hS => ?_)
          obtain ⟨F54, hm1, hRp, hP, fr54⟩ := hp54
          replace hm39 : w_54 39 = some (eN dA 170 GS) := (fr54 _ (by omega)).trans hm39
          replace hm40 : w_54 40 = some (eZ dA 2 Zt) := (fr54 _ (by omega)).trans hm40
          replace hm41 : w_54 41 = some (eN dA 80 C) := (fr54 _ (by omega)).trans hm41
          replace hm42 : w_54 42 = some (eN dA 120 D0) := (fr54 _ (by omega)).trans hm42
          replace hm43 : w_54 43 = some (eN dA 120 M0) := (fr54 _ (by omega)).trans hm43
          replace hm44 : w_54 44 = some (eN dA 3 TD) := (fr54 _ (by omega)).trans hm44
          replace hm0 : w_54 36 = some (modO b (nI (pshN n)) (nI (nc)) (nI (0)) (pl) (lt) (dn)) := (fr54 _ (by omega)).trans hm0
          replace hm38 : w_54 38 = some (eN dA 510 (savG n F G)) := (fr54 _ (by omega)).trans hm38
          exact q_wi hx hb hr hlocks hW hS dX7_noise_57 (by rw [if_pos (⟨c_7, c_19⟩)]) (by exact ⟨Or.inl ⟨⟨c_7, c_19⟩, ⟨_, _, _, _, _, _, _, _, _, _, hm0, hm1, ⟨hRp, hP⟩, hm38, hsv, hm39, hm40, hsl, hm41, hbu, hm42, hm43, hm44⟩⟩, by intro id h9; rw [fr54 id (by omega)]; rw [fr36 id (by omega)]; rw [fr27 id (by omega)]; try rfl⟩) (by decide) (by decide)
      · skip
        have c_30 : 1 = 0 := (nI_eq0 (i := 1) (by omega)).mp c_30
        exact absurd c_30 (by omega)
  · skip
    have c_7 : ¬ (okC (x) (y) (z)) := pI_eq0.mp c_7
    refine lv_iconst (v := nI 1) hx hb dX7_noise_10 (by decide) ?_
    refine lv_goto (tgt := 27) hx hb dX7_noise_11 (by decide) ?_
    refine q_W1 (va_runV (As := [.int (nI 1)]) (rest := []) ⟨hx, hb, hml, hown, hts⟩ (c_X7_holds l hm0 (nI (1))) (cwV 1 hts gX7_noise_X7_holds rfl rfl rfl (by decide +kernel) ⟨Nat.le_of_ble_eq_true rfl, Nat.le_of_ble_eq_true rfl⟩) (q_preV hG hW hS hm0 rfl) rfl rfl hl.1 rfl (lv_room (Nat.le_of_ble_eq_true rfl)) dX7_noise_27 ⟨Nat.le_of_ble_eq_true rfl, Nat.le_of_ble_eq_true rfl⟩) hS (fun w_27 H locs hp27 hW hS => ?_)
    obtain ⟨hm0, fr27⟩ := hp27
    replace hm1 : w_27 37 = some (eN dA 85 F) := (fr27 _ (by omega)).trans hm1
    replace hm38 : w_27 38 = some (eN dA 510 G) := (fr27 _ (by omega)).trans hm38
    replace hm39 : w_27 39 = some (eN dA 170 GS) := (fr27 _ (by omega)).trans hm39
    replace hm40 : w_27 40 = some (eZ dA 2 Zt) := (fr27 _ (by omega)).trans hm40
    replace hm41 : w_27 41 = some (eN dA 80 C) := (fr27 _ (by omega)).trans hm41
    replace hm42 : w_27 42 = some (eN dA 120 D0) := (fr27 _ (by omega)).trans hm42
    replace hm43 : w_27 43 = some (eN dA 120 M0) := (fr27 _ (by omega)).trans hm43
    replace hm44 : w_27 44 = some (eN dA 3 TD) := (fr27 _ (by omega)).trans hm44
    refine q_topv (v' := .int (nI 0)) (congrArg Value.int (by decide)) ?_
    refine lv_if_ne (tgt := 35) hx hb dX7_noise_30 (by decide) (fun c_30 => ?_) (fun c_30 => ?_)
    · skip
      have c_30 : ¬ (0 = 0) := fun h__ => c_30 ((nI_eq0 (i := 0) (by omega)).mpr h__)
      exact absurd c_30 (by omega)
    · skip
      have c_30 : 0 = 0 := (nI_eq0 (i := 0) (by omega)).mp c_30
      refine lv_iconst (v := nI 0) hx hb dX7_noise_33 (by decide) ?_
      exact q_wi hx hb hr hlocks hW hS dX7_noise_34 (by first | (rw [if_neg (fun q9 => absurd q9.1 c_7)]; rfl) | (rw [if_neg (fun q9 => absurd q9.2 c_19)]; rfl)) (by exact ⟨Or.inr (Or.inl ⟨c_7, ⟨_, _, _, _, _, _, _, _, _, _, hm0, hm1, ⟨hRp, hP⟩, hm38, hsv, hm39, hm40, hsl, hm41, hbu, hm42, hm43, hm44⟩⟩), by intro id h9; rw [fr27 id (by omega)]; try rfl⟩) (by decide) (by decide)

set_option maxHeartbeats 300000 in
set_option maxRecDepth 100000 in
/-- remove -/
theorem c_X7_remove_t (l : Launch) {D : va_G} {dA : Nat → Nat} {b : Nat} {w : Wd} {n nc : Nat} {P : Pl} {Hs : Nat → Pl} {SL : Nat → Option Pl} {C : Nat → Nat} {tt : Int32} (hmd : isMod dA b w (P, (n, Hs), SL, (nc, C)) tt) (x : Int32) : Met l yX7_remove wsX7_remove ({ frames := 2, cells := 0, slots := 0, locals := 46 } : Room) (PC D dA b w [.ref (b + 36), .int (nI 1), .int (x)]) (QW D b (some (.int (if 0 ≤ x ∧ x < nI P.w then nI (P.w - 1) else 0))) (fun w' => (((0 ≤ x ∧ x < nI P.w) ∧ isMod dA b w' ((P.w - 1, delV P.W (i32n x), P.n, P.N, P.S), (pshN n, psh n Hs P), SL, (nc, C)) (nI 0)) ∨ ((¬ (0 ≤ x ∧ x < nI P.w)) ∧ isMod dA b w' (P, (n, Hs), SL, (nc, C)) (nI 1))) ∧ ∀ id : Nat, (id < 36 ∨ 45 ≤ id) → w' id = w id)) 0 0 (Fb b) := by
  refine q_of (cc := cX7_remove) (maxL := 3) (ret := (some .int)) (by decide) rfl rfl ?_
  intro p e s m args below meth c ls hx hb hr hml hts hown hlocks hG hW hS hl
  have hown : s.vm.findClass RX7 = some m.cls := hown
  have hinX7 : ∀ w ∈ u_ws RX7 TX7 14, w ∈ wsX7_remove := fun w h => (goodIn_r (big := wsX7_remove) (u_ws RX7 TX7 14) [31, 32, 33, 34, 35, 36, 37, 38, 39, 40, 41, 42, 43, 44] (by decide +kernel) (by decide +kernel) w h).1
  have hl : lv_has ls 3 [(0, .ref (b + 36)), (1, .int (nI 1)), (2, .int (x))] := hl
  obtain ⟨pl, lt, dn, F, G, GS, Zt, D0, M0, TD, hm0, hm1, ⟨hRp, hP⟩, hm38, hsv, hm39, hm40, hsl, hm41, hbu, hm42, hm43, hm44⟩ := id hmd
  change w 36 = some (modO b (nI n) (nI nc) tt pl lt dn) at hm0
  change rep F P at hRp
  change okP P at hP
  change mSv n G Hs at hsv
  change mSl GS Zt SL at hsl
  change w 41 = some (eN dA 80 C) at hm41
  change mBu nc C at hbu
  have hn6 := hsv.1
  have hnc := hbu.1
  obtain ⟨hPw, hPn, hPW, hPN, hPS⟩ := id hP
  have hr5 := hRp.2.1
  have hr6 := hRp.2.2.1
  refine lv_aload_n hx hb dX7_remove_0 rfl (lv_at hl 0 rfl) ?_
  refine lv_aload_n hx hb dX7_remove_1 rfl (lv_at hl 0 rfl) ?_
  refine lv_iload_n hx hb dX7_remove_2 rfl (lv_at hl 1 rfl) ?_
  refine lv_iload_n hx hb dX7_remove_3 rfl (lv_at hl 2 rfl) ?_
  refine q_R1 (va_runV (As := [.int (nI 1), .int (x)]) (rest := [.ref (b + 36)]) ⟨hx, hb, hml, hown, hts⟩ (c_isCueW l hm0 hm1 hRp hP (x)) (cwV 2 hts gX7_remove_X7_isCue rfl rfl rfl (by decide +kernel) ⟨Nat.le_of_ble_eq_true rfl, Nat.le_of_ble_eq_true rfl⟩) (q_preV hG hW hS hm0 rfl) rfl rfl hl.1 rfl (lv_room (Nat.le_of_ble_eq_true rfl)) dX7_remove_4 ⟨Nat.le_of_ble_eq_true rfl, Nat.le_of_ble_eq_true rfl⟩) ?_
  refine lv_if_eq (tgt := 14) hx hb dX7_remove_7 (by decide) (fun c_7 => ?_) (fun c_7 => ?_)
  · skip
    have c_7 : ¬ (0 ≤ x ∧ x < nI P.w) := pI_eq0.mp c_7
    refine lv_iconst (v := nI 1) hx hb dX7_remove_14 (by decide) ?_
    refine q_W1 (va_runV (As := [.int (nI 1)]) (rest := []) ⟨hx, hb, hml, hown, hts⟩ (c_X7_holds l hm0 (nI (1))) (cwV 1 hts gX7_remove_X7_holds rfl rfl rfl (by decide +kernel) ⟨Nat.le_of_ble_eq_true rfl, Nat.le_of_ble_eq_true rfl⟩) (q_preV hG hW hS hm0 rfl) rfl rfl hl.1 rfl (lv_room (Nat.le_of_ble_eq_true rfl)) dX7_remove_15 ⟨Nat.le_of_ble_eq_true rfl, Nat.le_of_ble_eq_true rfl⟩) hS (fun w_15 H locs hp15 hW hS => ?_)
    obtain ⟨hm0, fr15⟩ := hp15
    replace hm1 : w_15 37 = some (eN dA 85 F) := (fr15 _ (by omega)).trans hm1
    replace hm38 : w_15 38 = some (eN dA 510 G) := (fr15 _ (by omega)).trans hm38
    replace hm39 : w_15 39 = some (eN dA 170 GS) := (fr15 _ (by omega)).trans hm39
    replace hm40 : w_15 40 = some (eZ dA 2 Zt) := (fr15 _ (by omega)).trans hm40
    replace hm41 : w_15 41 = some (eN dA 80 C) := (fr15 _ (by omega)).trans hm41
    replace hm42 : w_15 42 = some (eN dA 120 D0) := (fr15 _ (by omega)).trans hm42
    replace hm43 : w_15 43 = some (eN dA 120 M0) := (fr15 _ (by omega)).trans hm43
    replace hm44 : w_15 44 = some (eN dA 3 TD) := (fr15 _ (by omega)).trans hm44
    refine q_topv (v' := .int (nI 0)) (congrArg Value.int (by decide)) ?_
    refine lv_if_ne (tgt := 23) hx hb dX7_remove_18 (by decide) (fun c_18 => ?_) (fun c_18 => ?_)
    · skip
      have c_18 : ¬ (0 = 0) := fun h__ => c_18 ((nI_eq0 (i := 0) (by omega)).mpr h__)
      exact absurd c_18 (by omega)
    · skip
      have c_18 : 0 = 0 := (nI_eq0 (i := 0) (by omega)).mp c_18
      refine lv_iconst (v := nI 0) hx hb dX7_remove_21 (by decide) ?_
      exact q_wi hx hb hr hlocks hW hS dX7_remove_22 (by rw [if_neg c_7]; rfl) (by exact ⟨Or.inr ⟨c_7, ⟨_, _, _, _, _, _, _, _, _, _, hm0, hm1, ⟨hRp, hP⟩, hm38, hsv, hm39, hm40, hsl, hm41, hbu, hm42, hm43, hm44⟩⟩, by intro id h9; rw [fr15 id (by omega)]; try rfl⟩) (by decide) (by decide)
  · skip
    have c_7 : 0 ≤ x ∧ x < nI P.w := Decidable.byContradiction (fun h__ => c_7 (pI_eq0.mpr h__))
    refine lv_iconst (v := nI 0) hx hb dX7_remove_10 (by decide) ?_
    refine lv_goto (tgt := 15) hx hb dX7_remove_11 (by decide) ?_
    refine q_W1 (va_runV (As := [.int (nI 0)]) (rest := []) ⟨hx, hb, hml, hown, hts⟩ (c_X7_holds l hm0 (nI (0))) (cwV 1 hts gX7_remove_X7_holds rfl rfl rfl (by decide +kernel) ⟨Nat.le_of_ble_eq_true rfl, Nat.le_of_ble_eq_true rfl⟩) (q_preV hG hW hS hm0 rfl) rfl rfl hl.1 rfl (lv_room (Nat.le_of_ble_eq_true rfl)) dX7_remove_15 ⟨Nat.le_of_ble_eq_true rfl, Nat.le_of_ble_eq_true rfl⟩) hS (fun w_15 H locs hp15 hW hS => ?_)
    obtain ⟨hm0, fr15⟩ := hp15
    replace hm1 : w_15 37 = some (eN dA 85 F) := (fr15 _ (by omega)).trans hm1
    replace hm38 : w_15 38 = some (eN dA 510 G) := (fr15 _ (by omega)).trans hm38
    replace hm39 : w_15 39 = some (eN dA 170 GS) := (fr15 _ (by omega)).trans hm39
    replace hm40 : w_15 40 = some (eZ dA 2 Zt) := (fr15 _ (by omega)).trans hm40
    replace hm41 : w_15 41 = some (eN dA 80 C) := (fr15 _ (by omega)).trans hm41
    replace hm42 : w_15 42 = some (eN dA 120 D0) := (fr15 _ (by omega)).trans hm42
    replace hm43 : w_15 43 = some (eN dA 120 M0) := (fr15 _ (by omega)).trans hm43
    replace hm44 : w_15 44 = some (eN dA 3 TD) := (fr15 _ (by omega)).trans hm44
    refine q_topv (v' := .int (nI 1)) (congrArg Value.int (by decide)) ?_
    refine lv_if_ne (tgt := 23) hx hb dX7_remove_18 (by decide) (fun c_18 => ?_) (fun c_18 => ?_)
    · skip
      have c_18 : ¬ (1 = 0) := fun h__ => c_18 ((nI_eq0 (i := 1) (by omega)).mpr h__)
      obtain ⟨ex9, bx9⟩ := has_n (by omega) c_7.1 c_7.2
      have el_23 : x = nI (i32n x) := by exact ex9
      rw [el_23] at hl
      refine lv_aload_n hx hb dX7_remove_23 rfl (lv_at hl 0 rfl) ?_
      refine q_W0 (va_runV (As := []) (rest := []) ⟨hx, hb, hml, hown, hts⟩ (c_X7_save l hm0 hm1 hm38 hsv.1) (cwV 0 hts gX7_remove_X7_save rfl rfl rfl (by decide +kernel) ⟨Nat.le_of_ble_eq_true rfl, Nat.le_of_ble_eq_true rfl⟩) (q_preV hG hW hS hm0 rfl) rfl rfl hl.1 rfl (lv_room (Nat.le_of_ble_eq_true rfl)) dX7_remove_24 ⟨Nat.le_of_ble_eq_true rfl, Nat.le_of_ble_eq_true rfl⟩) hS (fun w_24 H locs hp24 hW hS => ?_)
      obtain ⟨hm0, hm38, fr24⟩ := hp24
      replace hm1 : w_24 37 = some (eN dA 85 F) := (fr24 _ (by omega)).trans hm1
      replace hm39 : w_24 39 = some (eN dA 170 GS) := (fr24 _ (by omega)).trans hm39
      replace hm40 : w_24 40 = some (eZ dA 2 Zt) := (fr24 _ (by omega)).trans hm40
      replace hm41 : w_24 41 = some (eN dA 80 C) := (fr24 _ (by omega)).trans hm41
      replace hm42 : w_24 42 = some (eN dA 120 D0) := (fr24 _ (by omega)).trans hm42
      replace hm43 : w_24 43 = some (eN dA 120 M0) := (fr24 _ (by omega)).trans hm43
      replace hm44 : w_24 44 = some (eN dA 3 TD) := (fr24 _ (by omega)).trans hm44
      replace hsv := sav_rep hsv hRp hP
      refine lv_aload_n hx hb dX7_remove_27 rfl (lv_at hl 0 rfl) ?_
      refine lv_iload_n hx hb dX7_remove_28 rfl (lv_at hl 1 rfl) ?_
      refine lv_iload_n hx hb dX7_remove_29 rfl (lv_at hl 2 rfl) ?_
      refine q_W0 (va_runV (As := [.int (nI 1), .int (nI (i32n x))]) (rest := []) ⟨hx, hb, hml, hown, hts⟩ (c_X7_takeOut_t l hm0 hm1 hRp hP (i32n x) (by omega)) (cwV 2 hts gX7_remove_X7_takeOut rfl rfl rfl (by decide +kernel) ⟨Nat.le_of_ble_eq_true rfl, Nat.le_of_ble_eq_true rfl⟩) (q_preV hG hW hS hm0 rfl) rfl rfl hl.1 rfl (lv_room (Nat.le_of_ble_eq_true rfl)) dX7_remove_30 ⟨Nat.le_of_ble_eq_true rfl, Nat.le_of_ble_eq_true rfl⟩) hS (fun w_30 H locs hp30 hW hS => ?_)
      obtain ⟨F30, hm1, hRp, hP, fr30⟩ := hp30
      replace hm39 : w_30 39 = some (eN dA 170 GS) := (fr30 _ (by omega)).trans hm39
      replace hm40 : w_30 40 = some (eZ dA 2 Zt) := (fr30 _ (by omega)).trans hm40
      replace hm41 : w_30 41 = some (eN dA 80 C) := (fr30 _ (by omega)).trans hm41
      replace hm42 : w_30 42 = some (eN dA 120 D0) := (fr30 _ (by omega)).trans hm42
      replace hm43 : w_30 43 = some (eN dA 120 M0) := (fr30 _ (by omega)).trans hm43
      replace hm44 : w_30 44 = some (eN dA 3 TD) := (fr30 _ (by omega)).trans hm44
      replace hm0 : w_30 36 = some (modO b (nI (pshN n)) (nI (nc)) (nI (0)) (pl) (lt) (dn)) := (fr30 _ (by omega)).trans hm0
      replace hm38 : w_30 38 = some (eN dA 510 (savG n F G)) := (fr30 _ (by omega)).trans hm38
      refine lv_iload_n hx hb dX7_remove_33 rfl (lv_at hl 1 rfl) ?_
      refine lv_if_eq (tgt := 46) hx hb dX7_remove_34 (by decide) (fun c_34 => ?_) (fun c_34 => ?_)
      · skip
        have c_34 : 1 = 0 := (nI_eq0 (i := 1) (by omega)).mp c_34
        exact absurd c_34 (by omega)
      · skip
        have c_34 : ¬ (1 = 0) := fun h__ => c_34 ((nI_eq0 (i := 1) (by omega)).mpr h__)
        refine lv_aload_n hx hb dX7_remove_37 rfl (lv_at hl 0 rfl) ?_
        refine q_get hx hb hts hinX7 hown hG hW hm0 rfl 0 (by decide) (hts (.fieldLink RX7 7 "FoleyMixerModel" "s" "[I") (List.mem_of_getElem? (i := 1) rfl)) rfl rfl dX7_remove_38 ?_
        refine lv_iconst (v := nI 5) hx hb dX7_remove_41 (by decide) ?_
        refine q_iald hx hb hG hW hm1 (by omega) (by omega) dX7_remove_42 ?_
        refine lv_goto (tgt := 53) hx hb dX7_remove_43 (by decide) ?_
        refine q_top (y := nI (P.w - 1)) (by exact congrArg nI hRp.2.1) ?_
        exact q_wi hx hb hr hlocks hW hS dX7_remove_53 (by rw [if_pos c_7]) (by exact ⟨Or.inl ⟨c_7, ⟨_, _, _, _, _, _, _, _, _, _, hm0, hm1, ⟨hRp, hP⟩, hm38, hsv, hm39, hm40, hsl, hm41, hbu, hm42, hm43, hm44⟩⟩, by intro id h9; rw [fr30 id (by omega)]; rw [fr24 id (by omega)]; rw [fr15 id (by omega)]; try rfl⟩) (by decide) (by decide)
    · skip
      have c_18 : 1 = 0 := (nI_eq0 (i := 1) (by omega)).mp c_18
      exact absurd c_18 (by omega)

set_option maxHeartbeats 300000 in
set_option maxRecDepth 100000 in
/-- loud -/
theorem c_X7_loud_t (l : Launch) {D : va_G} {dA : Nat → Nat} {b : Nat} {w : Wd} {n nc : Nat} {P : Pl} {Hs : Nat → Pl} {SL : Nat → Option Pl} {C : Nat → Nat} {tt : Int32} (hmd : isMod dA b w (P, (n, Hs), SL, (nc, C)) tt) (x y : Int32) : Met l yX7_loud wsX7_loud ({ frames := 2, cells := 0, slots := 0, locals := 45 } : Room) (PC D dA b w [.ref (b + 36), .int (nI 1), .int (x), .int (y)]) (QW D b (some (.int (if (0 ≤ x ∧ x < nI P.w) ∧ fitI 2 y then nI (P.W (i32n x) 2) else 0))) (fun w' => ((((0 ≤ x ∧ x < nI P.w) ∧ fitI 2 y) ∧ isMod dA b w' ((P.w, setV P.W (i32n x) 2 (i32n y), P.n, P.N, P.S), (pshN n, psh n Hs P), SL, (nc, C)) (nI 0)) ∨ ((¬ (0 ≤ x ∧ x < nI P.w)) ∧ isMod dA b w' (P, (n, Hs), SL, (nc, C)) (nI 1)) ∨ (((0 ≤ x ∧ x < nI P.w) ∧ ¬ fitI 2 y) ∧ isMod dA b w' (P, (n, Hs), SL, (nc, C)) (nI 2))) ∧ ∀ id : Nat, (id < 36 ∨ 45 ≤ id) → w' id = w id)) 0 0 (Fb b) := by
  refine q_of (cc := cX7_loud) (maxL := 6) (ret := (some .int)) (by decide) rfl rfl ?_
  intro p e s m args below meth c ls hx hb hr hml hts hown hlocks hG hW hS hl
  have hown : s.vm.findClass RX7 = some m.cls := hown
  have hinX7 : ∀ w ∈ u_ws RX7 TX7 14, w ∈ wsX7_loud := fun w h => (goodIn_r (big := wsX7_loud) (u_ws RX7 TX7 14) [27, 28, 29, 30, 31, 32, 33, 34, 35, 36, 37, 38, 39, 40] (by decide +kernel) (by decide +kernel) w h).1
  have hl : lv_has ls 6 [(0, .ref (b + 36)), (1, .int (nI 1)), (2, .int (x)), (3, .int (y))] := hl
  obtain ⟨pl, lt, dn, F, G, GS, Zt, D0, M0, TD, hm0, hm1, ⟨hRp, hP⟩, hm38, hsv, hm39, hm40, hsl, hm41, hbu, hm42, hm43, hm44⟩ := id hmd
  change w 36 = some (modO b (nI n) (nI nc) tt pl lt dn) at hm0
  change rep F P at hRp
  change okP P at hP
  change mSv n G Hs at hsv
  change mSl GS Zt SL at hsl
  change w 41 = some (eN dA 80 C) at hm41
  change mBu nc C at hbu
  have hn6 := hsv.1
  have hnc := hbu.1
  obtain ⟨hPw, hPn, hPW, hPN, hPS⟩ := id hP
  have hr5 := hRp.2.1
  have hr6 := hRp.2.2.1
  refine lv_aload_n hx hb dX7_loud_0 rfl (lv_at hl 0 rfl) ?_
  refine lv_aload_n hx hb dX7_loud_1 rfl (lv_at hl 0 rfl) ?_
  refine lv_iload_n hx hb dX7_loud_2 rfl (lv_at hl 1 rfl) ?_
  refine lv_iload_n hx hb dX7_loud_3 rfl (lv_at hl 2 rfl) ?_
  refine q_R1 (va_runV (As := [.int (nI 1), .int (x)]) (rest := [.ref (b + 36)]) ⟨hx, hb, hml, hown, hts⟩ (c_isCueW l hm0 hm1 hRp hP (x)) (cwV 2 hts gX7_loud_X7_isCue rfl rfl rfl (by decide +kernel) ⟨Nat.le_of_ble_eq_true rfl, Nat.le_of_ble_eq_true rfl⟩) (q_preV hG hW hS hm0 rfl) rfl rfl hl.1 rfl (lv_room (Nat.le_of_ble_eq_true rfl)) dX7_loud_4 ⟨Nat.le_of_ble_eq_true rfl, Nat.le_of_ble_eq_true rfl⟩) ?_
  refine lv_if_ne (tgt := 14) hx hb dX7_loud_7 (by decide) (fun c_7 => ?_) (fun c_7 => ?_)
  · skip
    have c_7 : 0 ≤ x ∧ x < nI P.w := Decidable.byContradiction (fun h__ => c_7 (pI_eq0.mpr h__))
    refine lv_iload_n hx hb dX7_loud_14 rfl (lv_at hl 3 rfl) ?_
    refine lv_iconst (v := nI 1) hx hb dX7_loud_15 (by decide) ?_
    refine lv_bipush (v := nI 30) hx hb dX7_loud_16 (by decide) ?_
    refine q_R1 (va_runS (As := [.int (y), .int (nI 1), .int (nI 30)]) (rest := [.ref (b + 36)]) ⟨hx, hb, hml, hown, hts⟩ (c_X7_in l (y) (nI (1)) (nI (30))) (va_cwS 3 hts gX7_loud_X7_in rfl rfl rfl (by decide +kernel) ⟨Nat.le_of_ble_eq_true rfl, Nat.le_of_ble_eq_true rfl⟩) (q_preS hG hW hS) rfl rfl hl.1 rfl (lv_room (Nat.le_of_ble_eq_true rfl)) dX7_loud_18 ⟨Nat.le_of_ble_eq_true rfl, Nat.le_of_ble_eq_true rfl⟩) ?_
    refine lv_if_eq (tgt := 28) hx hb dX7_loud_21 (by decide) (fun c_21 => ?_) (fun c_21 => ?_)
    · skip
      have c_21 : ¬ ((nI (1)) ≤ (y) ∧ (y) ≤ (nI (30))) := pI_eq0.mp c_21
      refine lv_iconst (v := nI 2) hx hb dX7_loud_28 (by decide) ?_
      refine q_W1 (va_runV (As := [.int (nI 2)]) (rest := []) ⟨hx, hb, hml, hown, hts⟩ (c_X7_holds l hm0 (nI (2))) (cwV 1 hts gX7_loud_X7_holds rfl rfl rfl (by decide +kernel) ⟨Nat.le_of_ble_eq_true rfl, Nat.le_of_ble_eq_true rfl⟩) (q_preV hG hW hS hm0 rfl) rfl rfl hl.1 rfl (lv_room (Nat.le_of_ble_eq_true rfl)) dX7_loud_29 ⟨Nat.le_of_ble_eq_true rfl, Nat.le_of_ble_eq_true rfl⟩) hS (fun w_29 H locs hp29 hW hS => ?_)
      obtain ⟨hm0, fr29⟩ := hp29
      replace hm1 : w_29 37 = some (eN dA 85 F) := (fr29 _ (by omega)).trans hm1
      replace hm38 : w_29 38 = some (eN dA 510 G) := (fr29 _ (by omega)).trans hm38
      replace hm39 : w_29 39 = some (eN dA 170 GS) := (fr29 _ (by omega)).trans hm39
      replace hm40 : w_29 40 = some (eZ dA 2 Zt) := (fr29 _ (by omega)).trans hm40
      replace hm41 : w_29 41 = some (eN dA 80 C) := (fr29 _ (by omega)).trans hm41
      replace hm42 : w_29 42 = some (eN dA 120 D0) := (fr29 _ (by omega)).trans hm42
      replace hm43 : w_29 43 = some (eN dA 120 M0) := (fr29 _ (by omega)).trans hm43
      replace hm44 : w_29 44 = some (eN dA 3 TD) := (fr29 _ (by omega)).trans hm44
      refine q_topv (v' := .int (nI 0)) (congrArg Value.int (by decide)) ?_
      refine lv_if_ne (tgt := 37) hx hb dX7_loud_32 (by decide) (fun c_32 => ?_) (fun c_32 => ?_)
      · skip
        have c_32 : ¬ (0 = 0) := fun h__ => c_32 ((nI_eq0 (i := 0) (by omega)).mpr h__)
        exact absurd c_32 (by omega)
      · skip
        have c_32 : 0 = 0 := (nI_eq0 (i := 0) (by omega)).mp c_32
        refine lv_iconst (v := nI 0) hx hb dX7_loud_35 (by decide) ?_
        exact q_wi hx hb hr hlocks hW hS dX7_loud_36 (by first | (rw [if_neg (fun q9 => absurd q9.1 c_7)]; rfl) | (rw [if_neg (fun q9 => absurd q9.2 c_21)]; rfl)) (by exact ⟨Or.inr (Or.inr ⟨⟨c_7, c_21⟩, ⟨_, _, _, _, _, _, _, _, _, _, hm0, hm1, ⟨hRp, hP⟩, hm38, hsv, hm39, hm40, hsl, hm41, hbu, hm42, hm43, hm44⟩⟩), by intro id h9; rw [fr29 id (by omega)]; try rfl⟩) (by decide) (by decide)
    · skip
      have c_21 : (nI (1)) ≤ (y) ∧ (y) ≤ (nI (30)) := Decidable.byContradiction (fun h__ => c_21 (pI_eq0.mpr h__))
      refine lv_iconst (v := nI 0) hx hb dX7_loud_24 (by decide) ?_
      refine lv_goto (tgt := 29) hx hb dX7_loud_25 (by decide) ?_
      refine q_W1 (va_runV (As := [.int (nI 0)]) (rest := []) ⟨hx, hb, hml, hown, hts⟩ (c_X7_holds l hm0 (nI (0))) (cwV 1 hts gX7_loud_X7_holds rfl rfl rfl (by decide +kernel) ⟨Nat.le_of_ble_eq_true rfl, Nat.le_of_ble_eq_true rfl⟩) (q_preV hG hW hS hm0 rfl) rfl rfl hl.1 rfl (lv_room (Nat.le_of_ble_eq_true rfl)) dX7_loud_29 ⟨Nat.le_of_ble_eq_true rfl, Nat.le_of_ble_eq_true rfl⟩) hS (fun w_29 H locs hp29 hW hS => ?_)
      obtain ⟨hm0, fr29⟩ := hp29
      replace hm1 : w_29 37 = some (eN dA 85 F) := (fr29 _ (by omega)).trans hm1
      replace hm38 : w_29 38 = some (eN dA 510 G) := (fr29 _ (by omega)).trans hm38
      replace hm39 : w_29 39 = some (eN dA 170 GS) := (fr29 _ (by omega)).trans hm39
      replace hm40 : w_29 40 = some (eZ dA 2 Zt) := (fr29 _ (by omega)).trans hm40
      replace hm41 : w_29 41 = some (eN dA 80 C) := (fr29 _ (by omega)).trans hm41
      replace hm42 : w_29 42 = some (eN dA 120 D0) := (fr29 _ (by omega)).trans hm42
      replace hm43 : w_29 43 = some (eN dA 120 M0) := (fr29 _ (by omega)).trans hm43
      replace hm44 : w_29 44 = some (eN dA 3 TD) := (fr29 _ (by omega)).trans hm44
      refine q_topv (v' := .int (nI 1)) (congrArg Value.int (by decide)) ?_
      refine lv_if_ne (tgt := 37) hx hb dX7_loud_32 (by decide) (fun c_32 => ?_) (fun c_32 => ?_)
      · skip
        have c_32 : ¬ (1 = 0) := fun h__ => c_32 ((nI_eq0 (i := 1) (by omega)).mpr h__)
        obtain ⟨ex9, bx9⟩ := has_n (by omega) c_7.1 c_7.2
        have el_37 : x = nI (i32n x) := by exact ex9
        rw [el_37] at hl
        have ho9 : fitI 2 y := c_21
        have ey9 := (fitI_i32n (by omega) ho9).1
        have hb9 := (fitI_i32n (by omega) ho9).2
        have hb8 : cHi 2 = 30 := rfl
        have hb7 : cLo 2 = 1 := rfl
        have el_37 : y = nI (i32n y) := by exact ey9
        rw [el_37] at hl
        refine lv_aload_n hx hb dX7_loud_37 rfl (lv_at hl 0 rfl) ?_
        refine q_W0 (va_runV (As := []) (rest := []) ⟨hx, hb, hml, hown, hts⟩ (c_X7_save l hm0 hm1 hm38 hsv.1) (cwV 0 hts gX7_loud_X7_save rfl rfl rfl (by decide +kernel) ⟨Nat.le_of_ble_eq_true rfl, Nat.le_of_ble_eq_true rfl⟩) (q_preV hG hW hS hm0 rfl) rfl rfl hl.1 rfl (lv_room (Nat.le_of_ble_eq_true rfl)) dX7_loud_38 ⟨Nat.le_of_ble_eq_true rfl, Nat.le_of_ble_eq_true rfl⟩) hS (fun w_38 H locs hp38 hW hS => ?_)
        obtain ⟨hm0, hm38, fr38⟩ := hp38
        replace hm1 : w_38 37 = some (eN dA 85 F) := (fr38 _ (by omega)).trans hm1
        replace hm39 : w_38 39 = some (eN dA 170 GS) := (fr38 _ (by omega)).trans hm39
        replace hm40 : w_38 40 = some (eZ dA 2 Zt) := (fr38 _ (by omega)).trans hm40
        replace hm41 : w_38 41 = some (eN dA 80 C) := (fr38 _ (by omega)).trans hm41
        replace hm42 : w_38 42 = some (eN dA 120 D0) := (fr38 _ (by omega)).trans hm42
        replace hm43 : w_38 43 = some (eN dA 120 M0) := (fr38 _ (by omega)).trans hm43
        replace hm44 : w_38 44 = some (eN dA 3 TD) := (fr38 _ (by omega)).trans hm44
        replace hsv := sav_rep hsv hRp hP
        refine lv_iload_n hx hb dX7_loud_41 rfl (lv_at hl 1 rfl) ?_
        refine lv_iload_n hx hb dX7_loud_42 rfl (lv_at hl 2 rfl) ?_
        refine q_R1 (va_runS (As := [.int (nI 1), .int (nI (i32n x))]) (rest := []) ⟨hx, hb, hml, hown, hts⟩ (c_X7_whereIs_t l (i32n x)) (va_cwS 2 hts gX7_loud_X7_whereIs rfl rfl rfl (by decide +kernel) ⟨Nat.le_of_ble_eq_true rfl, Nat.le_of_ble_eq_true rfl⟩) (q_preS hG hW hS) rfl rfl hl.1 rfl (lv_room (Nat.le_of_ble_eq_true rfl)) dX7_loud_43 ⟨Nat.le_of_ble_eq_true rfl, Nat.le_of_ble_eq_true rfl⟩) ?_
        refine lv_iconst (v := nI 2) hx hb dX7_loud_46 (by decide) ?_
        refine lv_iadd hx hb dX7_loud_47 ?_
        refine q_top (y := nI ((7 + 3 * (i32n x)) + 2)) (nI_add _ _) ?_
        refine lv_istore (lv' := [(4, .int (nI ((7 + 3 * (i32n x)) + 2))), (0, .ref (b + 36)), (1, .int (nI 1)), (2, .int (nI (i32n x))), (3, .int (nI (i32n y)))]) hx hb dX7_loud_48 hl (by decide) rfl (fun ls hl => ?_)
        refine lv_aload_n hx hb dX7_loud_50 rfl (lv_at hl 1 rfl) ?_
        refine q_get hx hb hts hinX7 hown hG hW hm0 rfl 0 (by decide) (hts (.fieldLink RX7 7 "FoleyMixerModel" "s" "[I") (List.mem_of_getElem? (i := 1) rfl)) rfl rfl dX7_loud_51 ?_
        refine lv_iload hx hb dX7_loud_54 (lv_at hl 0 rfl) ?_
        refine q_iald hx hb hG hW hm1 (by omega) (by omega) dX7_loud_56 ?_
        refine q_top (y := nI (P.W (i32n x) 2)) (by exact congrArg nI (hRp.2.2.2.1 _ bx9 2 (by decide))) ?_
        refine lv_istore (lv' := [(5, .int (nI (P.W (i32n x) 2))), (4, .int (nI ((7 + 3 * (i32n x)) + 2))), (0, .ref (b + 36)), (1, .int (nI 1)), (2, .int (nI (i32n x))), (3, .int (nI (i32n y)))]) hx hb dX7_loud_57 hl (by decide) rfl (fun ls hl => ?_)
        refine lv_aload_n hx hb dX7_loud_59 rfl (lv_at hl 2 rfl) ?_
        refine q_get hx hb hts hinX7 hown hG hW hm0 rfl 0 (by decide) (hts (.fieldLink RX7 7 "FoleyMixerModel" "s" "[I") (List.mem_of_getElem? (i := 1) rfl)) rfl rfl dX7_loud_60 ?_
        refine lv_iload hx hb dX7_loud_63 (lv_at hl 1 rfl) ?_
        refine lv_iload_n hx hb dX7_loud_65 rfl (lv_at hl 5 rfl) ?_
        refine q_nast hx hb hG hW hS hm1 (by omega) (by omega) dX7_loud_66 (fun H locs hW hS hz66 => ?_)
        obtain ⟨w1, ew1⟩ : ∃ wq__ : Wd, wq__ = va_up w_38 37 (some (eN dA 85 (va_up F ((7 + 3 * (i32n x)) + 2) (i32n y)))) := ⟨_, rfl⟩
        replace hW : WP D b w1 H := by rw [ew1]; exact hW
        have frw1 : ∀ id : Nat, id ≠ 37 → w1 id = w_38 id := fun id h9 => by rw [ew1, up_ne h9]
        replace hm39 : w1 39 = some (eN dA 170 GS) := (frw1 _ (by omega)).trans hm39
        replace hm40 : w1 40 = some (eZ dA 2 Zt) := (frw1 _ (by omega)).trans hm40
        replace hm41 : w1 41 = some (eN dA 80 C) := (frw1 _ (by omega)).trans hm41
        replace hm42 : w1 42 = some (eN dA 120 D0) := (frw1 _ (by omega)).trans hm42
        replace hm43 : w1 43 = some (eN dA 120 M0) := (frw1 _ (by omega)).trans hm43
        replace hm44 : w1 44 = some (eN dA 3 TD) := (frw1 _ (by omega)).trans hm44
        replace hm0 : w1 36 = some (modO b (nI (pshN n)) (nI (nc)) (nI (0)) (pl) (lt) (dn)) := (frw1 _ (by omega)).trans hm0
        replace hm38 : w1 38 = some (eN dA 510 (savG n F G)) := (frw1 _ (by omega)).trans hm38
        replace hm1 : w1 37 = some (eN dA 85 (va_up F ((7 + 3 * (i32n x)) + 2) (i32n y))) := by rw [ew1]; exact up_eq
        replace hRp := rep_setW hRp hPw (i := i32n x) (j := 2) (x := i32n y) bx9 (by decide)
        replace hP := ok_setW (i := i32n x) (j := 2) (x := i32n y) hP (by omega)
        refine lv_iload hx hb dX7_loud_67 (lv_at hl 0 rfl) ?_
        exact q_wi hx hb hr hlocks hW hS dX7_loud_69 (by rw [if_pos (⟨c_7, c_21⟩)]) (by exact ⟨Or.inl ⟨⟨c_7, c_21⟩, ⟨_, _, _, _, _, _, _, _, _, _, hm0, hm1, ⟨hRp, hP⟩, hm38, hsv, hm39, hm40, hsl, hm41, hbu, hm42, hm43, hm44⟩⟩, by intro id h9; rw [frw1 id (by omega)]; rw [fr38 id (by omega)]; rw [fr29 id (by omega)]; try rfl⟩) (by decide) (by decide)
      · skip
        have c_32 : 1 = 0 := (nI_eq0 (i := 1) (by omega)).mp c_32
        exact absurd c_32 (by omega)
  · skip
    have c_7 : ¬ (0 ≤ x ∧ x < nI P.w) := pI_eq0.mp c_7
    refine lv_iconst (v := nI 1) hx hb dX7_loud_10 (by decide) ?_
    refine lv_goto (tgt := 29) hx hb dX7_loud_11 (by decide) ?_
    refine q_W1 (va_runV (As := [.int (nI 1)]) (rest := []) ⟨hx, hb, hml, hown, hts⟩ (c_X7_holds l hm0 (nI (1))) (cwV 1 hts gX7_loud_X7_holds rfl rfl rfl (by decide +kernel) ⟨Nat.le_of_ble_eq_true rfl, Nat.le_of_ble_eq_true rfl⟩) (q_preV hG hW hS hm0 rfl) rfl rfl hl.1 rfl (lv_room (Nat.le_of_ble_eq_true rfl)) dX7_loud_29 ⟨Nat.le_of_ble_eq_true rfl, Nat.le_of_ble_eq_true rfl⟩) hS (fun w_29 H locs hp29 hW hS => ?_)
    obtain ⟨hm0, fr29⟩ := hp29
    replace hm1 : w_29 37 = some (eN dA 85 F) := (fr29 _ (by omega)).trans hm1
    replace hm38 : w_29 38 = some (eN dA 510 G) := (fr29 _ (by omega)).trans hm38
    replace hm39 : w_29 39 = some (eN dA 170 GS) := (fr29 _ (by omega)).trans hm39
    replace hm40 : w_29 40 = some (eZ dA 2 Zt) := (fr29 _ (by omega)).trans hm40
    replace hm41 : w_29 41 = some (eN dA 80 C) := (fr29 _ (by omega)).trans hm41
    replace hm42 : w_29 42 = some (eN dA 120 D0) := (fr29 _ (by omega)).trans hm42
    replace hm43 : w_29 43 = some (eN dA 120 M0) := (fr29 _ (by omega)).trans hm43
    replace hm44 : w_29 44 = some (eN dA 3 TD) := (fr29 _ (by omega)).trans hm44
    refine q_topv (v' := .int (nI 0)) (congrArg Value.int (by decide)) ?_
    refine lv_if_ne (tgt := 37) hx hb dX7_loud_32 (by decide) (fun c_32 => ?_) (fun c_32 => ?_)
    · skip
      have c_32 : ¬ (0 = 0) := fun h__ => c_32 ((nI_eq0 (i := 0) (by omega)).mpr h__)
      exact absurd c_32 (by omega)
    · skip
      have c_32 : 0 = 0 := (nI_eq0 (i := 0) (by omega)).mp c_32
      refine lv_iconst (v := nI 0) hx hb dX7_loud_35 (by decide) ?_
      exact q_wi hx hb hr hlocks hW hS dX7_loud_36 (by first | (rw [if_neg (fun q9 => absurd q9.1 c_7)]; rfl) | (rw [if_neg (fun q9 => absurd q9.2 c_21)]; rfl)) (by exact ⟨Or.inr (Or.inl ⟨c_7, ⟨_, _, _, _, _, _, _, _, _, _, hm0, hm1, ⟨hRp, hP⟩, hm38, hsv, hm39, hm40, hsl, hm41, hbu, hm42, hm43, hm44⟩⟩), by intro id h9; rw [fr29 id (by omega)]; try rfl⟩) (by decide) (by decide)

set_option maxHeartbeats 300000 in
set_option maxRecDepth 100000 in
/-- shift -/
theorem c_X7_shift_t (l : Launch) {D : va_G} {dA : Nat → Nat} {b : Nat} {w : Wd} {n nc : Nat} {P : Pl} {Hs : Nat → Pl} {SL : Nat → Option Pl} {C : Nat → Nat} {tt : Int32} (hmd : isMod dA b w (P, (n, Hs), SL, (nc, C)) tt) (x y : Int32) : Met l yX7_shift wsX7_shift ({ frames := 2, cells := 0, slots := 0, locals := 45 } : Room) (PC D dA b w [.ref (b + 36), .int (nI 1), .int (x), .int (y)]) (QW D b (some (.int (if (0 ≤ x ∧ x < nI P.w) ∧ (-99 ≤ y ∧ y ≤ 99) ∧ fitI 0 (nI (P.W (i32n x) 0) + y) then nI (P.W (i32n x) 0) + y else 0))) (fun w' => ((((0 ≤ x ∧ x < nI P.w) ∧ (-99 ≤ y ∧ y ≤ 99) ∧ fitI 0 (nI (P.W (i32n x) 0) + y)) ∧ isMod dA b w' ((P.w, setV P.W (i32n x) 0 (i32n (nI (P.W (i32n x) 0) + y)), P.n, P.N, P.S), (pshN n, psh n Hs P), SL, (nc, C)) (nI 0)) ∨ ((¬ (0 ≤ x ∧ x < nI P.w)) ∧ isMod dA b w' (P, (n, Hs), SL, (nc, C)) (nI 1)) ∨ (((0 ≤ x ∧ x < nI P.w) ∧ ¬ ((-99 ≤ y ∧ y ≤ 99) ∧ fitI 0 (nI (P.W (i32n x) 0) + y))) ∧ isMod dA b w' (P, (n, Hs), SL, (nc, C)) (nI 2))) ∧ ∀ id : Nat, (id < 36 ∨ 45 ≤ id) → w' id = w id)) 0 0 (Fb b) := by
  refine q_of (cc := cX7_shift) (maxL := 7) (ret := (some .int)) (by decide) rfl rfl ?_
  intro p e s m args below meth c ls hx hb hr hml hts hown hlocks hG hW hS hl
  have hown : s.vm.findClass RX7 = some m.cls := hown
  have hinX7 : ∀ w ∈ u_ws RX7 TX7 14, w ∈ wsX7_shift := fun w h => (goodIn_r (big := wsX7_shift) (u_ws RX7 TX7 14) [27, 28, 29, 30, 31, 32, 33, 34, 35, 36, 37, 38, 39, 40] (by decide +kernel) (by decide +kernel) w h).1
  have hl : lv_has ls 7 [(0, .ref (b + 36)), (1, .int (nI 1)), (2, .int (x)), (3, .int (y))] := hl
  obtain ⟨pl, lt, dn, F, G, GS, Zt, D0, M0, TD, hm0, hm1, ⟨hRp, hP⟩, hm38, hsv, hm39, hm40, hsl, hm41, hbu, hm42, hm43, hm44⟩ := id hmd
  change w 36 = some (modO b (nI n) (nI nc) tt pl lt dn) at hm0
  change rep F P at hRp
  change okP P at hP
  change mSv n G Hs at hsv
  change mSl GS Zt SL at hsl
  change w 41 = some (eN dA 80 C) at hm41
  change mBu nc C at hbu
  have hn6 := hsv.1
  have hnc := hbu.1
  obtain ⟨hPw, hPn, hPW, hPN, hPS⟩ := id hP
  have hr5 := hRp.2.1
  have hr6 := hRp.2.2.1
  refine lv_aload_n hx hb dX7_shift_0 rfl (lv_at hl 0 rfl) ?_
  refine lv_iload_n hx hb dX7_shift_1 rfl (lv_at hl 1 rfl) ?_
  refine lv_iload_n hx hb dX7_shift_2 rfl (lv_at hl 2 rfl) ?_
  refine q_R1 (va_runV (As := [.int (nI 1), .int (x)]) (rest := []) ⟨hx, hb, hml, hown, hts⟩ (c_isCueW l hm0 hm1 hRp hP (x)) (cwV 2 hts gX7_shift_X7_isCue rfl rfl rfl (by decide +kernel) ⟨Nat.le_of_ble_eq_true rfl, Nat.le_of_ble_eq_true rfl⟩) (q_preV hG hW hS hm0 rfl) rfl rfl hl.1 rfl (lv_room (Nat.le_of_ble_eq_true rfl)) dX7_shift_3 ⟨Nat.le_of_ble_eq_true rfl, Nat.le_of_ble_eq_true rfl⟩) ?_
  refine lv_istore (lv' := [(4, .int (if 0 ≤ x ∧ x < nI P.w then 1 else 0)), (0, .ref (b + 36)), (1, .int (nI 1)), (2, .int (x)), (3, .int (y))]) hx hb dX7_shift_6 hl (by decide) rfl (fun ls hl => ?_)
  refine lv_iload hx hb dX7_shift_8 (lv_at hl 0 rfl) ?_
  refine lv_if_eq (tgt := 21) hx hb dX7_shift_10 (by decide) (fun c_10 => ?_) (fun c_10 => ?_)
  · skip
    have c_10 : ¬ (0 ≤ x ∧ x < nI P.w) := pI_eq0.mp c_10
    refine lv_bipush (v := nI 7) hx hb dX7_shift_21 (by decide) ?_
    refine lv_istore (lv' := [(5, .int (nI 7)), (4, .int (if 0 ≤ x ∧ x < nI P.w then 1 else 0)), (0, .ref (b + 36)), (1, .int (nI 1)), (2, .int (x)), (3, .int (y))]) hx hb dX7_shift_23 hl (by decide) rfl (fun ls hl => ?_)
    refine lv_iload_n hx hb dX7_shift_25 rfl (lv_at hl 5 rfl) ?_
    refine lv_bipush (v := (-99)) hx hb dX7_shift_26 (by decide) ?_
    refine lv_bipush (v := nI 99) hx hb dX7_shift_28 (by decide) ?_
    refine q_R1 (va_runS (As := [.int (y), .int (-99), .int (nI 99)]) (rest := []) ⟨hx, hb, hml, hown, hts⟩ (c_X7_in l (y) (-99) (nI (99))) (va_cwS 3 hts gX7_shift_X7_in rfl rfl rfl (by decide +kernel) ⟨Nat.le_of_ble_eq_true rfl, Nat.le_of_ble_eq_true rfl⟩) (q_preS hG hW hS) rfl rfl hl.1 rfl (lv_room (Nat.le_of_ble_eq_true rfl)) dX7_shift_30 ⟨Nat.le_of_ble_eq_true rfl, Nat.le_of_ble_eq_true rfl⟩) ?_
    refine lv_if_eq (tgt := 60) hx hb dX7_shift_33 (by decide) (fun c_33 => ?_) (fun c_33 => ?_)
    · skip
      have c_33 : ¬ ((-99) ≤ (y) ∧ (y) ≤ (nI (99))) := pI_eq0.mp c_33
      refine lv_iconst (v := nI 0) hx hb dX7_shift_60 (by decide) ?_
      refine lv_istore (lv' := [(6, .int (nI 0)), (5, .int (nI 7)), (4, .int (if 0 ≤ x ∧ x < nI P.w then 1 else 0)), (0, .ref (b + 36)), (1, .int (nI 1)), (2, .int (x)), (3, .int (y))]) hx hb dX7_shift_61 hl (by decide) rfl (fun ls hl => ?_)
      refine lv_aload_n hx hb dX7_shift_63 rfl (lv_at hl 3 rfl) ?_
      refine lv_iload hx hb dX7_shift_64 (lv_at hl 2 rfl) ?_
      refine lv_if_ne (tgt := 73) hx hb dX7_shift_66 (by decide) (fun c_66 => ?_) (fun c_66 => ?_)
      · skip
        have c_66 : 0 ≤ x ∧ x < nI P.w := Decidable.byContradiction (fun h__ => c_66 (pI_eq0.mpr h__))
        exact absurd c_66 c_10
      · skip
        have c_66 : ¬ (0 ≤ x ∧ x < nI P.w) := pI_eq0.mp c_66
        refine lv_iconst (v := nI 1) hx hb dX7_shift_69 (by decide) ?_
        refine lv_goto (tgt := 83) hx hb dX7_shift_70 (by decide) ?_
        refine q_W1 (va_runV (As := [.int (nI 1)]) (rest := []) ⟨hx, hb, hml, hown, hts⟩ (c_X7_holds l hm0 (nI (1))) (cwV 1 hts gX7_shift_X7_holds rfl rfl rfl (by decide +kernel) ⟨Nat.le_of_ble_eq_true rfl, Nat.le_of_ble_eq_true rfl⟩) (q_preV hG hW hS hm0 rfl) rfl rfl hl.1 rfl (lv_room (Nat.le_of_ble_eq_true rfl)) dX7_shift_83 ⟨Nat.le_of_ble_eq_true rfl, Nat.le_of_ble_eq_true rfl⟩) hS (fun w_83 H locs hp83 hW hS => ?_)
        obtain ⟨hm0, fr83⟩ := hp83
        replace hm1 : w_83 37 = some (eN dA 85 F) := (fr83 _ (by omega)).trans hm1
        replace hm38 : w_83 38 = some (eN dA 510 G) := (fr83 _ (by omega)).trans hm38
        replace hm39 : w_83 39 = some (eN dA 170 GS) := (fr83 _ (by omega)).trans hm39
        replace hm40 : w_83 40 = some (eZ dA 2 Zt) := (fr83 _ (by omega)).trans hm40
        replace hm41 : w_83 41 = some (eN dA 80 C) := (fr83 _ (by omega)).trans hm41
        replace hm42 : w_83 42 = some (eN dA 120 D0) := (fr83 _ (by omega)).trans hm42
        replace hm43 : w_83 43 = some (eN dA 120 M0) := (fr83 _ (by omega)).trans hm43
        replace hm44 : w_83 44 = some (eN dA 3 TD) := (fr83 _ (by omega)).trans hm44
        refine q_topv (v' := .int (nI 0)) (congrArg Value.int (by decide)) ?_
        refine lv_if_ne (tgt := 91) hx hb dX7_shift_86 (by decide) (fun c_86 => ?_) (fun c_86 => ?_)
        · skip
          have c_86 : ¬ (0 = 0) := fun h__ => c_86 ((nI_eq0 (i := 0) (by omega)).mpr h__)
          exact absurd c_86 (by omega)
        · skip
          have c_86 : 0 = 0 := (nI_eq0 (i := 0) (by omega)).mp c_86
          refine lv_iconst (v := nI 0) hx hb dX7_shift_89 (by decide) ?_
          exact q_wi hx hb hr hlocks hW hS dX7_shift_90 (by rw [if_neg (by first | exact fun q9 => c_10 q9.1 | exact fun q9 => c_33 q9.2.1 | exact fun q9 => c_53 q9.2.2)]; rfl) (by exact ⟨Or.inr (Or.inl ⟨c_10, ⟨_, _, _, _, _, _, _, _, _, _, hm0, hm1, ⟨hRp, hP⟩, hm38, hsv, hm39, hm40, hsl, hm41, hbu, hm42, hm43, hm44⟩⟩), by intro id h9; rw [fr83 id (by omega)]; try rfl⟩) (by decide) (by decide)
    · skip
      have c_33 : (-99) ≤ (y) ∧ (y) ≤ (nI (99)) := Decidable.byContradiction (fun h__ => c_33 (pI_eq0.mpr h__))
      refine lv_aload_n hx hb dX7_shift_36 rfl (lv_at hl 2 rfl) ?_
      refine q_get hx hb hts hinX7 hown hG hW hm0 rfl 0 (by decide) (hts (.fieldLink RX7 7 "FoleyMixerModel" "s" "[I") (List.mem_of_getElem? (i := 1) rfl)) rfl rfl dX7_shift_37 ?_
      refine lv_iload hx hb dX7_shift_40 (lv_at hl 0 rfl) ?_
      refine lv_iconst (v := nI 0) hx hb dX7_shift_42 (by decide) ?_
      refine lv_iadd hx hb dX7_shift_43 ?_
      refine q_top (y := nI (7)) (nI_add _ _) ?_
      refine q_iald hx hb hG hW hm1 (by omega) (by omega) dX7_shift_44 ?_
      refine lv_iload_n hx hb dX7_shift_45 rfl (lv_at hl 5 rfl) ?_
      refine lv_iadd hx hb dX7_shift_46 ?_
      refine lv_iconst (v := nI 0) hx hb dX7_shift_47 (by decide) ?_
      refine lv_bipush (v := nI 99) hx hb dX7_shift_48 (by decide) ?_
      refine q_R1 (va_runS (As := [.int ((nI (F 7)) + y), .int (nI 0), .int (nI 99)]) (rest := []) ⟨hx, hb, hml, hown, hts⟩ (c_X7_in l ((nI (F 7)) + y) (nI (0)) (nI (99))) (va_cwS 3 hts gX7_shift_X7_in rfl rfl rfl (by decide +kernel) ⟨Nat.le_of_ble_eq_true rfl, Nat.le_of_ble_eq_true rfl⟩) (q_preS hG hW hS) rfl rfl hl.1 rfl (lv_room (Nat.le_of_ble_eq_true rfl)) dX7_shift_50 ⟨Nat.le_of_ble_eq_true rfl, Nat.le_of_ble_eq_true rfl⟩) ?_
      refine lv_if_eq (tgt := 60) hx hb dX7_shift_53 (by decide) (fun c_53 => ?_) (fun c_53 => ?_)
      · skip
        have c_53 : ¬ ((nI (0)) ≤ ((nI (F 7)) + y) ∧ ((nI (F 7)) + y) ≤ (nI (99))) := pI_eq0.mp c_53
        refine lv_iconst (v := nI 0) hx hb dX7_shift_60 (by decide) ?_
        refine lv_istore (lv' := [(6, .int (nI 0)), (5, .int (nI 7)), (4, .int (if 0 ≤ x ∧ x < nI P.w then 1 else 0)), (0, .ref (b + 36)), (1, .int (nI 1)), (2, .int (x)), (3, .int (y))]) hx hb dX7_shift_61 hl (by decide) rfl (fun ls hl => ?_)
        refine lv_aload_n hx hb dX7_shift_63 rfl (lv_at hl 3 rfl) ?_
        refine lv_iload hx hb dX7_shift_64 (lv_at hl 2 rfl) ?_
        refine lv_if_ne (tgt := 73) hx hb dX7_shift_66 (by decide) (fun c_66 => ?_) (fun c_66 => ?_)
        · skip
          have c_66 : 0 ≤ x ∧ x < nI P.w := Decidable.byContradiction (fun h__ => c_66 (pI_eq0.mpr h__))
          exact absurd c_66 c_10
        · skip
          have c_66 : ¬ (0 ≤ x ∧ x < nI P.w) := pI_eq0.mp c_66
          refine lv_iconst (v := nI 1) hx hb dX7_shift_69 (by decide) ?_
          refine lv_goto (tgt := 83) hx hb dX7_shift_70 (by decide) ?_
          refine q_W1 (va_runV (As := [.int (nI 1)]) (rest := []) ⟨hx, hb, hml, hown, hts⟩ (c_X7_holds l hm0 (nI (1))) (cwV 1 hts gX7_shift_X7_holds rfl rfl rfl (by decide +kernel) ⟨Nat.le_of_ble_eq_true rfl, Nat.le_of_ble_eq_true rfl⟩) (q_preV hG hW hS hm0 rfl) rfl rfl hl.1 rfl (lv_room (Nat.le_of_ble_eq_true rfl)) dX7_shift_83 ⟨Nat.le_of_ble_eq_true rfl, Nat.le_of_ble_eq_true rfl⟩) hS (fun w_83 H locs hp83 hW hS => ?_)
          obtain ⟨hm0, fr83⟩ := hp83
          replace hm1 : w_83 37 = some (eN dA 85 F) := (fr83 _ (by omega)).trans hm1
          replace hm38 : w_83 38 = some (eN dA 510 G) := (fr83 _ (by omega)).trans hm38
          replace hm39 : w_83 39 = some (eN dA 170 GS) := (fr83 _ (by omega)).trans hm39
          replace hm40 : w_83 40 = some (eZ dA 2 Zt) := (fr83 _ (by omega)).trans hm40
          replace hm41 : w_83 41 = some (eN dA 80 C) := (fr83 _ (by omega)).trans hm41
          replace hm42 : w_83 42 = some (eN dA 120 D0) := (fr83 _ (by omega)).trans hm42
          replace hm43 : w_83 43 = some (eN dA 120 M0) := (fr83 _ (by omega)).trans hm43
          replace hm44 : w_83 44 = some (eN dA 3 TD) := (fr83 _ (by omega)).trans hm44
          refine q_topv (v' := .int (nI 0)) (congrArg Value.int (by decide)) ?_
          refine lv_if_ne (tgt := 91) hx hb dX7_shift_86 (by decide) (fun c_86 => ?_) (fun c_86 => ?_)
          · skip
            have c_86 : ¬ (0 = 0) := fun h__ => c_86 ((nI_eq0 (i := 0) (by omega)).mpr h__)
            exact absurd c_86 (by omega)
          · skip
            have c_86 : 0 = 0 := (nI_eq0 (i := 0) (by omega)).mp c_86
            refine lv_iconst (v := nI 0) hx hb dX7_shift_89 (by decide) ?_
            exact q_wi hx hb hr hlocks hW hS dX7_shift_90 (by rw [if_neg (by first | exact fun q9 => c_10 q9.1 | exact fun q9 => c_33 q9.2.1 | exact fun q9 => c_53 q9.2.2)]; rfl) (by exact ⟨Or.inr (Or.inl ⟨c_10, ⟨_, _, _, _, _, _, _, _, _, _, hm0, hm1, ⟨hRp, hP⟩, hm38, hsv, hm39, hm40, hsl, hm41, hbu, hm42, hm43, hm44⟩⟩), by intro id h9; rw [fr83 id (by omega)]; try rfl⟩) (by decide) (by decide)
      · skip
        have c_53 : (nI (0)) ≤ ((nI (F 7)) + y) ∧ ((nI (F 7)) + y) ≤ (nI (99)) := Decidable.byContradiction (fun h__ => c_53 (pI_eq0.mpr h__))
        refine lv_iconst (v := nI 1) hx hb dX7_shift_56 (by decide) ?_
        refine lv_goto (tgt := 61) hx hb dX7_shift_57 (by decide) ?_
        refine lv_istore (lv' := [(6, .int (nI 1)), (5, .int (nI 7)), (4, .int (if 0 ≤ x ∧ x < nI P.w then 1 else 0)), (0, .ref (b + 36)), (1, .int (nI 1)), (2, .int (x)), (3, .int (y))]) hx hb dX7_shift_61 hl (by decide) rfl (fun ls hl => ?_)
        refine lv_aload_n hx hb dX7_shift_63 rfl (lv_at hl 3 rfl) ?_
        refine lv_iload hx hb dX7_shift_64 (lv_at hl 2 rfl) ?_
        refine lv_if_ne (tgt := 73) hx hb dX7_shift_66 (by decide) (fun c_66 => ?_) (fun c_66 => ?_)
        · skip
          have c_66 : 0 ≤ x ∧ x < nI P.w := Decidable.byContradiction (fun h__ => c_66 (pI_eq0.mpr h__))
          exact absurd c_66 c_10
        · skip
          have c_66 : ¬ (0 ≤ x ∧ x < nI P.w) := pI_eq0.mp c_66
          refine lv_iconst (v := nI 1) hx hb dX7_shift_69 (by decide) ?_
          refine lv_goto (tgt := 83) hx hb dX7_shift_70 (by decide) ?_
          refine q_W1 (va_runV (As := [.int (nI 1)]) (rest := []) ⟨hx, hb, hml, hown, hts⟩ (c_X7_holds l hm0 (nI (1))) (cwV 1 hts gX7_shift_X7_holds rfl rfl rfl (by decide +kernel) ⟨Nat.le_of_ble_eq_true rfl, Nat.le_of_ble_eq_true rfl⟩) (q_preV hG hW hS hm0 rfl) rfl rfl hl.1 rfl (lv_room (Nat.le_of_ble_eq_true rfl)) dX7_shift_83 ⟨Nat.le_of_ble_eq_true rfl, Nat.le_of_ble_eq_true rfl⟩) hS (fun w_83 H locs hp83 hW hS => ?_)
          obtain ⟨hm0, fr83⟩ := hp83
          replace hm1 : w_83 37 = some (eN dA 85 F) := (fr83 _ (by omega)).trans hm1
          replace hm38 : w_83 38 = some (eN dA 510 G) := (fr83 _ (by omega)).trans hm38
          replace hm39 : w_83 39 = some (eN dA 170 GS) := (fr83 _ (by omega)).trans hm39
          replace hm40 : w_83 40 = some (eZ dA 2 Zt) := (fr83 _ (by omega)).trans hm40
          replace hm41 : w_83 41 = some (eN dA 80 C) := (fr83 _ (by omega)).trans hm41
          replace hm42 : w_83 42 = some (eN dA 120 D0) := (fr83 _ (by omega)).trans hm42
          replace hm43 : w_83 43 = some (eN dA 120 M0) := (fr83 _ (by omega)).trans hm43
          replace hm44 : w_83 44 = some (eN dA 3 TD) := (fr83 _ (by omega)).trans hm44
          refine q_topv (v' := .int (nI 0)) (congrArg Value.int (by decide)) ?_
          refine lv_if_ne (tgt := 91) hx hb dX7_shift_86 (by decide) (fun c_86 => ?_) (fun c_86 => ?_)
          · skip
            have c_86 : ¬ (0 = 0) := fun h__ => c_86 ((nI_eq0 (i := 0) (by omega)).mpr h__)
            exact absurd c_86 (by omega)
          · skip
            have c_86 : 0 = 0 := (nI_eq0 (i := 0) (by omega)).mp c_86
            refine lv_iconst (v := nI 0) hx hb dX7_shift_89 (by decide) ?_
            exact q_wi hx hb hr hlocks hW hS dX7_shift_90 (by rw [if_neg (by first | exact fun q9 => c_10 q9.1 | exact fun q9 => c_33 q9.2.1 | exact fun q9 => c_53 q9.2.2)]; rfl) (by exact ⟨Or.inr (Or.inl ⟨c_10, ⟨_, _, _, _, _, _, _, _, _, _, hm0, hm1, ⟨hRp, hP⟩, hm38, hsv, hm39, hm40, hsl, hm41, hbu, hm42, hm43, hm44⟩⟩), by intro id h9; rw [fr83 id (by omega)]; try rfl⟩) (by decide) (by decide)
  · skip
    have c_10 : 0 ≤ x ∧ x < nI P.w := Decidable.byContradiction (fun h__ => c_10 (pI_eq0.mpr h__))
    obtain ⟨ex9, bx9⟩ := has_n (by omega) c_10.1 c_10.2
    have el_13 : x = nI (i32n x) := by exact ex9
    rw [el_13] at hl
    refine lv_iload_n hx hb dX7_shift_13 rfl (lv_at hl 2 rfl) ?_
    refine lv_iload_n hx hb dX7_shift_14 rfl (lv_at hl 3 rfl) ?_
    refine q_R1 (va_runS (As := [.int (nI 1), .int (nI (i32n x))]) (rest := []) ⟨hx, hb, hml, hown, hts⟩ (c_X7_whereIs_t l (i32n x)) (va_cwS 2 hts gX7_shift_X7_whereIs rfl rfl rfl (by decide +kernel) ⟨Nat.le_of_ble_eq_true rfl, Nat.le_of_ble_eq_true rfl⟩) (q_preS hG hW hS) rfl rfl hl.1 rfl (lv_room (Nat.le_of_ble_eq_true rfl)) dX7_shift_15 ⟨Nat.le_of_ble_eq_true rfl, Nat.le_of_ble_eq_true rfl⟩) ?_
    refine lv_goto (tgt := 23) hx hb dX7_shift_18 (by decide) ?_
    refine lv_istore (lv' := [(5, .int (nI (7 + 3 * (i32n x)))), (4, .int (if 0 ≤ nI (i32n x) ∧ nI (i32n x) < nI P.w then 1 else 0)), (0, .ref (b + 36)), (1, .int (nI 1)), (2, .int (nI (i32n x))), (3, .int (y))]) hx hb dX7_shift_23 hl (by decide) rfl (fun ls hl => ?_)
    refine lv_iload_n hx hb dX7_shift_25 rfl (lv_at hl 5 rfl) ?_
    refine lv_bipush (v := (-99)) hx hb dX7_shift_26 (by decide) ?_
    refine lv_bipush (v := nI 99) hx hb dX7_shift_28 (by decide) ?_
    refine q_R1 (va_runS (As := [.int (y), .int (-99), .int (nI 99)]) (rest := []) ⟨hx, hb, hml, hown, hts⟩ (c_X7_in l (y) (-99) (nI (99))) (va_cwS 3 hts gX7_shift_X7_in rfl rfl rfl (by decide +kernel) ⟨Nat.le_of_ble_eq_true rfl, Nat.le_of_ble_eq_true rfl⟩) (q_preS hG hW hS) rfl rfl hl.1 rfl (lv_room (Nat.le_of_ble_eq_true rfl)) dX7_shift_30 ⟨Nat.le_of_ble_eq_true rfl, Nat.le_of_ble_eq_true rfl⟩) ?_
    refine lv_if_eq (tgt := 60) hx hb dX7_shift_33 (by decide) (fun c_33 => ?_) (fun c_33 => ?_)
    · skip
      have c_33 : ¬ ((-99) ≤ (y) ∧ (y) ≤ (nI (99))) := pI_eq0.mp c_33
      refine lv_iconst (v := nI 0) hx hb dX7_shift_60 (by decide) ?_
      refine lv_istore (lv' := [(6, .int (nI 0)), (5, .int (nI (7 + 3 * (i32n x)))), (4, .int (if 0 ≤ nI (i32n x) ∧ nI (i32n x) < nI P.w then 1 else 0)), (0, .ref (b + 36)), (1, .int (nI 1)), (2, .int (nI (i32n x))), (3, .int (y))]) hx hb dX7_shift_61 hl (by decide) rfl (fun ls hl => ?_)
      refine lv_aload_n hx hb dX7_shift_63 rfl (lv_at hl 3 rfl) ?_
      refine lv_iload hx hb dX7_shift_64 (lv_at hl 2 rfl) ?_
      refine lv_if_ne (tgt := 73) hx hb dX7_shift_66 (by decide) (fun c_66 => ?_) (fun c_66 => ?_)
      · skip
        have c_66 : 0 ≤ nI (i32n x) ∧ nI (i32n x) < nI P.w := Decidable.byContradiction (fun h__ => c_66 (pI_eq0.mpr h__))
        refine lv_iload hx hb dX7_shift_73 (lv_at hl 0 rfl) ?_
        refine lv_if_eq (tgt := 82) hx hb dX7_shift_75 (by decide) (fun c_75 => ?_) (fun c_75 => ?_)
        · skip
          have c_75 : 0 = 0 := (nI_eq0 (i := 0) (by omega)).mp c_75
          refine lv_iconst (v := nI 2) hx hb dX7_shift_82 (by decide) ?_
          refine q_W1 (va_runV (As := [.int (nI 2)]) (rest := []) ⟨hx, hb, hml, hown, hts⟩ (c_X7_holds l hm0 (nI (2))) (cwV 1 hts gX7_shift_X7_holds rfl rfl rfl (by decide +kernel) ⟨Nat.le_of_ble_eq_true rfl, Nat.le_of_ble_eq_true rfl⟩) (q_preV hG hW hS hm0 rfl) rfl rfl hl.1 rfl (lv_room (Nat.le_of_ble_eq_true rfl)) dX7_shift_83 ⟨Nat.le_of_ble_eq_true rfl, Nat.le_of_ble_eq_true rfl⟩) hS (fun w_83 H locs hp83 hW hS => ?_)
          obtain ⟨hm0, fr83⟩ := hp83
          replace hm1 : w_83 37 = some (eN dA 85 F) := (fr83 _ (by omega)).trans hm1
          replace hm38 : w_83 38 = some (eN dA 510 G) := (fr83 _ (by omega)).trans hm38
          replace hm39 : w_83 39 = some (eN dA 170 GS) := (fr83 _ (by omega)).trans hm39
          replace hm40 : w_83 40 = some (eZ dA 2 Zt) := (fr83 _ (by omega)).trans hm40
          replace hm41 : w_83 41 = some (eN dA 80 C) := (fr83 _ (by omega)).trans hm41
          replace hm42 : w_83 42 = some (eN dA 120 D0) := (fr83 _ (by omega)).trans hm42
          replace hm43 : w_83 43 = some (eN dA 120 M0) := (fr83 _ (by omega)).trans hm43
          replace hm44 : w_83 44 = some (eN dA 3 TD) := (fr83 _ (by omega)).trans hm44
          refine q_topv (v' := .int (nI 0)) (congrArg Value.int (by decide)) ?_
          refine lv_if_ne (tgt := 91) hx hb dX7_shift_86 (by decide) (fun c_86 => ?_) (fun c_86 => ?_)
          · skip
            have c_86 : ¬ (0 = 0) := fun h__ => c_86 ((nI_eq0 (i := 0) (by omega)).mpr h__)
            exact absurd c_86 (by omega)
          · skip
            have c_86 : 0 = 0 := (nI_eq0 (i := 0) (by omega)).mp c_86
            refine lv_iconst (v := nI 0) hx hb dX7_shift_89 (by decide) ?_
            exact q_wi hx hb hr hlocks hW hS dX7_shift_90 (by rw [if_neg (by first | exact fun q9 => c_10 q9.1 | exact fun q9 => c_33 q9.2.1 | exact fun q9 => c_53 q9.2.2)]; rfl) (by exact ⟨Or.inr (Or.inr ⟨⟨c_10, by first | exact fun q9 => c_33 q9.1 | exact fun q9 => c_53 q9.2⟩, ⟨_, _, _, _, _, _, _, _, _, _, hm0, hm1, ⟨hRp, hP⟩, hm38, hsv, hm39, hm40, hsl, hm41, hbu, hm42, hm43, hm44⟩⟩), by intro id h9; rw [fr83 id (by omega)]; try rfl⟩) (by decide) (by decide)
        · skip
          have c_75 : ¬ (0 = 0) := fun h__ => c_75 ((nI_eq0 (i := 0) (by omega)).mpr h__)
          exact absurd c_75 (by omega)
      · skip
        have c_66 : ¬ (0 ≤ nI (i32n x) ∧ nI (i32n x) < nI P.w) := pI_eq0.mp c_66
        exact absurd (by rw [← ex9]; exact c_10) c_66
    · skip
      have c_33 : (-99) ≤ (y) ∧ (y) ≤ (nI (99)) := Decidable.byContradiction (fun h__ => c_33 (pI_eq0.mpr h__))
      refine lv_aload_n hx hb dX7_shift_36 rfl (lv_at hl 2 rfl) ?_
      refine q_get hx hb hts hinX7 hown hG hW hm0 rfl 0 (by decide) (hts (.fieldLink RX7 7 "FoleyMixerModel" "s" "[I") (List.mem_of_getElem? (i := 1) rfl)) rfl rfl dX7_shift_37 ?_
      refine lv_iload hx hb dX7_shift_40 (lv_at hl 0 rfl) ?_
      refine lv_iconst (v := nI 0) hx hb dX7_shift_42 (by decide) ?_
      refine lv_iadd hx hb dX7_shift_43 ?_
      refine q_top (y := nI ((7 + 3 * (i32n x)) + 0)) (nI_add _ _) ?_
      refine q_iald hx hb hG hW hm1 (by omega) (by omega) dX7_shift_44 ?_
      refine q_top (y := nI (P.W (i32n x) 0)) (by exact congrArg nI (hRp.2.2.2.1 _ bx9 0 (by decide))) ?_
      refine lv_iload_n hx hb dX7_shift_45 rfl (lv_at hl 5 rfl) ?_
      refine lv_iadd hx hb dX7_shift_46 ?_
      refine lv_iconst (v := nI 0) hx hb dX7_shift_47 (by decide) ?_
      refine lv_bipush (v := nI 99) hx hb dX7_shift_48 (by decide) ?_
      refine q_R1 (va_runS (As := [.int ((nI (P.W (i32n x) 0)) + y), .int (nI 0), .int (nI 99)]) (rest := []) ⟨hx, hb, hml, hown, hts⟩ (c_X7_in l ((nI (P.W (i32n x) 0)) + y) (nI (0)) (nI (99))) (va_cwS 3 hts gX7_shift_X7_in rfl rfl rfl (by decide +kernel) ⟨Nat.le_of_ble_eq_true rfl, Nat.le_of_ble_eq_true rfl⟩) (q_preS hG hW hS) rfl rfl hl.1 rfl (lv_room (Nat.le_of_ble_eq_true rfl)) dX7_shift_50 ⟨Nat.le_of_ble_eq_true rfl, Nat.le_of_ble_eq_true rfl⟩) ?_
      refine lv_if_eq (tgt := 60) hx hb dX7_shift_53 (by decide) (fun c_53 => ?_) (fun c_53 => ?_)
      · skip
        have c_53 : ¬ ((nI (0)) ≤ ((nI (P.W (i32n x) 0)) + y) ∧ ((nI (P.W (i32n x) 0)) + y) ≤ (nI (99))) := pI_eq0.mp c_53
        refine lv_iconst (v := nI 0) hx hb dX7_shift_60 (by decide) ?_
        refine lv_istore (lv' := [(6, .int (nI 0)), (5, .int (nI (7 + 3 * (i32n x)))), (4, .int (if 0 ≤ nI (i32n x) ∧ nI (i32n x) < nI P.w then 1 else 0)), (0, .ref (b + 36)), (1, .int (nI 1)), (2, .int (nI (i32n x))), (3, .int (y))]) hx hb dX7_shift_61 hl (by decide) rfl (fun ls hl => ?_)
        refine lv_aload_n hx hb dX7_shift_63 rfl (lv_at hl 3 rfl) ?_
        refine lv_iload hx hb dX7_shift_64 (lv_at hl 2 rfl) ?_
        refine lv_if_ne (tgt := 73) hx hb dX7_shift_66 (by decide) (fun c_66 => ?_) (fun c_66 => ?_)
        · skip
          have c_66 : 0 ≤ nI (i32n x) ∧ nI (i32n x) < nI P.w := Decidable.byContradiction (fun h__ => c_66 (pI_eq0.mpr h__))
          refine lv_iload hx hb dX7_shift_73 (lv_at hl 0 rfl) ?_
          refine lv_if_eq (tgt := 82) hx hb dX7_shift_75 (by decide) (fun c_75 => ?_) (fun c_75 => ?_)
          · skip
            have c_75 : 0 = 0 := (nI_eq0 (i := 0) (by omega)).mp c_75
            refine lv_iconst (v := nI 2) hx hb dX7_shift_82 (by decide) ?_
            refine q_W1 (va_runV (As := [.int (nI 2)]) (rest := []) ⟨hx, hb, hml, hown, hts⟩ (c_X7_holds l hm0 (nI (2))) (cwV 1 hts gX7_shift_X7_holds rfl rfl rfl (by decide +kernel) ⟨Nat.le_of_ble_eq_true rfl, Nat.le_of_ble_eq_true rfl⟩) (q_preV hG hW hS hm0 rfl) rfl rfl hl.1 rfl (lv_room (Nat.le_of_ble_eq_true rfl)) dX7_shift_83 ⟨Nat.le_of_ble_eq_true rfl, Nat.le_of_ble_eq_true rfl⟩) hS (fun w_83 H locs hp83 hW hS => ?_)
            obtain ⟨hm0, fr83⟩ := hp83
            replace hm1 : w_83 37 = some (eN dA 85 F) := (fr83 _ (by omega)).trans hm1
            replace hm38 : w_83 38 = some (eN dA 510 G) := (fr83 _ (by omega)).trans hm38
            replace hm39 : w_83 39 = some (eN dA 170 GS) := (fr83 _ (by omega)).trans hm39
            replace hm40 : w_83 40 = some (eZ dA 2 Zt) := (fr83 _ (by omega)).trans hm40
            replace hm41 : w_83 41 = some (eN dA 80 C) := (fr83 _ (by omega)).trans hm41
            replace hm42 : w_83 42 = some (eN dA 120 D0) := (fr83 _ (by omega)).trans hm42
            replace hm43 : w_83 43 = some (eN dA 120 M0) := (fr83 _ (by omega)).trans hm43
            replace hm44 : w_83 44 = some (eN dA 3 TD) := (fr83 _ (by omega)).trans hm44
            refine q_topv (v' := .int (nI 0)) (congrArg Value.int (by decide)) ?_
            refine lv_if_ne (tgt := 91) hx hb dX7_shift_86 (by decide) (fun c_86 => ?_) (fun c_86 => ?_)
            · skip
              have c_86 : ¬ (0 = 0) := fun h__ => c_86 ((nI_eq0 (i := 0) (by omega)).mpr h__)
              exact absurd c_86 (by omega)
            · skip
              have c_86 : 0 = 0 := (nI_eq0 (i := 0) (by omega)).mp c_86
              refine lv_iconst (v := nI 0) hx hb dX7_shift_89 (by decide) ?_
              exact q_wi hx hb hr hlocks hW hS dX7_shift_90 (by rw [if_neg (by first | exact fun q9 => c_10 q9.1 | exact fun q9 => c_33 q9.2.1 | exact fun q9 => c_53 q9.2.2)]; rfl) (by exact ⟨Or.inr (Or.inr ⟨⟨c_10, by first | exact fun q9 => c_33 q9.1 | exact fun q9 => c_53 q9.2⟩, ⟨_, _, _, _, _, _, _, _, _, _, hm0, hm1, ⟨hRp, hP⟩, hm38, hsv, hm39, hm40, hsl, hm41, hbu, hm42, hm43, hm44⟩⟩), by intro id h9; rw [fr83 id (by omega)]; try rfl⟩) (by decide) (by decide)
          · skip
            have c_75 : ¬ (0 = 0) := fun h__ => c_75 ((nI_eq0 (i := 0) (by omega)).mpr h__)
            exact absurd c_75 (by omega)
        · skip
          have c_66 : ¬ (0 ≤ nI (i32n x) ∧ nI (i32n x) < nI P.w) := pI_eq0.mp c_66
          exact absurd (by rw [← ex9]; exact c_10) c_66
      · skip
        have c_53 : (nI (0)) ≤ ((nI (P.W (i32n x) 0)) + y) ∧ ((nI (P.W (i32n x) 0)) + y) ≤ (nI (99)) := Decidable.byContradiction (fun h__ => c_53 (pI_eq0.mpr h__))
        refine lv_iconst (v := nI 1) hx hb dX7_shift_56 (by decide) ?_
        refine lv_goto (tgt := 61) hx hb dX7_shift_57 (by decide) ?_
        refine lv_istore (lv' := [(6, .int (nI 1)), (5, .int (nI (7 + 3 * (i32n x)))), (4, .int (if 0 ≤ nI (i32n x) ∧ nI (i32n x) < nI P.w then 1 else 0)), (0, .ref (b + 36)), (1, .int (nI 1)), (2, .int (nI (i32n x))), (3, .int (y))]) hx hb dX7_shift_61 hl (by decide) rfl (fun ls hl => ?_)
        refine lv_aload_n hx hb dX7_shift_63 rfl (lv_at hl 3 rfl) ?_
        refine lv_iload hx hb dX7_shift_64 (lv_at hl 2 rfl) ?_
        refine lv_if_ne (tgt := 73) hx hb dX7_shift_66 (by decide) (fun c_66 => ?_) (fun c_66 => ?_)
        · skip
          have c_66 : 0 ≤ nI (i32n x) ∧ nI (i32n x) < nI P.w := Decidable.byContradiction (fun h__ => c_66 (pI_eq0.mpr h__))
          refine lv_iload hx hb dX7_shift_73 (lv_at hl 0 rfl) ?_
          refine lv_if_eq (tgt := 82) hx hb dX7_shift_75 (by decide) (fun c_75 => ?_) (fun c_75 => ?_)
          · skip
            have c_75 : 1 = 0 := (nI_eq0 (i := 1) (by omega)).mp c_75
            exact absurd c_75 (by omega)
          · skip
            have c_75 : ¬ (1 = 0) := fun h__ => c_75 ((nI_eq0 (i := 1) (by omega)).mpr h__)
            refine lv_iconst (v := nI 0) hx hb dX7_shift_78 (by decide) ?_
            refine lv_goto (tgt := 83) hx hb dX7_shift_79 (by decide) ?_
            refine q_W1 (va_runV (As := [.int (nI 0)]) (rest := []) ⟨hx, hb, hml, hown, hts⟩ (c_X7_holds l hm0 (nI (0))) (cwV 1 hts gX7_shift_X7_holds rfl rfl rfl (by decide +kernel) ⟨Nat.le_of_ble_eq_true rfl, Nat.le_of_ble_eq_true rfl⟩) (q_preV hG hW hS hm0 rfl) rfl rfl hl.1 rfl (lv_room (Nat.le_of_ble_eq_true rfl)) dX7_shift_83 ⟨Nat.le_of_ble_eq_true rfl, Nat.le_of_ble_eq_true rfl⟩) hS (fun w_83 H locs hp83 hW hS => ?_)
            obtain ⟨hm0, fr83⟩ := hp83
            replace hm1 : w_83 37 = some (eN dA 85 F) := (fr83 _ (by omega)).trans hm1
            replace hm38 : w_83 38 = some (eN dA 510 G) := (fr83 _ (by omega)).trans hm38
            replace hm39 : w_83 39 = some (eN dA 170 GS) := (fr83 _ (by omega)).trans hm39
            replace hm40 : w_83 40 = some (eZ dA 2 Zt) := (fr83 _ (by omega)).trans hm40
            replace hm41 : w_83 41 = some (eN dA 80 C) := (fr83 _ (by omega)).trans hm41
            replace hm42 : w_83 42 = some (eN dA 120 D0) := (fr83 _ (by omega)).trans hm42
            replace hm43 : w_83 43 = some (eN dA 120 M0) := (fr83 _ (by omega)).trans hm43
            replace hm44 : w_83 44 = some (eN dA 3 TD) := (fr83 _ (by omega)).trans hm44
            refine q_topv (v' := .int (nI 1)) (congrArg Value.int (by decide)) ?_
            refine lv_if_ne (tgt := 91) hx hb dX7_shift_86 (by decide) (fun c_86 => ?_) (fun c_86 => ?_)
            · skip
              have c_86 : ¬ (1 = 0) := fun h__ => c_86 ((nI_eq0 (i := 1) (by omega)).mpr h__)
              have ho9 : fitI 0 (nI (P.W (i32n x) 0) + y) := c_53
              have ey9 := (fitI_i32n (by omega) ho9).1
              have hb9 := (fitI_i32n (by omega) ho9).2
              have hb8 : cHi 0 = 99 := rfl
              have hb7 : cLo 0 = 0 := rfl
              refine lv_aload_n hx hb dX7_shift_91 rfl (lv_at hl 3 rfl) ?_
              refine q_W0 (va_runV (As := []) (rest := []) ⟨hx, hb, hml, hown, hts⟩ (c_X7_save l hm0 hm1 hm38 hsv.1) (cwV 0 hts gX7_shift_X7_save rfl rfl rfl (by decide +kernel) ⟨Nat.le_of_ble_eq_true rfl, Nat.le_of_ble_eq_true rfl⟩) (q_preV hG hW hS hm0 rfl) rfl rfl hl.1 rfl (lv_room (Nat.le_of_ble_eq_true rfl)) dX7_shift_92 ⟨Nat.le_of_ble_eq_true rfl, Nat.le_of_ble_eq_true rfl⟩) hS (fun w_92 H locs hp92 hW hS => ?_)
              obtain ⟨hm0, hm38, fr92⟩ := hp92
              replace hm1 : w_92 37 = some (eN dA 85 F) := (fr92 _ (by omega)).trans hm1
              replace hm39 : w_92 39 = some (eN dA 170 GS) := (fr92 _ (by omega)).trans hm39
              replace hm40 : w_92 40 = some (eZ dA 2 Zt) := (fr92 _ (by omega)).trans hm40
              replace hm41 : w_92 41 = some (eN dA 80 C) := (fr92 _ (by omega)).trans hm41
              replace hm42 : w_92 42 = some (eN dA 120 D0) := (fr92 _ (by omega)).trans hm42
              replace hm43 : w_92 43 = some (eN dA 120 M0) := (fr92 _ (by omega)).trans hm43
              replace hm44 : w_92 44 = some (eN dA 3 TD) := (fr92 _ (by omega)).trans hm44
              replace hsv := sav_rep hsv hRp hP
              refine lv_aload_n hx hb dX7_shift_95 rfl (lv_at hl 3 rfl) ?_
              refine q_get hx hb hts hinX7 hown hG hW hm0 rfl 0 (by decide) (hts (.fieldLink RX7 7 "FoleyMixerModel" "s" "[I") (List.mem_of_getElem? (i := 1) rfl)) rfl rfl dX7_shift_96 ?_
              refine lv_iload hx hb dX7_shift_99 (lv_at hl 1 rfl) ?_
              refine lv_iconst (v := nI 0) hx hb dX7_shift_101 (by decide) ?_
              refine lv_iadd hx hb dX7_shift_102 ?_
              refine q_top (y := nI ((7 + 3 * (i32n x)) + 0)) (nI_add _ _) ?_
              refine lv_dup2_11 hx hb dX7_shift_103 rfl rfl ?_
              refine q_iald hx hb hG hW hm1 (by omega) (by omega) dX7_shift_104 ?_
              refine q_top (y := nI (P.W (i32n x) 0)) (by exact congrArg nI (hRp.2.2.2.1 _ bx9 0 (by decide))) ?_
              refine lv_iload_n hx hb dX7_shift_105 rfl (lv_at hl 6 rfl) ?_
              refine lv_iadd hx hb dX7_shift_106 ?_
              refine q_top (y := nI (i32n (nI (P.W (i32n x) 0) + y))) (by exact ey9) ?_
              refine q_nast hx hb hG hW hS hm1 (by omega) (by omega) dX7_shift_107 (fun H locs hW hS hz107 => ?_)
              obtain ⟨w1, ew1⟩ : ∃ wq__ : Wd, wq__ = va_up w_92 37 (some (eN dA 85 (va_up F ((7 + 3 * (i32n x)) + 0) (i32n (nI (P.W (i32n x) 0) + y))))) := ⟨_, rfl⟩
              replace hW : WP D b w1 H := by rw [ew1]; exact hW
              have frw1 : ∀ id : Nat, id ≠ 37 → w1 id = w_92 id := fun id h9 => by rw [ew1, up_ne h9]
              replace hm39 : w1 39 = some (eN dA 170 GS) := (frw1 _ (by omega)).trans hm39
              replace hm40 : w1 40 = some (eZ dA 2 Zt) := (frw1 _ (by omega)).trans hm40
              replace hm41 : w1 41 = some (eN dA 80 C) := (frw1 _ (by omega)).trans hm41
              replace hm42 : w1 42 = some (eN dA 120 D0) := (frw1 _ (by omega)).trans hm42
              replace hm43 : w1 43 = some (eN dA 120 M0) := (frw1 _ (by omega)).trans hm43
              replace hm44 : w1 44 = some (eN dA 3 TD) := (frw1 _ (by omega)).trans hm44
              replace hm0 : w1 36 = some (modO b (nI (pshN n)) (nI (nc)) (nI (0)) (pl) (lt) (dn)) := (frw1 _ (by omega)).trans hm0
              replace hm38 : w1 38 = some (eN dA 510 (savG n F G)) := (frw1 _ (by omega)).trans hm38
              replace hm1 : w1 37 = some (eN dA 85 (va_up F ((7 + 3 * (i32n x)) + 0) (i32n (nI (P.W (i32n x) 0) + y)))) := by rw [ew1]; exact up_eq
              replace hRp := rep_setW hRp hPw (i := i32n x) (j := 0) (x := i32n (nI (P.W (i32n x) 0) + y)) bx9 (by decide)
              replace hP := ok_setW (i := i32n x) (j := 0) (x := i32n (nI (P.W (i32n x) 0) + y)) hP (by omega)
              refine lv_aload_n hx hb dX7_shift_108 rfl (lv_at hl 3 rfl) ?_
              refine q_get hx hb hts hinX7 hown hG hW hm0 rfl 0 (by decide) (hts (.fieldLink RX7 7 "FoleyMixerModel" "s" "[I") (List.mem_of_getElem? (i := 1) rfl)) rfl rfl dX7_shift_109 ?_
              refine lv_iload hx hb dX7_shift_112 (lv_at hl 1 rfl) ?_
              refine lv_iconst (v := nI 0) hx hb dX7_shift_114 (by decide) ?_
              refine lv_iadd hx hb dX7_shift_115 ?_
              refine q_top (y := nI ((7 + 3 * (i32n x)) + 0)) (nI_add _ _) ?_
              refine q_iald hx hb hG hW hm1 (by omega) (by omega) dX7_shift_116 ?_
              refine q_topv (v' := .int (nI (P.W (i32n x) 0) + y)) (by refine congrArg Value.int ?_; rw [va_up_self]; exact ey9.symm) ?_
              exact q_wi hx hb hr hlocks hW hS dX7_shift_117 (by rw [if_pos ⟨c_10, c_33, c_53⟩]) (by exact ⟨Or.inl ⟨⟨c_10, c_33, c_53⟩, ⟨_, _, _, _, _, _, _, _, _, _, hm0, hm1, ⟨hRp, hP⟩, hm38, hsv, hm39, hm40, hsl, hm41, hbu, hm42, hm43, hm44⟩⟩, by intro id h9; rw [frw1 id (by omega)]; rw [fr92 id (by omega)]; rw [fr83 id (by omega)]; try rfl⟩) (by decide) (by decide)
            · skip
              have c_86 : 1 = 0 := (nI_eq0 (i := 1) (by omega)).mp c_86
              exact absurd c_86 (by omega)
        · skip
          have c_66 : ¬ (0 ≤ nI (i32n x) ∧ nI (i32n x) < nI P.w) := pI_eq0.mp c_66
          exact absurd (by rw [← ex9]; exact c_10) c_66

set_option maxHeartbeats 300000 in
set_option maxRecDepth 100000 in
/-- remove -/
theorem c_X7_remove_f (l : Launch) {D : va_G} {dA : Nat → Nat} {b : Nat} {w : Wd} {n nc : Nat} {P : Pl} {Hs : Nat → Pl} {SL : Nat → Option Pl} {C : Nat → Nat} {tt : Int32} (hmd : isMod dA b w (P, (n, Hs), SL, (nc, C)) tt) (x : Int32) : Met l yX7_remove wsX7_remove ({ frames := 2, cells := 0, slots := 0, locals := 46 } : Room) (PC D dA b w [.ref (b + 36), .int (nI 0), .int (x)]) (QW D b (some (.int (if 0 ≤ x ∧ x < nI P.n then nI (P.n - 1) else 0))) (fun w' => (((0 ≤ x ∧ x < nI P.n) ∧ isMod dA b w' ((P.w, P.W, P.n - 1, delV P.N (i32n x), P.S), (pshN n, psh n Hs P), SL, (nc, C)) (nI 0)) ∨ ((¬ (0 ≤ x ∧ x < nI P.n)) ∧ isMod dA b w' (P, (n, Hs), SL, (nc, C)) (nI 1))) ∧ ∀ id : Nat, (id < 36 ∨ 45 ≤ id) → w' id = w id)) 0 0 (Fb b) := by
  refine q_of (cc := cX7_remove) (maxL := 3) (ret := (some .int)) (by decide) rfl rfl ?_
  intro p e s m args below meth c ls hx hb hr hml hts hown hlocks hG hW hS hl
  have hown : s.vm.findClass RX7 = some m.cls := hown
  have hinX7 : ∀ w ∈ u_ws RX7 TX7 14, w ∈ wsX7_remove := fun w h => (goodIn_r (big := wsX7_remove) (u_ws RX7 TX7 14) [31, 32, 33, 34, 35, 36, 37, 38, 39, 40, 41, 42, 43, 44] (by decide +kernel) (by decide +kernel) w h).1
  have hl : lv_has ls 3 [(0, .ref (b + 36)), (1, .int (nI 0)), (2, .int (x))] := hl
  obtain ⟨pl, lt, dn, F, G, GS, Zt, D0, M0, TD, hm0, hm1, ⟨hRp, hP⟩, hm38, hsv, hm39, hm40, hsl, hm41, hbu, hm42, hm43, hm44⟩ := id hmd
  change w 36 = some (modO b (nI n) (nI nc) tt pl lt dn) at hm0
  change rep F P at hRp
  change okP P at hP
  change mSv n G Hs at hsv
  change mSl GS Zt SL at hsl
  change w 41 = some (eN dA 80 C) at hm41
  change mBu nc C at hbu
  have hn6 := hsv.1
  have hnc := hbu.1
  obtain ⟨hPw, hPn, hPW, hPN, hPS⟩ := id hP
  have hr5 := hRp.2.1
  have hr6 := hRp.2.2.1
  refine lv_aload_n hx hb dX7_remove_0 rfl (lv_at hl 0 rfl) ?_
  refine lv_aload_n hx hb dX7_remove_1 rfl (lv_at hl 0 rfl) ?_
  refine lv_iload_n hx hb dX7_remove_2 rfl (lv_at hl 1 rfl) ?_
  refine lv_iload_n hx hb dX7_remove_3 rfl (lv_at hl 2 rfl) ?_
  refine q_R1 (va_runV (As := [.int (nI 0), .int (x)]) (rest := [.ref (b + 36)]) ⟨hx, hb, hml, hown, hts⟩ (c_isCueN l hm0 hm1 hRp hP (x)) (cwV 2 hts gX7_remove_X7_isCue rfl rfl rfl (by decide +kernel) ⟨Nat.le_of_ble_eq_true rfl, Nat.le_of_ble_eq_true rfl⟩) (q_preV hG hW hS hm0 rfl) rfl rfl hl.1 rfl (lv_room (Nat.le_of_ble_eq_true rfl)) dX7_remove_4 ⟨Nat.le_of_ble_eq_true rfl, Nat.le_of_ble_eq_true rfl⟩) ?_
  refine lv_if_eq (tgt := 14) hx hb dX7_remove_7 (by decide) (fun c_7 => ?_) (fun c_7 => ?_)
  · skip
    have c_7 : ¬ (0 ≤ x ∧ x < nI P.n) := pI_eq0.mp c_7
    refine lv_iconst (v := nI 1) hx hb dX7_remove_14 (by decide) ?_
    refine q_W1 (va_runV (As := [.int (nI 1)]) (rest := []) ⟨hx, hb, hml, hown, hts⟩ (c_X7_holds l hm0 (nI (1))) (cwV 1 hts gX7_remove_X7_holds rfl rfl rfl (by decide +kernel) ⟨Nat.le_of_ble_eq_true rfl, Nat.le_of_ble_eq_true rfl⟩) (q_preV hG hW hS hm0 rfl) rfl rfl hl.1 rfl (lv_room (Nat.le_of_ble_eq_true rfl)) dX7_remove_15 ⟨Nat.le_of_ble_eq_true rfl, Nat.le_of_ble_eq_true rfl⟩) hS (fun w_15 H locs hp15 hW hS => ?_)
    obtain ⟨hm0, fr15⟩ := hp15
    replace hm1 : w_15 37 = some (eN dA 85 F) := (fr15 _ (by omega)).trans hm1
    replace hm38 : w_15 38 = some (eN dA 510 G) := (fr15 _ (by omega)).trans hm38
    replace hm39 : w_15 39 = some (eN dA 170 GS) := (fr15 _ (by omega)).trans hm39
    replace hm40 : w_15 40 = some (eZ dA 2 Zt) := (fr15 _ (by omega)).trans hm40
    replace hm41 : w_15 41 = some (eN dA 80 C) := (fr15 _ (by omega)).trans hm41
    replace hm42 : w_15 42 = some (eN dA 120 D0) := (fr15 _ (by omega)).trans hm42
    replace hm43 : w_15 43 = some (eN dA 120 M0) := (fr15 _ (by omega)).trans hm43
    replace hm44 : w_15 44 = some (eN dA 3 TD) := (fr15 _ (by omega)).trans hm44
    refine q_topv (v' := .int (nI 0)) (congrArg Value.int (by decide)) ?_
    refine lv_if_ne (tgt := 23) hx hb dX7_remove_18 (by decide) (fun c_18 => ?_) (fun c_18 => ?_)
    · skip
      have c_18 : ¬ (0 = 0) := fun h__ => c_18 ((nI_eq0 (i := 0) (by omega)).mpr h__)
      exact absurd c_18 (by omega)
    · skip
      have c_18 : 0 = 0 := (nI_eq0 (i := 0) (by omega)).mp c_18
      refine lv_iconst (v := nI 0) hx hb dX7_remove_21 (by decide) ?_
      exact q_wi hx hb hr hlocks hW hS dX7_remove_22 (by rw [if_neg c_7]; rfl) (by exact ⟨Or.inr ⟨c_7, ⟨_, _, _, _, _, _, _, _, _, _, hm0, hm1, ⟨hRp, hP⟩, hm38, hsv, hm39, hm40, hsl, hm41, hbu, hm42, hm43, hm44⟩⟩, by intro id h9; rw [fr15 id (by omega)]; try rfl⟩) (by decide) (by decide)
  · skip
    have c_7 : 0 ≤ x ∧ x < nI P.n := Decidable.byContradiction (fun h__ => c_7 (pI_eq0.mpr h__))
    refine lv_iconst (v := nI 0) hx hb dX7_remove_10 (by decide) ?_
    refine lv_goto (tgt := 15) hx hb dX7_remove_11 (by decide) ?_
    refine q_W1 (va_runV (As := [.int (nI 0)]) (rest := []) ⟨hx, hb, hml, hown, hts⟩ (c_X7_holds l hm0 (nI (0))) (cwV 1 hts gX7_remove_X7_holds rfl rfl rfl (by decide +kernel) ⟨Nat.le_of_ble_eq_true rfl, Nat.le_of_ble_eq_true rfl⟩) (q_preV hG hW hS hm0 rfl) rfl rfl hl.1 rfl (lv_room (Nat.le_of_ble_eq_true rfl)) dX7_remove_15 ⟨Nat.le_of_ble_eq_true rfl, Nat.le_of_ble_eq_true rfl⟩) hS (fun w_15 H locs hp15 hW hS => ?_)
    obtain ⟨hm0, fr15⟩ := hp15
    replace hm1 : w_15 37 = some (eN dA 85 F) := (fr15 _ (by omega)).trans hm1
    replace hm38 : w_15 38 = some (eN dA 510 G) := (fr15 _ (by omega)).trans hm38
    replace hm39 : w_15 39 = some (eN dA 170 GS) := (fr15 _ (by omega)).trans hm39
    replace hm40 : w_15 40 = some (eZ dA 2 Zt) := (fr15 _ (by omega)).trans hm40
    replace hm41 : w_15 41 = some (eN dA 80 C) := (fr15 _ (by omega)).trans hm41
    replace hm42 : w_15 42 = some (eN dA 120 D0) := (fr15 _ (by omega)).trans hm42
    replace hm43 : w_15 43 = some (eN dA 120 M0) := (fr15 _ (by omega)).trans hm43
    replace hm44 : w_15 44 = some (eN dA 3 TD) := (fr15 _ (by omega)).trans hm44
    refine q_topv (v' := .int (nI 1)) (congrArg Value.int (by decide)) ?_
    refine lv_if_ne (tgt := 23) hx hb dX7_remove_18 (by decide) (fun c_18 => ?_) (fun c_18 => ?_)
    · skip
      have c_18 : ¬ (1 = 0) := fun h__ => c_18 ((nI_eq0 (i := 1) (by omega)).mpr h__)
      obtain ⟨ex9, bx9⟩ := has_n (by omega) c_7.1 c_7.2
      have el_23 : x = nI (i32n x) := by exact ex9
      rw [el_23] at hl
      refine lv_aload_n hx hb dX7_remove_23 rfl (lv_at hl 0 rfl) ?_
      refine q_W0 (va_runV (As := []) (rest := []) ⟨hx, hb, hml, hown, hts⟩ (c_X7_save l hm0 hm1 hm38 hsv.1) (cwV 0 hts gX7_remove_X7_save rfl rfl rfl (by decide +kernel) ⟨Nat.le_of_ble_eq_true rfl, Nat.le_of_ble_eq_true rfl⟩) (q_preV hG hW hS hm0 rfl) rfl rfl hl.1 rfl (lv_room (Nat.le_of_ble_eq_true rfl)) dX7_remove_24 ⟨Nat.le_of_ble_eq_true rfl, Nat.le_of_ble_eq_true rfl⟩) hS (fun w_24 H locs hp24 hW hS => ?_)
      obtain ⟨hm0, hm38, fr24⟩ := hp24
      replace hm1 : w_24 37 = some (eN dA 85 F) := (fr24 _ (by omega)).trans hm1
      replace hm39 : w_24 39 = some (eN dA 170 GS) := (fr24 _ (by omega)).trans hm39
      replace hm40 : w_24 40 = some (eZ dA 2 Zt) := (fr24 _ (by omega)).trans hm40
      replace hm41 : w_24 41 = some (eN dA 80 C) := (fr24 _ (by omega)).trans hm41
      replace hm42 : w_24 42 = some (eN dA 120 D0) := (fr24 _ (by omega)).trans hm42
      replace hm43 : w_24 43 = some (eN dA 120 M0) := (fr24 _ (by omega)).trans hm43
      replace hm44 : w_24 44 = some (eN dA 3 TD) := (fr24 _ (by omega)).trans hm44
      replace hsv := sav_rep hsv hRp hP
      refine lv_aload_n hx hb dX7_remove_27 rfl (lv_at hl 0 rfl) ?_
      refine lv_iload_n hx hb dX7_remove_28 rfl (lv_at hl 1 rfl) ?_
      refine lv_iload_n hx hb dX7_remove_29 rfl (lv_at hl 2 rfl) ?_
      refine q_W0 (va_runV (As := [.int (nI 0), .int (nI (i32n x))]) (rest := []) ⟨hx, hb, hml, hown, hts⟩ (c_X7_takeOut_f l hm0 hm1 hRp hP (i32n x) (by omega)) (cwV 2 hts gX7_remove_X7_takeOut rfl rfl rfl (by decide +kernel) ⟨Nat.le_of_ble_eq_true rfl, Nat.le_of_ble_eq_true rfl⟩) (q_preV hG hW hS hm0 rfl) rfl rfl hl.1 rfl (lv_room (Nat.le_of_ble_eq_true rfl)) dX7_remove_30 ⟨Nat.le_of_ble_eq_true rfl, Nat.le_of_ble_eq_true rfl⟩) hS (fun w_30 H locs hp30 hW hS => ?_)
      obtain ⟨F30, hm1, hRp, hP, fr30⟩ := hp30
      replace hm39 : w_30 39 = some (eN dA 170 GS) := (fr30 _ (by omega)).trans hm39
      replace hm40 : w_30 40 = some (eZ dA 2 Zt) := (fr30 _ (by omega)).trans hm40
      replace hm41 : w_30 41 = some (eN dA 80 C) := (fr30 _ (by omega)).trans hm41
      replace hm42 : w_30 42 = some (eN dA 120 D0) := (fr30 _ (by omega)).trans hm42
      replace hm43 : w_30 43 = some (eN dA 120 M0) := (fr30 _ (by omega)).trans hm43
      replace hm44 : w_30 44 = some (eN dA 3 TD) := (fr30 _ (by omega)).trans hm44
      replace hm0 : w_30 36 = some (modO b (nI (pshN n)) (nI (nc)) (nI (0)) (pl) (lt) (dn)) := (fr30 _ (by omega)).trans hm0
      replace hm38 : w_30 38 = some (eN dA 510 (savG n F G)) := (fr30 _ (by omega)).trans hm38
      refine lv_iload_n hx hb dX7_remove_33 rfl (lv_at hl 1 rfl) ?_
      refine lv_if_eq (tgt := 46) hx hb dX7_remove_34 (by decide) (fun c_34 => ?_) (fun c_34 => ?_)
      · skip
        have c_34 : 0 = 0 := (nI_eq0 (i := 0) (by omega)).mp c_34
        refine lv_aload_n hx hb dX7_remove_46 rfl (lv_at hl 0 rfl) ?_
        refine q_get hx hb hts hinX7 hown hG hW hm0 rfl 0 (by decide) (hts (.fieldLink RX7 7 "FoleyMixerModel" "s" "[I") (List.mem_of_getElem? (i := 1) rfl)) rfl rfl dX7_remove_47 ?_
        refine lv_bipush (v := nI 6) hx hb dX7_remove_50 (by decide) ?_
        refine q_iald hx hb hG hW hm1 (by omega) (by omega) dX7_remove_52 ?_
        refine q_top (y := nI (P.n - 1)) (by exact congrArg nI hRp.2.2.1) ?_
        exact q_wi hx hb hr hlocks hW hS dX7_remove_53 (by rw [if_pos c_7]) (by exact ⟨Or.inl ⟨c_7, ⟨_, _, _, _, _, _, _, _, _, _, hm0, hm1, ⟨hRp, hP⟩, hm38, hsv, hm39, hm40, hsl, hm41, hbu, hm42, hm43, hm44⟩⟩, by intro id h9; rw [fr30 id (by omega)]; rw [fr24 id (by omega)]; rw [fr15 id (by omega)]; try rfl⟩) (by decide) (by decide)
      · skip
        have c_34 : ¬ (0 = 0) := fun h__ => c_34 ((nI_eq0 (i := 0) (by omega)).mpr h__)
        exact absurd c_34 (by omega)
    · skip
      have c_18 : 1 = 0 := (nI_eq0 (i := 1) (by omega)).mp c_18
      exact absurd c_18 (by omega)

set_option maxHeartbeats 300000 in
set_option maxRecDepth 100000 in
/-- loud -/
theorem c_X7_loud_f (l : Launch) {D : va_G} {dA : Nat → Nat} {b : Nat} {w : Wd} {n nc : Nat} {P : Pl} {Hs : Nat → Pl} {SL : Nat → Option Pl} {C : Nat → Nat} {tt : Int32} (hmd : isMod dA b w (P, (n, Hs), SL, (nc, C)) tt) (x y : Int32) : Met l yX7_loud wsX7_loud ({ frames := 2, cells := 0, slots := 0, locals := 45 } : Room) (PC D dA b w [.ref (b + 36), .int (nI 0), .int (x), .int (y)]) (QW D b (some (.int (if (0 ≤ x ∧ x < nI P.n) ∧ fitI 2 y then nI (P.N (i32n x) 2) else 0))) (fun w' => ((((0 ≤ x ∧ x < nI P.n) ∧ fitI 2 y) ∧ isMod dA b w' ((P.w, P.W, P.n, setV P.N (i32n x) 2 (i32n y), P.S), (pshN n, psh n Hs P), SL, (nc, C)) (nI 0)) ∨ ((¬ (0 ≤ x ∧ x < nI P.n)) ∧ isMod dA b w' (P, (n, Hs), SL, (nc, C)) (nI 1)) ∨ (((0 ≤ x ∧ x < nI P.n) ∧ ¬ fitI 2 y) ∧ isMod dA b w' (P, (n, Hs), SL, (nc, C)) (nI 2))) ∧ ∀ id : Nat, (id < 36 ∨ 45 ≤ id) → w' id = w id)) 0 0 (Fb b) := by
  refine q_of (cc := cX7_loud) (maxL := 6) (ret := (some .int)) (by decide) rfl rfl ?_
  intro p e s m args below meth c ls hx hb hr hml hts hown hlocks hG hW hS hl
  have hown : s.vm.findClass RX7 = some m.cls := hown
  have hinX7 : ∀ w ∈ u_ws RX7 TX7 14, w ∈ wsX7_loud := fun w h => (goodIn_r (big := wsX7_loud) (u_ws RX7 TX7 14) [27, 28, 29, 30, 31, 32, 33, 34, 35, 36, 37, 38, 39, 40] (by decide +kernel) (by decide +kernel) w h).1
  have hl : lv_has ls 6 [(0, .ref (b + 36)), (1, .int (nI 0)), (2, .int (x)), (3, .int (y))] := hl
  obtain ⟨pl, lt, dn, F, G, GS, Zt, D0, M0, TD, hm0, hm1, ⟨hRp, hP⟩, hm38, hsv, hm39, hm40, hsl, hm41, hbu, hm42, hm43, hm44⟩ := id hmd
  change w 36 = some (modO b (nI n) (nI nc) tt pl lt dn) at hm0
  change rep F P at hRp
  change okP P at hP
  change mSv n G Hs at hsv
  change mSl GS Zt SL at hsl
  change w 41 = some (eN dA 80 C) at hm41
  change mBu nc C at hbu
  have hn6 := hsv.1
  have hnc := hbu.1
  obtain ⟨hPw, hPn, hPW, hPN, hPS⟩ := id hP
  have hr5 := hRp.2.1
  have hr6 := hRp.2.2.1
  refine lv_aload_n hx hb dX7_loud_0 rfl (lv_at hl 0 rfl) ?_
  refine lv_aload_n hx hb dX7_loud_1 rfl (lv_at hl 0 rfl) ?_
  refine lv_iload_n hx hb dX7_loud_2 rfl (lv_at hl 1 rfl) ?_
  refine lv_iload_n hx hb dX7_loud_3 rfl (lv_at hl 2 rfl) ?_
  refine q_R1 (va_runV (As := [.int (nI 0), .int (x)]) (rest := [.ref (b + 36)]) ⟨hx, hb, hml, hown, hts⟩ (c_isCueN l hm0 hm1 hRp hP (x)) (cwV 2 hts gX7_loud_X7_isCue rfl rfl rfl (by decide +kernel) ⟨Nat.le_of_ble_eq_true rfl, Nat.le_of_ble_eq_true rfl⟩) (q_preV hG hW hS hm0 rfl) rfl rfl hl.1 rfl (lv_room (Nat.le_of_ble_eq_true rfl)) dX7_loud_4 ⟨Nat.le_of_ble_eq_true rfl, Nat.le_of_ble_eq_true rfl⟩) ?_
  refine lv_if_ne (tgt := 14) hx hb dX7_loud_7 (by decide) (fun c_7 => ?_) (fun c_7 => ?_)
  · skip
    have c_7 : 0 ≤ x ∧ x < nI P.n := Decidable.byContradiction (fun h__ => c_7 (pI_eq0.mpr h__))
    refine lv_iload_n hx hb dX7_loud_14 rfl (lv_at hl 3 rfl) ?_
    refine lv_iconst (v := nI 1) hx hb dX7_loud_15 (by decide) ?_
    refine lv_bipush (v := nI 30) hx hb dX7_loud_16 (by decide) ?_
    refine q_R1 (va_runS (As := [.int (y), .int (nI 1), .int (nI 30)]) (rest := [.ref (b + 36)]) ⟨hx, hb, hml, hown, hts⟩ (c_X7_in l (y) (nI (1)) (nI (30))) (va_cwS 3 hts gX7_loud_X7_in rfl rfl rfl (by decide +kernel) ⟨Nat.le_of_ble_eq_true rfl, Nat.le_of_ble_eq_true rfl⟩) (q_preS hG hW hS) rfl rfl hl.1 rfl (lv_room (Nat.le_of_ble_eq_true rfl)) dX7_loud_18 ⟨Nat.le_of_ble_eq_true rfl, Nat.le_of_ble_eq_true rfl⟩) ?_
    refine lv_if_eq (tgt := 28) hx hb dX7_loud_21 (by decide) (fun c_21 => ?_) (fun c_21 => ?_)
    · skip
      have c_21 : ¬ ((nI (1)) ≤ (y) ∧ (y) ≤ (nI (30))) := pI_eq0.mp c_21
      refine lv_iconst (v := nI 2) hx hb dX7_loud_28 (by decide) ?_
      refine q_W1 (va_runV (As := [.int (nI 2)]) (rest := []) ⟨hx, hb, hml, hown, hts⟩ (c_X7_holds l hm0 (nI (2))) (cwV 1 hts gX7_loud_X7_holds rfl rfl rfl (by decide +kernel) ⟨Nat.le_of_ble_eq_true rfl, Nat.le_of_ble_eq_true rfl⟩) (q_preV hG hW hS hm0 rfl) rfl rfl hl.1 rfl (lv_room (Nat.le_of_ble_eq_true rfl)) dX7_loud_29 ⟨Nat.le_of_ble_eq_true rfl, Nat.le_of_ble_eq_true rfl⟩) hS (fun w_29 H locs hp29 hW hS => ?_)
      obtain ⟨hm0, fr29⟩ := hp29
      replace hm1 : w_29 37 = some (eN dA 85 F) := (fr29 _ (by omega)).trans hm1
      replace hm38 : w_29 38 = some (eN dA 510 G) := (fr29 _ (by omega)).trans hm38
      replace hm39 : w_29 39 = some (eN dA 170 GS) := (fr29 _ (by omega)).trans hm39
      replace hm40 : w_29 40 = some (eZ dA 2 Zt) := (fr29 _ (by omega)).trans hm40
      replace hm41 : w_29 41 = some (eN dA 80 C) := (fr29 _ (by omega)).trans hm41
      replace hm42 : w_29 42 = some (eN dA 120 D0) := (fr29 _ (by omega)).trans hm42
      replace hm43 : w_29 43 = some (eN dA 120 M0) := (fr29 _ (by omega)).trans hm43
      replace hm44 : w_29 44 = some (eN dA 3 TD) := (fr29 _ (by omega)).trans hm44
      refine q_topv (v' := .int (nI 0)) (congrArg Value.int (by decide)) ?_
      refine lv_if_ne (tgt := 37) hx hb dX7_loud_32 (by decide) (fun c_32 => ?_) (fun c_32 => ?_)
      · skip
        have c_32 : ¬ (0 = 0) := fun h__ => c_32 ((nI_eq0 (i := 0) (by omega)).mpr h__)
        exact absurd c_32 (by omega)
      · skip
        have c_32 : 0 = 0 := (nI_eq0 (i := 0) (by omega)).mp c_32
        refine lv_iconst (v := nI 0) hx hb dX7_loud_35 (by decide) ?_
        exact q_wi hx hb hr hlocks hW hS dX7_loud_36 (by first | (rw [if_neg (fun q9 => absurd q9.1 c_7)]; rfl) | (rw [if_neg (fun q9 => absurd q9.2 c_21)]; rfl)) (by exact ⟨Or.inr (Or.inr ⟨⟨c_7, c_21⟩, ⟨_, _, _, _, _, _, _, _, _, _, hm0, hm1, ⟨hRp, hP⟩, hm38, hsv, hm39, hm40, hsl, hm41, hbu, hm42, hm43, hm44⟩⟩), by intro id h9; rw [fr29 id (by omega)]; try rfl⟩) (by decide) (by decide)
    · skip
      have c_21 : (nI (1)) ≤ (y) ∧ (y) ≤ (nI (30)) := Decidable.byContradiction (fun h__ => c_21 (pI_eq0.mpr h__))
      refine lv_iconst (v := nI 0) hx hb dX7_loud_24 (by decide) ?_
      refine lv_goto (tgt := 29) hx hb dX7_loud_25 (by decide) ?_
      refine q_W1 (va_runV (As := [.int (nI 0)]) (rest := []) ⟨hx, hb, hml, hown, hts⟩ (c_X7_holds l hm0 (nI (0))) (cwV 1 hts gX7_loud_X7_holds rfl rfl rfl (by decide +kernel) ⟨Nat.le_of_ble_eq_true rfl, Nat.le_of_ble_eq_true rfl⟩) (q_preV hG hW hS hm0 rfl) rfl rfl hl.1 rfl (lv_room (Nat.le_of_ble_eq_true rfl)) dX7_loud_29 ⟨Nat.le_of_ble_eq_true rfl, Nat.le_of_ble_eq_true rfl⟩) hS (fun w_29 H locs hp29 hW hS => ?_)
      obtain ⟨hm0, fr29⟩ := hp29
      replace hm1 : w_29 37 = some (eN dA 85 F) := (fr29 _ (by omega)).trans hm1
      replace hm38 : w_29 38 = some (eN dA 510 G) := (fr29 _ (by omega)).trans hm38
      replace hm39 : w_29 39 = some (eN dA 170 GS) := (fr29 _ (by omega)).trans hm39
      replace hm40 : w_29 40 = some (eZ dA 2 Zt) := (fr29 _ (by omega)).trans hm40
      replace hm41 : w_29 41 = some (eN dA 80 C) := (fr29 _ (by omega)).trans hm41
      replace hm42 : w_29 42 = some (eN dA 120 D0) := (fr29 _ (by omega)).trans hm42
      replace hm43 : w_29 43 = some (eN dA 120 M0) := (fr29 _ (by omega)).trans hm43
      replace hm44 : w_29 44 = some (eN dA 3 TD) := (fr29 _ (by omega)).trans hm44
      refine q_topv (v' := .int (nI 1)) (congrArg Value.int (by decide)) ?_
      refine lv_if_ne (tgt := 37) hx hb dX7_loud_32 (by decide) (fun c_32 => ?_) (fun c_32 => ?_)
      · skip
        have c_32 : ¬ (1 = 0) := fun h__ => c_32 ((nI_eq0 (i := 1) (by omega)).mpr h__)
        obtain ⟨ex9, bx9⟩ := has_n (by omega) c_7.1 c_7.2
        have el_37 : x = nI (i32n x) := by exact ex9
        rw [el_37] at hl
        have ho9 : fitI 2 y := c_21
        have ey9 := (fitI_i32n (by omega) ho9).1
        have hb9 := (fitI_i32n (by omega) ho9).2
        have hb8 : cHi 2 = 30 := rfl
        have hb7 : cLo 2 = 1 := rfl
        have el_37 : y = nI (i32n y) := by exact ey9
        rw [el_37] at hl
        refine lv_aload_n hx hb dX7_loud_37 rfl (lv_at hl 0 rfl) ?_
        refine q_W0 (va_runV (As := []) (rest := []) ⟨hx, hb, hml, hown, hts⟩ (c_X7_save l hm0 hm1 hm38 hsv.1) (cwV 0 hts gX7_loud_X7_save rfl rfl rfl (by decide +kernel) ⟨Nat.le_of_ble_eq_true rfl, Nat.le_of_ble_eq_true rfl⟩) (q_preV hG hW hS hm0 rfl) rfl rfl hl.1 rfl (lv_room (Nat.le_of_ble_eq_true rfl)) dX7_loud_38 ⟨Nat.le_of_ble_eq_true rfl, Nat.le_of_ble_eq_true rfl⟩) hS (fun w_38 H locs hp38 hW hS => ?_)
        obtain ⟨hm0, hm38, fr38⟩ := hp38
        replace hm1 : w_38 37 = some (eN dA 85 F) := (fr38 _ (by omega)).trans hm1
        replace hm39 : w_38 39 = some (eN dA 170 GS) := (fr38 _ (by omega)).trans hm39
        replace hm40 : w_38 40 = some (eZ dA 2 Zt) := (fr38 _ (by omega)).trans hm40
        replace hm41 : w_38 41 = some (eN dA 80 C) := (fr38 _ (by omega)).trans hm41
        replace hm42 : w_38 42 = some (eN dA 120 D0) := (fr38 _ (by omega)).trans hm42
        replace hm43 : w_38 43 = some (eN dA 120 M0) := (fr38 _ (by omega)).trans hm43
        replace hm44 : w_38 44 = some (eN dA 3 TD) := (fr38 _ (by omega)).trans hm44
        replace hsv := sav_rep hsv hRp hP
        refine lv_iload_n hx hb dX7_loud_41 rfl (lv_at hl 1 rfl) ?_
        refine lv_iload_n hx hb dX7_loud_42 rfl (lv_at hl 2 rfl) ?_
        refine q_R1 (va_runS (As := [.int (nI 0), .int (nI (i32n x))]) (rest := []) ⟨hx, hb, hml, hown, hts⟩ (c_X7_whereIs_f l (i32n x)) (va_cwS 2 hts gX7_loud_X7_whereIs rfl rfl rfl (by decide +kernel) ⟨Nat.le_of_ble_eq_true rfl, Nat.le_of_ble_eq_true rfl⟩) (q_preS hG hW hS) rfl rfl hl.1 rfl (lv_room (Nat.le_of_ble_eq_true rfl)) dX7_loud_43 ⟨Nat.le_of_ble_eq_true rfl, Nat.le_of_ble_eq_true rfl⟩) ?_
        refine lv_iconst (v := nI 2) hx hb dX7_loud_46 (by decide) ?_
        refine lv_iadd hx hb dX7_loud_47 ?_
        refine q_top (y := nI ((37 + 4 * (i32n x)) + 2)) (nI_add _ _) ?_
        refine lv_istore (lv' := [(4, .int (nI ((37 + 4 * (i32n x)) + 2))), (0, .ref (b + 36)), (1, .int (nI 0)), (2, .int (nI (i32n x))), (3, .int (nI (i32n y)))]) hx hb dX7_loud_48 hl (by decide) rfl (fun ls hl => ?_)
        refine lv_aload_n hx hb dX7_loud_50 rfl (lv_at hl 1 rfl) ?_
        refine q_get hx hb hts hinX7 hown hG hW hm0 rfl 0 (by decide) (hts (.fieldLink RX7 7 "FoleyMixerModel" "s" "[I") (List.mem_of_getElem? (i := 1) rfl)) rfl rfl dX7_loud_51 ?_
        refine lv_iload hx hb dX7_loud_54 (lv_at hl 0 rfl) ?_
        refine q_iald hx hb hG hW hm1 (by omega) (by omega) dX7_loud_56 ?_
        refine q_top (y := nI (P.N (i32n x) 2)) (by exact congrArg nI (hRp.2.2.2.2 _ bx9 2 (by decide))) ?_
        refine lv_istore (lv' := [(5, .int (nI (P.N (i32n x) 2))), (4, .int (nI ((37 + 4 * (i32n x)) + 2))), (0, .ref (b + 36)), (1, .int (nI 0)), (2, .int (nI (i32n x))), (3, .int (nI (i32n y)))]) hx hb dX7_loud_57 hl (by decide) rfl (fun ls hl => ?_)
        refine lv_aload_n hx hb dX7_loud_59 rfl (lv_at hl 2 rfl) ?_
        refine q_get hx hb hts hinX7 hown hG hW hm0 rfl 0 (by decide) (hts (.fieldLink RX7 7 "FoleyMixerModel" "s" "[I") (List.mem_of_getElem? (i := 1) rfl)) rfl rfl dX7_loud_60 ?_
        refine lv_iload hx hb dX7_loud_63 (lv_at hl 1 rfl) ?_
        refine lv_iload_n hx hb dX7_loud_65 rfl (lv_at hl 5 rfl) ?_
        refine q_nast hx hb hG hW hS hm1 (by omega) (by omega) dX7_loud_66 (fun H locs hW hS hz66 => ?_)
        obtain ⟨w1, ew1⟩ : ∃ wq__ : Wd, wq__ = va_up w_38 37 (some (eN dA 85 (va_up F ((37 + 4 * (i32n x)) + 2) (i32n y)))) := ⟨_, rfl⟩
        replace hW : WP D b w1 H := by rw [ew1]; exact hW
        have frw1 : ∀ id : Nat, id ≠ 37 → w1 id = w_38 id := fun id h9 => by rw [ew1, up_ne h9]
        replace hm39 : w1 39 = some (eN dA 170 GS) := (frw1 _ (by omega)).trans hm39
        replace hm40 : w1 40 = some (eZ dA 2 Zt) := (frw1 _ (by omega)).trans hm40
        replace hm41 : w1 41 = some (eN dA 80 C) := (frw1 _ (by omega)).trans hm41
        replace hm42 : w1 42 = some (eN dA 120 D0) := (frw1 _ (by omega)).trans hm42
        replace hm43 : w1 43 = some (eN dA 120 M0) := (frw1 _ (by omega)).trans hm43
        replace hm44 : w1 44 = some (eN dA 3 TD) := (frw1 _ (by omega)).trans hm44
        replace hm0 : w1 36 = some (modO b (nI (pshN n)) (nI (nc)) (nI (0)) (pl) (lt) (dn)) := (frw1 _ (by omega)).trans hm0
        replace hm38 : w1 38 = some (eN dA 510 (savG n F G)) := (frw1 _ (by omega)).trans hm38
        replace hm1 : w1 37 = some (eN dA 85 (va_up F ((37 + 4 * (i32n x)) + 2) (i32n y))) := by rw [ew1]; exact up_eq
        replace hRp := rep_setN hRp hPw (i := i32n x) (j := 2) (x := i32n y) bx9 (by decide)
        replace hP := ok_setN (i := i32n x) (j := 2) (x := i32n y) hP (by omega)
        refine lv_iload hx hb dX7_loud_67 (lv_at hl 0 rfl) ?_
        exact q_wi hx hb hr hlocks hW hS dX7_loud_69 (by rw [if_pos (⟨c_7, c_21⟩)]) (by exact ⟨Or.inl ⟨⟨c_7, c_21⟩, ⟨_, _, _, _, _, _, _, _, _, _, hm0, hm1, ⟨hRp, hP⟩, hm38, hsv, hm39, hm40, hsl, hm41, hbu, hm42, hm43, hm44⟩⟩, by intro id h9; rw [frw1 id (by omega)]; rw [fr38 id (by omega)]; rw [fr29 id (by omega)]; try rfl⟩) (by decide) (by decide)
      · skip
        have c_32 : 1 = 0 := (nI_eq0 (i := 1) (by omega)).mp c_32
        exact absurd c_32 (by omega)
  · skip
    have c_7 : ¬ (0 ≤ x ∧ x < nI P.n) := pI_eq0.mp c_7
    refine lv_iconst (v := nI 1) hx hb dX7_loud_10 (by decide) ?_
    refine lv_goto (tgt := 29) hx hb dX7_loud_11 (by decide) ?_
    refine q_W1 (va_runV (As := [.int (nI 1)]) (rest := []) ⟨hx, hb, hml, hown, hts⟩ (c_X7_holds l hm0 (nI (1))) (cwV 1 hts gX7_loud_X7_holds rfl rfl rfl (by decide +kernel) ⟨Nat.le_of_ble_eq_true rfl, Nat.le_of_ble_eq_true rfl⟩) (q_preV hG hW hS hm0 rfl) rfl rfl hl.1 rfl (lv_room (Nat.le_of_ble_eq_true rfl)) dX7_loud_29 ⟨Nat.le_of_ble_eq_true rfl, Nat.le_of_ble_eq_true rfl⟩) hS (fun w_29 H locs hp29 hW hS => ?_)
    obtain ⟨hm0, fr29⟩ := hp29
    replace hm1 : w_29 37 = some (eN dA 85 F) := (fr29 _ (by omega)).trans hm1
    replace hm38 : w_29 38 = some (eN dA 510 G) := (fr29 _ (by omega)).trans hm38
    replace hm39 : w_29 39 = some (eN dA 170 GS) := (fr29 _ (by omega)).trans hm39
    replace hm40 : w_29 40 = some (eZ dA 2 Zt) := (fr29 _ (by omega)).trans hm40
    replace hm41 : w_29 41 = some (eN dA 80 C) := (fr29 _ (by omega)).trans hm41
    replace hm42 : w_29 42 = some (eN dA 120 D0) := (fr29 _ (by omega)).trans hm42
    replace hm43 : w_29 43 = some (eN dA 120 M0) := (fr29 _ (by omega)).trans hm43
    replace hm44 : w_29 44 = some (eN dA 3 TD) := (fr29 _ (by omega)).trans hm44
    refine q_topv (v' := .int (nI 0)) (congrArg Value.int (by decide)) ?_
    refine lv_if_ne (tgt := 37) hx hb dX7_loud_32 (by decide) (fun c_32 => ?_) (fun c_32 => ?_)
    · skip
      have c_32 : ¬ (0 = 0) := fun h__ => c_32 ((nI_eq0 (i := 0) (by omega)).mpr h__)
      exact absurd c_32 (by omega)
    · skip
      have c_32 : 0 = 0 := (nI_eq0 (i := 0) (by omega)).mp c_32
      refine lv_iconst (v := nI 0) hx hb dX7_loud_35 (by decide) ?_
      exact q_wi hx hb hr hlocks hW hS dX7_loud_36 (by first | (rw [if_neg (fun q9 => absurd q9.1 c_7)]; rfl) | (rw [if_neg (fun q9 => absurd q9.2 c_21)]; rfl)) (by exact ⟨Or.inr (Or.inl ⟨c_7, ⟨_, _, _, _, _, _, _, _, _, _, hm0, hm1, ⟨hRp, hP⟩, hm38, hsv, hm39, hm40, hsl, hm41, hbu, hm42, hm43, hm44⟩⟩), by intro id h9; rw [fr29 id (by omega)]; try rfl⟩) (by decide) (by decide)

set_option maxHeartbeats 300000 in
set_option maxRecDepth 100000 in
/-- shift -/
theorem c_X7_shift_f (l : Launch) {D : va_G} {dA : Nat → Nat} {b : Nat} {w : Wd} {n nc : Nat} {P : Pl} {Hs : Nat → Pl} {SL : Nat → Option Pl} {C : Nat → Nat} {tt : Int32} (hmd : isMod dA b w (P, (n, Hs), SL, (nc, C)) tt) (x y : Int32) : Met l yX7_shift wsX7_shift ({ frames := 2, cells := 0, slots := 0, locals := 45 } : Room) (PC D dA b w [.ref (b + 36), .int (nI 0), .int (x), .int (y)]) (QW D b (some (.int (if (0 ≤ x ∧ x < nI P.n) ∧ (-99 ≤ y ∧ y ≤ 99) ∧ fitI 0 (nI (P.N (i32n x) 0) + y) then nI (P.N (i32n x) 0) + y else 0))) (fun w' => ((((0 ≤ x ∧ x < nI P.n) ∧ (-99 ≤ y ∧ y ≤ 99) ∧ fitI 0 (nI (P.N (i32n x) 0) + y)) ∧ isMod dA b w' ((P.w, P.W, P.n, setV P.N (i32n x) 0 (i32n (nI (P.N (i32n x) 0) + y)), P.S), (pshN n, psh n Hs P), SL, (nc, C)) (nI 0)) ∨ ((¬ (0 ≤ x ∧ x < nI P.n)) ∧ isMod dA b w' (P, (n, Hs), SL, (nc, C)) (nI 1)) ∨ (((0 ≤ x ∧ x < nI P.n) ∧ ¬ ((-99 ≤ y ∧ y ≤ 99) ∧ fitI 0 (nI (P.N (i32n x) 0) + y))) ∧ isMod dA b w' (P, (n, Hs), SL, (nc, C)) (nI 2))) ∧ ∀ id : Nat, (id < 36 ∨ 45 ≤ id) → w' id = w id)) 0 0 (Fb b) := by
  refine q_of (cc := cX7_shift) (maxL := 7) (ret := (some .int)) (by decide) rfl rfl ?_
  intro p e s m args below meth c ls hx hb hr hml hts hown hlocks hG hW hS hl
  have hown : s.vm.findClass RX7 = some m.cls := hown
  have hinX7 : ∀ w ∈ u_ws RX7 TX7 14, w ∈ wsX7_shift := fun w h => (goodIn_r (big := wsX7_shift) (u_ws RX7 TX7 14) [27, 28, 29, 30, 31, 32, 33, 34, 35, 36, 37, 38, 39, 40] (by decide +kernel) (by decide +kernel) w h).1
  have hl : lv_has ls 7 [(0, .ref (b + 36)), (1, .int (nI 0)), (2, .int (x)), (3, .int (y))] := hl
  obtain ⟨pl, lt, dn, F, G, GS, Zt, D0, M0, TD, hm0, hm1, ⟨hRp, hP⟩, hm38, hsv, hm39, hm40, hsl, hm41, hbu, hm42, hm43, hm44⟩ := id hmd
  change w 36 = some (modO b (nI n) (nI nc) tt pl lt dn) at hm0
  change rep F P at hRp
  change okP P at hP
  change mSv n G Hs at hsv
  change mSl GS Zt SL at hsl
  change w 41 = some (eN dA 80 C) at hm41
  change mBu nc C at hbu
  have hn6 := hsv.1
  have hnc := hbu.1
  obtain ⟨hPw, hPn, hPW, hPN, hPS⟩ := id hP
  have hr5 := hRp.2.1
  have hr6 := hRp.2.2.1
  refine lv_aload_n hx hb dX7_shift_0 rfl (lv_at hl 0 rfl) ?_
  refine lv_iload_n hx hb dX7_shift_1 rfl (lv_at hl 1 rfl) ?_
  refine lv_iload_n hx hb dX7_shift_2 rfl (lv_at hl 2 rfl) ?_
  refine q_R1 (va_runV (As := [.int (nI 0), .int (x)]) (rest := []) ⟨hx, hb, hml, hown, hts⟩ (c_isCueN l hm0 hm1 hRp hP (x)) (cwV 2 hts gX7_shift_X7_isCue rfl rfl rfl (by decide +kernel) ⟨Nat.le_of_ble_eq_true rfl, Nat.le_of_ble_eq_true rfl⟩) (q_preV hG hW hS hm0 rfl) rfl rfl hl.1 rfl (lv_room (Nat.le_of_ble_eq_true rfl)) dX7_shift_3 ⟨Nat.le_of_ble_eq_true rfl, Nat.le_of_ble_eq_true rfl⟩) ?_
  refine lv_istore (lv' := [(4, .int (if 0 ≤ x ∧ x < nI P.n then 1 else 0)), (0, .ref (b + 36)), (1, .int (nI 0)), (2, .int (x)), (3, .int (y))]) hx hb dX7_shift_6 hl (by decide) rfl (fun ls hl => ?_)
  refine lv_iload hx hb dX7_shift_8 (lv_at hl 0 rfl) ?_
  refine lv_if_eq (tgt := 21) hx hb dX7_shift_10 (by decide) (fun c_10 => ?_) (fun c_10 => ?_)
  · skip
    have c_10 : ¬ (0 ≤ x ∧ x < nI P.n) := pI_eq0.mp c_10
    refine lv_bipush (v := nI 7) hx hb dX7_shift_21 (by decide) ?_
    refine lv_istore (lv' := [(5, .int (nI 7)), (4, .int (if 0 ≤ x ∧ x < nI P.n then 1 else 0)), (0, .ref (b + 36)), (1, .int (nI 0)), (2, .int (x)), (3, .int (y))]) hx hb dX7_shift_23 hl (by decide) rfl (fun ls hl => ?_)
    refine lv_iload_n hx hb dX7_shift_25 rfl (lv_at hl 5 rfl) ?_
    refine lv_bipush (v := (-99)) hx hb dX7_shift_26 (by decide) ?_
    refine lv_bipush (v := nI 99) hx hb dX7_shift_28 (by decide) ?_
    refine q_R1 (va_runS (As := [.int (y), .int (-99), .int (nI 99)]) (rest := []) ⟨hx, hb, hml, hown, hts⟩ (c_X7_in l (y) (-99) (nI (99))) (va_cwS 3 hts gX7_shift_X7_in rfl rfl rfl (by decide +kernel) ⟨Nat.le_of_ble_eq_true rfl, Nat.le_of_ble_eq_true rfl⟩) (q_preS hG hW hS) rfl rfl hl.1 rfl (lv_room (Nat.le_of_ble_eq_true rfl)) dX7_shift_30 ⟨Nat.le_of_ble_eq_true rfl, Nat.le_of_ble_eq_true rfl⟩) ?_
    refine lv_if_eq (tgt := 60) hx hb dX7_shift_33 (by decide) (fun c_33 => ?_) (fun c_33 => ?_)
    · skip
      have c_33 : ¬ ((-99) ≤ (y) ∧ (y) ≤ (nI (99))) := pI_eq0.mp c_33
      refine lv_iconst (v := nI 0) hx hb dX7_shift_60 (by decide) ?_
      refine lv_istore (lv' := [(6, .int (nI 0)), (5, .int (nI 7)), (4, .int (if 0 ≤ x ∧ x < nI P.n then 1 else 0)), (0, .ref (b + 36)), (1, .int (nI 0)), (2, .int (x)), (3, .int (y))]) hx hb dX7_shift_61 hl (by decide) rfl (fun ls hl => ?_)
      refine lv_aload_n hx hb dX7_shift_63 rfl (lv_at hl 3 rfl) ?_
      refine lv_iload hx hb dX7_shift_64 (lv_at hl 2 rfl) ?_
      refine lv_if_ne (tgt := 73) hx hb dX7_shift_66 (by decide) (fun c_66 => ?_) (fun c_66 => ?_)
      · skip
        have c_66 : 0 ≤ x ∧ x < nI P.n := Decidable.byContradiction (fun h__ => c_66 (pI_eq0.mpr h__))
        exact absurd c_66 c_10
      · skip
        have c_66 : ¬ (0 ≤ x ∧ x < nI P.n) := pI_eq0.mp c_66
        refine lv_iconst (v := nI 1) hx hb dX7_shift_69 (by decide) ?_
        refine lv_goto (tgt := 83) hx hb dX7_shift_70 (by decide) ?_
        refine q_W1 (va_runV (As := [.int (nI 1)]) (rest := []) ⟨hx, hb, hml, hown, hts⟩ (c_X7_holds l hm0 (nI (1))) (cwV 1 hts gX7_shift_X7_holds rfl rfl rfl (by decide +kernel) ⟨Nat.le_of_ble_eq_true rfl, Nat.le_of_ble_eq_true rfl⟩) (q_preV hG hW hS hm0 rfl) rfl rfl hl.1 rfl (lv_room (Nat.le_of_ble_eq_true rfl)) dX7_shift_83 ⟨Nat.le_of_ble_eq_true rfl, Nat.le_of_ble_eq_true rfl⟩) hS (fun w_83 H locs hp83 hW hS => ?_)
        obtain ⟨hm0, fr83⟩ := hp83
        replace hm1 : w_83 37 = some (eN dA 85 F) := (fr83 _ (by omega)).trans hm1
        replace hm38 : w_83 38 = some (eN dA 510 G) := (fr83 _ (by omega)).trans hm38
        replace hm39 : w_83 39 = some (eN dA 170 GS) := (fr83 _ (by omega)).trans hm39
        replace hm40 : w_83 40 = some (eZ dA 2 Zt) := (fr83 _ (by omega)).trans hm40
        replace hm41 : w_83 41 = some (eN dA 80 C) := (fr83 _ (by omega)).trans hm41
        replace hm42 : w_83 42 = some (eN dA 120 D0) := (fr83 _ (by omega)).trans hm42
        replace hm43 : w_83 43 = some (eN dA 120 M0) := (fr83 _ (by omega)).trans hm43
        replace hm44 : w_83 44 = some (eN dA 3 TD) := (fr83 _ (by omega)).trans hm44
        refine q_topv (v' := .int (nI 0)) (congrArg Value.int (by decide)) ?_
        refine lv_if_ne (tgt := 91) hx hb dX7_shift_86 (by decide) (fun c_86 => ?_) (fun c_86 => ?_)
        · skip
          have c_86 : ¬ (0 = 0) := fun h__ => c_86 ((nI_eq0 (i := 0) (by omega)).mpr h__)
          exact absurd c_86 (by omega)
        · skip
          have c_86 : 0 = 0 := (nI_eq0 (i := 0) (by omega)).mp c_86
          refine lv_iconst (v := nI 0) hx hb dX7_shift_89 (by decide) ?_
          exact q_wi hx hb hr hlocks hW hS dX7_shift_90 (by rw [if_neg (by first | exact fun q9 => c_10 q9.1 | exact fun q9 => c_33 q9.2.1 | exact fun q9 => c_53 q9.2.2)]; rfl) (by exact ⟨Or.inr (Or.inl ⟨c_10, ⟨_, _, _, _, _, _, _, _, _, _, hm0, hm1, ⟨hRp, hP⟩, hm38, hsv, hm39, hm40, hsl, hm41, hbu, hm42, hm43, hm44⟩⟩), by intro id h9; rw [fr83 id (by omega)]; try rfl⟩) (by decide) (by decide)
    · skip
      have c_33 : (-99) ≤ (y) ∧ (y) ≤ (nI (99)) := Decidable.byContradiction (fun h__ => c_33 (pI_eq0.mpr h__))
      refine lv_aload_n hx hb dX7_shift_36 rfl (lv_at hl 2 rfl) ?_
      refine q_get hx hb hts hinX7 hown hG hW hm0 rfl 0 (by decide) (hts (.fieldLink RX7 7 "FoleyMixerModel" "s" "[I") (List.mem_of_getElem? (i := 1) rfl)) rfl rfl dX7_shift_37 ?_
      refine lv_iload hx hb dX7_shift_40 (lv_at hl 0 rfl) ?_
      refine lv_iconst (v := nI 0) hx hb dX7_shift_42 (by decide) ?_
      refine lv_iadd hx hb dX7_shift_43 ?_
      refine q_top (y := nI (7)) (nI_add _ _) ?_
      refine q_iald hx hb hG hW hm1 (by omega) (by omega) dX7_shift_44 ?_
      refine lv_iload_n hx hb dX7_shift_45 rfl (lv_at hl 5 rfl) ?_
      refine lv_iadd hx hb dX7_shift_46 ?_
      refine lv_iconst (v := nI 0) hx hb dX7_shift_47 (by decide) ?_
      refine lv_bipush (v := nI 99) hx hb dX7_shift_48 (by decide) ?_
      refine q_R1 (va_runS (As := [.int ((nI (F 7)) + y), .int (nI 0), .int (nI 99)]) (rest := []) ⟨hx, hb, hml, hown, hts⟩ (c_X7_in l ((nI (F 7)) + y) (nI (0)) (nI (99))) (va_cwS 3 hts gX7_shift_X7_in rfl rfl rfl (by decide +kernel) ⟨Nat.le_of_ble_eq_true rfl, Nat.le_of_ble_eq_true rfl⟩) (q_preS hG hW hS) rfl rfl hl.1 rfl (lv_room (Nat.le_of_ble_eq_true rfl)) dX7_shift_50 ⟨Nat.le_of_ble_eq_true rfl, Nat.le_of_ble_eq_true rfl⟩) ?_
      refine lv_if_eq (tgt := 60) hx hb dX7_shift_53 (by decide) (fun c_53 => ?_) (fun c_53 => ?_)
      · skip
        have c_53 : ¬ ((nI (0)) ≤ ((nI (F 7)) + y) ∧ ((nI (F 7)) + y) ≤ (nI (99))) := pI_eq0.mp c_53
        refine lv_iconst (v := nI 0) hx hb dX7_shift_60 (by decide) ?_
        refine lv_istore (lv' := [(6, .int (nI 0)), (5, .int (nI 7)), (4, .int (if 0 ≤ x ∧ x < nI P.n then 1 else 0)), (0, .ref (b + 36)), (1, .int (nI 0)), (2, .int (x)), (3, .int (y))]) hx hb dX7_shift_61 hl (by decide) rfl (fun ls hl => ?_)
        refine lv_aload_n hx hb dX7_shift_63 rfl (lv_at hl 3 rfl) ?_
        refine lv_iload hx hb dX7_shift_64 (lv_at hl 2 rfl) ?_
        refine lv_if_ne (tgt := 73) hx hb dX7_shift_66 (by decide) (fun c_66 => ?_) (fun c_66 => ?_)
        · skip
          have c_66 : 0 ≤ x ∧ x < nI P.n := Decidable.byContradiction (fun h__ => c_66 (pI_eq0.mpr h__))
          exact absurd c_66 c_10
        · skip
          have c_66 : ¬ (0 ≤ x ∧ x < nI P.n) := pI_eq0.mp c_66
          refine lv_iconst (v := nI 1) hx hb dX7_shift_69 (by decide) ?_
          refine lv_goto (tgt := 83) hx hb dX7_shift_70 (by decide) ?_
          refine q_W1 (va_runV (As := [.int (nI 1)]) (rest := []) ⟨hx, hb, hml, hown, hts⟩ (c_X7_holds l hm0 (nI (1))) (cwV 1 hts gX7_shift_X7_holds rfl rfl rfl (by decide +kernel) ⟨Nat.le_of_ble_eq_true rfl, Nat.le_of_ble_eq_true rfl⟩) (q_preV hG hW hS hm0 rfl) rfl rfl hl.1 rfl (lv_room (Nat.le_of_ble_eq_true rfl)) dX7_shift_83 ⟨Nat.le_of_ble_eq_true rfl, Nat.le_of_ble_eq_true rfl⟩) hS (fun w_83 H locs hp83 hW hS => ?_)
          obtain ⟨hm0, fr83⟩ := hp83
          replace hm1 : w_83 37 = some (eN dA 85 F) := (fr83 _ (by omega)).trans hm1
          replace hm38 : w_83 38 = some (eN dA 510 G) := (fr83 _ (by omega)).trans hm38
          replace hm39 : w_83 39 = some (eN dA 170 GS) := (fr83 _ (by omega)).trans hm39
          replace hm40 : w_83 40 = some (eZ dA 2 Zt) := (fr83 _ (by omega)).trans hm40
          replace hm41 : w_83 41 = some (eN dA 80 C) := (fr83 _ (by omega)).trans hm41
          replace hm42 : w_83 42 = some (eN dA 120 D0) := (fr83 _ (by omega)).trans hm42
          replace hm43 : w_83 43 = some (eN dA 120 M0) := (fr83 _ (by omega)).trans hm43
          replace hm44 : w_83 44 = some (eN dA 3 TD) := (fr83 _ (by omega)).trans hm44
          refine q_topv (v' := .int (nI 0)) (congrArg Value.int (by decide)) ?_
          refine lv_if_ne (tgt := 91) hx hb dX7_shift_86 (by decide) (fun c_86 => ?_) (fun c_86 => ?_)
          · skip
            have c_86 : ¬ (0 = 0) := fun h__ => c_86 ((nI_eq0 (i := 0) (by omega)).mpr h__)
            exact absurd c_86 (by omega)
          · skip
            have c_86 : 0 = 0 := (nI_eq0 (i := 0) (by omega)).mp c_86
            refine lv_iconst (v := nI 0) hx hb dX7_shift_89 (by decide) ?_
            exact q_wi hx hb hr hlocks hW hS dX7_shift_90 (by rw [if_neg (by first | exact fun q9 => c_10 q9.1 | exact fun q9 => c_33 q9.2.1 | exact fun q9 => c_53 q9.2.2)]; rfl) (by exact ⟨Or.inr (Or.inl ⟨c_10, ⟨_, _, _, _, _, _, _, _, _, _, hm0, hm1, ⟨hRp, hP⟩, hm38, hsv, hm39, hm40, hsl, hm41, hbu, hm42, hm43, hm44⟩⟩), by intro id h9; rw [fr83 id (by omega)]; try rfl⟩) (by decide) (by decide)
      · skip
        have c_53 : (nI (0)) ≤ ((nI (F 7)) + y) ∧ ((nI (F 7)) + y) ≤ (nI (99)) := Decidable.byContradiction (fun h__ => c_53 (pI_eq0.mpr h__))
        refine lv_iconst (v := nI 1) hx hb dX7_shift_56 (by decide) ?_
        refine lv_goto (tgt := 61) hx hb dX7_shift_57 (by decide) ?_
        refine lv_istore (lv' := [(6, .int (nI 1)), (5, .int (nI 7)), (4, .int (if 0 ≤ x ∧ x < nI P.n then 1 else 0)), (0, .ref (b + 36)), (1, .int (nI 0)), (2, .int (x)), (3, .int (y))]) hx hb dX7_shift_61 hl (by decide) rfl (fun ls hl => ?_)
        refine lv_aload_n hx hb dX7_shift_63 rfl (lv_at hl 3 rfl) ?_
        refine lv_iload hx hb dX7_shift_64 (lv_at hl 2 rfl) ?_
        refine lv_if_ne (tgt := 73) hx hb dX7_shift_66 (by decide) (fun c_66 => ?_) (fun c_66 => ?_)
        · skip
          have c_66 : 0 ≤ x ∧ x < nI P.n := Decidable.byContradiction (fun h__ => c_66 (pI_eq0.mpr h__))
          exact absurd c_66 c_10
        · skip
          have c_66 : ¬ (0 ≤ x ∧ x < nI P.n) := pI_eq0.mp c_66
          refine lv_iconst (v := nI 1) hx hb dX7_shift_69 (by decide) ?_
          refine lv_goto (tgt := 83) hx hb dX7_shift_70 (by decide) ?_
          refine q_W1 (va_runV (As := [.int (nI 1)]) (rest := []) ⟨hx, hb, hml, hown, hts⟩ (c_X7_holds l hm0 (nI (1))) (cwV 1 hts gX7_shift_X7_holds rfl rfl rfl (by decide +kernel) ⟨Nat.le_of_ble_eq_true rfl, Nat.le_of_ble_eq_true rfl⟩) (q_preV hG hW hS hm0 rfl) rfl rfl hl.1 rfl (lv_room (Nat.le_of_ble_eq_true rfl)) dX7_shift_83 ⟨Nat.le_of_ble_eq_true rfl, Nat.le_of_ble_eq_true rfl⟩) hS (fun w_83 H locs hp83 hW hS => ?_)
          obtain ⟨hm0, fr83⟩ := hp83
          replace hm1 : w_83 37 = some (eN dA 85 F) := (fr83 _ (by omega)).trans hm1
          replace hm38 : w_83 38 = some (eN dA 510 G) := (fr83 _ (by omega)).trans hm38
          replace hm39 : w_83 39 = some (eN dA 170 GS) := (fr83 _ (by omega)).trans hm39
          replace hm40 : w_83 40 = some (eZ dA 2 Zt) := (fr83 _ (by omega)).trans hm40
          replace hm41 : w_83 41 = some (eN dA 80 C) := (fr83 _ (by omega)).trans hm41
          replace hm42 : w_83 42 = some (eN dA 120 D0) := (fr83 _ (by omega)).trans hm42
          replace hm43 : w_83 43 = some (eN dA 120 M0) := (fr83 _ (by omega)).trans hm43
          replace hm44 : w_83 44 = some (eN dA 3 TD) := (fr83 _ (by omega)).trans hm44
          refine q_topv (v' := .int (nI 0)) (congrArg Value.int (by decide)) ?_
          refine lv_if_ne (tgt := 91) hx hb dX7_shift_86 (by decide) (fun c_86 => ?_) (fun c_86 => ?_)
          · skip
            have c_86 : ¬ (0 = 0) := fun h__ => c_86 ((nI_eq0 (i := 0) (by omega)).mpr h__)
            exact absurd c_86 (by omega)
          · skip
            have c_86 : 0 = 0 := (nI_eq0 (i := 0) (by omega)).mp c_86
            refine lv_iconst (v := nI 0) hx hb dX7_shift_89 (by decide) ?_
            exact q_wi hx hb hr hlocks hW hS dX7_shift_90 (by rw [if_neg (by first | exact fun q9 => c_10 q9.1 | exact fun q9 => c_33 q9.2.1 | exact fun q9 => c_53 q9.2.2)]; rfl) (by exact ⟨Or.inr (Or.inl ⟨c_10, ⟨_, _, _, _, _, _, _, _, _, _, hm0, hm1, ⟨hRp, hP⟩, hm38, hsv, hm39, hm40, hsl, hm41, hbu, hm42, hm43, hm44⟩⟩), by intro id h9; rw [fr83 id (by omega)]; try rfl⟩) (by decide) (by decide)
  · skip
    have c_10 : 0 ≤ x ∧ x < nI P.n := Decidable.byContradiction (fun h__ => c_10 (pI_eq0.mpr h__))
    obtain ⟨ex9, bx9⟩ := has_n (by omega) c_10.1 c_10.2
    have el_13 : x = nI (i32n x) := by exact ex9
    rw [el_13] at hl
    refine lv_iload_n hx hb dX7_shift_13 rfl (lv_at hl 2 rfl) ?_
    refine lv_iload_n hx hb dX7_shift_14 rfl (lv_at hl 3 rfl) ?_
    refine q_R1 (va_runS (As := [.int (nI 0), .int (nI (i32n x))]) (rest := []) ⟨hx, hb, hml, hown, hts⟩ (c_X7_whereIs_f l (i32n x)) (va_cwS 2 hts gX7_shift_X7_whereIs rfl rfl rfl (by decide +kernel) ⟨Nat.le_of_ble_eq_true rfl, Nat.le_of_ble_eq_true rfl⟩) (q_preS hG hW hS) rfl rfl hl.1 rfl (lv_room (Nat.le_of_ble_eq_true rfl)) dX7_shift_15 ⟨Nat.le_of_ble_eq_true rfl, Nat.le_of_ble_eq_true rfl⟩) ?_
    refine lv_goto (tgt := 23) hx hb dX7_shift_18 (by decide) ?_
    refine lv_istore (lv' := [(5, .int (nI (37 + 4 * (i32n x)))), (4, .int (if 0 ≤ nI (i32n x) ∧ nI (i32n x) < nI P.n then 1 else 0)), (0, .ref (b + 36)), (1, .int (nI 0)), (2, .int (nI (i32n x))), (3, .int (y))]) hx hb dX7_shift_23 hl (by decide) rfl (fun ls hl => ?_)
    refine lv_iload_n hx hb dX7_shift_25 rfl (lv_at hl 5 rfl) ?_
    refine lv_bipush (v := (-99)) hx hb dX7_shift_26 (by decide) ?_
    refine lv_bipush (v := nI 99) hx hb dX7_shift_28 (by decide) ?_
    refine q_R1 (va_runS (As := [.int (y), .int (-99), .int (nI 99)]) (rest := []) ⟨hx, hb, hml, hown, hts⟩ (c_X7_in l (y) (-99) (nI (99))) (va_cwS 3 hts gX7_shift_X7_in rfl rfl rfl (by decide +kernel) ⟨Nat.le_of_ble_eq_true rfl, Nat.le_of_ble_eq_true rfl⟩) (q_preS hG hW hS) rfl rfl hl.1 rfl (lv_room (Nat.le_of_ble_eq_true rfl)) dX7_shift_30 ⟨Nat.le_of_ble_eq_true rfl, Nat.le_of_ble_eq_true rfl⟩) ?_
    refine lv_if_eq (tgt := 60) hx hb dX7_shift_33 (by decide) (fun c_33 => ?_) (fun c_33 => ?_)
    · skip
      have c_33 : ¬ ((-99) ≤ (y) ∧ (y) ≤ (nI (99))) := pI_eq0.mp c_33
      refine lv_iconst (v := nI 0) hx hb dX7_shift_60 (by decide) ?_
      refine lv_istore (lv' := [(6, .int (nI 0)), (5, .int (nI (37 + 4 * (i32n x)))), (4, .int (if 0 ≤ nI (i32n x) ∧ nI (i32n x) < nI P.n then 1 else 0)), (0, .ref (b + 36)), (1, .int (nI 0)), (2, .int (nI (i32n x))), (3, .int (y))]) hx hb dX7_shift_61 hl (by decide) rfl (fun ls hl => ?_)
      refine lv_aload_n hx hb dX7_shift_63 rfl (lv_at hl 3 rfl) ?_
      refine lv_iload hx hb dX7_shift_64 (lv_at hl 2 rfl) ?_
      refine lv_if_ne (tgt := 73) hx hb dX7_shift_66 (by decide) (fun c_66 => ?_) (fun c_66 => ?_)
      · skip
        have c_66 : 0 ≤ nI (i32n x) ∧ nI (i32n x) < nI P.n := Decidable.byContradiction (fun h__ => c_66 (pI_eq0.mpr h__))
        refine lv_iload hx hb dX7_shift_73 (lv_at hl 0 rfl) ?_
        refine lv_if_eq (tgt := 82) hx hb dX7_shift_75 (by decide) (fun c_75 => ?_) (fun c_75 => ?_)
        · skip
          have c_75 : 0 = 0 := (nI_eq0 (i := 0) (by omega)).mp c_75
          refine lv_iconst (v := nI 2) hx hb dX7_shift_82 (by decide) ?_
          refine q_W1 (va_runV (As := [.int (nI 2)]) (rest := []) ⟨hx, hb, hml, hown, hts⟩ (c_X7_holds l hm0 (nI (2))) (cwV 1 hts gX7_shift_X7_holds rfl rfl rfl (by decide +kernel) ⟨Nat.le_of_ble_eq_true rfl, Nat.le_of_ble_eq_true rfl⟩) (q_preV hG hW hS hm0 rfl) rfl rfl hl.1 rfl (lv_room (Nat.le_of_ble_eq_true rfl)) dX7_shift_83 ⟨Nat.le_of_ble_eq_true rfl, Nat.le_of_ble_eq_true rfl⟩) hS (fun w_83 H locs hp83 hW hS => ?_)
          obtain ⟨hm0, fr83⟩ := hp83
          replace hm1 : w_83 37 = some (eN dA 85 F) := (fr83 _ (by omega)).trans hm1
          replace hm38 : w_83 38 = some (eN dA 510 G) := (fr83 _ (by omega)).trans hm38
          replace hm39 : w_83 39 = some (eN dA 170 GS) := (fr83 _ (by omega)).trans hm39
          replace hm40 : w_83 40 = some (eZ dA 2 Zt) := (fr83 _ (by omega)).trans hm40
          replace hm41 : w_83 41 = some (eN dA 80 C) := (fr83 _ (by omega)).trans hm41
          replace hm42 : w_83 42 = some (eN dA 120 D0) := (fr83 _ (by omega)).trans hm42
          replace hm43 : w_83 43 = some (eN dA 120 M0) := (fr83 _ (by omega)).trans hm43
          replace hm44 : w_83 44 = some (eN dA 3 TD) := (fr83 _ (by omega)).trans hm44
          refine q_topv (v' := .int (nI 0)) (congrArg Value.int (by decide)) ?_
          refine lv_if_ne (tgt := 91) hx hb dX7_shift_86 (by decide) (fun c_86 => ?_) (fun c_86 => ?_)
          · skip
            have c_86 : ¬ (0 = 0) := fun h__ => c_86 ((nI_eq0 (i := 0) (by omega)).mpr h__)
            exact absurd c_86 (by omega)
          · skip
            have c_86 : 0 = 0 := (nI_eq0 (i := 0) (by omega)).mp c_86
            refine lv_iconst (v := nI 0) hx hb dX7_shift_89 (by decide) ?_
            exact q_wi hx hb hr hlocks hW hS dX7_shift_90 (by rw [if_neg (by first | exact fun q9 => c_10 q9.1 | exact fun q9 => c_33 q9.2.1 | exact fun q9 => c_53 q9.2.2)]; rfl) (by exact ⟨Or.inr (Or.inr ⟨⟨c_10, by first | exact fun q9 => c_33 q9.1 | exact fun q9 => c_53 q9.2⟩, ⟨_, _, _, _, _, _, _, _, _, _, hm0, hm1, ⟨hRp, hP⟩, hm38, hsv, hm39, hm40, hsl, hm41, hbu, hm42, hm43, hm44⟩⟩), by intro id h9; rw [fr83 id (by omega)]; try rfl⟩) (by decide) (by decide)
        · skip
          have c_75 : ¬ (0 = 0) := fun h__ => c_75 ((nI_eq0 (i := 0) (by omega)).mpr h__)
          exact absurd c_75 (by omega)
      · skip
        have c_66 : ¬ (0 ≤ nI (i32n x) ∧ nI (i32n x) < nI P.n) := pI_eq0.mp c_66
        exact absurd (by rw [← ex9]; exact c_10) c_66
    · skip
      have c_33 : (-99) ≤ (y) ∧ (y) ≤ (nI (99)) := Decidable.byContradiction (fun h__ => c_33 (pI_eq0.mpr h__))
      refine lv_aload_n hx hb dX7_shift_36 rfl (lv_at hl 2 rfl) ?_
      refine q_get hx hb hts hinX7 hown hG hW hm0 rfl 0 (by decide) (hts (.fieldLink RX7 7 "FoleyMixerModel" "s" "[I") (List.mem_of_getElem? (i := 1) rfl)) rfl rfl dX7_shift_37 ?_
      refine lv_iload hx hb dX7_shift_40 (lv_at hl 0 rfl) ?_
      refine lv_iconst (v := nI 0) hx hb dX7_shift_42 (by decide) ?_
      refine lv_iadd hx hb dX7_shift_43 ?_
      refine q_top (y := nI ((37 + 4 * (i32n x)) + 0)) (nI_add _ _) ?_
      refine q_iald hx hb hG hW hm1 (by omega) (by omega) dX7_shift_44 ?_
      refine q_top (y := nI (P.N (i32n x) 0)) (by exact congrArg nI (hRp.2.2.2.2 _ bx9 0 (by decide))) ?_
      refine lv_iload_n hx hb dX7_shift_45 rfl (lv_at hl 5 rfl) ?_
      refine lv_iadd hx hb dX7_shift_46 ?_
      refine lv_iconst (v := nI 0) hx hb dX7_shift_47 (by decide) ?_
      refine lv_bipush (v := nI 99) hx hb dX7_shift_48 (by decide) ?_
      refine q_R1 (va_runS (As := [.int ((nI (P.N (i32n x) 0)) + y), .int (nI 0), .int (nI 99)]) (rest := []) ⟨hx, hb, hml, hown, hts⟩ (c_X7_in l ((nI (P.N (i32n x) 0)) + y) (nI (0)) (nI (99))) (va_cwS 3 hts gX7_shift_X7_in rfl rfl rfl (by decide +kernel) ⟨Nat.le_of_ble_eq_true rfl, Nat.le_of_ble_eq_true rfl⟩) (q_preS hG hW hS) rfl rfl hl.1 rfl (lv_room (Nat.le_of_ble_eq_true rfl)) dX7_shift_50 ⟨Nat.le_of_ble_eq_true rfl, Nat.le_of_ble_eq_true rfl⟩) ?_
      refine lv_if_eq (tgt := 60) hx hb dX7_shift_53 (by decide) (fun c_53 => ?_) (fun c_53 => ?_)
      · skip
        have c_53 : ¬ ((nI (0)) ≤ ((nI (P.N (i32n x) 0)) + y) ∧ ((nI (P.N (i32n x) 0)) + y) ≤ (nI (99))) := pI_eq0.mp c_53
        refine lv_iconst (v := nI 0) hx hb dX7_shift_60 (by decide) ?_
        refine lv_istore (lv' := [(6, .int (nI 0)), (5, .int (nI (37 + 4 * (i32n x)))), (4, .int (if 0 ≤ nI (i32n x) ∧ nI (i32n x) < nI P.n then 1 else 0)), (0, .ref (b + 36)), (1, .int (nI 0)), (2, .int (nI (i32n x))), (3, .int (y))]) hx hb dX7_shift_61 hl (by decide) rfl (fun ls hl => ?_)
        refine lv_aload_n hx hb dX7_shift_63 rfl (lv_at hl 3 rfl) ?_
        refine lv_iload hx hb dX7_shift_64 (lv_at hl 2 rfl) ?_
        refine lv_if_ne (tgt := 73) hx hb dX7_shift_66 (by decide) (fun c_66 => ?_) (fun c_66 => ?_)
        · skip
          have c_66 : 0 ≤ nI (i32n x) ∧ nI (i32n x) < nI P.n := Decidable.byContradiction (fun h__ => c_66 (pI_eq0.mpr h__))
          refine lv_iload hx hb dX7_shift_73 (lv_at hl 0 rfl) ?_
          refine lv_if_eq (tgt := 82) hx hb dX7_shift_75 (by decide) (fun c_75 => ?_) (fun c_75 => ?_)
          · skip
            have c_75 : 0 = 0 := (nI_eq0 (i := 0) (by omega)).mp c_75
            refine lv_iconst (v := nI 2) hx hb dX7_shift_82 (by decide) ?_
            refine q_W1 (va_runV (As := [.int (nI 2)]) (rest := []) ⟨hx, hb, hml, hown, hts⟩ (c_X7_holds l hm0 (nI (2))) (cwV 1 hts gX7_shift_X7_holds rfl rfl rfl (by decide +kernel) ⟨Nat.le_of_ble_eq_true rfl, Nat.le_of_ble_eq_true rfl⟩) (q_preV hG hW hS hm0 rfl) rfl rfl hl.1 rfl (lv_room (Nat.le_of_ble_eq_true rfl)) dX7_shift_83 ⟨Nat.le_of_ble_eq_true rfl, Nat.le_of_ble_eq_true rfl⟩) hS (fun w_83 H locs hp83 hW hS => ?_)
            obtain ⟨hm0, fr83⟩ := hp83
            replace hm1 : w_83 37 = some (eN dA 85 F) := (fr83 _ (by omega)).trans hm1
            replace hm38 : w_83 38 = some (eN dA 510 G) := (fr83 _ (by omega)).trans hm38
            replace hm39 : w_83 39 = some (eN dA 170 GS) := (fr83 _ (by omega)).trans hm39
            replace hm40 : w_83 40 = some (eZ dA 2 Zt) := (fr83 _ (by omega)).trans hm40
            replace hm41 : w_83 41 = some (eN dA 80 C) := (fr83 _ (by omega)).trans hm41
            replace hm42 : w_83 42 = some (eN dA 120 D0) := (fr83 _ (by omega)).trans hm42
            replace hm43 : w_83 43 = some (eN dA 120 M0) := (fr83 _ (by omega)).trans hm43
            replace hm44 : w_83 44 = some (eN dA 3 TD) := (fr83 _ (by omega)).trans hm44
            refine q_topv (v' := .int (nI 0)) (congrArg Value.int (by decide)) ?_
            refine lv_if_ne (tgt := 91) hx hb dX7_shift_86 (by decide) (fun c_86 => ?_) (fun c_86 => ?_)
            · skip
              have c_86 : ¬ (0 = 0) := fun h__ => c_86 ((nI_eq0 (i := 0) (by omega)).mpr h__)
              exact absurd c_86 (by omega)
            · skip
              have c_86 : 0 = 0 := (nI_eq0 (i := 0) (by omega)).mp c_86
              refine lv_iconst (v := nI 0) hx hb dX7_shift_89 (by decide) ?_
              exact q_wi hx hb hr hlocks hW hS dX7_shift_90 (by rw [if_neg (by first | exact fun q9 => c_10 q9.1 | exact fun q9 => c_33 q9.2.1 | exact fun q9 => c_53 q9.2.2)]; rfl) (by exact ⟨Or.inr (Or.inr ⟨⟨c_10, by first | exact fun q9 => c_33 q9.1 | exact fun q9 => c_53 q9.2⟩, ⟨_, _, _, _, _, _, _, _, _, _, hm0, hm1, ⟨hRp, hP⟩, hm38, hsv, hm39, hm40, hsl, hm41, hbu, hm42, hm43, hm44⟩⟩), by intro id h9; rw [fr83 id (by omega)]; try rfl⟩) (by decide) (by decide)
          · skip
            have c_75 : ¬ (0 = 0) := fun h__ => c_75 ((nI_eq0 (i := 0) (by omega)).mpr h__)
            exact absurd c_75 (by omega)
        · skip
          have c_66 : ¬ (0 ≤ nI (i32n x) ∧ nI (i32n x) < nI P.n) := pI_eq0.mp c_66
          exact absurd (by rw [← ex9]; exact c_10) c_66
      · skip
        have c_53 : (nI (0)) ≤ ((nI (P.N (i32n x) 0)) + y) ∧ ((nI (P.N (i32n x) 0)) + y) ≤ (nI (99)) := Decidable.byContradiction (fun h__ => c_53 (pI_eq0.mpr h__))
        refine lv_iconst (v := nI 1) hx hb dX7_shift_56 (by decide) ?_
        refine lv_goto (tgt := 61) hx hb dX7_shift_57 (by decide) ?_
        refine lv_istore (lv' := [(6, .int (nI 1)), (5, .int (nI (37 + 4 * (i32n x)))), (4, .int (if 0 ≤ nI (i32n x) ∧ nI (i32n x) < nI P.n then 1 else 0)), (0, .ref (b + 36)), (1, .int (nI 0)), (2, .int (nI (i32n x))), (3, .int (y))]) hx hb dX7_shift_61 hl (by decide) rfl (fun ls hl => ?_)
        refine lv_aload_n hx hb dX7_shift_63 rfl (lv_at hl 3 rfl) ?_
        refine lv_iload hx hb dX7_shift_64 (lv_at hl 2 rfl) ?_
        refine lv_if_ne (tgt := 73) hx hb dX7_shift_66 (by decide) (fun c_66 => ?_) (fun c_66 => ?_)
        · skip
          have c_66 : 0 ≤ nI (i32n x) ∧ nI (i32n x) < nI P.n := Decidable.byContradiction (fun h__ => c_66 (pI_eq0.mpr h__))
          refine lv_iload hx hb dX7_shift_73 (lv_at hl 0 rfl) ?_
          refine lv_if_eq (tgt := 82) hx hb dX7_shift_75 (by decide) (fun c_75 => ?_) (fun c_75 => ?_)
          · skip
            have c_75 : 1 = 0 := (nI_eq0 (i := 1) (by omega)).mp c_75
            exact absurd c_75 (by omega)
          · skip
            have c_75 : ¬ (1 = 0) := fun h__ => c_75 ((nI_eq0 (i := 1) (by omega)).mpr h__)
            refine lv_iconst (v := nI 0) hx hb dX7_shift_78 (by decide) ?_
            refine lv_goto (tgt := 83) hx hb dX7_shift_79 (by decide) ?_
            refine q_W1 (va_runV (As := [.int (nI 0)]) (rest := []) ⟨hx, hb, hml, hown, hts⟩ (c_X7_holds l hm0 (nI (0))) (cwV 1 hts gX7_shift_X7_holds rfl rfl rfl (by decide +kernel) ⟨Nat.le_of_ble_eq_true rfl, Nat.le_of_ble_eq_true rfl⟩) (q_preV hG hW hS hm0 rfl) rfl rfl hl.1 rfl (lv_room (Nat.le_of_ble_eq_true rfl)) dX7_shift_83 ⟨Nat.le_of_ble_eq_true rfl, Nat.le_of_ble_eq_true rfl⟩) hS (fun w_83 H locs hp83 hW hS => ?_)
            obtain ⟨hm0, fr83⟩ := hp83
            replace hm1 : w_83 37 = some (eN dA 85 F) := (fr83 _ (by omega)).trans hm1
            replace hm38 : w_83 38 = some (eN dA 510 G) := (fr83 _ (by omega)).trans hm38
            replace hm39 : w_83 39 = some (eN dA 170 GS) := (fr83 _ (by omega)).trans hm39
            replace hm40 : w_83 40 = some (eZ dA 2 Zt) := (fr83 _ (by omega)).trans hm40
            replace hm41 : w_83 41 = some (eN dA 80 C) := (fr83 _ (by omega)).trans hm41
            replace hm42 : w_83 42 = some (eN dA 120 D0) := (fr83 _ (by omega)).trans hm42
            replace hm43 : w_83 43 = some (eN dA 120 M0) := (fr83 _ (by omega)).trans hm43
            replace hm44 : w_83 44 = some (eN dA 3 TD) := (fr83 _ (by omega)).trans hm44
            refine q_topv (v' := .int (nI 1)) (congrArg Value.int (by decide)) ?_
            refine lv_if_ne (tgt := 91) hx hb dX7_shift_86 (by decide) (fun c_86 => ?_) (fun c_86 => ?_)
            · skip
              have c_86 : ¬ (1 = 0) := fun h__ => c_86 ((nI_eq0 (i := 1) (by omega)).mpr h__)
              have ho9 : fitI 0 (nI (P.N (i32n x) 0) + y) := c_53
              have ey9 := (fitI_i32n (by omega) ho9).1
              have hb9 := (fitI_i32n (by omega) ho9).2
              have hb8 : cHi 0 = 99 := rfl
              have hb7 : cLo 0 = 0 := rfl
              refine lv_aload_n hx hb dX7_shift_91 rfl (lv_at hl 3 rfl) ?_
              refine q_W0 (va_runV (As := []) (rest := []) ⟨hx, hb, hml, hown, hts⟩ (c_X7_save l hm0 hm1 hm38 hsv.1) (cwV 0 hts gX7_shift_X7_save rfl rfl rfl (by decide +kernel) ⟨Nat.le_of_ble_eq_true rfl, Nat.le_of_ble_eq_true rfl⟩) (q_preV hG hW hS hm0 rfl) rfl rfl hl.1 rfl (lv_room (Nat.le_of_ble_eq_true rfl)) dX7_shift_92 ⟨Nat.le_of_ble_eq_true rfl, Nat.le_of_ble_eq_true rfl⟩) hS (fun w_92 H locs hp92 hW hS => ?_)
              obtain ⟨hm0, hm38, fr92⟩ := hp92
              replace hm1 : w_92 37 = some (eN dA 85 F) := (fr92 _ (by omega)).trans hm1
              replace hm39 : w_92 39 = some (eN dA 170 GS) := (fr92 _ (by omega)).trans hm39
              replace hm40 : w_92 40 = some (eZ dA 2 Zt) := (fr92 _ (by omega)).trans hm40
              replace hm41 : w_92 41 = some (eN dA 80 C) := (fr92 _ (by omega)).trans hm41
              replace hm42 : w_92 42 = some (eN dA 120 D0) := (fr92 _ (by omega)).trans hm42
              replace hm43 : w_92 43 = some (eN dA 120 M0) := (fr92 _ (by omega)).trans hm43
              replace hm44 : w_92 44 = some (eN dA 3 TD) := (fr92 _ (by omega)).trans hm44
              replace hsv := sav_rep hsv hRp hP
              refine lv_aload_n hx hb dX7_shift_95 rfl (lv_at hl 3 rfl) ?_
              refine q_get hx hb hts hinX7 hown hG hW hm0 rfl 0 (by decide) (hts (.fieldLink RX7 7 "FoleyMixerModel" "s" "[I") (List.mem_of_getElem? (i := 1) rfl)) rfl rfl dX7_shift_96 ?_
              refine lv_iload hx hb dX7_shift_99 (lv_at hl 1 rfl) ?_
              refine lv_iconst (v := nI 0) hx hb dX7_shift_101 (by decide) ?_
              refine lv_iadd hx hb dX7_shift_102 ?_
              refine q_top (y := nI ((37 + 4 * (i32n x)) + 0)) (nI_add _ _) ?_
              refine lv_dup2_11 hx hb dX7_shift_103 rfl rfl ?_
              refine q_iald hx hb hG hW hm1 (by omega) (by omega) dX7_shift_104 ?_
              refine q_top (y := nI (P.N (i32n x) 0)) (by exact congrArg nI (hRp.2.2.2.2 _ bx9 0 (by decide))) ?_
              refine lv_iload_n hx hb dX7_shift_105 rfl (lv_at hl 6 rfl) ?_
              refine lv_iadd hx hb dX7_shift_106 ?_
              refine q_top (y := nI (i32n (nI (P.N (i32n x) 0) + y))) (by exact ey9) ?_
              refine q_nast hx hb hG hW hS hm1 (by omega) (by omega) dX7_shift_107 (fun H locs hW hS hz107 => ?_)
              obtain ⟨w1, ew1⟩ : ∃ wq__ : Wd, wq__ = va_up w_92 37 (some (eN dA 85 (va_up F ((37 + 4 * (i32n x)) + 0) (i32n (nI (P.N (i32n x) 0) + y))))) := ⟨_, rfl⟩
              replace hW : WP D b w1 H := by rw [ew1]; exact hW
              have frw1 : ∀ id : Nat, id ≠ 37 → w1 id = w_92 id := fun id h9 => by rw [ew1, up_ne h9]
              replace hm39 : w1 39 = some (eN dA 170 GS) := (frw1 _ (by omega)).trans hm39
              replace hm40 : w1 40 = some (eZ dA 2 Zt) := (frw1 _ (by omega)).trans hm40
              replace hm41 : w1 41 = some (eN dA 80 C) := (frw1 _ (by omega)).trans hm41
              replace hm42 : w1 42 = some (eN dA 120 D0) := (frw1 _ (by omega)).trans hm42
              replace hm43 : w1 43 = some (eN dA 120 M0) := (frw1 _ (by omega)).trans hm43
              replace hm44 : w1 44 = some (eN dA 3 TD) := (frw1 _ (by omega)).trans hm44
              replace hm0 : w1 36 = some (modO b (nI (pshN n)) (nI (nc)) (nI (0)) (pl) (lt) (dn)) := (frw1 _ (by omega)).trans hm0
              replace hm38 : w1 38 = some (eN dA 510 (savG n F G)) := (frw1 _ (by omega)).trans hm38
              replace hm1 : w1 37 = some (eN dA 85 (va_up F ((37 + 4 * (i32n x)) + 0) (i32n (nI (P.N (i32n x) 0) + y)))) := by rw [ew1]; exact up_eq
              replace hRp := rep_setN hRp hPw (i := i32n x) (j := 0) (x := i32n (nI (P.N (i32n x) 0) + y)) bx9 (by decide)
              replace hP := ok_setN (i := i32n x) (j := 0) (x := i32n (nI (P.N (i32n x) 0) + y)) hP (by omega)
              refine lv_aload_n hx hb dX7_shift_108 rfl (lv_at hl 3 rfl) ?_
              refine q_get hx hb hts hinX7 hown hG hW hm0 rfl 0 (by decide) (hts (.fieldLink RX7 7 "FoleyMixerModel" "s" "[I") (List.mem_of_getElem? (i := 1) rfl)) rfl rfl dX7_shift_109 ?_
              refine lv_iload hx hb dX7_shift_112 (lv_at hl 1 rfl) ?_
              refine lv_iconst (v := nI 0) hx hb dX7_shift_114 (by decide) ?_
              refine lv_iadd hx hb dX7_shift_115 ?_
              refine q_top (y := nI ((37 + 4 * (i32n x)) + 0)) (nI_add _ _) ?_
              refine q_iald hx hb hG hW hm1 (by omega) (by omega) dX7_shift_116 ?_
              refine q_topv (v' := .int (nI (P.N (i32n x) 0) + y)) (by refine congrArg Value.int ?_; rw [va_up_self]; exact ey9.symm) ?_
              exact q_wi hx hb hr hlocks hW hS dX7_shift_117 (by rw [if_pos ⟨c_10, c_33, c_53⟩]) (by exact ⟨Or.inl ⟨⟨c_10, c_33, c_53⟩, ⟨_, _, _, _, _, _, _, _, _, _, hm0, hm1, ⟨hRp, hP⟩, hm38, hsv, hm39, hm40, hsl, hm41, hbu, hm42, hm43, hm44⟩⟩, by intro id h9; rw [frw1 id (by omega)]; rw [fr92 id (by omega)]; rw [fr83 id (by omega)]; try rfl⟩) (by decide) (by decide)
            · skip
              have c_86 : 1 = 0 := (nI_eq0 (i := 1) (by omega)).mp c_86
              exact absurd c_86 (by omega)
        · skip
          have c_66 : ¬ (0 ≤ nI (i32n x) ∧ nI (i32n x) < nI P.n) := pI_eq0.mp c_66
          exact absurd (by rw [← ex9]; exact c_10) c_66

set_option maxHeartbeats 300000 in
set_option maxRecDepth 100000 in
/-- set -/
theorem c_X7_set (l : Launch) {D : va_G} {dA : Nat → Nat} {b : Nat} {w : Wd} {n nc : Nat} {P : Pl} {Hs : Nat → Pl} {SL : Nat → Option Pl} {C : Nat → Nat} {tt : Int32} (hmd : isMod dA b w (P, (n, Hs), SL, (nc, C)) tt) (x y : Int32) : Met l yX7_set wsX7_set ({ frames := 2, cells := 0, slots := 0, locals := 45 } : Room) (PC D dA b w [.ref (b + 36), .int (x), .int (y)]) (QW D b (some (.int (if (0 ≤ x ∧ x < nI 5) ∧ fitS (i32n x) y then nI (P.S (i32n x)) else 0))) (fun w' => ((((0 ≤ x ∧ x < nI 5) ∧ fitS (i32n x) y) ∧ isMod dA b w' (setS P (i32n x) (i32n y), (pshN n, psh n Hs P), SL, (nc, C)) (nI 0)) ∨ ((¬ (0 ≤ x ∧ x < nI 5)) ∧ isMod dA b w' (P, (n, Hs), SL, (nc, C)) (nI 1)) ∨ (((0 ≤ x ∧ x < nI 5) ∧ ¬ fitS (i32n x) y) ∧ isMod dA b w' (P, (n, Hs), SL, (nc, C)) (nI 2))) ∧ ∀ id : Nat, (id < 36 ∨ 45 ≤ id) → w' id = w id)) 0 0 (Fb b) := by
  refine q_of (cc := cX7_set) (maxL := 4) (ret := (some .int)) (by decide) rfl rfl ?_
  intro p e s m args below meth c ls hx hb hr hml hts hown hlocks hG hW hS hl
  have hown : s.vm.findClass RX7 = some m.cls := hown
  have hinX7 : ∀ w ∈ u_ws RX7 TX7 14, w ∈ wsX7_set := fun w h => (goodIn_r (big := wsX7_set) (u_ws RX7 TX7 14) [23, 24, 25, 26, 27, 28, 29, 30, 31, 32, 33, 34, 35, 36] (by decide +kernel) (by decide +kernel) w h).1
  have hl : lv_has ls 4 [(0, .ref (b + 36)), (1, .int (x)), (2, .int (y))] := hl
  obtain ⟨pl, lt, dn, F, G, GS, Zt, D0, M0, TD, hm0, hm1, ⟨hRp, hP⟩, hm38, hsv, hm39, hm40, hsl, hm41, hbu, hm42, hm43, hm44⟩ := id hmd
  change w 36 = some (modO b (nI n) (nI nc) tt pl lt dn) at hm0
  change rep F P at hRp
  change okP P at hP
  change mSv n G Hs at hsv
  change mSl GS Zt SL at hsl
  change w 41 = some (eN dA 80 C) at hm41
  change mBu nc C at hbu
  have hn6 := hsv.1
  have hnc := hbu.1
  obtain ⟨hPw, hPn, hPW, hPN, hPS⟩ := id hP
  have hr5 := hRp.2.1
  have hr6 := hRp.2.2.1
  refine lv_aload_n hx hb dX7_set_0 rfl (lv_at hl 0 rfl) ?_
  refine lv_iload_n hx hb dX7_set_1 rfl (lv_at hl 1 rfl) ?_
  refine lv_iconst (v := nI 0) hx hb dX7_set_2 (by decide) ?_
  refine lv_iconst (v := nI 4) hx hb dX7_set_3 (by decide) ?_
  refine q_R1 (va_runS (As := [.int (x), .int (nI 0), .int (nI 4)]) (rest := [.ref (b + 36)]) ⟨hx, hb, hml, hown, hts⟩ (c_X7_in l (x) (nI (0)) (nI (4))) (va_cwS 3 hts gX7_set_X7_in rfl rfl rfl (by decide +kernel) ⟨Nat.le_of_ble_eq_true rfl, Nat.le_of_ble_eq_true rfl⟩) (q_preS hG hW hS) rfl rfl hl.1 rfl (lv_room (Nat.le_of_ble_eq_true rfl)) dX7_set_4 ⟨Nat.le_of_ble_eq_true rfl, Nat.le_of_ble_eq_true rfl⟩) ?_
  refine lv_if_ne (tgt := 14) hx hb dX7_set_7 (by decide) (fun c_7 => ?_) (fun c_7 => ?_)
  · skip
    have c_7 : (nI (0)) ≤ (x) ∧ (x) ≤ (nI (4)) := Decidable.byContradiction (fun h__ => c_7 (pI_eq0.mpr h__))
    have ho5 : 0 ≤ x ∧ x < nI 5 := ⟨c_7.1, (lt_le (k := 4) (by decide)).mpr c_7.2⟩
    obtain ⟨ex9, bx9⟩ := has_n (n := 5) (by decide) ho5.1 ho5.2
    have el_14 : x = nI (i32n x) := by exact ex9
    rw [el_14] at hl
    refine lv_iload_n hx hb dX7_set_14 rfl (lv_at hl 1 rfl) ?_
    refine lv_iload_n hx hb dX7_set_15 rfl (lv_at hl 2 rfl) ?_
    refine q_R1 (va_runS (As := [.int (nI (i32n x)), .int (y)]) (rest := [.ref (b + 36)]) ⟨hx, hb, hml, hown, hts⟩ (c_X7_isValue l (i32n x) (by omega) (y)) (va_cwS 2 hts gX7_set_X7_isValue rfl rfl rfl (by decide +kernel) ⟨Nat.le_of_ble_eq_true rfl, Nat.le_of_ble_eq_true rfl⟩) (q_preS hG hW hS) rfl rfl hl.1 rfl (lv_room (Nat.le_of_ble_eq_true rfl)) dX7_set_16 ⟨Nat.le_of_ble_eq_true rfl, Nat.le_of_ble_eq_true rfl⟩) ?_
    refine lv_if_eq (tgt := 26) hx hb dX7_set_19 (by decide) (fun c_19 => ?_) (fun c_19 => ?_)
    · skip
      have c_19 : ¬ (fitS (i32n x) y) := pI_eq0.mp c_19
      refine lv_iconst (v := nI 2) hx hb dX7_set_26 (by decide) ?_
      refine q_W1 (va_runV (As := [.int (nI 2)]) (rest := []) ⟨hx, hb, hml, hown, hts⟩ (c_X7_holds l hm0 (nI (2))) (cwV 1 hts gX7_set_X7_holds rfl rfl rfl (by decide +kernel) ⟨Nat.le_of_ble_eq_true rfl, Nat.le_of_ble_eq_true rfl⟩) (q_preV hG hW hS hm0 rfl) rfl rfl hl.1 rfl (lv_room (Nat.le_of_ble_eq_true rfl)) dX7_set_27 ⟨Nat.le_of_ble_eq_true rfl, Nat.le_of_ble_eq_true rfl⟩) hS (fun w_27 H locs hp27 hW hS => ?_)
      obtain ⟨hm0, fr27⟩ := hp27
      replace hm1 : w_27 37 = some (eN dA 85 F) := (fr27 _ (by omega)).trans hm1
      replace hm38 : w_27 38 = some (eN dA 510 G) := (fr27 _ (by omega)).trans hm38
      replace hm39 : w_27 39 = some (eN dA 170 GS) := (fr27 _ (by omega)).trans hm39
      replace hm40 : w_27 40 = some (eZ dA 2 Zt) := (fr27 _ (by omega)).trans hm40
      replace hm41 : w_27 41 = some (eN dA 80 C) := (fr27 _ (by omega)).trans hm41
      replace hm42 : w_27 42 = some (eN dA 120 D0) := (fr27 _ (by omega)).trans hm42
      replace hm43 : w_27 43 = some (eN dA 120 M0) := (fr27 _ (by omega)).trans hm43
      replace hm44 : w_27 44 = some (eN dA 3 TD) := (fr27 _ (by omega)).trans hm44
      refine q_topv (v' := .int (nI 0)) (congrArg Value.int (by decide)) ?_
      refine lv_if_ne (tgt := 35) hx hb dX7_set_30 (by decide) (fun c_30 => ?_) (fun c_30 => ?_)
      · skip
        have c_30 : ¬ (0 = 0) := fun h__ => c_30 ((nI_eq0 (i := 0) (by omega)).mpr h__)
        exact absurd c_30 (by omega)
      · skip
        have c_30 : 0 = 0 := (nI_eq0 (i := 0) (by omega)).mp c_30
        refine lv_iconst (v := nI 0) hx hb dX7_set_33 (by decide) ?_
        exact q_wi hx hb hr hlocks hW hS dX7_set_34 (by rw [if_neg (by first | exact fun q9 => c_7 ⟨q9.1.1, (lt_le (k := 4) (by decide)).mp q9.1.2⟩ | exact fun q9 => c_19 q9.2)]; rfl) (by exact ⟨Or.inr (Or.inr ⟨⟨ho5, c_19⟩, ⟨_, _, _, _, _, _, _, _, _, _, hm0, hm1, ⟨hRp, hP⟩, hm38, hsv, hm39, hm40, hsl, hm41, hbu, hm42, hm43, hm44⟩⟩), by intro id h9; rw [fr27 id (by omega)]; try rfl⟩) (by decide) (by decide)
    · skip
      have c_19 : fitS (i32n x) y := Decidable.byContradiction (fun h__ => c_19 (pI_eq0.mpr h__))
      refine lv_iconst (v := nI 0) hx hb dX7_set_22 (by decide) ?_
      refine lv_goto (tgt := 27) hx hb dX7_set_23 (by decide) ?_
      refine q_W1 (va_runV (As := [.int (nI 0)]) (rest := []) ⟨hx, hb, hml, hown, hts⟩ (c_X7_holds l hm0 (nI (0))) (cwV 1 hts gX7_set_X7_holds rfl rfl rfl (by decide +kernel) ⟨Nat.le_of_ble_eq_true rfl, Nat.le_of_ble_eq_true rfl⟩) (q_preV hG hW hS hm0 rfl) rfl rfl hl.1 rfl (lv_room (Nat.le_of_ble_eq_true rfl)) dX7_set_27 ⟨Nat.le_of_ble_eq_true rfl, Nat.le_of_ble_eq_true rfl⟩) hS (fun w_27 H locs hp27 hW hS => ?_)
      obtain ⟨hm0, fr27⟩ := hp27
      replace hm1 : w_27 37 = some (eN dA 85 F) := (fr27 _ (by omega)).trans hm1
      replace hm38 : w_27 38 = some (eN dA 510 G) := (fr27 _ (by omega)).trans hm38
      replace hm39 : w_27 39 = some (eN dA 170 GS) := (fr27 _ (by omega)).trans hm39
      replace hm40 : w_27 40 = some (eZ dA 2 Zt) := (fr27 _ (by omega)).trans hm40
      replace hm41 : w_27 41 = some (eN dA 80 C) := (fr27 _ (by omega)).trans hm41
      replace hm42 : w_27 42 = some (eN dA 120 D0) := (fr27 _ (by omega)).trans hm42
      replace hm43 : w_27 43 = some (eN dA 120 M0) := (fr27 _ (by omega)).trans hm43
      replace hm44 : w_27 44 = some (eN dA 3 TD) := (fr27 _ (by omega)).trans hm44
      refine q_topv (v' := .int (nI 1)) (congrArg Value.int (by decide)) ?_
      refine lv_if_ne (tgt := 35) hx hb dX7_set_30 (by decide) (fun c_30 => ?_) (fun c_30 => ?_)
      · skip
        have c_30 : ¬ (1 = 0) := fun h__ => c_30 ((nI_eq0 (i := 1) (by omega)).mpr h__)
        have ey9 := fitS_n bx9 c_19
        have el_35 : y = nI (i32n y) := by exact ey9
        rw [el_35] at hl
        refine lv_aload_n hx hb dX7_set_35 rfl (lv_at hl 0 rfl) ?_
        refine q_W0 (va_runV (As := []) (rest := []) ⟨hx, hb, hml, hown, hts⟩ (c_X7_save l hm0 hm1 hm38 hsv.1) (cwV 0 hts gX7_set_X7_save rfl rfl rfl (by decide +kernel) ⟨Nat.le_of_ble_eq_true rfl, Nat.le_of_ble_eq_true rfl⟩) (q_preV hG hW hS hm0 rfl) rfl rfl hl.1 rfl (lv_room (Nat.le_of_ble_eq_true rfl)) dX7_set_36 ⟨Nat.le_of_ble_eq_true rfl, Nat.le_of_ble_eq_true rfl⟩) hS (fun w_36 H locs hp36 hW hS => ?_)
        obtain ⟨hm0, hm38, fr36⟩ := hp36
        replace hm1 : w_36 37 = some (eN dA 85 F) := (fr36 _ (by omega)).trans hm1
        replace hm39 : w_36 39 = some (eN dA 170 GS) := (fr36 _ (by omega)).trans hm39
        replace hm40 : w_36 40 = some (eZ dA 2 Zt) := (fr36 _ (by omega)).trans hm40
        replace hm41 : w_36 41 = some (eN dA 80 C) := (fr36 _ (by omega)).trans hm41
        replace hm42 : w_36 42 = some (eN dA 120 D0) := (fr36 _ (by omega)).trans hm42
        replace hm43 : w_36 43 = some (eN dA 120 M0) := (fr36 _ (by omega)).trans hm43
        replace hm44 : w_36 44 = some (eN dA 3 TD) := (fr36 _ (by omega)).trans hm44
        replace hsv := sav_rep hsv hRp hP
        refine lv_aload_n hx hb dX7_set_39 rfl (lv_at hl 0 rfl) ?_
        refine q_get hx hb hts hinX7 hown hG hW hm0 rfl 0 (by decide) (hts (.fieldLink RX7 7 "FoleyMixerModel" "s" "[I") (List.mem_of_getElem? (i := 1) rfl)) rfl rfl dX7_set_40 ?_
        refine lv_iload_n hx hb dX7_set_43 rfl (lv_at hl 1 rfl) ?_
        refine q_iald hx hb hG hW hm1 (by omega) (by omega) dX7_set_44 ?_
        refine q_top (y := nI (P.S (i32n x))) (by exact congrArg nI (hRp.1 _ bx9)) ?_
        refine lv_istore_n (lv' := [(3, .int (nI (P.S (i32n x)))), (0, .ref (b + 36)), (1, .int (nI (i32n x))), (2, .int (nI (i32n y)))]) hx hb dX7_set_45 rfl hl (by decide) rfl (fun ls hl => ?_)
        refine lv_aload_n hx hb dX7_set_46 rfl (lv_at hl 1 rfl) ?_
        refine q_get hx hb hts hinX7 hown hG hW hm0 rfl 0 (by decide) (hts (.fieldLink RX7 7 "FoleyMixerModel" "s" "[I") (List.mem_of_getElem? (i := 1) rfl)) rfl rfl dX7_set_47 ?_
        refine lv_iload_n hx hb dX7_set_50 rfl (lv_at hl 2 rfl) ?_
        refine lv_iload_n hx hb dX7_set_51 rfl (lv_at hl 3 rfl) ?_
        refine q_nast hx hb hG hW hS hm1 (by omega) (by omega) dX7_set_52 (fun H locs hW hS hz52 => ?_)
        obtain ⟨w1, ew1⟩ : ∃ wq__ : Wd, wq__ = va_up w_36 37 (some (eN dA 85 (va_up F (i32n x) (i32n y)))) := ⟨_, rfl⟩
        replace hW : WP D b w1 H := by rw [ew1]; exact hW
        have frw1 : ∀ id : Nat, id ≠ 37 → w1 id = w_36 id := fun id h9 => by rw [ew1, up_ne h9]
        replace hm39 : w1 39 = some (eN dA 170 GS) := (frw1 _ (by omega)).trans hm39
        replace hm40 : w1 40 = some (eZ dA 2 Zt) := (frw1 _ (by omega)).trans hm40
        replace hm41 : w1 41 = some (eN dA 80 C) := (frw1 _ (by omega)).trans hm41
        replace hm42 : w1 42 = some (eN dA 120 D0) := (frw1 _ (by omega)).trans hm42
        replace hm43 : w1 43 = some (eN dA 120 M0) := (frw1 _ (by omega)).trans hm43
        replace hm44 : w1 44 = some (eN dA 3 TD) := (frw1 _ (by omega)).trans hm44
        replace hm0 : w1 36 = some (modO b (nI (pshN n)) (nI (nc)) (nI (0)) (pl) (lt) (dn)) := (frw1 _ (by omega)).trans hm0
        replace hm38 : w1 38 = some (eN dA 510 (savG n F G)) := (frw1 _ (by omega)).trans hm38
        replace hm1 : w1 37 = some (eN dA 85 (va_up F (i32n x) (i32n y))) := by rw [ew1]; exact up_eq
        replace hRp := rep_setS hRp (i := i32n x) (x := i32n y) (by omega)
        replace hP := ok_setS hP (by omega) c_19
        refine lv_iload_n hx hb dX7_set_53 rfl (lv_at hl 0 rfl) ?_
        exact q_wi hx hb hr hlocks hW hS dX7_set_54 (by rw [if_pos ⟨ho5, c_19⟩]) (by exact ⟨Or.inl ⟨⟨ho5, c_19⟩, ⟨_, _, _, _, _, _, _, _, _, _, hm0, hm1, ⟨hRp, hP⟩, hm38, hsv, hm39, hm40, hsl, hm41, hbu, hm42, hm43, hm44⟩⟩, by intro id h9; rw [frw1 id (by omega)]; rw [fr36 id (by omega)]; rw [fr27 id (by omega)]; try rfl⟩) (by decide) (by decide)
      · skip
        have c_30 : 1 = 0 := (nI_eq0 (i := 1) (by omega)).mp c_30
        exact absurd c_30 (by omega)
  · skip
    have c_7 : ¬ ((nI (0)) ≤ (x) ∧ (x) ≤ (nI (4))) := pI_eq0.mp c_7
    refine lv_iconst (v := nI 1) hx hb dX7_set_10 (by decide) ?_
    refine lv_goto (tgt := 27) hx hb dX7_set_11 (by decide) ?_
    refine q_W1 (va_runV (As := [.int (nI 1)]) (rest := []) ⟨hx, hb, hml, hown, hts⟩ (c_X7_holds l hm0 (nI (1))) (cwV 1 hts gX7_set_X7_holds rfl rfl rfl (by decide +kernel) ⟨Nat.le_of_ble_eq_true rfl, Nat.le_of_ble_eq_true rfl⟩) (q_preV hG hW hS hm0 rfl) rfl rfl hl.1 rfl (lv_room (Nat.le_of_ble_eq_true rfl)) dX7_set_27 ⟨Nat.le_of_ble_eq_true rfl, Nat.le_of_ble_eq_true rfl⟩) hS (fun w_27 H locs hp27 hW hS => ?_)
    obtain ⟨hm0, fr27⟩ := hp27
    replace hm1 : w_27 37 = some (eN dA 85 F) := (fr27 _ (by omega)).trans hm1
    replace hm38 : w_27 38 = some (eN dA 510 G) := (fr27 _ (by omega)).trans hm38
    replace hm39 : w_27 39 = some (eN dA 170 GS) := (fr27 _ (by omega)).trans hm39
    replace hm40 : w_27 40 = some (eZ dA 2 Zt) := (fr27 _ (by omega)).trans hm40
    replace hm41 : w_27 41 = some (eN dA 80 C) := (fr27 _ (by omega)).trans hm41
    replace hm42 : w_27 42 = some (eN dA 120 D0) := (fr27 _ (by omega)).trans hm42
    replace hm43 : w_27 43 = some (eN dA 120 M0) := (fr27 _ (by omega)).trans hm43
    replace hm44 : w_27 44 = some (eN dA 3 TD) := (fr27 _ (by omega)).trans hm44
    refine q_topv (v' := .int (nI 0)) (congrArg Value.int (by decide)) ?_
    refine lv_if_ne (tgt := 35) hx hb dX7_set_30 (by decide) (fun c_30 => ?_) (fun c_30 => ?_)
    · skip
      have c_30 : ¬ (0 = 0) := fun h__ => c_30 ((nI_eq0 (i := 0) (by omega)).mpr h__)
      exact absurd c_30 (by omega)
    · skip
      have c_30 : 0 = 0 := (nI_eq0 (i := 0) (by omega)).mp c_30
      refine lv_iconst (v := nI 0) hx hb dX7_set_33 (by decide) ?_
      exact q_wi hx hb hr hlocks hW hS dX7_set_34 (by rw [if_neg (by first | exact fun q9 => c_7 ⟨q9.1.1, (lt_le (k := 4) (by decide)).mp q9.1.2⟩ | exact fun q9 => c_19 q9.2)]; rfl) (by exact ⟨Or.inr (Or.inl ⟨fun q9 => c_7 ⟨q9.1, (lt_le (k := 4) (by decide)).mp q9.2⟩, ⟨_, _, _, _, _, _, _, _, _, _, hm0, hm1, ⟨hRp, hP⟩, hm38, hsv, hm39, hm40, hsl, hm41, hbu, hm42, hm43, hm44⟩⟩), by intro id h9; rw [fr27 id (by omega)]; try rfl⟩) (by decide) (by decide)

set_option maxHeartbeats 300000 in
set_option maxRecDepth 100000 in
/-- append -/
theorem c_X7_append (l : Launch) {D : va_G} {dA : Nat → Nat} {b : Nat} {w : Wd} {n nc : Nat} {P : Pl} {Hs : Nat → Pl} {SL : Nat → Option Pl} {C : Nat → Nat} {tt : Int32} (hmd : isMod dA b w (P, (n, Hs), SL, (nc, C)) tt) (x : Int32) : Met l yX7_append wsX7_append ({ frames := 1, cells := 0, slots := 0, locals := 22 } : Room) (PC D dA b w [.ref (b + 36), .int (x)]) (QW D b (some (.int (if (33 ≤ x ∧ x ≤ 126) ∧ nc < 80 then nI (nc + 1) else 0))) (fun w' => ((((33 ≤ x ∧ x ≤ 126) ∧ nc < 80) ∧ isMod dA b w' (P, (n, Hs), SL, (nc + 1, va_up C nc (i32n x))) (nI 0)) ∨ ((¬ (33 ≤ x ∧ x ≤ 126)) ∧ isMod dA b w' (P, (n, Hs), SL, (nc, C)) (nI 1)) ∨ (((33 ≤ x ∧ x ≤ 126) ∧ 80 ≤ nc) ∧ isMod dA b w' (P, (n, Hs), SL, (nc, C)) (nI 2))) ∧ ∀ id : Nat, (id < 36 ∨ 45 ≤ id) → w' id = w id)) 0 0 (Fb b) := by
  refine q_of (cc := cX7_append) (maxL := 2) (ret := (some .int)) (by decide) rfl rfl ?_
  intro p e s m args below meth c ls hx hb hr hml hts hown hlocks hG hW hS hl
  have hown : s.vm.findClass RX7 = some m.cls := hown
  have hinX7 : ∀ w ∈ u_ws RX7 TX7 14, w ∈ wsX7_append := fun w h => (goodIn_r (big := wsX7_append) (u_ws RX7 TX7 14) [12, 13, 14, 15, 16, 17, 18, 19, 20, 21, 22, 23, 24, 25] (by decide +kernel) (by decide +kernel) w h).1
  have hl : lv_has ls 2 [(0, .ref (b + 36)), (1, .int (x))] := hl
  obtain ⟨pl, lt, dn, F, G, GS, Zt, D0, M0, TD, hm0, hm1, ⟨hRp, hP⟩, hm38, hsv, hm39, hm40, hsl, hm41, hbu, hm42, hm43, hm44⟩ := id hmd
  change w 36 = some (modO b (nI n) (nI nc) tt pl lt dn) at hm0
  change rep F P at hRp
  change okP P at hP
  change mSv n G Hs at hsv
  change mSl GS Zt SL at hsl
  change w 41 = some (eN dA 80 C) at hm41
  change mBu nc C at hbu
  have hn6 := hsv.1
  have hnc := hbu.1
  obtain ⟨hPw, hPn, hPW, hPN, hPS⟩ := id hP
  have hr5 := hRp.2.1
  have hr6 := hRp.2.2.1
  refine lv_aload_n hx hb dX7_append_0 rfl (lv_at hl 0 rfl) ?_
  refine lv_iload_n hx hb dX7_append_1 rfl (lv_at hl 1 rfl) ?_
  refine lv_bipush (v := nI 33) hx hb dX7_append_2 (by decide) ?_
  refine lv_bipush (v := nI 126) hx hb dX7_append_4 (by decide) ?_
  refine q_R1 (va_runS (As := [.int (x), .int (nI 33), .int (nI 126)]) (rest := [.ref (b + 36)]) ⟨hx, hb, hml, hown, hts⟩ (c_X7_in l (x) (nI (33)) (nI (126))) (va_cwS 3 hts gX7_append_X7_in rfl rfl rfl (by decide +kernel) ⟨Nat.le_of_ble_eq_true rfl, Nat.le_of_ble_eq_true rfl⟩) (q_preS hG hW hS) rfl rfl hl.1 rfl (lv_room (Nat.le_of_ble_eq_true rfl)) dX7_append_6 ⟨Nat.le_of_ble_eq_true rfl, Nat.le_of_ble_eq_true rfl⟩) ?_
  refine lv_if_ne (tgt := 16) hx hb dX7_append_9 (by decide) (fun c_9 => ?_) (fun c_9 => ?_)
  · skip
    have c_9 : (nI (33)) ≤ (x) ∧ (x) ≤ (nI (126)) := Decidable.byContradiction (fun h__ => c_9 (pI_eq0.mpr h__))
    refine lv_aload_n hx hb dX7_append_16 rfl (lv_at hl 0 rfl) ?_
    refine q_get hx hb hts hinX7 hown hG hW hm0 rfl 6 (by decide) (hts (.fieldLink RX7 117 "FoleyMixerModel" "length" "I") (List.mem_of_getElem? (i := 1) rfl)) rfl rfl dX7_append_17 ?_
    refine lv_bipush (v := nI 80) hx hb dX7_append_20 (by decide) ?_
    refine lv_icmp_ne (tgt := 29) hx hb dX7_append_22 (by decide) (fun c_22 => ?_) (fun c_22 => ?_)
    · skip
      have c_22 : ¬ (nc = 80) := fun h__ => c_22 ((nI_eq (a := nc) (b := 80) (by omega) (by omega)).mpr h__)
      refine lv_iconst (v := nI 0) hx hb dX7_append_29 (by decide) ?_
      refine q_W1 (va_runV (As := [.int (nI 0)]) (rest := []) ⟨hx, hb, hml, hown, hts⟩ (c_X7_holds l hm0 (nI (0))) (cwV 1 hts gX7_append_X7_holds rfl rfl rfl (by decide +kernel) ⟨Nat.le_of_ble_eq_true rfl, Nat.le_of_ble_eq_true rfl⟩) (q_preV hG hW hS hm0 rfl) rfl rfl hl.1 rfl (lv_room (Nat.le_of_ble_eq_true rfl)) dX7_append_30 ⟨Nat.le_of_ble_eq_true rfl, Nat.le_of_ble_eq_true rfl⟩) hS (fun w_30 H locs hp30 hW hS => ?_)
      obtain ⟨hm0, fr30⟩ := hp30
      replace hm1 : w_30 37 = some (eN dA 85 F) := (fr30 _ (by omega)).trans hm1
      replace hm38 : w_30 38 = some (eN dA 510 G) := (fr30 _ (by omega)).trans hm38
      replace hm39 : w_30 39 = some (eN dA 170 GS) := (fr30 _ (by omega)).trans hm39
      replace hm40 : w_30 40 = some (eZ dA 2 Zt) := (fr30 _ (by omega)).trans hm40
      replace hm41 : w_30 41 = some (eN dA 80 C) := (fr30 _ (by omega)).trans hm41
      replace hm42 : w_30 42 = some (eN dA 120 D0) := (fr30 _ (by omega)).trans hm42
      replace hm43 : w_30 43 = some (eN dA 120 M0) := (fr30 _ (by omega)).trans hm43
      replace hm44 : w_30 44 = some (eN dA 3 TD) := (fr30 _ (by omega)).trans hm44
      refine q_topv (v' := .int (nI 1)) (congrArg Value.int (by decide)) ?_
      refine lv_if_ne (tgt := 38) hx hb dX7_append_33 (by decide) (fun c_33 => ?_) (fun c_33 => ?_)
      · skip
        have c_33 : ¬ (1 = 0) := fun h__ => c_33 ((nI_eq0 (i := 1) (by omega)).mpr h__)
        have ho9 : 33 ≤ x ∧ x ≤ 126 := c_9
        obtain ⟨ex9, bx9⟩ := code_n ho9
        have el_38 : x = nI (i32n x) := by exact ex9
        rw [el_38] at hl
        refine lv_aload_n hx hb dX7_append_38 rfl (lv_at hl 0 rfl) ?_
        refine q_get hx hb hts hinX7 hown hG hW hm0 rfl 5 (by decide) (hts (.fieldLink RX7 23 "FoleyMixerModel" "text" "[I") (List.mem_of_getElem? (i := 2) rfl)) rfl rfl dX7_append_39 ?_
        refine lv_aload_n hx hb dX7_append_42 rfl (lv_at hl 0 rfl) ?_
        refine q_get hx hb hts hinX7 hown hG hW hm0 rfl 6 (by decide) (hts (.fieldLink RX7 117 "FoleyMixerModel" "length" "I") (List.mem_of_getElem? (i := 1) rfl)) rfl rfl dX7_append_43 ?_
        refine lv_iload_n hx hb dX7_append_46 rfl (lv_at hl 1 rfl) ?_
        refine q_nast hx hb hG hW hS hm41 (by omega) (by omega) dX7_append_47 (fun H locs hW hS hz47 => ?_)
        obtain ⟨w1, ew1⟩ : ∃ wq__ : Wd, wq__ = va_up w_30 41 (some (eN dA 80 (va_up C nc (i32n x)))) := ⟨_, rfl⟩
        replace hW : WP D b w1 H := by rw [ew1]; exact hW
        have frw1 : ∀ id : Nat, id ≠ 41 → w1 id = w_30 id := fun id h9 => by rw [ew1, up_ne h9]
        replace hm1 : w1 37 = some (eN dA 85 F) := (frw1 _ (by omega)).trans hm1
        replace hm38 : w1 38 = some (eN dA 510 G) := (frw1 _ (by omega)).trans hm38
        replace hm39 : w1 39 = some (eN dA 170 GS) := (frw1 _ (by omega)).trans hm39
        replace hm40 : w1 40 = some (eZ dA 2 Zt) := (frw1 _ (by omega)).trans hm40
        replace hm42 : w1 42 = some (eN dA 120 D0) := (frw1 _ (by omega)).trans hm42
        replace hm43 : w1 43 = some (eN dA 120 M0) := (frw1 _ (by omega)).trans hm43
        replace hm44 : w1 44 = some (eN dA 3 TD) := (frw1 _ (by omega)).trans hm44
        replace hm0 : w1 36 = some (modO b (nI (n)) (nI (nc)) (nI (0)) (pl) (lt) (dn)) := (frw1 _ (by omega)).trans hm0
        replace hm41 : w1 41 = some (eN dA 80 (va_up C nc (i32n x))) := by rw [ew1]; exact up_eq
        refine lv_aload_n hx hb dX7_append_48 rfl (lv_at hl 0 rfl) ?_
        refine lv_dup hx hb dX7_append_49 rfl ?_
        refine q_get hx hb hts hinX7 hown hG hW hm0 rfl 6 (by decide) (hts (.fieldLink RX7 117 "FoleyMixerModel" "length" "I") (List.mem_of_getElem? (i := 1) rfl)) rfl rfl dX7_append_50 ?_
        refine lv_iconst (v := nI 1) hx hb dX7_append_53 (by decide) ?_
        refine lv_iadd hx hb dX7_append_54 ?_
        refine q_top (y := nI (nc + 1)) (nI_add _ _) ?_
        refine q_put hx hb hts hinX7 tyX7_ok nmX7 hown hG hW hS hm0 rfl 6 (by decide) (hts (.fieldLink RX7 117 "FoleyMixerModel" "length" "I") (List.mem_of_getElem? (i := 1) rfl)) rfl rfl rfl rfl (Nat.le_of_ble_eq_true rfl) dX7_append_55 (fun H locs hW hS hz55 => ?_)
        obtain ⟨w2, ew2⟩ : ∃ wq__ : Wd, wq__ = va_up w1 36 (some (modO b (nI (n)) (nI (nc + 1)) (nI (0)) (pl) (lt) (dn))) := ⟨_, rfl⟩
        replace hW : WP D b w2 H := by rw [ew2]; exact hW
        have frw2 : ∀ id : Nat, id ≠ 36 → w2 id = w1 id := fun id h9 => by rw [ew2, up_ne h9]
        replace hm1 : w2 37 = some (eN dA 85 F) := (frw2 _ (by omega)).trans hm1
        replace hm38 : w2 38 = some (eN dA 510 G) := (frw2 _ (by omega)).trans hm38
        replace hm39 : w2 39 = some (eN dA 170 GS) := (frw2 _ (by omega)).trans hm39
        replace hm40 : w2 40 = some (eZ dA 2 Zt) := (frw2 _ (by omega)).trans hm40
        replace hm41 : w2 41 = some (eN dA 80 (va_up C nc (i32n x))) := (frw2 _ (by omega)).trans hm41
        replace hm42 : w2 42 = some (eN dA 120 D0) := (frw2 _ (by omega)).trans hm42
        replace hm43 : w2 43 = some (eN dA 120 M0) := (frw2 _ (by omega)).trans hm43
        replace hm44 : w2 44 = some (eN dA 3 TD) := (frw2 _ (by omega)).trans hm44
        replace hm0 : w2 36 = some (modO b (nI (n)) (nI (nc + 1)) (nI (0)) (pl) (lt) (dn)) := by rw [ew2]; exact up_eq
        refine lv_aload_n hx hb dX7_append_58 rfl (lv_at hl 0 rfl) ?_
        refine q_get hx hb hts hinX7 hown hG hW hm0 rfl 6 (by decide) (hts (.fieldLink RX7 117 "FoleyMixerModel" "length" "I") (List.mem_of_getElem? (i := 1) rfl)) rfl rfl dX7_append_59 ?_
        exact q_wi hx hb hr hlocks hW hS dX7_append_62 (by rw [if_pos ⟨ho9, by omega⟩]) (by replace hbu : mBu (nc + 1) (va_up C nc (i32n x)) := ⟨by omega, scr_add hbu.2 (by omega)⟩; exact ⟨Or.inl ⟨⟨ho9, by omega⟩, ⟨_, _, _, _, _, _, _, _, _, _, hm0, hm1, ⟨hRp, hP⟩, hm38, hsv, hm39, hm40, hsl, hm41, hbu, hm42, hm43, hm44⟩⟩, by intro id h9; rw [frw2 id (by omega)]; rw [frw1 id (by omega)]; rw [fr30 id (by omega)]; try rfl⟩) (by decide) (by decide)
      · skip
        have c_33 : 1 = 0 := (nI_eq0 (i := 1) (by omega)).mp c_33
        exact absurd c_33 (by omega)
    · skip
      have c_22 : nc = 80 := (nI_eq (a := nc) (b := 80) (by omega) (by omega)).mp c_22
      refine lv_iconst (v := nI 2) hx hb dX7_append_25 (by decide) ?_
      refine lv_goto (tgt := 30) hx hb dX7_append_26 (by decide) ?_
      refine q_W1 (va_runV (As := [.int (nI 2)]) (rest := []) ⟨hx, hb, hml, hown, hts⟩ (c_X7_holds l hm0 (nI (2))) (cwV 1 hts gX7_append_X7_holds rfl rfl rfl (by decide +kernel) ⟨Nat.le_of_ble_eq_true rfl, Nat.le_of_ble_eq_true rfl⟩) (q_preV hG hW hS hm0 rfl) rfl rfl hl.1 rfl (lv_room (Nat.le_of_ble_eq_true rfl)) dX7_append_30 ⟨Nat.le_of_ble_eq_true rfl, Nat.le_of_ble_eq_true rfl⟩) hS (fun w_30 H locs hp30 hW hS => ?_)
      obtain ⟨hm0, fr30⟩ := hp30
      replace hm1 : w_30 37 = some (eN dA 85 F) := (fr30 _ (by omega)).trans hm1
      replace hm38 : w_30 38 = some (eN dA 510 G) := (fr30 _ (by omega)).trans hm38
      replace hm39 : w_30 39 = some (eN dA 170 GS) := (fr30 _ (by omega)).trans hm39
      replace hm40 : w_30 40 = some (eZ dA 2 Zt) := (fr30 _ (by omega)).trans hm40
      replace hm41 : w_30 41 = some (eN dA 80 C) := (fr30 _ (by omega)).trans hm41
      replace hm42 : w_30 42 = some (eN dA 120 D0) := (fr30 _ (by omega)).trans hm42
      replace hm43 : w_30 43 = some (eN dA 120 M0) := (fr30 _ (by omega)).trans hm43
      replace hm44 : w_30 44 = some (eN dA 3 TD) := (fr30 _ (by omega)).trans hm44
      refine q_topv (v' := .int (nI 0)) (congrArg Value.int (by decide)) ?_
      refine lv_if_ne (tgt := 38) hx hb dX7_append_33 (by decide) (fun c_33 => ?_) (fun c_33 => ?_)
      · skip
        have c_33 : ¬ (0 = 0) := fun h__ => c_33 ((nI_eq0 (i := 0) (by omega)).mpr h__)
        exact absurd c_33 (by omega)
      · skip
        have c_33 : 0 = 0 := (nI_eq0 (i := 0) (by omega)).mp c_33
        refine lv_iconst (v := nI 0) hx hb dX7_append_36 (by decide) ?_
        exact q_wi hx hb hr hlocks hW hS dX7_append_37 (by rw [if_neg (by first | exact fun q9 => c_9 q9.1 | exact fun q9 => absurd q9.2 (by omega))]; rfl) (by exact ⟨Or.inr (Or.inr ⟨⟨c_9, by omega⟩, ⟨_, _, _, _, _, _, _, _, _, _, hm0, hm1, ⟨hRp, hP⟩, hm38, hsv, hm39, hm40, hsl, hm41, hbu, hm42, hm43, hm44⟩⟩), by intro id h9; rw [fr30 id (by omega)]; try rfl⟩) (by decide) (by decide)
  · skip
    have c_9 : ¬ ((nI (33)) ≤ (x) ∧ (x) ≤ (nI (126))) := pI_eq0.mp c_9
    refine lv_iconst (v := nI 1) hx hb dX7_append_12 (by decide) ?_
    refine lv_goto (tgt := 30) hx hb dX7_append_13 (by decide) ?_
    refine q_W1 (va_runV (As := [.int (nI 1)]) (rest := []) ⟨hx, hb, hml, hown, hts⟩ (c_X7_holds l hm0 (nI (1))) (cwV 1 hts gX7_append_X7_holds rfl rfl rfl (by decide +kernel) ⟨Nat.le_of_ble_eq_true rfl, Nat.le_of_ble_eq_true rfl⟩) (q_preV hG hW hS hm0 rfl) rfl rfl hl.1 rfl (lv_room (Nat.le_of_ble_eq_true rfl)) dX7_append_30 ⟨Nat.le_of_ble_eq_true rfl, Nat.le_of_ble_eq_true rfl⟩) hS (fun w_30 H locs hp30 hW hS => ?_)
    obtain ⟨hm0, fr30⟩ := hp30
    replace hm1 : w_30 37 = some (eN dA 85 F) := (fr30 _ (by omega)).trans hm1
    replace hm38 : w_30 38 = some (eN dA 510 G) := (fr30 _ (by omega)).trans hm38
    replace hm39 : w_30 39 = some (eN dA 170 GS) := (fr30 _ (by omega)).trans hm39
    replace hm40 : w_30 40 = some (eZ dA 2 Zt) := (fr30 _ (by omega)).trans hm40
    replace hm41 : w_30 41 = some (eN dA 80 C) := (fr30 _ (by omega)).trans hm41
    replace hm42 : w_30 42 = some (eN dA 120 D0) := (fr30 _ (by omega)).trans hm42
    replace hm43 : w_30 43 = some (eN dA 120 M0) := (fr30 _ (by omega)).trans hm43
    replace hm44 : w_30 44 = some (eN dA 3 TD) := (fr30 _ (by omega)).trans hm44
    refine q_topv (v' := .int (nI 0)) (congrArg Value.int (by decide)) ?_
    refine lv_if_ne (tgt := 38) hx hb dX7_append_33 (by decide) (fun c_33 => ?_) (fun c_33 => ?_)
    · skip
      have c_33 : ¬ (0 = 0) := fun h__ => c_33 ((nI_eq0 (i := 0) (by omega)).mpr h__)
      exact absurd c_33 (by omega)
    · skip
      have c_33 : 0 = 0 := (nI_eq0 (i := 0) (by omega)).mp c_33
      refine lv_iconst (v := nI 0) hx hb dX7_append_36 (by decide) ?_
      exact q_wi hx hb hr hlocks hW hS dX7_append_37 (by rw [if_neg (by first | exact fun q9 => c_9 q9.1 | exact fun q9 => absurd q9.2 (by omega))]; rfl) (by exact ⟨Or.inr (Or.inl ⟨c_9, ⟨_, _, _, _, _, _, _, _, _, _, hm0, hm1, ⟨hRp, hP⟩, hm38, hsv, hm39, hm40, hsl, hm41, hbu, hm42, hm43, hm44⟩⟩), by intro id h9; rw [fr30 id (by omega)]; try rfl⟩) (by decide) (by decide)

set_option maxHeartbeats 300000 in
set_option maxRecDepth 100000 in
/-- clearBuffer -/
theorem c_X7_clearBuffer (l : Launch) {D : va_G} {dA : Nat → Nat} {b : Nat} {w : Wd} {n nc : Nat} {P : Pl} {Hs : Nat → Pl} {SL : Nat → Option Pl} {C : Nat → Nat} {tt : Int32} (hmd : isMod dA b w (P, (n, Hs), SL, (nc, C)) tt) : Met l yX7_clearBuffer wsX7_clearBuffer ({ frames := 0, cells := 0, slots := 0, locals := 0 } : Room) (PC D dA b w [.ref (b + 36)]) (QW D b (some (.int (nI nc))) (fun w' => isMod dA b w' (P, (n, Hs), SL, (0, C)) (nI 0) ∧ ∀ id : Nat, (id < 36 ∨ 45 ≤ id) → w' id = w id)) 0 0 (Fb b) := by
  refine q_of (cc := cX7_clearBuffer) (maxL := 2) (ret := (some .int)) (by decide) rfl rfl ?_
  intro p e s m args below meth c ls hx hb hr hml hts hown hlocks hG hW hS hl
  have hown : s.vm.findClass RX7 = some m.cls := hown
  have hinX7 : ∀ w ∈ u_ws RX7 TX7 14, w ∈ wsX7_clearBuffer := fun w h => (goodIn_r (big := wsX7_clearBuffer) (u_ws RX7 TX7 14) [3, 4, 5, 6, 7, 8, 9, 10, 11, 12, 13, 14, 15, 16] (by decide +kernel) (by decide +kernel) w h).1
  have hl : lv_has ls 2 [(0, .ref (b + 36))] := hl
  obtain ⟨pl, lt, dn, F, G, GS, Zt, D0, M0, TD, hm0, hm1, ⟨hRp, hP⟩, hm38, hsv, hm39, hm40, hsl, hm41, hbu, hm42, hm43, hm44⟩ := id hmd
  change w 36 = some (modO b (nI n) (nI nc) tt pl lt dn) at hm0
  change rep F P at hRp
  change okP P at hP
  change mSv n G Hs at hsv
  change mSl GS Zt SL at hsl
  change w 41 = some (eN dA 80 C) at hm41
  change mBu nc C at hbu
  have hn6 := hsv.1
  have hnc := hbu.1
  obtain ⟨hPw, hPn, hPW, hPN, hPS⟩ := id hP
  have hr5 := hRp.2.1
  have hr6 := hRp.2.2.1
  refine lv_aload_n hx hb dX7_clearBuffer_0 rfl (lv_at hl 0 rfl) ?_
  refine lv_iconst (v := nI 0) hx hb dX7_clearBuffer_1 (by decide) ?_
  refine q_put hx hb hts hinX7 tyX7_ok nmX7 hown hG hW hS hm0 rfl 7 (by decide) (hts (.fieldLink RX7 35 "FoleyMixerModel" "thrown" "I") (List.mem_of_getElem? (i := 1) rfl)) rfl rfl rfl rfl (Nat.le_of_ble_eq_true rfl) dX7_clearBuffer_2 (fun H locs hW hS hz2 => ?_)
  obtain ⟨w1, ew1⟩ : ∃ wq__ : Wd, wq__ = va_up w 36 (some (.inr (7, [.ref (b + 37), .ref (b + 38), .int (nI n), .ref (b + 39), .ref (b + 40), .ref (b + 41), .int (nI nc), .int (nI 0), .ref (b + 42), .ref (b + 43), .int (pl), .int (lt), .ref (b + 44), .int (dn)]))) := ⟨_, rfl⟩
  replace hW : WP D b w1 H := by rw [ew1]; exact hW
  have frw1 : ∀ id : Nat, id ≠ 36 → w1 id = w id := fun id h9 => by rw [ew1, up_ne h9]
  replace hm1 : w1 37 = some (eN dA 85 F) := (frw1 _ (by omega)).trans hm1
  replace hm38 : w1 38 = some (eN dA 510 G) := (frw1 _ (by omega)).trans hm38
  replace hm39 : w1 39 = some (eN dA 170 GS) := (frw1 _ (by omega)).trans hm39
  replace hm40 : w1 40 = some (eZ dA 2 Zt) := (frw1 _ (by omega)).trans hm40
  replace hm41 : w1 41 = some (eN dA 80 C) := (frw1 _ (by omega)).trans hm41
  replace hm42 : w1 42 = some (eN dA 120 D0) := (frw1 _ (by omega)).trans hm42
  replace hm43 : w1 43 = some (eN dA 120 M0) := (frw1 _ (by omega)).trans hm43
  replace hm44 : w1 44 = some (eN dA 3 TD) := (frw1 _ (by omega)).trans hm44
  replace hm0 : w1 36 = some (.inr (7, [.ref (b + 37), .ref (b + 38), .int (nI n), .ref (b + 39), .ref (b + 40), .ref (b + 41), .int (nI nc), .int (nI 0), .ref (b + 42), .ref (b + 43), .int (pl), .int (lt), .ref (b + 44), .int (dn)])) := by rw [ew1]; exact up_eq
  refine lv_aload_n hx hb dX7_clearBuffer_5 rfl (lv_at hl 0 rfl) ?_
  refine q_get hx hb hts hinX7 hown hG hW hm0 rfl 6 (by decide) (hts (.fieldLink RX7 117 "FoleyMixerModel" "length" "I") (List.mem_of_getElem? (i := 2) rfl)) rfl rfl dX7_clearBuffer_6 ?_
  refine lv_istore_n (lv' := [(1, .int (nI nc)), (0, .ref (b + 36))]) hx hb dX7_clearBuffer_9 rfl hl (by decide) rfl (fun ls hl => ?_)
  refine lv_aload_n hx hb dX7_clearBuffer_10 rfl (lv_at hl 1 rfl) ?_
  refine lv_iconst (v := nI 0) hx hb dX7_clearBuffer_11 (by decide) ?_
  refine q_put hx hb hts hinX7 tyX7_ok nmX7 hown hG hW hS hm0 rfl 6 (by decide) (hts (.fieldLink RX7 117 "FoleyMixerModel" "length" "I") (List.mem_of_getElem? (i := 2) rfl)) rfl rfl rfl rfl (Nat.le_of_ble_eq_true rfl) dX7_clearBuffer_12 (fun H locs hW hS hz12 => ?_)
  obtain ⟨w2, ew2⟩ : ∃ wq__ : Wd, wq__ = va_up w1 36 (some (.inr (7, [.ref (b + 37), .ref (b + 38), .int (nI n), .ref (b + 39), .ref (b + 40), .ref (b + 41), .int (nI 0), .int (nI 0), .ref (b + 42), .ref (b + 43), .int (pl), .int (lt), .ref (b + 44), .int (dn)]))) := ⟨_, rfl⟩
  replace hW : WP D b w2 H := by rw [ew2]; exact hW
  have frw2 : ∀ id : Nat, id ≠ 36 → w2 id = w1 id := fun id h9 => by rw [ew2, up_ne h9]
  replace hm1 : w2 37 = some (eN dA 85 F) := (frw2 _ (by omega)).trans hm1
  replace hm38 : w2 38 = some (eN dA 510 G) := (frw2 _ (by omega)).trans hm38
  replace hm39 : w2 39 = some (eN dA 170 GS) := (frw2 _ (by omega)).trans hm39
  replace hm40 : w2 40 = some (eZ dA 2 Zt) := (frw2 _ (by omega)).trans hm40
  replace hm41 : w2 41 = some (eN dA 80 C) := (frw2 _ (by omega)).trans hm41
  replace hm42 : w2 42 = some (eN dA 120 D0) := (frw2 _ (by omega)).trans hm42
  replace hm43 : w2 43 = some (eN dA 120 M0) := (frw2 _ (by omega)).trans hm43
  replace hm44 : w2 44 = some (eN dA 3 TD) := (frw2 _ (by omega)).trans hm44
  replace hm0 : w2 36 = some (.inr (7, [.ref (b + 37), .ref (b + 38), .int (nI n), .ref (b + 39), .ref (b + 40), .ref (b + 41), .int (nI 0), .int (nI 0), .ref (b + 42), .ref (b + 43), .int (pl), .int (lt), .ref (b + 44), .int (dn)])) := by rw [ew2]; exact up_eq
  refine lv_iload_n hx hb dX7_clearBuffer_15 rfl (lv_at hl 0 rfl) ?_
  exact q_wi hx hb hr hlocks hW hS dX7_clearBuffer_16 (by rfl) (by replace hbu : mBu 0 C := ⟨by omega, fun i hi => absurd hi (Nat.not_lt_zero _)⟩; exact ⟨⟨_, _, _, _, _, _, _, _, _, _, hm0, hm1, ⟨hRp, hP⟩, hm38, hsv, hm39, hm40, hsl, hm41, hbu, hm42, hm43, hm44⟩, by intro id h9; rw [frw2 id (by omega)]; rw [frw1 id (by omega)]; try rfl⟩) (by decide) (by decide)

set_option maxHeartbeats 300000 in
set_option maxRecDepth 100000 in
/-- charAt -/
theorem c_X7_charAt (l : Launch) {D : va_G} {dA : Nat → Nat} {b : Nat} {w : Wd} {n nc : Nat} {P : Pl} {Hs : Nat → Pl} {SL : Nat → Option Pl} {C : Nat → Nat} {tt : Int32} (hmd : isMod dA b w (P, (n, Hs), SL, (nc, C)) tt) (x : Int32) : Met l yX7_charAt wsX7_charAt ({ frames := 1, cells := 0, slots := 0, locals := 21 } : Room) (PC D dA b w [.ref (b + 36), .int (x)]) (QW D b (some (.int (if 0 ≤ x then oI (cAt nc C (i32n x)) else 0))) (fun w' => (((0 ≤ x) ∧ isMod dA b w' (P, (n, Hs), SL, (nc, C)) (nI 0)) ∨ ((¬ 0 ≤ x) ∧ isMod dA b w' (P, (n, Hs), SL, (nc, C)) (nI 1))) ∧ ∀ id : Nat, (id < 36 ∨ 45 ≤ id) → w' id = w id)) 0 0 (Fb b) := by
  refine q_of (cc := cX7_charAt) (maxL := 2) (ret := (some .int)) (by decide) rfl rfl ?_
  intro p e s m args below meth c ls hx hb hr hml hts hown hlocks hG hW hS hl
  have hown : s.vm.findClass RX7 = some m.cls := hown
  have hinX7 : ∀ w ∈ u_ws RX7 TX7 14, w ∈ wsX7_charAt := fun w h => (goodIn_r (big := wsX7_charAt) (u_ws RX7 TX7 14) [9, 10, 11, 12, 13, 14, 15, 16, 17, 18, 19, 20, 21, 22] (by decide +kernel) (by decide +kernel) w h).1
  have hl : lv_has ls 2 [(0, .ref (b + 36)), (1, .int (x))] := hl
  obtain ⟨pl, lt, dn, F, G, GS, Zt, D0, M0, TD, hm0, hm1, ⟨hRp, hP⟩, hm38, hsv, hm39, hm40, hsl, hm41, hbu, hm42, hm43, hm44⟩ := id hmd
  change w 36 = some (modO b (nI n) (nI nc) tt pl lt dn) at hm0
  change rep F P at hRp
  change okP P at hP
  change mSv n G Hs at hsv
  change mSl GS Zt SL at hsl
  change w 41 = some (eN dA 80 C) at hm41
  change mBu nc C at hbu
  have hn6 := hsv.1
  have hnc := hbu.1
  obtain ⟨hPw, hPn, hPW, hPN, hPS⟩ := id hP
  have hr5 := hRp.2.1
  have hr6 := hRp.2.2.1
  refine lv_aload_n hx hb dX7_charAt_0 rfl (lv_at hl 0 rfl) ?_
  refine lv_iload_n hx hb dX7_charAt_1 rfl (lv_at hl 1 rfl) ?_
  refine lv_if_ge (tgt := 9) hx hb dX7_charAt_2 (by decide) (fun c_2 => ?_) (fun c_2 => ?_)
  · skip
    refine lv_iconst (v := nI 0) hx hb dX7_charAt_9 (by decide) ?_
    refine q_W1 (va_runV (As := [.int (nI 0)]) (rest := []) ⟨hx, hb, hml, hown, hts⟩ (c_X7_holds l hm0 (nI (0))) (cwV 1 hts gX7_charAt_X7_holds rfl rfl rfl (by decide +kernel) ⟨Nat.le_of_ble_eq_true rfl, Nat.le_of_ble_eq_true rfl⟩) (q_preV hG hW hS hm0 rfl) rfl rfl hl.1 rfl (lv_room (Nat.le_of_ble_eq_true rfl)) dX7_charAt_10 ⟨Nat.le_of_ble_eq_true rfl, Nat.le_of_ble_eq_true rfl⟩) hS (fun w_10 H locs hp10 hW hS => ?_)
    obtain ⟨hm0, fr10⟩ := hp10
    replace hm1 : w_10 37 = some (eN dA 85 F) := (fr10 _ (by omega)).trans hm1
    replace hm38 : w_10 38 = some (eN dA 510 G) := (fr10 _ (by omega)).trans hm38
    replace hm39 : w_10 39 = some (eN dA 170 GS) := (fr10 _ (by omega)).trans hm39
    replace hm40 : w_10 40 = some (eZ dA 2 Zt) := (fr10 _ (by omega)).trans hm40
    replace hm41 : w_10 41 = some (eN dA 80 C) := (fr10 _ (by omega)).trans hm41
    replace hm42 : w_10 42 = some (eN dA 120 D0) := (fr10 _ (by omega)).trans hm42
    replace hm43 : w_10 43 = some (eN dA 120 M0) := (fr10 _ (by omega)).trans hm43
    replace hm44 : w_10 44 = some (eN dA 3 TD) := (fr10 _ (by omega)).trans hm44
    refine q_topv (v' := .int (nI 1)) (congrArg Value.int (by decide)) ?_
    refine lv_if_ne (tgt := 20) hx hb dX7_charAt_13 (by decide) (fun c_13 => ?_) (fun c_13 => ?_)
    · skip
      have c_13 : ¬ (1 = 0) := fun h__ => c_13 ((nI_eq0 (i := 1) (by omega)).mpr h__)
      have bx9 := i32n_lt x
      have el_20 : x = nI (i32n x) := by exact i32n_of c_2
      rw [el_20] at hl
      refine lv_iload_n hx hb dX7_charAt_20 rfl (lv_at hl 1 rfl) ?_
      refine lv_aload_n hx hb dX7_charAt_21 rfl (lv_at hl 0 rfl) ?_
      refine q_get hx hb hts hinX7 hown hG hW hm0 rfl 6 (by decide) (hts (.fieldLink RX7 117 "FoleyMixerModel" "length" "I") (List.mem_of_getElem? (i := 1) rfl)) rfl rfl dX7_charAt_22 ?_
      refine lv_icmp_ge (tgt := 37) hx hb dX7_charAt_25 (by decide) (fun c_25 => ?_) (fun c_25 => ?_)
      · skip
        have c_25 : nc ≤ i32n x := (nI_leI (a := nc) (b := i32n x) (by omega) (by omega)).mp c_25
        refine lv_iconst (v := (-1)) hx hb dX7_charAt_37 (by decide) ?_
        exact q_wi hx hb hr hlocks hW hS dX7_charAt_38 (by first | (rw [if_pos c_2]; unfold cAt; first | (rw [if_pos (by omega)]; rfl) | (rw [if_neg (by omega)]; rfl)) | (rw [if_neg c_2]; rfl)) (by exact ⟨Or.inl ⟨c_2, ⟨_, _, _, _, _, _, _, _, _, _, hm0, hm1, ⟨hRp, hP⟩, hm38, hsv, hm39, hm40, hsl, hm41, hbu, hm42, hm43, hm44⟩⟩, by intro id h9; rw [fr10 id (by omega)]; try rfl⟩) (by decide) (by decide)
      · skip
        have c_25 : ¬ (nc ≤ i32n x) := fun h__ => c_25 ((nI_leI (a := nc) (b := i32n x) (by omega) (by omega)).mpr h__)
        refine lv_aload_n hx hb dX7_charAt_28 rfl (lv_at hl 0 rfl) ?_
        refine q_get hx hb hts hinX7 hown hG hW hm0 rfl 5 (by decide) (hts (.fieldLink RX7 23 "FoleyMixerModel" "text" "[I") (List.mem_of_getElem? (i := 2) rfl)) rfl rfl dX7_charAt_29 ?_
        refine lv_iload_n hx hb dX7_charAt_32 rfl (lv_at hl 1 rfl) ?_
        refine q_iald hx hb hG hW hm41 (by omega) (by omega) dX7_charAt_33 ?_
        refine lv_goto (tgt := 38) hx hb dX7_charAt_34 (by decide) ?_
        exact q_wi hx hb hr hlocks hW hS dX7_charAt_38 (by first | (rw [if_pos c_2]; unfold cAt; first | (rw [if_pos (by omega)]; rfl) | (rw [if_neg (by omega)]; rfl)) | (rw [if_neg c_2]; rfl)) (by exact ⟨Or.inl ⟨c_2, ⟨_, _, _, _, _, _, _, _, _, _, hm0, hm1, ⟨hRp, hP⟩, hm38, hsv, hm39, hm40, hsl, hm41, hbu, hm42, hm43, hm44⟩⟩, by intro id h9; rw [fr10 id (by omega)]; try rfl⟩) (by decide) (by decide)
    · skip
      have c_13 : 1 = 0 := (nI_eq0 (i := 1) (by omega)).mp c_13
      exact absurd c_13 (by omega)
  · skip
    refine lv_iconst (v := nI 1) hx hb dX7_charAt_5 (by decide) ?_
    refine lv_goto (tgt := 10) hx hb dX7_charAt_6 (by decide) ?_
    refine q_W1 (va_runV (As := [.int (nI 1)]) (rest := []) ⟨hx, hb, hml, hown, hts⟩ (c_X7_holds l hm0 (nI (1))) (cwV 1 hts gX7_charAt_X7_holds rfl rfl rfl (by decide +kernel) ⟨Nat.le_of_ble_eq_true rfl, Nat.le_of_ble_eq_true rfl⟩) (q_preV hG hW hS hm0 rfl) rfl rfl hl.1 rfl (lv_room (Nat.le_of_ble_eq_true rfl)) dX7_charAt_10 ⟨Nat.le_of_ble_eq_true rfl, Nat.le_of_ble_eq_true rfl⟩) hS (fun w_10 H locs hp10 hW hS => ?_)
    obtain ⟨hm0, fr10⟩ := hp10
    replace hm1 : w_10 37 = some (eN dA 85 F) := (fr10 _ (by omega)).trans hm1
    replace hm38 : w_10 38 = some (eN dA 510 G) := (fr10 _ (by omega)).trans hm38
    replace hm39 : w_10 39 = some (eN dA 170 GS) := (fr10 _ (by omega)).trans hm39
    replace hm40 : w_10 40 = some (eZ dA 2 Zt) := (fr10 _ (by omega)).trans hm40
    replace hm41 : w_10 41 = some (eN dA 80 C) := (fr10 _ (by omega)).trans hm41
    replace hm42 : w_10 42 = some (eN dA 120 D0) := (fr10 _ (by omega)).trans hm42
    replace hm43 : w_10 43 = some (eN dA 120 M0) := (fr10 _ (by omega)).trans hm43
    replace hm44 : w_10 44 = some (eN dA 3 TD) := (fr10 _ (by omega)).trans hm44
    refine q_topv (v' := .int (nI 0)) (congrArg Value.int (by decide)) ?_
    refine lv_if_ne (tgt := 20) hx hb dX7_charAt_13 (by decide) (fun c_13 => ?_) (fun c_13 => ?_)
    · skip
      have c_13 : ¬ (0 = 0) := fun h__ => c_13 ((nI_eq0 (i := 0) (by omega)).mpr h__)
      exact absurd c_13 (by omega)
    · skip
      have c_13 : 0 = 0 := (nI_eq0 (i := 0) (by omega)).mp c_13
      refine lv_iconst (v := nI 0) hx hb dX7_charAt_16 (by decide) ?_
      refine lv_goto (tgt := 38) hx hb dX7_charAt_17 (by decide) ?_
      exact q_wi hx hb hr hlocks hW hS dX7_charAt_38 (by first | (rw [if_pos c_2]; unfold cAt; first | (rw [if_pos (by omega)]; rfl) | (rw [if_neg (by omega)]; rfl)) | (rw [if_neg c_2]; rfl)) (by exact ⟨Or.inr ⟨c_2, ⟨_, _, _, _, _, _, _, _, _, _, hm0, hm1, ⟨hRp, hP⟩, hm38, hsv, hm39, hm40, hsl, hm41, hbu, hm42, hm43, hm44⟩⟩, by intro id h9; rw [fr10 id (by omega)]; try rfl⟩) (by decide) (by decide)

set_option maxHeartbeats 300000 in
set_option maxRecDepth 100000 in
/-- undo -/
theorem c_X7_undo (l : Launch) {D : va_G} {dA : Nat → Nat} {b : Nat} {w : Wd} {n nc : Nat} {P : Pl} {Hs : Nat → Pl} {SL : Nat → Option Pl} {C : Nat → Nat} {tt : Int32} (hmd : isMod dA b w (P, (n, Hs), SL, (nc, C)) tt) : Met l yX7_undo wsX7_undo ({ frames := 1, cells := 0, slots := 0, locals := 24 } : Room) (PC D dA b w [.ref (b + 36)]) (QW D b (some (.int (if 0 < n then nI (n - 1) else 0))) (fun w' => (((0 < n) ∧ isMod dA b w' (Hs (n - 1), (n - 1, Hs), SL, (nc, C)) (nI 0)) ∨ ((n = 0) ∧ isMod dA b w' (P, (n, Hs), SL, (nc, C)) (nI 1))) ∧ ∀ id : Nat, (id < 36 ∨ 45 ≤ id) → w' id = w id)) 0 0 (Fb b) := by
  refine q_of (cc := cX7_undo) (maxL := 1) (ret := (some .int)) (by decide) rfl rfl ?_
  intro p e s m args below meth c ls hx hb hr hml hts hown hlocks hG hW hS hl
  have hown : s.vm.findClass RX7 = some m.cls := hown
  have hinX7 : ∀ w ∈ u_ws RX7 TX7 14, w ∈ wsX7_undo := fun w h => (goodIn_r (big := wsX7_undo) (u_ws RX7 TX7 14) [13, 14, 15, 16, 17, 18, 19, 20, 21, 22, 23, 24, 25, 26] (by decide +kernel) (by decide +kernel) w h).1
  have hl : lv_has ls 1 [(0, .ref (b + 36))] := hl
  obtain ⟨pl, lt, dn, F, G, GS, Zt, D0, M0, TD, hm0, hm1, ⟨hRp, hP⟩, hm38, hsv, hm39, hm40, hsl, hm41, hbu, hm42, hm43, hm44⟩ := id hmd
  change w 36 = some (modO b (nI n) (nI nc) tt pl lt dn) at hm0
  change rep F P at hRp
  change okP P at hP
  change mSv n G Hs at hsv
  change mSl GS Zt SL at hsl
  change w 41 = some (eN dA 80 C) at hm41
  change mBu nc C at hbu
  have hn6 := hsv.1
  have hnc := hbu.1
  obtain ⟨hPw, hPn, hPW, hPN, hPS⟩ := id hP
  have hr5 := hRp.2.1
  have hr6 := hRp.2.2.1
  refine lv_aload_n hx hb dX7_undo_0 rfl (lv_at hl 0 rfl) ?_
  refine lv_aload_n hx hb dX7_undo_1 rfl (lv_at hl 0 rfl) ?_
  refine q_get hx hb hts hinX7 hown hG hW hm0 rfl 2 (by decide) (hts (.fieldLink RX7 47 "FoleyMixerModel" "savedMany" "I") (List.mem_of_getElem? (i := 1) rfl)) rfl rfl dX7_undo_2 ?_
  refine lv_if_le (tgt := 12) hx hb dX7_undo_5 (by decide) (fun c_5 => ?_) (fun c_5 => ?_)
  · skip
    have c_5 : n ≤ 0 := (nI_le0 (i := n) (by omega)).mp c_5
    refine lv_iconst (v := nI 1) hx hb dX7_undo_12 (by decide) ?_
    refine q_W1 (va_runV (As := [.int (nI 1)]) (rest := []) ⟨hx, hb, hml, hown, hts⟩ (c_X7_holds l hm0 (nI (1))) (cwV 1 hts gX7_undo_X7_holds rfl rfl rfl (by decide +kernel) ⟨Nat.le_of_ble_eq_true rfl, Nat.le_of_ble_eq_true rfl⟩) (q_preV hG hW hS hm0 rfl) rfl rfl hl.1 rfl (lv_room (Nat.le_of_ble_eq_true rfl)) dX7_undo_13 ⟨Nat.le_of_ble_eq_true rfl, Nat.le_of_ble_eq_true rfl⟩) hS (fun w_13 H locs hp13 hW hS => ?_)
    obtain ⟨hm0, fr13⟩ := hp13
    replace hm1 : w_13 37 = some (eN dA 85 F) := (fr13 _ (by omega)).trans hm1
    replace hm38 : w_13 38 = some (eN dA 510 G) := (fr13 _ (by omega)).trans hm38
    replace hm39 : w_13 39 = some (eN dA 170 GS) := (fr13 _ (by omega)).trans hm39
    replace hm40 : w_13 40 = some (eZ dA 2 Zt) := (fr13 _ (by omega)).trans hm40
    replace hm41 : w_13 41 = some (eN dA 80 C) := (fr13 _ (by omega)).trans hm41
    replace hm42 : w_13 42 = some (eN dA 120 D0) := (fr13 _ (by omega)).trans hm42
    replace hm43 : w_13 43 = some (eN dA 120 M0) := (fr13 _ (by omega)).trans hm43
    replace hm44 : w_13 44 = some (eN dA 3 TD) := (fr13 _ (by omega)).trans hm44
    refine q_topv (v' := .int (nI 0)) (congrArg Value.int (by decide)) ?_
    refine lv_if_ne (tgt := 21) hx hb dX7_undo_16 (by decide) (fun c_16 => ?_) (fun c_16 => ?_)
    · skip
      have c_16 : ¬ (0 = 0) := fun h__ => c_16 ((nI_eq0 (i := 0) (by omega)).mpr h__)
      exact absurd c_16 (by omega)
    · skip
      have c_16 : 0 = 0 := (nI_eq0 (i := 0) (by omega)).mp c_16
      refine lv_iconst (v := nI 0) hx hb dX7_undo_19 (by decide) ?_
      exact q_wi hx hb hr hlocks hW hS dX7_undo_20 (by rw [if_neg (by omega)]; rfl) (by exact ⟨Or.inr ⟨by omega, ⟨_, _, _, _, _, _, _, _, _, _, hm0, hm1, ⟨hRp, hP⟩, hm38, hsv, hm39, hm40, hsl, hm41, hbu, hm42, hm43, hm44⟩⟩, by intro id h9; rw [fr13 id (by omega)]; try rfl⟩) (by decide) (by decide)
  · skip
    have c_5 : ¬ (n ≤ 0) := fun h__ => c_5 ((nI_le0 (i := n) (by omega)).mpr h__)
    refine lv_iconst (v := nI 0) hx hb dX7_undo_8 (by decide) ?_
    refine lv_goto (tgt := 13) hx hb dX7_undo_9 (by decide) ?_
    refine q_W1 (va_runV (As := [.int (nI 0)]) (rest := []) ⟨hx, hb, hml, hown, hts⟩ (c_X7_holds l hm0 (nI (0))) (cwV 1 hts gX7_undo_X7_holds rfl rfl rfl (by decide +kernel) ⟨Nat.le_of_ble_eq_true rfl, Nat.le_of_ble_eq_true rfl⟩) (q_preV hG hW hS hm0 rfl) rfl rfl hl.1 rfl (lv_room (Nat.le_of_ble_eq_true rfl)) dX7_undo_13 ⟨Nat.le_of_ble_eq_true rfl, Nat.le_of_ble_eq_true rfl⟩) hS (fun w_13 H locs hp13 hW hS => ?_)
    obtain ⟨hm0, fr13⟩ := hp13
    replace hm1 : w_13 37 = some (eN dA 85 F) := (fr13 _ (by omega)).trans hm1
    replace hm38 : w_13 38 = some (eN dA 510 G) := (fr13 _ (by omega)).trans hm38
    replace hm39 : w_13 39 = some (eN dA 170 GS) := (fr13 _ (by omega)).trans hm39
    replace hm40 : w_13 40 = some (eZ dA 2 Zt) := (fr13 _ (by omega)).trans hm40
    replace hm41 : w_13 41 = some (eN dA 80 C) := (fr13 _ (by omega)).trans hm41
    replace hm42 : w_13 42 = some (eN dA 120 D0) := (fr13 _ (by omega)).trans hm42
    replace hm43 : w_13 43 = some (eN dA 120 M0) := (fr13 _ (by omega)).trans hm43
    replace hm44 : w_13 44 = some (eN dA 3 TD) := (fr13 _ (by omega)).trans hm44
    refine q_topv (v' := .int (nI 1)) (congrArg Value.int (by decide)) ?_
    refine lv_if_ne (tgt := 21) hx hb dX7_undo_16 (by decide) (fun c_16 => ?_) (fun c_16 => ?_)
    · skip
      have c_16 : ¬ (1 = 0) := fun h__ => c_16 ((nI_eq0 (i := 1) (by omega)).mpr h__)
      refine lv_aload_n hx hb dX7_undo_21 rfl (lv_at hl 0 rfl) ?_
      refine lv_dup hx hb dX7_undo_22 rfl ?_
      refine q_get hx hb hts hinX7 hown hG hW hm0 rfl 2 (by decide) (hts (.fieldLink RX7 47 "FoleyMixerModel" "savedMany" "I") (List.mem_of_getElem? (i := 1) rfl)) rfl rfl dX7_undo_23 ?_
      refine lv_iconst (v := nI 1) hx hb dX7_undo_26 (by decide) ?_
      refine lv_isub hx hb dX7_undo_27 ?_
      refine q_top (y := nI (n - 1)) (nI_sub (by omega)) ?_
      refine q_put hx hb hts hinX7 tyX7_ok nmX7 hown hG hW hS hm0 rfl 2 (by decide) (hts (.fieldLink RX7 47 "FoleyMixerModel" "savedMany" "I") (List.mem_of_getElem? (i := 1) rfl)) rfl rfl rfl rfl (Nat.le_of_ble_eq_true rfl) dX7_undo_28 (fun H locs hW hS hz28 => ?_)
      obtain ⟨w1, ew1⟩ : ∃ wq__ : Wd, wq__ = va_up w_13 36 (some (.inr (7, [.ref (b + 37), .ref (b + 38), .int (nI (n - 1)), .ref (b + 39), .ref (b + 40), .ref (b + 41), .int (nI nc), .int (nI 0), .ref (b + 42), .ref (b + 43), .int (pl), .int (lt), .ref (b + 44), .int (dn)]))) := ⟨_, rfl⟩
      replace hW : WP D b w1 H := by rw [ew1]; exact hW
      have frw1 : ∀ id : Nat, id ≠ 36 → w1 id = w_13 id := fun id h9 => by rw [ew1, up_ne h9]
      replace hm1 : w1 37 = some (eN dA 85 F) := (frw1 _ (by omega)).trans hm1
      replace hm38 : w1 38 = some (eN dA 510 G) := (frw1 _ (by omega)).trans hm38
      replace hm39 : w1 39 = some (eN dA 170 GS) := (frw1 _ (by omega)).trans hm39
      replace hm40 : w1 40 = some (eZ dA 2 Zt) := (frw1 _ (by omega)).trans hm40
      replace hm41 : w1 41 = some (eN dA 80 C) := (frw1 _ (by omega)).trans hm41
      replace hm42 : w1 42 = some (eN dA 120 D0) := (frw1 _ (by omega)).trans hm42
      replace hm43 : w1 43 = some (eN dA 120 M0) := (frw1 _ (by omega)).trans hm43
      replace hm44 : w1 44 = some (eN dA 3 TD) := (frw1 _ (by omega)).trans hm44
      replace hm0 : w1 36 = some (.inr (7, [.ref (b + 37), .ref (b + 38), .int (nI (n - 1)), .ref (b + 39), .ref (b + 40), .ref (b + 41), .int (nI nc), .int (nI 0), .ref (b + 42), .ref (b + 43), .int (pl), .int (lt), .ref (b + 44), .int (dn)])) := by rw [ew1]; exact up_eq
      refine lv_aload_n hx hb dX7_undo_31 rfl (lv_at hl 0 rfl) ?_
      refine q_get hx hb hts hinX7 hown hG hW hm0 rfl 1 (by decide) (hts (.fieldLink RX7 13 "FoleyMixerModel" "saved" "[I") (List.mem_of_getElem? (i := 2) rfl)) rfl rfl dX7_undo_32 ?_
      refine lv_bipush (v := nI 85) hx hb dX7_undo_35 (by decide) ?_
      refine lv_aload_n hx hb dX7_undo_37 rfl (lv_at hl 0 rfl) ?_
      refine q_get hx hb hts hinX7 hown hG hW hm0 rfl 2 (by decide) (hts (.fieldLink RX7 47 "FoleyMixerModel" "savedMany" "I") (List.mem_of_getElem? (i := 1) rfl)) rfl rfl dX7_undo_38 ?_
      refine lv_imul hx hb dX7_undo_41 ?_
      refine q_top (y := nI (85 * (n - 1))) (nI_mul _ _) ?_
      refine lv_aload_n hx hb dX7_undo_42 rfl (lv_at hl 0 rfl) ?_
      refine q_get hx hb hts hinX7 hown hG hW hm0 rfl 0 (by decide) (hts (.fieldLink RX7 7 "FoleyMixerModel" "s" "[I") (List.mem_of_getElem? (i := 3) rfl)) rfl rfl dX7_undo_43 ?_
      refine lv_iconst (v := nI 0) hx hb dX7_undo_46 (by decide) ?_
      refine q_W0 (va_runS (As := [.ref (b + 38), .int (nI (85 * (n - 1))), .ref (b + 37), .int (nI 0)]) (rest := []) ⟨hx, hb, hml, hown, hts⟩ (c_X7_copy l (f9 := 85 * (n - 1)) (t9 := 0) hm38 hm1 (by decide) (by omega) (by omega) (by decide) (by decide)) (va_cwS 4 hts gX7_undo_X7_copy rfl rfl rfl (by decide +kernel) ⟨Nat.le_of_ble_eq_true rfl, Nat.le_of_ble_eq_true rfl⟩) (q_preS hG hW hS) rfl rfl hl.1 rfl (lv_room (Nat.le_of_ble_eq_true rfl)) dX7_undo_47 ⟨Nat.le_of_ble_eq_true rfl, Nat.le_of_ble_eq_true rfl⟩) hS (fun w_47 H locs hp47 hW hS => ?_)
      obtain ⟨hm1, fr47⟩ := hp47
      replace hm38 : w_47 38 = some (eN dA 510 G) := (fr47 _ (by omega)).trans hm38
      replace hm39 : w_47 39 = some (eN dA 170 GS) := (fr47 _ (by omega)).trans hm39
      replace hm40 : w_47 40 = some (eZ dA 2 Zt) := (fr47 _ (by omega)).trans hm40
      replace hm41 : w_47 41 = some (eN dA 80 C) := (fr47 _ (by omega)).trans hm41
      replace hm42 : w_47 42 = some (eN dA 120 D0) := (fr47 _ (by omega)).trans hm42
      replace hm43 : w_47 43 = some (eN dA 120 M0) := (fr47 _ (by omega)).trans hm43
      replace hm44 : w_47 44 = some (eN dA 3 TD) := (fr47 _ (by omega)).trans hm44
      replace hm0 : w_47 36 = some (.inr (7, [.ref (b + 37), .ref (b + 38), .int (nI (n - 1)), .ref (b + 39), .ref (b + 40), .ref (b + 41), .int (nI nc), .int (nI 0), .ref (b + 42), .ref (b + 43), .int (pl), .int (lt), .ref (b + 44), .int (dn)])) := (fr47 _ (by omega)).trans hm0
      refine lv_aload_n hx hb dX7_undo_50 rfl (lv_at hl 0 rfl) ?_
      refine q_get hx hb hts hinX7 hown hG hW hm0 rfl 2 (by decide) (hts (.fieldLink RX7 47 "FoleyMixerModel" "savedMany" "I") (List.mem_of_getElem? (i := 1) rfl)) rfl rfl dX7_undo_51 ?_
      exact q_wi hx hb hr hlocks hW hS dX7_undo_54 (by rw [if_pos (by omega)]) (by have hk9 := hsv.2 (n - 1) (by omega); replace hRp := rep_back (F := F) hk9.1 hk9.2; replace hP := hk9.2; replace hsv : mSv (n - 1) G Hs := ⟨by omega, fun i hi => hsv.2 i (by omega)⟩; exact ⟨Or.inl ⟨by omega, ⟨_, _, _, _, _, _, _, _, _, _, hm0, hm1, ⟨hRp, hP⟩, hm38, hsv, hm39, hm40, hsl, hm41, hbu, hm42, hm43, hm44⟩⟩, by intro id h9; rw [fr47 id (by omega)]; rw [frw1 id (by omega)]; rw [fr13 id (by omega)]; try rfl⟩) (by decide) (by decide)
    · skip
      have c_16 : 1 = 0 := (nI_eq0 (i := 1) (by omega)).mp c_16
      exact absurd c_16 (by omega)

set_option maxHeartbeats 300000 in
set_option maxRecDepth 100000 in
/-- keep -/
theorem c_X7_keep (l : Launch) {D : va_G} {dA : Nat → Nat} {b : Nat} {w : Wd} {n nc : Nat} {P : Pl} {Hs : Nat → Pl} {SL : Nat → Option Pl} {C : Nat → Nat} {tt : Int32} (hmd : isMod dA b w (P, (n, Hs), SL, (nc, C)) tt) (x : Int32) : Met l yX7_keep wsX7_keep ({ frames := 2, cells := 0, slots := 0, locals := 42 } : Room) (PC D dA b w [.ref (b + 36), .int (x)]) (QW D b (some (.int (if 0 ≤ x ∧ x < nI 2 then nI P.w else 0))) (fun w' => (((0 ≤ x ∧ x < nI 2) ∧ isMod dA b w' (P, (n, Hs), va_up SL (i32n x) (some P), (nc, C)) (nI 0)) ∨ ((¬ (0 ≤ x ∧ x < nI 2)) ∧ isMod dA b w' (P, (n, Hs), SL, (nc, C)) (nI 1))) ∧ ∀ id : Nat, (id < 36 ∨ 45 ≤ id) → w' id = w id)) 0 0 (Fb b) := by
  refine q_of (cc := cX7_keep) (maxL := 2) (ret := (some .int)) (by decide) rfl rfl ?_
  intro p e s m args below meth c ls hx hb hr hml hts hown hlocks hG hW hS hl
  have hown : s.vm.findClass RX7 = some m.cls := hown
  have hinX7 : ∀ w ∈ u_ws RX7 TX7 14, w ∈ wsX7_keep := fun w h => (goodIn_r (big := wsX7_keep) (u_ws RX7 TX7 14) [19, 20, 21, 22, 23, 24, 25, 26, 27, 28, 29, 30, 31, 32] (by decide +kernel) (by decide +kernel) w h).1
  have hl : lv_has ls 2 [(0, .ref (b + 36)), (1, .int (x))] := hl
  obtain ⟨pl, lt, dn, F, G, GS, Zt, D0, M0, TD, hm0, hm1, ⟨hRp, hP⟩, hm38, hsv, hm39, hm40, hsl, hm41, hbu, hm42, hm43, hm44⟩ := id hmd
  change w 36 = some (modO b (nI n) (nI nc) tt pl lt dn) at hm0
  change rep F P at hRp
  change okP P at hP
  change mSv n G Hs at hsv
  change mSl GS Zt SL at hsl
  change w 41 = some (eN dA 80 C) at hm41
  change mBu nc C at hbu
  have hn6 := hsv.1
  have hnc := hbu.1
  obtain ⟨hPw, hPn, hPW, hPN, hPS⟩ := id hP
  have hr5 := hRp.2.1
  have hr6 := hRp.2.2.1
  refine lv_aload_n hx hb dX7_keep_0 rfl (lv_at hl 0 rfl) ?_
  refine lv_iload_n hx hb dX7_keep_1 rfl (lv_at hl 1 rfl) ?_
  refine q_R1 (va_runS (As := [.int (x)]) (rest := [.ref (b + 36)]) ⟨hx, hb, hml, hown, hts⟩ (c_X7_isSlot l (x)) (va_cwS 1 hts gX7_keep_X7_isSlot rfl rfl rfl (by decide +kernel) ⟨Nat.le_of_ble_eq_true rfl, Nat.le_of_ble_eq_true rfl⟩) (q_preS hG hW hS) rfl rfl hl.1 rfl (lv_room (Nat.le_of_ble_eq_true rfl)) dX7_keep_2 ⟨Nat.le_of_ble_eq_true rfl, Nat.le_of_ble_eq_true rfl⟩) ?_
  refine lv_if_eq (tgt := 12) hx hb dX7_keep_5 (by decide) (fun c_5 => ?_) (fun c_5 => ?_)
  · skip
    have c_5 : ¬ (0 ≤ x ∧ x ≤ 1) := pI_eq0.mp c_5
    refine lv_iconst (v := nI 1) hx hb dX7_keep_12 (by decide) ?_
    refine q_W1 (va_runV (As := [.int (nI 1)]) (rest := []) ⟨hx, hb, hml, hown, hts⟩ (c_X7_holds l hm0 (nI (1))) (cwV 1 hts gX7_keep_X7_holds rfl rfl rfl (by decide +kernel) ⟨Nat.le_of_ble_eq_true rfl, Nat.le_of_ble_eq_true rfl⟩) (q_preV hG hW hS hm0 rfl) rfl rfl hl.1 rfl (lv_room (Nat.le_of_ble_eq_true rfl)) dX7_keep_13 ⟨Nat.le_of_ble_eq_true rfl, Nat.le_of_ble_eq_true rfl⟩) hS (fun w_13 H locs hp13 hW hS => ?_)
    obtain ⟨hm0, fr13⟩ := hp13
    replace hm1 : w_13 37 = some (eN dA 85 F) := (fr13 _ (by omega)).trans hm1
    replace hm38 : w_13 38 = some (eN dA 510 G) := (fr13 _ (by omega)).trans hm38
    replace hm39 : w_13 39 = some (eN dA 170 GS) := (fr13 _ (by omega)).trans hm39
    replace hm40 : w_13 40 = some (eZ dA 2 Zt) := (fr13 _ (by omega)).trans hm40
    replace hm41 : w_13 41 = some (eN dA 80 C) := (fr13 _ (by omega)).trans hm41
    replace hm42 : w_13 42 = some (eN dA 120 D0) := (fr13 _ (by omega)).trans hm42
    replace hm43 : w_13 43 = some (eN dA 120 M0) := (fr13 _ (by omega)).trans hm43
    replace hm44 : w_13 44 = some (eN dA 3 TD) := (fr13 _ (by omega)).trans hm44
    refine q_topv (v' := .int (nI 0)) (congrArg Value.int (by decide)) ?_
    refine lv_if_ne (tgt := 21) hx hb dX7_keep_16 (by decide) (fun c_16 => ?_) (fun c_16 => ?_)
    · skip
      have c_16 : ¬ (0 = 0) := fun h__ => c_16 ((nI_eq0 (i := 0) (by omega)).mpr h__)
      exact absurd c_16 (by omega)
    · skip
      have c_16 : 0 = 0 := (nI_eq0 (i := 0) (by omega)).mp c_16
      refine lv_iconst (v := nI 0) hx hb dX7_keep_19 (by decide) ?_
      exact q_wi hx hb hr hlocks hW hS dX7_keep_20 (by rw [if_neg (fun q9 => c_5 ⟨q9.1, (lt_le (k := 1) (by decide)).mp q9.2⟩)]; rfl) (by exact ⟨Or.inr ⟨fun q9 => c_5 ⟨q9.1, (lt_le (k := 1) (by decide)).mp q9.2⟩, ⟨_, _, _, _, _, _, _, _, _, _, hm0, hm1, ⟨hRp, hP⟩, hm38, hsv, hm39, hm40, hsl, hm41, hbu, hm42, hm43, hm44⟩⟩, by intro id h9; rw [fr13 id (by omega)]; try rfl⟩) (by decide) (by decide)
  · skip
    have c_5 : 0 ≤ x ∧ x ≤ 1 := Decidable.byContradiction (fun h__ => c_5 (pI_eq0.mpr h__))
    refine lv_iconst (v := nI 0) hx hb dX7_keep_8 (by decide) ?_
    refine lv_goto (tgt := 13) hx hb dX7_keep_9 (by decide) ?_
    refine q_W1 (va_runV (As := [.int (nI 0)]) (rest := []) ⟨hx, hb, hml, hown, hts⟩ (c_X7_holds l hm0 (nI (0))) (cwV 1 hts gX7_keep_X7_holds rfl rfl rfl (by decide +kernel) ⟨Nat.le_of_ble_eq_true rfl, Nat.le_of_ble_eq_true rfl⟩) (q_preV hG hW hS hm0 rfl) rfl rfl hl.1 rfl (lv_room (Nat.le_of_ble_eq_true rfl)) dX7_keep_13 ⟨Nat.le_of_ble_eq_true rfl, Nat.le_of_ble_eq_true rfl⟩) hS (fun w_13 H locs hp13 hW hS => ?_)
    obtain ⟨hm0, fr13⟩ := hp13
    replace hm1 : w_13 37 = some (eN dA 85 F) := (fr13 _ (by omega)).trans hm1
    replace hm38 : w_13 38 = some (eN dA 510 G) := (fr13 _ (by omega)).trans hm38
    replace hm39 : w_13 39 = some (eN dA 170 GS) := (fr13 _ (by omega)).trans hm39
    replace hm40 : w_13 40 = some (eZ dA 2 Zt) := (fr13 _ (by omega)).trans hm40
    replace hm41 : w_13 41 = some (eN dA 80 C) := (fr13 _ (by omega)).trans hm41
    replace hm42 : w_13 42 = some (eN dA 120 D0) := (fr13 _ (by omega)).trans hm42
    replace hm43 : w_13 43 = some (eN dA 120 M0) := (fr13 _ (by omega)).trans hm43
    replace hm44 : w_13 44 = some (eN dA 3 TD) := (fr13 _ (by omega)).trans hm44
    refine q_topv (v' := .int (nI 1)) (congrArg Value.int (by decide)) ?_
    refine lv_if_ne (tgt := 21) hx hb dX7_keep_16 (by decide) (fun c_16 => ?_) (fun c_16 => ?_)
    · skip
      have c_16 : ¬ (1 = 0) := fun h__ => c_16 ((nI_eq0 (i := 1) (by omega)).mpr h__)
      have ho2 : 0 ≤ x ∧ x < nI 2 := ⟨c_5.1, (lt_le (k := 1) (by decide)).mpr c_5.2⟩
      obtain ⟨ex9, bx9⟩ := has_n (n := 2) (by decide) ho2.1 ho2.2
      have el_21 : x = nI (i32n x) := by exact ex9
      rw [el_21] at hl
      refine lv_aload_n hx hb dX7_keep_21 rfl (lv_at hl 0 rfl) ?_
      refine q_get hx hb hts hinX7 hown hG hW hm0 rfl 0 (by decide) (hts (.fieldLink RX7 7 "FoleyMixerModel" "s" "[I") (List.mem_of_getElem? (i := 1) rfl)) rfl rfl dX7_keep_22 ?_
      refine lv_iconst (v := nI 0) hx hb dX7_keep_25 (by decide) ?_
      refine lv_aload_n hx hb dX7_keep_26 rfl (lv_at hl 0 rfl) ?_
      refine q_get hx hb hts hinX7 hown hG hW hm0 rfl 3 (by decide) (hts (.fieldLink RX7 16 "FoleyMixerModel" "slots" "[I") (List.mem_of_getElem? (i := 2) rfl)) rfl rfl dX7_keep_27 ?_
      refine lv_bipush (v := nI 85) hx hb dX7_keep_30 (by decide) ?_
      refine lv_iload_n hx hb dX7_keep_32 rfl (lv_at hl 1 rfl) ?_
      refine lv_imul hx hb dX7_keep_33 ?_
      refine q_top (y := nI (85 * (i32n x))) (nI_mul _ _) ?_
      refine q_W0 (va_runS (As := [.ref (b + 37), .int (nI 0), .ref (b + 39), .int (nI (85 * (i32n x)))]) (rest := []) ⟨hx, hb, hml, hown, hts⟩ (c_X7_copy l (f9 := 0) (t9 := 85 * (i32n x)) hm1 hm39 (by decide) (by omega) (by omega) (by decide) (by decide)) (va_cwS 4 hts gX7_keep_X7_copy rfl rfl rfl (by decide +kernel) ⟨Nat.le_of_ble_eq_true rfl, Nat.le_of_ble_eq_true rfl⟩) (q_preS hG hW hS) rfl rfl hl.1 rfl (lv_room (Nat.le_of_ble_eq_true rfl)) dX7_keep_34 ⟨Nat.le_of_ble_eq_true rfl, Nat.le_of_ble_eq_true rfl⟩) hS (fun w_34 H locs hp34 hW hS => ?_)
      obtain ⟨hm39, fr34⟩ := hp34
      replace hm1 : w_34 37 = some (eN dA 85 F) := (fr34 _ (by omega)).trans hm1
      replace hm38 : w_34 38 = some (eN dA 510 G) := (fr34 _ (by omega)).trans hm38
      replace hm40 : w_34 40 = some (eZ dA 2 Zt) := (fr34 _ (by omega)).trans hm40
      replace hm41 : w_34 41 = some (eN dA 80 C) := (fr34 _ (by omega)).trans hm41
      replace hm42 : w_34 42 = some (eN dA 120 D0) := (fr34 _ (by omega)).trans hm42
      replace hm43 : w_34 43 = some (eN dA 120 M0) := (fr34 _ (by omega)).trans hm43
      replace hm44 : w_34 44 = some (eN dA 3 TD) := (fr34 _ (by omega)).trans hm44
      replace hm0 : w_34 36 = some (modO b (nI (n)) (nI (nc)) (nI (0)) (pl) (lt) (dn)) := (fr34 _ (by omega)).trans hm0
      refine lv_aload_n hx hb dX7_keep_37 rfl (lv_at hl 0 rfl) ?_
      refine q_get hx hb hts hinX7 hown hG hW hm0 rfl 4 (by decide) (hts (.fieldLink RX7 19 "FoleyMixerModel" "isTaken" "[Z") (List.mem_of_getElem? (i := 3) rfl)) rfl rfl dX7_keep_38 ?_
      refine lv_iload_n hx hb dX7_keep_41 rfl (lv_at hl 1 rfl) ?_
      refine lv_iconst (v := nI 1) hx hb dX7_keep_42 (by decide) ?_
      refine q_zast hx hb hG hW hS hm40 (by decide) (by omega) (by omega) dX7_keep_43 (fun H locs hW hS hz43 => ?_)
      obtain ⟨w1, ew1⟩ : ∃ wq__ : Wd, wq__ = va_up w_34 40 (some (eZ dA 2 (va_up Zt (i32n x) (nI (1))))) := ⟨_, rfl⟩
      replace hW : WP D b w1 H := by rw [ew1]; exact hW
      have frw1 : ∀ id : Nat, id ≠ 40 → w1 id = w_34 id := fun id h9 => by rw [ew1, up_ne h9]
      replace hm1 : w1 37 = some (eN dA 85 F) := (frw1 _ (by omega)).trans hm1
      replace hm38 : w1 38 = some (eN dA 510 G) := (frw1 _ (by omega)).trans hm38
      replace hm41 : w1 41 = some (eN dA 80 C) := (frw1 _ (by omega)).trans hm41
      replace hm42 : w1 42 = some (eN dA 120 D0) := (frw1 _ (by omega)).trans hm42
      replace hm43 : w1 43 = some (eN dA 120 M0) := (frw1 _ (by omega)).trans hm43
      replace hm44 : w1 44 = some (eN dA 3 TD) := (frw1 _ (by omega)).trans hm44
      replace hm0 : w1 36 = some (modO b (nI (n)) (nI (nc)) (nI (0)) (pl) (lt) (dn)) := (frw1 _ (by omega)).trans hm0
      replace hm39 : w1 39 = some (eN dA 170 (fun j => if 85 * (i32n x) ≤ j ∧ j < 85 * (i32n x) + 85 then F (0 + (j - (85 * (i32n x)))) else GS j)) := (frw1 _ (by omega)).trans hm39
      replace hm40 : w1 40 = some (eZ dA 2 (va_up Zt (i32n x) (nI (1)))) := by rw [ew1]; exact up_eq
      refine lv_aload_n hx hb dX7_keep_44 rfl (lv_at hl 0 rfl) ?_
      refine q_get hx hb hts hinX7 hown hG hW hm0 rfl 0 (by decide) (hts (.fieldLink RX7 7 "FoleyMixerModel" "s" "[I") (List.mem_of_getElem? (i := 1) rfl)) rfl rfl dX7_keep_45 ?_
      refine lv_iconst (v := nI 5) hx hb dX7_keep_48 (by decide) ?_
      refine q_iald hx hb hG hW hm1 (by omega) (by omega) dX7_keep_49 ?_
      refine q_top (y := nI (P.w)) (by exact congrArg nI hr5) ?_
      exact q_wi hx hb hr hlocks hW hS dX7_keep_50 (by rw [if_pos ho2]) (by replace hsl := sl_keep hsl bx9 hRp hP; exact ⟨Or.inl ⟨ho2, ⟨_, _, _, _, _, _, _, _, _, _, hm0, hm1, ⟨hRp, hP⟩, hm38, hsv, hm39, hm40, hsl, hm41, hbu, hm42, hm43, hm44⟩⟩, by intro id h9; rw [frw1 id (by omega)]; rw [fr34 id (by omega)]; rw [fr13 id (by omega)]; try rfl⟩) (by decide) (by decide)
    · skip
      have c_16 : 1 = 0 := (nI_eq0 (i := 1) (by omega)).mp c_16
      exact absurd c_16 (by omega)

set_option maxHeartbeats 300000 in
set_option maxRecDepth 100000 in
/-- goBack -/
theorem c_X7_goBack (l : Launch) {D : va_G} {dA : Nat → Nat} {b : Nat} {w : Wd} {n nc : Nat} {P : Pl} {Hs : Nat → Pl} {SL : Nat → Option Pl} {C : Nat → Nat} {tt : Int32} (hmd : isMod dA b w (P, (n, Hs), SL, (nc, C)) tt) (x : Int32) : Met l yX7_goBack wsX7_goBack ({ frames := 2, cells := 0, slots := 0, locals := 45 } : Room) (PC D dA b w [.ref (b + 36), .int (x)]) (QW D b (some (.int (if (0 ≤ x ∧ x < nI 2) ∧ SL (i32n x) ≠ none then nI ((SL (i32n x)).getD P0).w else 0))) (fun w' => ((((0 ≤ x ∧ x < nI 2) ∧ SL (i32n x) ≠ none) ∧ isMod dA b w' ((SL (i32n x)).getD P0, (pshN n, psh n Hs P), SL, (nc, C)) (nI 0)) ∨ ((¬ (0 ≤ x ∧ x < nI 2)) ∧ isMod dA b w' (P, (n, Hs), SL, (nc, C)) (nI 1)) ∨ (((0 ≤ x ∧ x < nI 2) ∧ SL (i32n x) = none) ∧ isMod dA b w' (P, (n, Hs), SL, (nc, C)) (nI 2))) ∧ ∀ id : Nat, (id < 36 ∨ 45 ≤ id) → w' id = w id)) 0 0 (Fb b) := by
  refine q_of (cc := cX7_goBack) (maxL := 2) (ret := (some .int)) (by decide) rfl rfl ?_
  intro p e s m args below meth c ls hx hb hr hml hts hown hlocks hG hW hS hl
  have hown : s.vm.findClass RX7 = some m.cls := hown
  have hinX7 : ∀ w ∈ u_ws RX7 TX7 14, w ∈ wsX7_goBack := fun w h => (goodIn_r (big := wsX7_goBack) (u_ws RX7 TX7 14) [25, 26, 27, 28, 29, 30, 31, 32, 33, 34, 35, 36, 37, 38] (by decide +kernel) (by decide +kernel) w h).1
  have hl : lv_has ls 2 [(0, .ref (b + 36)), (1, .int (x))] := hl
  obtain ⟨pl, lt, dn, F, G, GS, Zt, D0, M0, TD, hm0, hm1, ⟨hRp, hP⟩, hm38, hsv, hm39, hm40, hsl, hm41, hbu, hm42, hm43, hm44⟩ := id hmd
  change w 36 = some (modO b (nI n) (nI nc) tt pl lt dn) at hm0
  change rep F P at hRp
  change okP P at hP
  change mSv n G Hs at hsv
  change mSl GS Zt SL at hsl
  change w 41 = some (eN dA 80 C) at hm41
  change mBu nc C at hbu
  have hn6 := hsv.1
  have hnc := hbu.1
  obtain ⟨hPw, hPn, hPW, hPN, hPS⟩ := id hP
  have hr5 := hRp.2.1
  have hr6 := hRp.2.2.1
  refine lv_aload_n hx hb dX7_goBack_0 rfl (lv_at hl 0 rfl) ?_
  refine lv_iload_n hx hb dX7_goBack_1 rfl (lv_at hl 1 rfl) ?_
  refine q_R1 (va_runS (As := [.int (x)]) (rest := [.ref (b + 36)]) ⟨hx, hb, hml, hown, hts⟩ (c_X7_isSlot l (x)) (va_cwS 1 hts gX7_goBack_X7_isSlot rfl rfl rfl (by decide +kernel) ⟨Nat.le_of_ble_eq_true rfl, Nat.le_of_ble_eq_true rfl⟩) (q_preS hG hW hS) rfl rfl hl.1 rfl (lv_room (Nat.le_of_ble_eq_true rfl)) dX7_goBack_2 ⟨Nat.le_of_ble_eq_true rfl, Nat.le_of_ble_eq_true rfl⟩) ?_
  refine lv_if_ne (tgt := 12) hx hb dX7_goBack_5 (by decide) (fun c_5 => ?_) (fun c_5 => ?_)
  · skip
    have c_5 : 0 ≤ x ∧ x ≤ 1 := Decidable.byContradiction (fun h__ => c_5 (pI_eq0.mpr h__))
    have ho2 : 0 ≤ x ∧ x < nI 2 := ⟨c_5.1, (lt_le (k := 1) (by decide)).mpr c_5.2⟩
    obtain ⟨ex9, bx9⟩ := has_n (n := 2) (by decide) ho2.1 ho2.2
    have el_12 : x = nI (i32n x) := by exact ex9
    rw [el_12] at hl
    refine lv_aload_n hx hb dX7_goBack_12 rfl (lv_at hl 0 rfl) ?_
    refine q_get hx hb hts hinX7 hown hG hW hm0 rfl 4 (by decide) (hts (.fieldLink RX7 19 "FoleyMixerModel" "isTaken" "[Z") (List.mem_of_getElem? (i := 1) rfl)) rfl rfl dX7_goBack_13 ?_
    refine lv_iload_n hx hb dX7_goBack_16 rfl (lv_at hl 1 rfl) ?_
    refine q_zald hx hb hG hW hm40 (by omega) (by omega) dX7_goBack_17 ?_
    refine lv_if_eq (tgt := 25) hx hb dX7_goBack_18 (by decide) (fun c_18 => ?_) (fun c_18 => ?_)
    · skip
      have hz9 : SL (i32n x) = none := (hsl _ bx9).elim (fun q9 => q9.1) (fun ⟨Q, h1, h2, h3⟩ => absurd (h2.symm.trans c_18) zt_ne)
      refine lv_iconst (v := nI 2) hx hb dX7_goBack_25 (by decide) ?_
      refine q_W1 (va_runV (As := [.int (nI 2)]) (rest := []) ⟨hx, hb, hml, hown, hts⟩ (c_X7_holds l hm0 (nI (2))) (cwV 1 hts gX7_goBack_X7_holds rfl rfl rfl (by decide +kernel) ⟨Nat.le_of_ble_eq_true rfl, Nat.le_of_ble_eq_true rfl⟩) (q_preV hG hW hS hm0 rfl) rfl rfl hl.1 rfl (lv_room (Nat.le_of_ble_eq_true rfl)) dX7_goBack_26 ⟨Nat.le_of_ble_eq_true rfl, Nat.le_of_ble_eq_true rfl⟩) hS (fun w_26 H locs hp26 hW hS => ?_)
      obtain ⟨hm0, fr26⟩ := hp26
      replace hm1 : w_26 37 = some (eN dA 85 F) := (fr26 _ (by omega)).trans hm1
      replace hm38 : w_26 38 = some (eN dA 510 G) := (fr26 _ (by omega)).trans hm38
      replace hm39 : w_26 39 = some (eN dA 170 GS) := (fr26 _ (by omega)).trans hm39
      replace hm40 : w_26 40 = some (eZ dA 2 Zt) := (fr26 _ (by omega)).trans hm40
      replace hm41 : w_26 41 = some (eN dA 80 C) := (fr26 _ (by omega)).trans hm41
      replace hm42 : w_26 42 = some (eN dA 120 D0) := (fr26 _ (by omega)).trans hm42
      replace hm43 : w_26 43 = some (eN dA 120 M0) := (fr26 _ (by omega)).trans hm43
      replace hm44 : w_26 44 = some (eN dA 3 TD) := (fr26 _ (by omega)).trans hm44
      refine q_topv (v' := .int (nI 0)) (congrArg Value.int (by decide)) ?_
      refine lv_if_ne (tgt := 34) hx hb dX7_goBack_29 (by decide) (fun c_29 => ?_) (fun c_29 => ?_)
      · skip
        have c_29 : ¬ (0 = 0) := fun h__ => c_29 ((nI_eq0 (i := 0) (by omega)).mpr h__)
        exact absurd c_29 (by omega)
      · skip
        have c_29 : 0 = 0 := (nI_eq0 (i := 0) (by omega)).mp c_29
        refine lv_iconst (v := nI 0) hx hb dX7_goBack_32 (by decide) ?_
        exact q_wi hx hb hr hlocks hW hS dX7_goBack_33 (by rw [if_neg (by first | exact fun q9 => (fun q9 => c_5 ⟨q9.1, (lt_le (k := 1) (by decide)).mp q9.2⟩) q9.1 | exact fun q9 => q9.2 hz9)]; rfl) (by exact ⟨Or.inr (Or.inr ⟨⟨ho2, hz9⟩, ⟨_, _, _, _, _, _, _, _, _, _, hm0, hm1, ⟨hRp, hP⟩, hm38, hsv, hm39, hm40, hsl, hm41, hbu, hm42, hm43, hm44⟩⟩), by intro id h9; rw [fr26 id (by omega)]; try rfl⟩) (by decide) (by decide)
    · skip
      obtain ⟨Q9, hq9, hz9, hr9, hk9⟩ : ∃ Q, SL (i32n x) = some Q ∧ Zt (i32n x) = 1 ∧ rep (fun k => GS (85 * i32n x + k)) Q ∧ okP Q := (hsl _ bx9).resolve_left (fun q9 => c_18 q9.2)
      refine lv_iconst (v := nI 0) hx hb dX7_goBack_21 (by decide) ?_
      refine lv_goto (tgt := 26) hx hb dX7_goBack_22 (by decide) ?_
      refine q_W1 (va_runV (As := [.int (nI 0)]) (rest := []) ⟨hx, hb, hml, hown, hts⟩ (c_X7_holds l hm0 (nI (0))) (cwV 1 hts gX7_goBack_X7_holds rfl rfl rfl (by decide +kernel) ⟨Nat.le_of_ble_eq_true rfl, Nat.le_of_ble_eq_true rfl⟩) (q_preV hG hW hS hm0 rfl) rfl rfl hl.1 rfl (lv_room (Nat.le_of_ble_eq_true rfl)) dX7_goBack_26 ⟨Nat.le_of_ble_eq_true rfl, Nat.le_of_ble_eq_true rfl⟩) hS (fun w_26 H locs hp26 hW hS => ?_)
      obtain ⟨hm0, fr26⟩ := hp26
      replace hm1 : w_26 37 = some (eN dA 85 F) := (fr26 _ (by omega)).trans hm1
      replace hm38 : w_26 38 = some (eN dA 510 G) := (fr26 _ (by omega)).trans hm38
      replace hm39 : w_26 39 = some (eN dA 170 GS) := (fr26 _ (by omega)).trans hm39
      replace hm40 : w_26 40 = some (eZ dA 2 Zt) := (fr26 _ (by omega)).trans hm40
      replace hm41 : w_26 41 = some (eN dA 80 C) := (fr26 _ (by omega)).trans hm41
      replace hm42 : w_26 42 = some (eN dA 120 D0) := (fr26 _ (by omega)).trans hm42
      replace hm43 : w_26 43 = some (eN dA 120 M0) := (fr26 _ (by omega)).trans hm43
      replace hm44 : w_26 44 = some (eN dA 3 TD) := (fr26 _ (by omega)).trans hm44
      refine q_topv (v' := .int (nI 1)) (congrArg Value.int (by decide)) ?_
      refine lv_if_ne (tgt := 34) hx hb dX7_goBack_29 (by decide) (fun c_29 => ?_) (fun c_29 => ?_)
      · skip
        have c_29 : ¬ (1 = 0) := fun h__ => c_29 ((nI_eq0 (i := 1) (by omega)).mpr h__)
        refine lv_aload_n hx hb dX7_goBack_34 rfl (lv_at hl 0 rfl) ?_
        refine q_W0 (va_runV (As := []) (rest := []) ⟨hx, hb, hml, hown, hts⟩ (c_X7_save l hm0 hm1 hm38 hsv.1) (cwV 0 hts gX7_goBack_X7_save rfl rfl rfl (by decide +kernel) ⟨Nat.le_of_ble_eq_true rfl, Nat.le_of_ble_eq_true rfl⟩) (q_preV hG hW hS hm0 rfl) rfl rfl hl.1 rfl (lv_room (Nat.le_of_ble_eq_true rfl)) dX7_goBack_35 ⟨Nat.le_of_ble_eq_true rfl, Nat.le_of_ble_eq_true rfl⟩) hS (fun w_35 H locs hp35 hW hS => ?_)
        obtain ⟨hm0, hm38, fr35⟩ := hp35
        replace hm1 : w_35 37 = some (eN dA 85 F) := (fr35 _ (by omega)).trans hm1
        replace hm39 : w_35 39 = some (eN dA 170 GS) := (fr35 _ (by omega)).trans hm39
        replace hm40 : w_35 40 = some (eZ dA 2 Zt) := (fr35 _ (by omega)).trans hm40
        replace hm41 : w_35 41 = some (eN dA 80 C) := (fr35 _ (by omega)).trans hm41
        replace hm42 : w_35 42 = some (eN dA 120 D0) := (fr35 _ (by omega)).trans hm42
        replace hm43 : w_35 43 = some (eN dA 120 M0) := (fr35 _ (by omega)).trans hm43
        replace hm44 : w_35 44 = some (eN dA 3 TD) := (fr35 _ (by omega)).trans hm44
        replace hsv := sav_rep hsv hRp hP
        refine lv_aload_n hx hb dX7_goBack_38 rfl (lv_at hl 0 rfl) ?_
        refine q_get hx hb hts hinX7 hown hG hW hm0 rfl 3 (by decide) (hts (.fieldLink RX7 16 "FoleyMixerModel" "slots" "[I") (List.mem_of_getElem? (i := 2) rfl)) rfl rfl dX7_goBack_39 ?_
        refine lv_bipush (v := nI 85) hx hb dX7_goBack_42 (by decide) ?_
        refine lv_iload_n hx hb dX7_goBack_44 rfl (lv_at hl 1 rfl) ?_
        refine lv_imul hx hb dX7_goBack_45 ?_
        refine q_top (y := nI (85 * (i32n x))) (nI_mul _ _) ?_
        refine lv_aload_n hx hb dX7_goBack_46 rfl (lv_at hl 0 rfl) ?_
        refine q_get hx hb hts hinX7 hown hG hW hm0 rfl 0 (by decide) (hts (.fieldLink RX7 7 "FoleyMixerModel" "s" "[I") (List.mem_of_getElem? (i := 3) rfl)) rfl rfl dX7_goBack_47 ?_
        refine lv_iconst (v := nI 0) hx hb dX7_goBack_50 (by decide) ?_
        refine q_W0 (va_runS (As := [.ref (b + 39), .int (nI (85 * (i32n x))), .ref (b + 37), .int (nI 0)]) (rest := []) ⟨hx, hb, hml, hown, hts⟩ (c_X7_copy l (f9 := 85 * (i32n x)) (t9 := 0) hm39 hm1 (by decide) (by omega) (by omega) (by decide) (by decide)) (va_cwS 4 hts gX7_goBack_X7_copy rfl rfl rfl (by decide +kernel) ⟨Nat.le_of_ble_eq_true rfl, Nat.le_of_ble_eq_true rfl⟩) (q_preS hG hW hS) rfl rfl hl.1 rfl (lv_room (Nat.le_of_ble_eq_true rfl)) dX7_goBack_51 ⟨Nat.le_of_ble_eq_true rfl, Nat.le_of_ble_eq_true rfl⟩) hS (fun w_51 H locs hp51 hW hS => ?_)
        obtain ⟨hm1, fr51⟩ := hp51
        replace hm39 : w_51 39 = some (eN dA 170 GS) := (fr51 _ (by omega)).trans hm39
        replace hm40 : w_51 40 = some (eZ dA 2 Zt) := (fr51 _ (by omega)).trans hm40
        replace hm41 : w_51 41 = some (eN dA 80 C) := (fr51 _ (by omega)).trans hm41
        replace hm42 : w_51 42 = some (eN dA 120 D0) := (fr51 _ (by omega)).trans hm42
        replace hm43 : w_51 43 = some (eN dA 120 M0) := (fr51 _ (by omega)).trans hm43
        replace hm44 : w_51 44 = some (eN dA 3 TD) := (fr51 _ (by omega)).trans hm44
        replace hm0 : w_51 36 = some (modO b (nI (pshN n)) (nI (nc)) (nI (0)) (pl) (lt) (dn)) := (fr51 _ (by omega)).trans hm0
        replace hm38 : w_51 38 = some (eN dA 510 (savG n F G)) := (fr51 _ (by omega)).trans hm38
        have hw9 := hRp
        replace hRp := rep_back (F := F) hr9 hk9
        replace hP := hk9
        refine lv_aload_n hx hb dX7_goBack_54 rfl (lv_at hl 0 rfl) ?_
        refine q_get hx hb hts hinX7 hown hG hW hm0 rfl 0 (by decide) (hts (.fieldLink RX7 7 "FoleyMixerModel" "s" "[I") (List.mem_of_getElem? (i := 3) rfl)) rfl rfl dX7_goBack_55 ?_
        refine lv_iconst (v := nI 5) hx hb dX7_goBack_58 (by decide) ?_
        refine q_iald hx hb hG hW hm1 (by omega) (by omega) dX7_goBack_59 ?_
        refine q_top (y := nI (((SL (i32n x)).getD P0).w)) (by rw [hq9]; exact congrArg nI hRp.2.1) ?_
        exact q_wi hx hb hr hlocks hW hS dX7_goBack_60 (by rw [if_pos ⟨ho2, by rw [hq9]; exact fun q9 => nomatch q9⟩]) (by have e9 : (SL (i32n x)).getD P0 = Q9 := congrArg (fun o : Option Pl => o.getD P0) hq9; rw [e9]; exact ⟨Or.inl ⟨⟨ho2, by rw [hq9]; exact fun q9 => nomatch q9⟩, ⟨_, _, _, _, _, _, _, _, _, _, hm0, hm1, ⟨hRp, hP⟩, hm38, hsv, hm39, hm40, hsl, hm41, hbu, hm42, hm43, hm44⟩⟩, by intro id h9; rw [fr51 id (by omega)]; rw [fr35 id (by omega)]; rw [fr26 id (by omega)]; try rfl⟩) (by decide) (by decide)
      · skip
        have c_29 : 1 = 0 := (nI_eq0 (i := 1) (by omega)).mp c_29
        exact absurd c_29 (by omega)
  · skip
    have c_5 : ¬ (0 ≤ x ∧ x ≤ 1) := pI_eq0.mp c_5
    refine lv_iconst (v := nI 1) hx hb dX7_goBack_8 (by decide) ?_
    refine lv_goto (tgt := 26) hx hb dX7_goBack_9 (by decide) ?_
    refine q_W1 (va_runV (As := [.int (nI 1)]) (rest := []) ⟨hx, hb, hml, hown, hts⟩ (c_X7_holds l hm0 (nI (1))) (cwV 1 hts gX7_goBack_X7_holds rfl rfl rfl (by decide +kernel) ⟨Nat.le_of_ble_eq_true rfl, Nat.le_of_ble_eq_true rfl⟩) (q_preV hG hW hS hm0 rfl) rfl rfl hl.1 rfl (lv_room (Nat.le_of_ble_eq_true rfl)) dX7_goBack_26 ⟨Nat.le_of_ble_eq_true rfl, Nat.le_of_ble_eq_true rfl⟩) hS (fun w_26 H locs hp26 hW hS => ?_)
    obtain ⟨hm0, fr26⟩ := hp26
    replace hm1 : w_26 37 = some (eN dA 85 F) := (fr26 _ (by omega)).trans hm1
    replace hm38 : w_26 38 = some (eN dA 510 G) := (fr26 _ (by omega)).trans hm38
    replace hm39 : w_26 39 = some (eN dA 170 GS) := (fr26 _ (by omega)).trans hm39
    replace hm40 : w_26 40 = some (eZ dA 2 Zt) := (fr26 _ (by omega)).trans hm40
    replace hm41 : w_26 41 = some (eN dA 80 C) := (fr26 _ (by omega)).trans hm41
    replace hm42 : w_26 42 = some (eN dA 120 D0) := (fr26 _ (by omega)).trans hm42
    replace hm43 : w_26 43 = some (eN dA 120 M0) := (fr26 _ (by omega)).trans hm43
    replace hm44 : w_26 44 = some (eN dA 3 TD) := (fr26 _ (by omega)).trans hm44
    refine q_topv (v' := .int (nI 0)) (congrArg Value.int (by decide)) ?_
    refine lv_if_ne (tgt := 34) hx hb dX7_goBack_29 (by decide) (fun c_29 => ?_) (fun c_29 => ?_)
    · skip
      have c_29 : ¬ (0 = 0) := fun h__ => c_29 ((nI_eq0 (i := 0) (by omega)).mpr h__)
      exact absurd c_29 (by omega)
    · skip
      have c_29 : 0 = 0 := (nI_eq0 (i := 0) (by omega)).mp c_29
      refine lv_iconst (v := nI 0) hx hb dX7_goBack_32 (by decide) ?_
      exact q_wi hx hb hr hlocks hW hS dX7_goBack_33 (by rw [if_neg (by first | exact fun q9 => (fun q9 => c_5 ⟨q9.1, (lt_le (k := 1) (by decide)).mp q9.2⟩) q9.1 | exact fun q9 => q9.2 hz9)]; rfl) (by exact ⟨Or.inr (Or.inl ⟨fun q9 => c_5 ⟨q9.1, (lt_le (k := 1) (by decide)).mp q9.2⟩, ⟨_, _, _, _, _, _, _, _, _, _, hm0, hm1, ⟨hRp, hP⟩, hm38, hsv, hm39, hm40, hsl, hm41, hbu, hm42, hm43, hm44⟩⟩), by intro id h9; rw [fr26 id (by omega)]; try rfl⟩) (by decide) (by decide)

