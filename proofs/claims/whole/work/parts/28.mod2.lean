theorem rep.W {F : Nat → Nat} {P : Pl} (h : rep F P) {i : Nat} (hi : i < P.w) : F (7 + 3 * i) = P.W i 0 ∧ F (7 + 3 * i + 1) = P.W i 1 ∧ F (7 + 3 * i + 2) = P.W i 2 := ⟨h.2.2.2.1 i hi 0 (by omega), h.2.2.2.1 i hi 1 (by omega), h.2.2.2.1 i hi 2 (by omega)⟩
theorem rep.N {F : Nat → Nat} {P : Pl} (h : rep F P) {i : Nat} (hi : i < P.n) : F (37 + 4 * i) = P.N i 0 ∧ F (37 + 4 * i + 1) = P.N i 1 ∧ F (37 + 4 * i + 2) = P.N i 2 ∧ F (37 + 4 * i + 3) = P.N i 3 := ⟨h.2.2.2.2 i hi 0 (by omega), h.2.2.2.2 i hi 1 (by omega), h.2.2.2.2 i hi 2 (by omega), h.2.2.2.2 i hi 3 (by omega)⟩
theorem neg_lt {a c : Nat} (ha : a < 2 ^ 30) (hc : c < 2 ^ 30) (h : a < c) : nI a - nI c < 0 := by
  rw [Int32.lt_iff_toInt_lt, Int32.toInt_sub, nI_toInt (by omega), nI_toInt (by omega)]
  have : Int.bmod ((a : Int) - (c : Int)) (2 ^ 32) = (a : Int) - (c : Int) := by
    apply Int.bmod_eq_of_le <;> omega
  rw [this]
  have : (0 : Int32).toInt = 0 := by decide
  omega
/-- greatest strength and number with the words of the mask q, of words below n -/
def wgr (P : Pl) (q t : Nat) : Nat → Nat
  | 0 => gst P t P.n
  | n + 1 => if q.testBit n = true then max (wgr P q t n) (P.W n 2) else wgr P q t n
def wct (P : Pl) (q t : Nat) : Nat → Nat
  | 0 => gct P t P.n
  | n + 1 => if q.testBit n = true then wct P q t n + 1 else wct P q t n
theorem wgr_cov {P : Pl} {q i t : Nat} : ∀ n, (∀ j, j < n → (q.testBit j = true ↔ j ≠ i ∧ snd P.W j t)) → wgr P q t n = cgr P i t n ∧ wct P q t n = cct P i t n
  | 0, _ => ⟨rfl, rfl⟩
  | n + 1, h => by
    have ih := wgr_cov n (fun j hj => h j (by omega))
    have h1 := h n (by omega)
    unfold wgr wct cgr cct
    rw [ih.1, ih.2]
    by_cases e : q.testBit n = true
    · rw [if_pos e, if_pos e, if_pos (h1.mp e), if_pos (h1.mp e)]; exact ⟨rfl, rfl⟩
    · rw [if_neg e, if_neg e, if_neg (fun q9 => e (h1.mpr q9)), if_neg (fun q9 => e (h1.mpr q9))]; exact ⟨rfl, rfl⟩
theorem wgr_0 {P : Pl} {t : Nat} : ∀ n, wgr P 0 t n = gst P t P.n ∧ wct P 0 t n = gct P t P.n
  | 0 => ⟨rfl, rfl⟩
  | n + 1 => by
    have ih := wgr_0 (P := P) (t := t) n
    unfold wgr wct
    rw [if_neg (by simp), if_neg (by simp)]; exact ih
theorem wgr_le {P : Pl} (h : okP P) (q t : Nat) : ∀ n, n ≤ P.w → wgr P q t n ≤ 30 ∧ wct P q t n ≤ 12 + n
  | 0, _ => ⟨gst_le h.2.2.2.1 t _ (Nat.le_refl _), by have := ct_le (fun i => snd P.N i t ∧ 0 < stg P i t) P.n; have := h.2.1; unfold wct gct; omega⟩
  | n + 1, hn => by
    have ih := wgr_le h q t n (by omega)
    have h1 := h.2.2.1 n (by omega)
    unfold wgr wct
    by_cases e : q.testBit n = true
    · rw [if_pos e, if_pos e]; omega
    · rw [if_neg e, if_neg e]; omega

theorem c_soundsW (l : Launch) {D : va_G} {dA : Nat → Nat} {b : Nat} {w : Wd} {sv nc th pl lt dn : Int32} (hm0 : w 36 = some (modO b sv nc th pl lt dn)) {F : Nat → Nat} (hm1 : w 37 = some (eN dA 85 F)) {P : Pl} (hRp : rep F P) (hP : okP P) (i t : Nat) (hi : i < P.w) (ht : t < 2 ^ 31) : Met l yX7_soundsAt wsX7_soundsAt ({ frames := 1, cells := 0, slots := 0, locals := 22 } : Room) (PC D dA b w [.ref (b + 36), .int (nI 1), .int (nI i), .int (nI t)]) (QR (some (.int (if snd P.W i t then 1 else 0)))) 0 0 Fno := by
  have e := rep.W hRp hi
  have h := hP.2.2.1 i hi
  have k1 := hP.1
  have k2 := hP.2.1
  have q := c_X7_soundsAt_t l (D := D) hm0 hm1 i t (by omega) (by omega) ht
  simp only [e.1, e.2.1] at q
  exact q
theorem c_ofW (l : Launch) {D : va_G} {dA : Nat → Nat} {b : Nat} {w : Wd} {sv nc th pl lt dn : Int32} (hm0 : w 36 = some (modO b sv nc th pl lt dn)) {F : Nat → Nat} (hm1 : w 37 = some (eN dA 85 F)) {P : Pl} (hRp : rep F P) (hP : okP P) (i j : Nat) (hi : i < P.w) (hj : j < 3) : Met l yX7_ofWord wsX7_ofWord ({ frames := 0, cells := 0, slots := 0, locals := 0 } : Room) (PC D dA b w [.ref (b + 36), .int (nI i), .int (nI j)]) (QR (some (.int (nI (P.W i j))))) 0 0 Fno := by
  have e := hRp.2.2.2.1 i hi j hj
  have k1 := hP.1
  have k2 := hP.2.1
  rw [← e]
  exact c_X7_ofWord l (D := D) hm0 hm1 i j (by omega)
theorem c_soundsN (l : Launch) {D : va_G} {dA : Nat → Nat} {b : Nat} {w : Wd} {sv nc th pl lt dn : Int32} (hm0 : w 36 = some (modO b sv nc th pl lt dn)) {F : Nat → Nat} (hm1 : w 37 = some (eN dA 85 F)) {P : Pl} (hRp : rep F P) (hP : okP P) (i t : Nat) (hi : i < P.n) (ht : t < 2 ^ 31) : Met l yX7_soundsAt wsX7_soundsAt ({ frames := 1, cells := 0, slots := 0, locals := 22 } : Room) (PC D dA b w [.ref (b + 36), .int (nI 0), .int (nI i), .int (nI t)]) (QR (some (.int (if snd P.N i t then 1 else 0)))) 0 0 Fno := by
  have e := rep.N hRp hi
  have h := hP.2.2.2.1 i hi
  have k1 := hP.1
  have k2 := hP.2.1
  have q := c_X7_soundsAt_f l (D := D) hm0 hm1 i t (by omega) (by omega) ht
  simp only [e.1, e.2.1] at q
  exact q
theorem c_ofN (l : Launch) {D : va_G} {dA : Nat → Nat} {b : Nat} {w : Wd} {sv nc th pl lt dn : Int32} (hm0 : w 36 = some (modO b sv nc th pl lt dn)) {F : Nat → Nat} (hm1 : w 37 = some (eN dA 85 F)) {P : Pl} (hRp : rep F P) (hP : okP P) (i j : Nat) (hi : i < P.n) (hj : j < 4) : Met l yX7_ofNoise wsX7_ofNoise ({ frames := 0, cells := 0, slots := 0, locals := 0 } : Room) (PC D dA b w [.ref (b + 36), .int (nI i), .int (nI j)]) (QR (some (.int (nI (P.N i j))))) 0 0 Fno := by
  have e := hRp.2.2.2.2 i hi j hj
  have k1 := hP.1
  have k2 := hP.2.1
  rw [← e]
  exact c_X7_ofNoise l (D := D) hm0 hm1 i j (by omega)
set_option maxHeartbeats 300000 in
set_option maxRecDepth 100000 in
/-- wordsAt -/
theorem c_X7_wordsAt (l : Launch) {D : va_G} {dA : Nat → Nat} {b : Nat} {w : Wd} {sv nc th pl lt dn : Int32} (hm0 : w 36 = some (modO b sv nc th pl lt dn)) {F : Nat → Nat} (hm1 : w 37 = some (eN dA 85 F)) {P : Pl} (hRp : rep F P) (hP : okP P) (t : Nat) (ht : t < 2 ^ 31) : Met l yX7_wordsAt wsX7_wordsAt ({ frames := 2, cells := 0, slots := 0, locals := 46 } : Room) (PC D dA b w [.ref (b + 36), .int (nI t)]) (QR (some (.int (nI (wmk P.W P.w t))))) 0 0 Fno := by
  refine q_of (cc := cX7_wordsAt) (maxL := 4) (ret := (some .int)) (by decide) rfl rfl ?_
  intro p e s m args below meth c ls hx hb hr hml hts hown hlocks hG hW hS hl
  have hown : s.vm.findClass RX7 = some m.cls := hown
  have hinX7 : ∀ w ∈ u_ws RX7 TX7 14, w ∈ wsX7_wordsAt := fun w h => (goodIn_r (big := wsX7_wordsAt) (u_ws RX7 TX7 14) [13, 14, 15, 16, 17, 18, 19, 20, 21, 22, 23, 24, 25, 26] (by decide +kernel) (by decide +kernel) w h).1
  have hl : lv_has ls 4 [(0, .ref (b + 36)), (1, .int (nI t))] := hl
  obtain ⟨hPw, hPn, hPW, hPN, hPS⟩ := id hP
  have hr5 := hRp.2.1
  have hr6 := hRp.2.2.1
  refine lv_iconst (v := nI 0) hx hb dX7_wordsAt_0 (by decide) ?_
  refine lv_istore_n (lv' := [(2, .int (nI 0)), (0, .ref (b + 36)), (1, .int (nI t))]) hx hb dX7_wordsAt_1 rfl hl (by decide) rfl (fun ls hl => ?_)
  refine lv_iconst (v := nI 0) hx hb dX7_wordsAt_2 (by decide) ?_
  refine lv_istore_n (lv' := [(3, .int (nI 0)), (2, .int (nI 0)), (0, .ref (b + 36)), (1, .int (nI t))]) hx hb dX7_wordsAt_3 rfl hl (by decide) rfl (fun ls hl => ?_)
  have L4 : ∀ (n4 : Nat) (j : Nat), j ≤ P.w → P.w - j < n4 → ∀ (x4_2 : Int32) (x4_3 : Int32), x4_2 = nI (mk (fun i => snd P.W i t) j) → x4_3 = nI (j) → ∀ (ls : Array Slot), lv_has ls 4 [(0, .ref (b + 36)), (1, .int (nI t)), (2, .int x4_2), (3, .int x4_3)] → W p l e ({ frames := 2, cells := 0, slots := 0, locals := 46 } : Room) s m args below meth c s.heap [] 0 0 (MQ below (QR (some (.int (nI (wmk P.W P.w t))))) args s 0 0 Fno) (F0 m 4 ls []) := by
    intro n4
    induction n4 with
    | zero =>
      intro j hj0 hn4 x4_2 x4_3 ex4_2 ex4_3 ls hl
      exact absurd hn4 (Nat.not_lt_zero _)
    | succ n4 ih4 =>
      intro j hj0 hn4 x4_2 x4_3 ex4_2 ex4_3 ls hl
      subst ex4_2 ex4_3
      refine lv_iload_n hx hb dX7_wordsAt_4 rfl (lv_at hl 3 rfl) ?_
      refine lv_aload_n hx hb dX7_wordsAt_5 rfl (lv_at hl 0 rfl) ?_
      refine q_get hx hb hts hinX7 hown hG hW hm0 rfl 0 (by decide) (hts (.fieldLink RX7 7 "FoleyMixerModel" "s" "[I") (List.mem_of_getElem? (i := 1) rfl)) rfl rfl dX7_wordsAt_6 ?_
      refine lv_iconst (v := nI 5) hx hb dX7_wordsAt_9 (by decide) ?_
      refine q_iald hx hb hG hW hm1 (by omega) (by omega) dX7_wordsAt_10 ?_
      refine q_top (y := nI (P.w)) (by exact congrArg nI hr5) ?_
      refine lv_icmp_ge (tgt := 40) hx hb dX7_wordsAt_11 (by decide) (fun c_11 => ?_) (fun c_11 => ?_)
      · skip
        have c_11 : P.w ≤ j := (nI_leI (a := P.w) (b := j) (by omega) (by omega)).mp c_11
        refine lv_iload_n hx hb dX7_wordsAt_40 rfl (lv_at hl 2 rfl) ?_
        exact q_ri hx hb hr hlocks dX7_wordsAt_41 (by rw [show j = P.w by omega])
      · skip
        have c_11 : ¬ (P.w ≤ j) := fun h__ => c_11 ((nI_leI (a := P.w) (b := j) (by omega) (by omega)).mpr h__)
        refine lv_iload_n hx hb dX7_wordsAt_14 rfl (lv_at hl 2 rfl) ?_
        refine lv_aload_n hx hb dX7_wordsAt_15 rfl (lv_at hl 0 rfl) ?_
        refine lv_iconst (v := nI 1) hx hb dX7_wordsAt_16 (by decide) ?_
        refine lv_iload_n hx hb dX7_wordsAt_17 rfl (lv_at hl 3 rfl) ?_
        refine lv_iload_n hx hb dX7_wordsAt_18 rfl (lv_at hl 1 rfl) ?_
        refine q_R1 (va_runV (As := [.int (nI 1), .int (nI j), .int (nI t)]) (rest := [.int (nI (mk (fun i => snd P.W i t) j))]) ⟨hx, hb, hml, hown, hts⟩ (c_soundsW l hm0 hm1 hRp hP (j) (t) (by omega) (by omega)) (cwV 3 hts gX7_wordsAt_X7_soundsAt rfl rfl rfl (by decide +kernel) ⟨Nat.le_of_ble_eq_true rfl, Nat.le_of_ble_eq_true rfl⟩) (q_preV hG hW hS hm0 rfl) rfl rfl hl.1 rfl (lv_room (Nat.le_of_ble_eq_true rfl)) dX7_wordsAt_19 ⟨Nat.le_of_ble_eq_true rfl, Nat.le_of_ble_eq_true rfl⟩) ?_
        refine lv_if_eq (tgt := 31) hx hb dX7_wordsAt_22 (by decide) (fun c_22 => ?_) (fun c_22 => ?_)
        · skip
          have c_22 : ¬ (snd P.W j t) := pI_eq0.mp c_22
          refine lv_iconst (v := nI 0) hx hb dX7_wordsAt_31 (by decide) ?_
          refine lv_ior hx hb dX7_wordsAt_32 ?_
          refine q_top (y := nI (mk (fun i => snd P.W i t) (j + 1))) (by rw [nI_or]; refine congrArg nI ?_; rw [mk]; first | (rw [if_pos c_22]; done) | (rw [if_neg c_22]; exact Nat.or_zero _)) ?_
          refine lv_istore_n (lv' := [(2, .int (nI (mk (fun i => snd P.W i t) (j + 1)))), (0, .ref (b + 36)), (1, .int (nI t)), (3, .int (nI j))]) hx hb dX7_wordsAt_33 rfl hl (by decide) rfl (fun ls hl => ?_)
          refine lv_iinc (v := nI (j + 1)) (lv' := [(3, .int (nI (j + 1))), (2, .int (nI (mk (fun i => snd P.W i t) (j + 1)))), (0, .ref (b + 36)), (1, .int (nI t))]) hx hb dX7_wordsAt_34 hl (k := 3) rfl (nI_add _ 1) (by decide) rfl (fun ls hl => ?_)
          refine lv_goto (tgt := 4) hx hb dX7_wordsAt_37 (by decide) ?_
          exact ih4 (j + 1) (by omega) (by omega) _ _ (by rfl) (by first | rfl | (congr 1; omega)) _ (lv_sub hl [2, 3, 1, 0] rfl)
        · skip
          have c_22 : snd P.W j t := Decidable.byContradiction (fun h__ => c_22 (pI_eq0.mpr h__))
          refine lv_iconst (v := nI 1) hx hb dX7_wordsAt_25 (by decide) ?_
          refine lv_iload_n hx hb dX7_wordsAt_26 rfl (lv_at hl 3 rfl) ?_
          refine lv_ishl hx hb dX7_wordsAt_27 ?_
          refine q_top (y := nI (2 ^ j)) (by exact nI_shl1 (by omega)) ?_
          refine lv_goto (tgt := 32) hx hb dX7_wordsAt_28 (by decide) ?_
          refine lv_ior hx hb dX7_wordsAt_32 ?_
          refine q_top (y := nI (mk (fun i => snd P.W i t) (j + 1))) (by rw [nI_or]; refine congrArg nI ?_; rw [mk]; first | (rw [if_pos c_22]; done) | (rw [if_neg c_22]; exact Nat.or_zero _)) ?_
          refine lv_istore_n (lv' := [(2, .int (nI (mk (fun i => snd P.W i t) (j + 1)))), (0, .ref (b + 36)), (1, .int (nI t)), (3, .int (nI j))]) hx hb dX7_wordsAt_33 rfl hl (by decide) rfl (fun ls hl => ?_)
          refine lv_iinc (v := nI (j + 1)) (lv' := [(3, .int (nI (j + 1))), (2, .int (nI (mk (fun i => snd P.W i t) (j + 1)))), (0, .ref (b + 36)), (1, .int (nI t))]) hx hb dX7_wordsAt_34 hl (k := 3) rfl (nI_add _ 1) (by decide) rfl (fun ls hl => ?_)
          refine lv_goto (tgt := 4) hx hb dX7_wordsAt_37 (by decide) ?_
          exact ih4 (j + 1) (by omega) (by omega) _ _ (by rfl) (by first | rfl | (congr 1; omega)) _ (lv_sub hl [2, 3, 1, 0] rfl)
  exact L4 ((P.w - 0) + 1) 0 (by omega) (Nat.lt_succ_self _) _ _ (by rfl) (by first | rfl | (congr 1; omega)) _ (lv_sub hl [2, 3, 1, 0] rfl)

set_option maxHeartbeats 300000 in
set_option maxRecDepth 100000 in
/-- noisesAt -/
theorem c_X7_noisesAt (l : Launch) {D : va_G} {dA : Nat → Nat} {b : Nat} {w : Wd} {sv nc th pl lt dn : Int32} (hm0 : w 36 = some (modO b sv nc th pl lt dn)) {F : Nat → Nat} (hm1 : w 37 = some (eN dA 85 F)) {P : Pl} (hRp : rep F P) (hP : okP P) (t : Nat) (ht : t < 2 ^ 31) : Met l yX7_noisesAt wsX7_noisesAt ({ frames := 2, cells := 0, slots := 0, locals := 46 } : Room) (PC D dA b w [.ref (b + 36), .int (nI t)]) (QR (some (.int (nI (wmk P.N P.n t))))) 0 0 Fno := by
  refine q_of (cc := cX7_noisesAt) (maxL := 4) (ret := (some .int)) (by decide) rfl rfl ?_
  intro p e s m args below meth c ls hx hb hr hml hts hown hlocks hG hW hS hl
  have hown : s.vm.findClass RX7 = some m.cls := hown
  have hinX7 : ∀ w ∈ u_ws RX7 TX7 14, w ∈ wsX7_noisesAt := fun w h => (goodIn_r (big := wsX7_noisesAt) (u_ws RX7 TX7 14) [13, 14, 15, 16, 17, 18, 19, 20, 21, 22, 23, 24, 25, 26] (by decide +kernel) (by decide +kernel) w h).1
  have hl : lv_has ls 4 [(0, .ref (b + 36)), (1, .int (nI t))] := hl
  obtain ⟨hPw, hPn, hPW, hPN, hPS⟩ := id hP
  have hr5 := hRp.2.1
  have hr6 := hRp.2.2.1
  refine lv_iconst (v := nI 0) hx hb dX7_noisesAt_0 (by decide) ?_
  refine lv_istore_n (lv' := [(2, .int (nI 0)), (0, .ref (b + 36)), (1, .int (nI t))]) hx hb dX7_noisesAt_1 rfl hl (by decide) rfl (fun ls hl => ?_)
  refine lv_iconst (v := nI 0) hx hb dX7_noisesAt_2 (by decide) ?_
  refine lv_istore_n (lv' := [(3, .int (nI 0)), (2, .int (nI 0)), (0, .ref (b + 36)), (1, .int (nI t))]) hx hb dX7_noisesAt_3 rfl hl (by decide) rfl (fun ls hl => ?_)
  have L4 : ∀ (n4 : Nat) (j : Nat), j ≤ P.n → P.n - j < n4 → ∀ (x4_2 : Int32) (x4_3 : Int32), x4_2 = nI (mk (fun i => snd P.N i t) j) → x4_3 = nI (j) → ∀ (ls : Array Slot), lv_has ls 4 [(0, .ref (b + 36)), (1, .int (nI t)), (2, .int x4_2), (3, .int x4_3)] → W p l e ({ frames := 2, cells := 0, slots := 0, locals := 46 } : Room) s m args below meth c s.heap [] 0 0 (MQ below (QR (some (.int (nI (wmk P.N P.n t))))) args s 0 0 Fno) (F0 m 4 ls []) := by
    intro n4
    induction n4 with
    | zero =>
      intro j hj0 hn4 x4_2 x4_3 ex4_2 ex4_3 ls hl
      exact absurd hn4 (Nat.not_lt_zero _)
    | succ n4 ih4 =>
      intro j hj0 hn4 x4_2 x4_3 ex4_2 ex4_3 ls hl
      subst ex4_2 ex4_3
      refine lv_iload_n hx hb dX7_noisesAt_4 rfl (lv_at hl 3 rfl) ?_
      refine lv_aload_n hx hb dX7_noisesAt_5 rfl (lv_at hl 0 rfl) ?_
      refine q_get hx hb hts hinX7 hown hG hW hm0 rfl 0 (by decide) (hts (.fieldLink RX7 7 "FoleyMixerModel" "s" "[I") (List.mem_of_getElem? (i := 1) rfl)) rfl rfl dX7_noisesAt_6 ?_
      refine lv_bipush (v := nI 6) hx hb dX7_noisesAt_9 (by decide) ?_
      refine q_iald hx hb hG hW hm1 (by omega) (by omega) dX7_noisesAt_11 ?_
      refine q_top (y := nI (P.n)) (by exact congrArg nI hr6) ?_
      refine lv_icmp_ge (tgt := 41) hx hb dX7_noisesAt_12 (by decide) (fun c_12 => ?_) (fun c_12 => ?_)
      · skip
        have c_12 : P.n ≤ j := (nI_leI (a := P.n) (b := j) (by omega) (by omega)).mp c_12
        refine lv_iload_n hx hb dX7_noisesAt_41 rfl (lv_at hl 2 rfl) ?_
        exact q_ri hx hb hr hlocks dX7_noisesAt_42 (by rw [show j = P.n by omega])
      · skip
        have c_12 : ¬ (P.n ≤ j) := fun h__ => c_12 ((nI_leI (a := P.n) (b := j) (by omega) (by omega)).mpr h__)
        refine lv_iload_n hx hb dX7_noisesAt_15 rfl (lv_at hl 2 rfl) ?_
        refine lv_aload_n hx hb dX7_noisesAt_16 rfl (lv_at hl 0 rfl) ?_
        refine lv_iconst (v := nI 0) hx hb dX7_noisesAt_17 (by decide) ?_
        refine lv_iload_n hx hb dX7_noisesAt_18 rfl (lv_at hl 3 rfl) ?_
        refine lv_iload_n hx hb dX7_noisesAt_19 rfl (lv_at hl 1 rfl) ?_
        refine q_R1 (va_runV (As := [.int (nI 0), .int (nI j), .int (nI t)]) (rest := [.int (nI (mk (fun i => snd P.N i t) j))]) ⟨hx, hb, hml, hown, hts⟩ (c_soundsN l hm0 hm1 hRp hP (j) (t) (by omega) (by omega)) (cwV 3 hts gX7_noisesAt_X7_soundsAt rfl rfl rfl (by decide +kernel) ⟨Nat.le_of_ble_eq_true rfl, Nat.le_of_ble_eq_true rfl⟩) (q_preV hG hW hS hm0 rfl) rfl rfl hl.1 rfl (lv_room (Nat.le_of_ble_eq_true rfl)) dX7_noisesAt_20 ⟨Nat.le_of_ble_eq_true rfl, Nat.le_of_ble_eq_true rfl⟩) ?_
        refine lv_if_eq (tgt := 32) hx hb dX7_noisesAt_23 (by decide) (fun c_23 => ?_) (fun c_23 => ?_)
        · skip
          have c_23 : ¬ (snd P.N j t) := pI_eq0.mp c_23
          refine lv_iconst (v := nI 0) hx hb dX7_noisesAt_32 (by decide) ?_
          refine lv_ior hx hb dX7_noisesAt_33 ?_
          refine q_top (y := nI (mk (fun i => snd P.N i t) (j + 1))) (by rw [nI_or]; refine congrArg nI ?_; rw [mk]; first | (rw [if_pos c_23]; done) | (rw [if_neg c_23]; exact Nat.or_zero _)) ?_
          refine lv_istore_n (lv' := [(2, .int (nI (mk (fun i => snd P.N i t) (j + 1)))), (0, .ref (b + 36)), (1, .int (nI t)), (3, .int (nI j))]) hx hb dX7_noisesAt_34 rfl hl (by decide) rfl (fun ls hl => ?_)
          refine lv_iinc (v := nI (j + 1)) (lv' := [(3, .int (nI (j + 1))), (2, .int (nI (mk (fun i => snd P.N i t) (j + 1)))), (0, .ref (b + 36)), (1, .int (nI t))]) hx hb dX7_noisesAt_35 hl (k := 3) rfl (nI_add _ 1) (by decide) rfl (fun ls hl => ?_)
          refine lv_goto (tgt := 4) hx hb dX7_noisesAt_38 (by decide) ?_
          exact ih4 (j + 1) (by omega) (by omega) _ _ (by rfl) (by first | rfl | (congr 1; omega)) _ (lv_sub hl [2, 3, 1, 0] rfl)
        · skip
          have c_23 : snd P.N j t := Decidable.byContradiction (fun h__ => c_23 (pI_eq0.mpr h__))
          refine lv_iconst (v := nI 1) hx hb dX7_noisesAt_26 (by decide) ?_
          refine lv_iload_n hx hb dX7_noisesAt_27 rfl (lv_at hl 3 rfl) ?_
          refine lv_ishl hx hb dX7_noisesAt_28 ?_
          refine q_top (y := nI (2 ^ j)) (by exact nI_shl1 (by omega)) ?_
          refine lv_goto (tgt := 33) hx hb dX7_noisesAt_29 (by decide) ?_
          refine lv_ior hx hb dX7_noisesAt_33 ?_
          refine q_top (y := nI (mk (fun i => snd P.N i t) (j + 1))) (by rw [nI_or]; refine congrArg nI ?_; rw [mk]; first | (rw [if_pos c_23]; done) | (rw [if_neg c_23]; exact Nat.or_zero _)) ?_
          refine lv_istore_n (lv' := [(2, .int (nI (mk (fun i => snd P.N i t) (j + 1)))), (0, .ref (b + 36)), (1, .int (nI t)), (3, .int (nI j))]) hx hb dX7_noisesAt_34 rfl hl (by decide) rfl (fun ls hl => ?_)
          refine lv_iinc (v := nI (j + 1)) (lv' := [(3, .int (nI (j + 1))), (2, .int (nI (mk (fun i => snd P.N i t) (j + 1)))), (0, .ref (b + 36)), (1, .int (nI t))]) hx hb dX7_noisesAt_35 hl (k := 3) rfl (nI_add _ 1) (by decide) rfl (fun ls hl => ?_)
          refine lv_goto (tgt := 4) hx hb dX7_noisesAt_38 (by decide) ?_
          exact ih4 (j + 1) (by omega) (by omega) _ _ (by rfl) (by first | rfl | (congr 1; omega)) _ (lv_sub hl [2, 3, 1, 0] rfl)
  exact L4 ((P.n - 0) + 1) 0 (by omega) (Nat.lt_succ_self _) _ _ (by rfl) (by first | rfl | (congr 1; omega)) _ (lv_sub hl [2, 3, 1, 0] rfl)

set_option maxHeartbeats 300000 in
set_option maxRecDepth 100000 in
/-- strength -/
theorem c_X7_strength (l : Launch) {D : va_G} {dA : Nat → Nat} {b : Nat} {w : Wd} {sv nc th pl lt dn : Int32} (hm0 : w 36 = some (modO b sv nc th pl lt dn)) {F : Nat → Nat} (hm1 : w 37 = some (eN dA 85 F)) {P : Pl} (hRp : rep F P) (hP : okP P) {DK : Nat → Nat} (hm42 : w 42 = some (eN dA 120 DK)) (i t : Nat) (hi : i < P.n) (ht : t < 120) (hDK : DK t = dk P t) : Met l yX7_strength wsX7_strength ({ frames := 2, cells := 0, slots := 0, locals := 46 } : Room) (PC D dA b w [.ref (b + 36), .int (nI i), .int (nI t)]) (QR (some (.int (nI (sst P i t))))) 0 0 Fno := by
  refine q_of (cc := cX7_strength) (maxL := 4) (ret := (some .int)) (by decide) rfl rfl ?_
  intro p e s m args below meth c ls hx hb hr hml hts hown hlocks hG hW hS hl
  have hown : s.vm.findClass RX7 = some m.cls := hown
  have hinX7 : ∀ w ∈ u_ws RX7 TX7 14, w ∈ wsX7_strength := fun w h => (goodIn_r (big := wsX7_strength) (u_ws RX7 TX7 14) [18, 19, 20, 21, 22, 23, 24, 25, 26, 27, 28, 29, 30, 31] (by decide +kernel) (by decide +kernel) w h).1
  have hl : lv_has ls 4 [(0, .ref (b + 36)), (1, .int (nI i)), (2, .int (nI t))] := hl
  obtain ⟨hPw, hPn, hPW, hPN, hPS⟩ := id hP
  have hr5 := hRp.2.1
  have hr6 := hRp.2.2.1
  have hdk9 := dk_le P t
  have hS0 := hPS.1
  have hNi := hPN i hi
  refine lv_aload_n hx hb dX7_strength_0 rfl (lv_at hl 0 rfl) ?_
  refine lv_iconst (v := nI 0) hx hb dX7_strength_1 (by decide) ?_
  refine lv_iload_n hx hb dX7_strength_2 rfl (lv_at hl 1 rfl) ?_
  refine lv_iload_n hx hb dX7_strength_3 rfl (lv_at hl 2 rfl) ?_
  refine q_R1 (va_runV (As := [.int (nI 0), .int (nI i), .int (nI t)]) (rest := []) ⟨hx, hb, hml, hown, hts⟩ (c_soundsN l hm0 hm1 hRp hP (i) (t) (by omega) (by omega)) (cwV 3 hts gX7_strength_X7_soundsAt rfl rfl rfl (by decide +kernel) ⟨Nat.le_of_ble_eq_true rfl, Nat.le_of_ble_eq_true rfl⟩) (q_preV hG hW hS hm0 rfl) rfl rfl hl.1 rfl (lv_room (Nat.le_of_ble_eq_true rfl)) dX7_strength_4 ⟨Nat.le_of_ble_eq_true rfl, Nat.le_of_ble_eq_true rfl⟩) ?_
  refine lv_if_eq (tgt := 40) hx hb dX7_strength_7 (by decide) (fun c_7 => ?_) (fun c_7 => ?_)
  · skip
    have c_7 : ¬ (snd P.N i t) := pI_eq0.mp c_7
    refine lv_iconst (v := nI 0) hx hb dX7_strength_40 (by decide) ?_
    refine lv_istore_n (lv' := [(3, .int (nI 0)), (0, .ref (b + 36)), (1, .int (nI i)), (2, .int (nI t))]) hx hb dX7_strength_41 rfl hl (by decide) rfl (fun ls hl => ?_)
    refine lv_iload_n hx hb dX7_strength_42 rfl (lv_at hl 0 rfl) ?_
    refine lv_if_ge (tgt := 50) hx hb dX7_strength_43 (by decide) (fun c_43 => ?_) (fun c_43 => ?_)
    · skip
      have c_43 : 0 ≤ 0 := (nI_0le (i := 0) (by omega)).mp c_43
      refine lv_iload_n hx hb dX7_strength_50 rfl (lv_at hl 0 rfl) ?_
      exact q_ri hx hb hr hlocks dX7_strength_51 (by refine congrArg nI ?_; unfold sst stg; first | (rw [if_pos c_7, if_pos c_23] <;> omega) | (rw [if_pos c_7, if_neg c_23] <;> omega) | (rw [if_neg c_7]; done))
    · skip
      have c_43 : ¬ (0 ≤ 0) := fun h__ => c_43 ((nI_0le (i := 0) (by omega)).mpr h__)
      exact absurd c_43 (by omega)
  · skip
    have c_7 : snd P.N i t := Decidable.byContradiction (fun h__ => c_7 (pI_eq0.mpr h__))
    refine lv_aload_n hx hb dX7_strength_10 rfl (lv_at hl 0 rfl) ?_
    refine lv_iload_n hx hb dX7_strength_11 rfl (lv_at hl 1 rfl) ?_
    refine lv_iconst (v := nI 2) hx hb dX7_strength_12 (by decide) ?_
    refine q_R1 (va_runV (As := [.int (nI i), .int (nI 2)]) (rest := []) ⟨hx, hb, hml, hown, hts⟩ (c_ofN l hm0 hm1 hRp hP (i) (2) (by omega) (by omega)) (cwV 2 hts gX7_strength_X7_ofNoise rfl rfl rfl (by decide +kernel) ⟨Nat.le_of_ble_eq_true rfl, Nat.le_of_ble_eq_true rfl⟩) (q_preV hG hW hS hm0 rfl) rfl rfl hl.1 rfl (lv_room (Nat.le_of_ble_eq_true rfl)) dX7_strength_13 ⟨Nat.le_of_ble_eq_true rfl, Nat.le_of_ble_eq_true rfl⟩) ?_
    refine lv_aload_n hx hb dX7_strength_16 rfl (lv_at hl 0 rfl) ?_
    refine lv_iload_n hx hb dX7_strength_17 rfl (lv_at hl 1 rfl) ?_
    refine lv_iconst (v := nI 3) hx hb dX7_strength_18 (by decide) ?_
    refine q_R1 (va_runV (As := [.int (nI i), .int (nI 3)]) (rest := [.int (nI (P.N i 2))]) ⟨hx, hb, hml, hown, hts⟩ (c_ofN l hm0 hm1 hRp hP (i) (3) (by omega) (by omega)) (cwV 2 hts gX7_strength_X7_ofNoise rfl rfl rfl (by decide +kernel) ⟨Nat.le_of_ble_eq_true rfl, Nat.le_of_ble_eq_true rfl⟩) (q_preV hG hW hS hm0 rfl) rfl rfl hl.1 rfl (lv_room (Nat.le_of_ble_eq_true rfl)) dX7_strength_19 ⟨Nat.le_of_ble_eq_true rfl, Nat.le_of_ble_eq_true rfl⟩) ?_
    refine lv_iconst (v := nI 1) hx hb dX7_strength_22 (by decide) ?_
    refine lv_icmp_ne (tgt := 30) hx hb dX7_strength_23 (by decide) (fun c_23 => ?_) (fun c_23 => ?_)
    · skip
      have c_23 : ¬ (P.N i 3 = 1) := fun h__ => c_23 ((nI_eq (a := P.N i 3) (b := 1) (by omega) (by omega)).mpr h__)
      refine lv_aload_n hx hb dX7_strength_30 rfl (lv_at hl 0 rfl) ?_
      refine q_get hx hb hts hinX7 hown hG hW hm0 rfl 8 (by decide) (hts (.fieldLink RX7 26 "FoleyMixerModel" "ducking" "[I") (List.mem_of_getElem? (i := 1) rfl)) rfl rfl dX7_strength_31 ?_
      refine lv_iload_n hx hb dX7_strength_34 rfl (lv_at hl 2 rfl) ?_
      refine q_iald hx hb hG hW hm42 (by omega) (by omega) dX7_strength_35 ?_
      refine q_top (y := nI (dk P t)) (by exact congrArg nI hDK) ?_
      refine lv_isub hx hb dX7_strength_36 ?_
      by_cases hle9 : dk P t ≤ P.N i 2
      · skip
        refine q_top (y := nI (P.N i 2 - dk P t)) (nI_sub hle9) ?_
        refine lv_goto (tgt := 41) hx hb dX7_strength_37 (by decide) ?_
        refine lv_istore_n (lv' := [(3, .int (nI (P.N i 2 - dk P t))), (0, .ref (b + 36)), (1, .int (nI i)), (2, .int (nI t))]) hx hb dX7_strength_41 rfl hl (by decide) rfl (fun ls hl => ?_)
        refine lv_iload_n hx hb dX7_strength_42 rfl (lv_at hl 0 rfl) ?_
        refine lv_if_ge (tgt := 50) hx hb dX7_strength_43 (by decide) (fun c_43 => ?_) (fun c_43 => ?_)
        · skip
          have c_43 : 0 ≤ (P.N i 2 - dk P t) := (nI_0le (i := P.N i 2 - dk P t) (by omega)).mp c_43
          refine lv_iload_n hx hb dX7_strength_50 rfl (lv_at hl 0 rfl) ?_
          exact q_ri hx hb hr hlocks dX7_strength_51 (by refine congrArg nI ?_; unfold sst stg; first | (rw [if_pos c_7, if_pos c_23] <;> omega) | (rw [if_pos c_7, if_neg c_23] <;> omega) | (rw [if_neg c_7]; done))
        · skip
          have c_43 : ¬ (0 ≤ (P.N i 2 - dk P t)) := fun h__ => c_43 ((nI_0le (i := P.N i 2 - dk P t) (by omega)).mpr h__)
          refine lv_iconst (v := nI 0) hx hb dX7_strength_46 (by decide) ?_
          refine lv_goto (tgt := 51) hx hb dX7_strength_47 (by decide) ?_
          exact q_ri hx hb hr hlocks dX7_strength_51 (by refine congrArg nI ?_; unfold sst stg; first | (rw [if_pos c_7, if_pos c_23] <;> omega) | (rw [if_pos c_7, if_neg c_23] <;> omega) | (rw [if_neg c_7]; done))
      · skip
        have hng9 := neg_lt (a := P.N i 2) (c := dk P t) (by omega) (by omega) (by omega)
        refine lv_goto (tgt := 41) hx hb dX7_strength_37 (by decide) ?_
        refine lv_istore_n (lv' := [(3, .int ((nI (P.N i 2)) - (nI (dk P t)))), (0, .ref (b + 36)), (1, .int (nI i)), (2, .int (nI t))]) hx hb dX7_strength_41 rfl hl (by decide) rfl (fun ls hl => ?_)
        refine lv_iload_n hx hb dX7_strength_42 rfl (lv_at hl 0 rfl) ?_
        refine lv_if_ge (tgt := 50) hx hb dX7_strength_43 (by decide) (fun c_43 => ?_) (fun c_43 => ?_)
        · skip
          exact absurd hng9 (Int32.not_lt.mpr (by first | exact c_43 | exact Int32.not_lt.mp c_43))
        · skip
          refine lv_iconst (v := nI 0) hx hb dX7_strength_46 (by decide) ?_
          refine lv_goto (tgt := 51) hx hb dX7_strength_47 (by decide) ?_
          exact q_ri hx hb hr hlocks dX7_strength_51 (by refine congrArg nI ?_; unfold sst stg; first | (rw [if_pos c_7, if_pos c_23] <;> omega) | (rw [if_pos c_7, if_neg c_23] <;> omega) | (rw [if_neg c_7]; done))
    · skip
      have c_23 : P.N i 3 = 1 := (nI_eq (a := P.N i 3) (b := 1) (by omega) (by omega)).mp c_23
      refine lv_iconst (v := nI 0) hx hb dX7_strength_26 (by decide) ?_
      refine lv_goto (tgt := 36) hx hb dX7_strength_27 (by decide) ?_
      refine lv_isub hx hb dX7_strength_36 ?_
      by_cases hle9 : 0 ≤ P.N i 2
      · skip
        refine q_top (y := nI (P.N i 2 - 0)) (nI_sub hle9) ?_
        refine lv_goto (tgt := 41) hx hb dX7_strength_37 (by decide) ?_
        refine lv_istore_n (lv' := [(3, .int (nI (P.N i 2 - 0))), (0, .ref (b + 36)), (1, .int (nI i)), (2, .int (nI t))]) hx hb dX7_strength_41 rfl hl (by decide) rfl (fun ls hl => ?_)
        refine lv_iload_n hx hb dX7_strength_42 rfl (lv_at hl 0 rfl) ?_
        refine lv_if_ge (tgt := 50) hx hb dX7_strength_43 (by decide) (fun c_43 => ?_) (fun c_43 => ?_)
        · skip
          have c_43 : 0 ≤ (P.N i 2 - 0) := (nI_0le (i := P.N i 2 - 0) (by omega)).mp c_43
          refine lv_iload_n hx hb dX7_strength_50 rfl (lv_at hl 0 rfl) ?_
          exact q_ri hx hb hr hlocks dX7_strength_51 (by refine congrArg nI ?_; unfold sst stg; first | (rw [if_pos c_7, if_pos c_23] <;> omega) | (rw [if_pos c_7, if_neg c_23] <;> omega) | (rw [if_neg c_7]; done))
        · skip
          have c_43 : ¬ (0 ≤ (P.N i 2 - 0)) := fun h__ => c_43 ((nI_0le (i := P.N i 2 - 0) (by omega)).mpr h__)
          refine lv_iconst (v := nI 0) hx hb dX7_strength_46 (by decide) ?_
          refine lv_goto (tgt := 51) hx hb dX7_strength_47 (by decide) ?_
          exact q_ri hx hb hr hlocks dX7_strength_51 (by refine congrArg nI ?_; unfold sst stg; first | (rw [if_pos c_7, if_pos c_23] <;> omega) | (rw [if_pos c_7, if_neg c_23] <;> omega) | (rw [if_neg c_7]; done))
      · skip
        have hng9 := neg_lt (a := P.N i 2) (c := 0) (by omega) (by omega) (by omega)
        refine lv_goto (tgt := 41) hx hb dX7_strength_37 (by decide) ?_
        refine lv_istore_n (lv' := [(3, .int ((nI (P.N i 2)) - (nI (0)))), (0, .ref (b + 36)), (1, .int (nI i)), (2, .int (nI t))]) hx hb dX7_strength_41 rfl hl (by decide) rfl (fun ls hl => ?_)
        refine lv_iload_n hx hb dX7_strength_42 rfl (lv_at hl 0 rfl) ?_
        refine lv_if_ge (tgt := 50) hx hb dX7_strength_43 (by decide) (fun c_43 => ?_) (fun c_43 => ?_)
        · skip
          exact absurd hng9 (Int32.not_lt.mpr (by first | exact c_43 | exact Int32.not_lt.mp c_43))
        · skip
          refine lv_iconst (v := nI 0) hx hb dX7_strength_46 (by decide) ?_
          refine lv_goto (tgt := 51) hx hb dX7_strength_47 (by decide) ?_
          exact q_ri hx hb hr hlocks dX7_strength_51 (by refine congrArg nI ?_; unfold sst stg; first | (rw [if_pos c_7, if_pos c_23] <;> omega) | (rw [if_pos c_7, if_neg c_23] <;> omega) | (rw [if_neg c_7]; done))

