theorem shN_id {P : Pl} {i : Nat} : shN P i (P.N i 0) = P := by
  unfold shN
  have e : setV P.N i 0 (P.N i 0) = P.N := by
    funext a c; unfold setV
    by_cases h : a = i ∧ c = 0
    · rw [if_pos h, h.1, h.2]
    · rw [if_neg h]
  rw [e]
theorem sft_0 : sft 0 = 0 := by decide
theorem x_add0 (x : Int32) : x + 0 = x := Int32.add_zero x
theorem nI_ne1 {m : Nat} (hm : m < 2 ^ 31) : nI m ≠ -1 := by
  intro h
  have h2 := congrArg Int32.toInt h
  rw [nI_toInt hm] at h2
  have : ((-1 : Int32)).toInt = -1 := by decide
  omega
theorem msh_in {P : Pl} {i : Nat} {s : Int32} (h : fitI 0 (nI (P.N i 0) + s)) : msh P i s = nI (ams (shN P i (i32n (nI (P.N i 0) + s)))) := if_pos h
theorem bsh_1 {P : Pl} {i : Nat} (h : okP P) (hi : i < P.n) : bsh P i 1 = (0, nI (ams P)) := by
  have h1 := h.2.2.2.1 i hi
  have hf : fitI 0 (nI (P.N i 0)) := (fitI_n (by omega)).mpr ⟨Nat.zero_le _, h1.1⟩
  have e : msh P i (sft 0) = nI (ams P) := by
    rw [msh_in (by rw [sft_0, x_add0]; exact hf), sft_0, x_add0, nI_i32n (by omega), shN_id]
  rw [bsh, if_pos ⟨by rw [e]; exact nI_ne1 (by have := ams_le h; omega), Or.inl rfl⟩, e, sft_0]
theorem bsh_out {P : Pl} {i k : Nat} (h : ¬ fitI 0 (nI (P.N i 0) + sft k)) : bsh P i (k + 1) = bsh P i k := by
  rw [bsh, if_neg (fun q => q.1 (if_neg h))]
theorem bsh_lt {P : Pl} {i k m : Nat} (h : fitI 0 (nI (P.N i 0) + sft k)) (hb : (bsh P i k).2 = nI m) (hm : m < 2 ^ 31) (ha : ams (shN P i (i32n (nI (P.N i 0) + sft k))) < m) : bsh P i (k + 1) = (sft k, nI (ams (shN P i (i32n (nI (P.N i 0) + sft k))))) := by
  rw [bsh, msh_in h, hb, if_pos ⟨nI_ne1 (by omega), Or.inr ((nI_ltI (by omega) hm).mpr ha)⟩]
theorem bsh_ge {P : Pl} {i k m : Nat} (h : fitI 0 (nI (P.N i 0) + sft k)) (hb : (bsh P i k).2 = nI m) (hm : m < 2 ^ 31) (ha : ¬ ams (shN P i (i32n (nI (P.N i 0) + sft k))) < m) (ha2 : ams (shN P i (i32n (nI (P.N i 0) + sft k))) < 2 ^ 31) : bsh P i (k + 1) = bsh P i k := by
  rw [bsh, msh_in h, hb, if_neg (fun q => q.2.elim (nI_ne1 hm) (fun q2 => ha ((nI_ltI ha2 hm).mp q2)))]
theorem lqt_yes {P : Pl} {i wo u : Nat} (hu : 1 ≤ u) (h : ams (ldN P i u) ≤ wo) : lqt P i wo u = u := by
  obtain ⟨d, rfl⟩ : ∃ d, u = d + 1 := ⟨u - 1, by omega⟩
  rw [lqt, if_pos h]
theorem lqt_no {P : Pl} {i wo u : Nat} (hu : 1 ≤ u) (h : ¬ ams (ldN P i u) ≤ wo) : lqt P i wo u = lqt P i wo (u - 1) := by
  obtain ⟨d, rfl⟩ : ∃ d, u = d + 1 := ⟨u - 1, by omega⟩
  rw [lqt, if_neg h]; rfl
-- a noise of loudness 0 is as none
theorem dk_same {P Q : Pl} (h1 : Q.w = P.w) (h2 : Q.W = P.W) (h3 : Q.S = P.S) : ∀ t, dk Q t = dk P t
  | 0 => by unfold dk; rw [h1, h2, h3]
  | t + 1 => by unfold dk; rw [h1, h2, h3, dk_same h1 h2 h3 t]
theorem ld_stg {P : Pl} {i k t : Nat} (hk : k ≠ i) : stg (ldN P i 0) k t = stg P k t := by
  have e : ∀ c, (ldN P i 0).N k c = P.N k c := fun c => by
    show setV P.N i 2 0 k c = _
    unfold setV; rw [if_neg (fun q => hk q.1)]
  unfold stg; rw [e, e, dk_same (P := P) (Q := ldN P i 0) rfl rfl rfl]
theorem ld_0 {P : Pl} {i t : Nat} : stg (ldN P i 0) i t = 0 := by
  have e : (ldN P i 0).N i 2 = 0 := by
    show setV P.N i 2 0 i 2 = _
    unfold setV; rw [if_pos ⟨rfl, rfl⟩]
  unfold stg; rw [e]; split <;> omega
theorem ld_snd {P : Pl} {i k t : Nat} : snd (ldN P i 0).N k t ↔ snd P.N k t := by
  have e0 : (ldN P i 0).N k 0 = P.N k 0 := by
    show setV P.N i 2 0 k 0 = _
    unfold setV; rw [if_neg (fun q => absurd q.2 (by decide))]
  have e1 : (ldN P i 0).N k 1 = P.N k 1 := by
    show setV P.N i 2 0 k 1 = _
    unfold setV; rw [if_neg (fun q => absurd q.2 (by decide))]
  unfold snd; rw [e0, e1]
theorem dl_N {P : Pl} {i k : Nat} : (delN P i).N k = if k < i then P.N k else P.N (k + 1) := rfl
theorem dl_stg {P : Pl} {i k t : Nat} : stg (delN P i) k t = if k < i then stg P k t else stg P (k + 1) t := by
  unfold stg; rw [dk_same (P := P) (Q := delN P i) rfl rfl rfl, dl_N]
  by_cases h : k < i
  · rw [if_pos h, if_pos h]
  · rw [if_neg h, if_neg h]
theorem dl_snd {P : Pl} {i k t : Nat} : snd (delN P i).N k t ↔ (if k < i then snd P.N k t else snd P.N (k + 1) t) := by
  unfold snd; rw [dl_N]
  by_cases h : k < i
  · rw [if_pos h, if_pos h]
  · rw [if_neg h, if_neg h]
theorem ld_sst {P : Pl} {i k t : Nat} (hk : k ≠ i) : sst (ldN P i 0) k t = sst P k t := by
  unfold sst
  by_cases h : snd P.N k t
  · rw [if_pos h, if_pos (ld_snd.mpr h), ld_stg hk]
  · rw [if_neg h, if_neg (fun q => h (ld_snd.mp q))]
theorem ld_sst0 {P : Pl} {i t : Nat} : sst (ldN P i 0) i t = 0 := by
  unfold sst; rw [ld_0]; split <;> rfl
theorem dl_sst {P : Pl} {i k t : Nat} : sst (delN P i) k t = if k < i then sst P k t else sst P (k + 1) t := by
  unfold sst
  by_cases h : k < i
  · rw [if_pos h, dl_stg, if_pos h]
    by_cases h2 : snd P.N k t
    · rw [if_pos h2, if_pos (dl_snd.mpr (by rw [if_pos h]; exact h2))]
    · rw [if_neg h2, if_neg (fun q => h2 (by have := dl_snd.mp q; rwa [if_pos h] at this))]
  · rw [if_neg h, dl_stg, if_neg h]
    by_cases h2 : snd P.N (k + 1) t
    · rw [if_pos h2, if_pos (dl_snd.mpr (by rw [if_neg h]; exact h2))]
    · rw [if_neg h2, if_neg (fun q => h2 (by have := dl_snd.mp q; rwa [if_neg h] at this))]
theorem quiet_lo {P : Pl} {i t : Nat} : ∀ n, n ≤ i → gst (ldN P i 0) t n = gst (delN P i) t n ∧ gct (ldN P i 0) t n = gct (delN P i) t n
  | 0, _ => ⟨rfl, rfl⟩
  | n + 1, h => by
    have ih := quiet_lo (P := P) (i := i) (t := t) n (by omega)
    have hsd : sst (delN P i) n t = sst P n t := by rw [dl_sst, if_pos (by omega)]
    rw [gst_step, gst_step, gct_step, gct_step, ih.1, ih.2, ld_sst (by omega), hsd]
    exact ⟨rfl, rfl⟩
theorem quiet_hi {P : Pl} {i t : Nat} : ∀ n, i ≤ n → gst (ldN P i 0) t (n + 1) = gst (delN P i) t n ∧ gct (ldN P i 0) t (n + 1) = gct (delN P i) t n := by
  intro n h
  induction n with
  | zero =>
    obtain rfl : i = 0 := by omega
    rw [gst_step, gct_step, ld_sst0, if_neg (by omega), if_neg (by omega)]; exact ⟨rfl, rfl⟩
  | succ n ih =>
    by_cases e : i = n + 1
    · have q := quiet_lo (P := P) (i := i) (t := t) (n + 1) (by omega)
      rw [gst_step, gct_step, ← e, ld_sst0, if_neg (by omega), if_neg (by omega), e]
      subst e; exact q
    · have q := ih (by omega)
      have hsd : sst (delN P i) n t = sst P (n + 1) t := by rw [dl_sst, if_neg (by omega)]
      rw [gst_step (ldN P i 0), gct_step (ldN P i 0), q.1, q.2, gst_step (delN P i), gct_step (delN P i), ld_sst (by omega), hsd]
      exact ⟨rfl, rfl⟩
theorem quiet_cov {P : Pl} {i j t : Nat} (hi : i < P.n) : cov (ldN P i 0) j t = cov (delN P i) j t := by
  have q := quiet_hi (P := P) (i := i) (t := t) (P.n - 1) (by omega)
  rw [show P.n - 1 + 1 = P.n by omega] at q
  have c : ∀ m, cgr (ldN P i 0) j t m = cgr (delN P i) j t m ∧ cct (ldN P i 0) j t m = cct (delN P i) j t m := by
    intro m
    induction m with
    | zero => exact q
    | succ m ih =>
      unfold cgr cct
      rw [ih.1, ih.2]
      exact ⟨rfl, rfl⟩
  unfold cov
  rw [(c _).1, (c _).2]; rfl
theorem quiet_mmk {P : Pl} {i t : Nat} (hi : i < P.n) : mmk (ldN P i 0) t = mmk (delN P i) t := mk_congr (fun j _ => by rw [quiet_cov hi]; exact Iff.rfl)
theorem quiet_ams {P : Pl} {i : Nat} (hi : i < P.n) : ams (ldN P i 0) = ams (delN P i) := sm_congr (fun t _ => by rw [quiet_mmk hi])
-- the loudness of all, told in two ways
theorem sm_add (f g : Nat → Nat) : ∀ n, sm (fun t => f t + g t) n = sm f n + sm g n
  | 0 => rfl
  | n + 1 => by rw [sm, sm, sm, sm_add f g n]; omega
theorem sm_zero : ∀ n, sm (fun _ => 0) n = 0
  | 0 => rfl
  | n + 1 => by rw [sm, sm_zero n]
theorem sm_swap (f : Nat → Nat → Nat) : ∀ n m, sm (fun t => sm (fun j => f j t) n) m = sm (fun j => sm (fun t => f j t) m) n
  | 0, m => sm_zero m
  | n + 1, m => by
    show sm (fun t => sm (fun j => f j t) n + f n t) m = _
    rw [sm_add, sm_swap f n m, sm]
theorem sm_int (a l d : Nat) : ∀ m, sm (fun t => if a ≤ t ∧ t < a + l then d else 0) m = (min m (a + l) - a) * d
  | 0 => by rw [show min 0 (a + l) - a = 0 by omega, Nat.zero_mul]; rfl
  | m + 1 => by
    rw [sm, sm_int a l d m]
    by_cases h : a ≤ m ∧ m < a + l
    · rw [if_pos h, show min (m + 1) (a + l) - a = min m (a + l) - a + 1 by omega, Nat.succ_mul]
    · rw [if_neg h, show min (m + 1) (a + l) - a = min m (a + l) - a by omega]; rfl
theorem tt_eq {P : Pl} (h : okP P) : tts P = ttc P := by
  unfold tts ttc
  have e : ∀ (V : Nat → Nat → Nat) (n : Nat), okW n V → sm (fun t => sm (fun j => if snd V j t then V j 2 else 0) n) 120 = sm (fun j => V j 1 * V j 2) n := by
    intro V n hV
    rw [sm_swap (fun j t => if snd V j t then V j 2 else 0)]
    refine sm_congr (fun j hj => ?_)
    have hj := hV j hj
    rw [sm_int (V j 0) (V j 1) (V j 2) 120, show min 120 (V j 0 + V j 1) - V j 0 = V j 1 by omega]
  rw [sm_add, e _ _ h.2.2.1, e _ _ h.2.2.2.1]
theorem up_up {f : Nat → Nat} {k x y : Nat} (j : Nat) : va_up (va_up f k x) k y j = va_up f k y j := by
  unfold va_up; by_cases h : j = k <;> simp [h]
theorem up_id {f : Nat → Nat} {k : Nat} {x : Nat} (h : x = f k) (j : Nat) : va_up f k x j = f j := by
  unfold va_up; by_cases e : j = k
  · rw [if_pos e, e, h]
  · rw [if_neg e]
theorem upI_up {f : Nat → Int32} {k : Nat} {x y : Int32} (j : Nat) : va_up (va_up f k x) k y j = va_up f k y j := by
  unfold va_up; by_cases h : j = k <;> simp [h]
theorem upI_n {f : Nat → Nat} {k x : Nat} {y : Int32} (h : y = nI x) (j : Nat) : va_up (fun j => nI (f j)) k y j = nI (va_up f k x j) := by
  unfold va_up; by_cases e : j = k <;> simp [e, h]
theorem upI_id {f : Nat → Nat} {k : Nat} {y : Int32} (h : y = nI (f k)) (j : Nat) : nI (f j) = va_up (fun j => nI (f j)) k y j := by
  unfold va_up; by_cases e : j = k
  · rw [if_pos e, e, h]
  · rw [if_neg e]

set_option maxHeartbeats 300000 in
set_option maxRecDepth 100000 in
/-- wordOf -/
theorem c_X7_wordOf (l : Launch) {D : va_G} {dA : Nat → Nat} {b : Nat} {w : Wd} {n nc : Nat} {P : Pl} {Hs : Nat → Pl} {SL : Nat → Option Pl} {C : Nat → Nat} {tt : Int32} (hmd : isMod dA b w (P, (n, Hs), SL, (nc, C)) tt) (x y : Int32) : Met l yX7_wordOf wsX7_wordOf ({ frames := 6, cells := 0, slots := 0, locals := 141 } : Room) (PC D dA b w [.ref (b + 36), .int (x), .int (y)]) (QW D b (some (.int (if (0 ≤ x ∧ x < nI P.w) ∧ (0 ≤ y ∧ y ≤ nI 6) then wof P (i32n x) (i32n y) else 0))) (fun w' => ((((0 ≤ x ∧ x < nI P.w) ∧ (0 ≤ y ∧ y ≤ nI 6)) ∧ isMod dA b w' (P, (n, Hs), SL, (nc, C)) (nI 0)) ∨ ((¬ (0 ≤ x ∧ x < nI P.w)) ∧ isMod dA b w' (P, (n, Hs), SL, (nc, C)) (nI 1)) ∨ (((0 ≤ x ∧ x < nI P.w) ∧ ¬ (0 ≤ y ∧ y ≤ nI 6)) ∧ isMod dA b w' (P, (n, Hs), SL, (nc, C)) (nI 2))) ∧ ∀ id : Nat, (id < 36 ∨ 45 ≤ id) → w' id = w id)) 0 0 (Fb b) := by
  refine q_of (cc := cX7_wordOf) (maxL := 3) (ret := (some .int)) (by decide) rfl rfl ?_
  intro p e s m args below meth c ls hx hb hr hml hts hown hlocks hG hW hS hl
  have hown : s.vm.findClass RX7 = some m.cls := hown
  have hinX7 : ∀ w ∈ u_ws RX7 TX7 14, w ∈ wsX7_wordOf := fun w h => (goodIn_r (big := wsX7_wordOf) (u_ws RX7 TX7 14) [67, 68, 69, 70, 71, 72, 73, 74, 75, 76, 77, 78, 79, 80] (by decide +kernel) (by decide +kernel) w h).1
  have hl : lv_has ls 3 [(0, .ref (b + 36)), (1, .int (x)), (2, .int (y))] := hl
  obtain ⟨pl, lt, dn, F, G, GS, Zt, D0, M0, TD, hm0, hm1, ⟨hRp, hP⟩, hm38, hsv, hm39, hm40, hsl, hm41, hbu, hm42, hm43, hm44⟩ := id hmd
  change w 36 = some (modO b (nI n) (nI nc) tt pl lt dn) at hm0
  change rep F P at hRp
  change okP P at hP
  change mSv n G Hs at hsv
  change mSl GS Zt SL at hsl
  change w 41 = some (eN dA 80 C) at hm41
  change mBu nc C at hbu
  have hn6 := hsv.1
  have hnc := hbu.1
  obtain ⟨hPw, hPn, hPW, hPN, hPS⟩ := id hP
  have hr5 := hRp.2.1
  have hr6 := hRp.2.2.1
  refine lv_aload_n hx hb dX7_wordOf_0 rfl (lv_at hl 0 rfl) ?_
  refine lv_aload_n hx hb dX7_wordOf_1 rfl (lv_at hl 0 rfl) ?_
  refine lv_iconst (v := nI 1) hx hb dX7_wordOf_2 (by decide) ?_
  refine lv_iload_n hx hb dX7_wordOf_3 rfl (lv_at hl 1 rfl) ?_
  refine q_R1 (va_runV (As := [.int (nI 1), .int (x)]) (rest := [.ref (b + 36)]) ⟨hx, hb, hml, hown, hts⟩ (c_isCueW l hm0 hm1 hRp hP (x)) (cwV 2 hts gX7_wordOf_X7_isCue rfl rfl rfl (by decide +kernel) ⟨Nat.le_of_ble_eq_true rfl, Nat.le_of_ble_eq_true rfl⟩) (q_preV hG hW hS hm0 rfl) rfl rfl hl.1 rfl (lv_room (Nat.le_of_ble_eq_true rfl)) dX7_wordOf_4 ⟨Nat.le_of_ble_eq_true rfl, Nat.le_of_ble_eq_true rfl⟩) ?_
  refine lv_if_ne (tgt := 14) hx hb dX7_wordOf_7 (by decide) (fun c_7 => ?_) (fun c_7 => ?_)
  · skip
    have c_7 : 0 ≤ x ∧ x < nI P.w := Decidable.byContradiction (fun h__ => c_7 (pI_eq0.mpr h__))
    obtain ⟨ex9, bx9⟩ := has_n (by omega) c_7.1 c_7.2
    have el_14 : x = nI (i32n x) := by exact ex9
    rw [el_14] at hl
    refine lv_iload_n hx hb dX7_wordOf_14 rfl (lv_at hl 2 rfl) ?_
    refine lv_iconst (v := nI 0) hx hb dX7_wordOf_15 (by decide) ?_
    refine lv_bipush (v := nI 6) hx hb dX7_wordOf_16 (by decide) ?_
    refine q_R1 (va_runS (As := [.int (y), .int (nI 0), .int (nI 6)]) (rest := [.ref (b + 36)]) ⟨hx, hb, hml, hown, hts⟩ (c_X7_in l (y) (nI (0)) (nI (6))) (va_cwS 3 hts gX7_wordOf_X7_in rfl rfl rfl (by decide +kernel) ⟨Nat.le_of_ble_eq_true rfl, Nat.le_of_ble_eq_true rfl⟩) (q_preS hG hW hS) rfl rfl hl.1 rfl (lv_room (Nat.le_of_ble_eq_true rfl)) dX7_wordOf_18 ⟨Nat.le_of_ble_eq_true rfl, Nat.le_of_ble_eq_true rfl⟩) ?_
    refine lv_if_eq (tgt := 28) hx hb dX7_wordOf_21 (by decide) (fun c_21 => ?_) (fun c_21 => ?_)
    · skip
      have c_21 : ¬ ((nI (0)) ≤ (y) ∧ (y) ≤ (nI (6))) := pI_eq0.mp c_21
      refine lv_iconst (v := nI 2) hx hb dX7_wordOf_28 (by decide) ?_
      refine q_W1 (va_runV (As := [.int (nI 2)]) (rest := []) ⟨hx, hb, hml, hown, hts⟩ (c_X7_holds l hm0 (nI (2))) (cwV 1 hts gX7_wordOf_X7_holds rfl rfl rfl (by decide +kernel) ⟨Nat.le_of_ble_eq_true rfl, Nat.le_of_ble_eq_true rfl⟩) (q_preV hG hW hS hm0 rfl) rfl rfl hl.1 rfl (lv_room (Nat.le_of_ble_eq_true rfl)) dX7_wordOf_29 ⟨Nat.le_of_ble_eq_true rfl, Nat.le_of_ble_eq_true rfl⟩) hS (fun w_29 H locs hp29 hW hS => ?_)
      obtain ⟨hm0, fr29⟩ := hp29
      replace hm1 : w_29 37 = some (eN dA 85 F) := (fr29 _ (by omega)).trans hm1
      replace hm38 : w_29 38 = some (eN dA 510 G) := (fr29 _ (by omega)).trans hm38
      replace hm39 : w_29 39 = some (eN dA 170 GS) := (fr29 _ (by omega)).trans hm39
      replace hm40 : w_29 40 = some (eZ dA 2 Zt) := (fr29 _ (by omega)).trans hm40
      replace hm41 : w_29 41 = some (eN dA 80 C) := (fr29 _ (by omega)).trans hm41
      replace hm42 : w_29 42 = some (eN dA 120 D0) := (fr29 _ (by omega)).trans hm42
      replace hm43 : w_29 43 = some (eN dA 120 M0) := (fr29 _ (by omega)).trans hm43
      replace hm44 : w_29 44 = some (eN dA 3 TD) := (fr29 _ (by omega)).trans hm44
      refine q_topv (v' := .int (nI 0)) (congrArg Value.int (by decide)) ?_
      refine lv_if_ne (tgt := 37) hx hb dX7_wordOf_32 (by decide) (fun c_32 => ?_) (fun c_32 => ?_)
      · skip
        have c_32 : ¬ (0 = 0) := fun h__ => c_32 ((nI_eq0 (i := 0) (by omega)).mpr h__)
        exact absurd c_32 (by omega)
      · skip
        have c_32 : 0 = 0 := (nI_eq0 (i := 0) (by omega)).mp c_32
        refine lv_iconst (v := nI 0) hx hb dX7_wordOf_35 (by decide) ?_
        exact q_wi hx hb hr hlocks hW hS dX7_wordOf_36 (by rw [if_neg (by first | exact fun q9 => c_7 q9.1 | exact fun q9 => c_21 q9.2)]; rfl) (by exact ⟨Or.inr (Or.inr ⟨⟨c_7, c_21⟩, ⟨_, _, _, _, _, _, _, _, _, _, hm0, hm1, ⟨hRp, hP⟩, hm38, hsv, hm39, hm40, hsl, hm41, hbu, hm42, hm43, hm44⟩⟩), by intro id h9; rw [fr29 id (by omega)]; try rfl⟩) (by decide) (by decide)
    · skip
      have c_21 : (nI (0)) ≤ (y) ∧ (y) ≤ (nI (6)) := Decidable.byContradiction (fun h__ => c_21 (pI_eq0.mpr h__))
      refine lv_iconst (v := nI 0) hx hb dX7_wordOf_24 (by decide) ?_
      refine lv_goto (tgt := 29) hx hb dX7_wordOf_25 (by decide) ?_
      refine q_W1 (va_runV (As := [.int (nI 0)]) (rest := []) ⟨hx, hb, hml, hown, hts⟩ (c_X7_holds l hm0 (nI (0))) (cwV 1 hts gX7_wordOf_X7_holds rfl rfl rfl (by decide +kernel) ⟨Nat.le_of_ble_eq_true rfl, Nat.le_of_ble_eq_true rfl⟩) (q_preV hG hW hS hm0 rfl) rfl rfl hl.1 rfl (lv_room (Nat.le_of_ble_eq_true rfl)) dX7_wordOf_29 ⟨Nat.le_of_ble_eq_true rfl, Nat.le_of_ble_eq_true rfl⟩) hS (fun w_29 H locs hp29 hW hS => ?_)
      obtain ⟨hm0, fr29⟩ := hp29
      replace hm1 : w_29 37 = some (eN dA 85 F) := (fr29 _ (by omega)).trans hm1
      replace hm38 : w_29 38 = some (eN dA 510 G) := (fr29 _ (by omega)).trans hm38
      replace hm39 : w_29 39 = some (eN dA 170 GS) := (fr29 _ (by omega)).trans hm39
      replace hm40 : w_29 40 = some (eZ dA 2 Zt) := (fr29 _ (by omega)).trans hm40
      replace hm41 : w_29 41 = some (eN dA 80 C) := (fr29 _ (by omega)).trans hm41
      replace hm42 : w_29 42 = some (eN dA 120 D0) := (fr29 _ (by omega)).trans hm42
      replace hm43 : w_29 43 = some (eN dA 120 M0) := (fr29 _ (by omega)).trans hm43
      replace hm44 : w_29 44 = some (eN dA 3 TD) := (fr29 _ (by omega)).trans hm44
      refine q_topv (v' := .int (nI 1)) (congrArg Value.int (by decide)) ?_
      refine lv_if_ne (tgt := 37) hx hb dX7_wordOf_32 (by decide) (fun c_32 => ?_) (fun c_32 => ?_)
      · skip
        have c_32 : ¬ (1 = 0) := fun h__ => c_32 ((nI_eq0 (i := 1) (by omega)).mpr h__)
        obtain ⟨ey9, by9⟩ := le_n (k := 6) (by decide) c_21.1 c_21.2
        have el_37 : y = nI (i32n y) := by exact ey9
        rw [el_37] at hl
        refine lv_aload_n hx hb dX7_wordOf_37 rfl (lv_at hl 0 rfl) ?_
        refine q_W0 (va_runV (As := []) (rest := []) ⟨hx, hb, hml, hown, hts⟩ (c_X7_layOut l hm0 hm1 hRp hP hm42 hm43) (cwV 0 hts gX7_wordOf_X7_layOut rfl rfl rfl (by decide +kernel) ⟨Nat.le_of_ble_eq_true rfl, Nat.le_of_ble_eq_true rfl⟩) (q_preV hG hW hS hm0 rfl) rfl rfl hl.1 rfl (lv_room (Nat.le_of_ble_eq_true rfl)) dX7_wordOf_38 ⟨Nat.le_of_ble_eq_true rfl, Nat.le_of_ble_eq_true rfl⟩) hS (fun w_38 H locs hp38 hW hS => ?_)
        obtain ⟨hm42, hm43, fr38⟩ := hp38
        replace hm1 : w_38 37 = some (eN dA 85 F) := (fr38 _ (by omega)).trans hm1
        replace hm38 : w_38 38 = some (eN dA 510 G) := (fr38 _ (by omega)).trans hm38
        replace hm39 : w_38 39 = some (eN dA 170 GS) := (fr38 _ (by omega)).trans hm39
        replace hm40 : w_38 40 = some (eZ dA 2 Zt) := (fr38 _ (by omega)).trans hm40
        replace hm41 : w_38 41 = some (eN dA 80 C) := (fr38 _ (by omega)).trans hm41
        replace hm44 : w_38 44 = some (eN dA 3 TD) := (fr38 _ (by omega)).trans hm44
        replace hm0 : w_38 36 = some (modO b (nI (n)) (nI (nc)) (nI (0)) (pl) (lt) (dn)) := (fr38 _ (by omega)).trans hm0
        refine lv_iload_n hx hb dX7_wordOf_41 rfl (lv_at hl 2 rfl) ?_
        rcases (show i32n y = 0 ∨ i32n y = 1 ∨ i32n y = 2 ∨ i32n y = 3 ∨ i32n y = 4 ∨ i32n y = 5 ∨ i32n y = 6 by omega) with sw42 | sw42 | sw42 | sw42 | sw42 | sw42 | sw42
        · skip
          refine q_top (y := nI 0) (congrArg nI sw42) ?_
          refine lv_tableOut (tgt := 117) hx hb dX7_wordOf_42 (by decide) (by decide) ?_
          refine lv_aload_n hx hb dX7_wordOf_117 rfl (lv_at hl 0 rfl) ?_
          refine lv_iload_n hx hb dX7_wordOf_118 rfl (lv_at hl 1 rfl) ?_
          refine lv_iload_n hx hb dX7_wordOf_119 rfl (lv_at hl 2 rfl) ?_
          refine q_R1 (va_runV (As := [.int (nI (i32n x)), .int (nI (i32n y))]) (rest := []) ⟨hx, hb, hml, hown, hts⟩ (c_ofW l hm0 hm1 hRp hP (i32n x) (i32n y) (by omega) (by omega)) (cwV 2 hts gX7_wordOf_X7_ofWord rfl rfl rfl (by decide +kernel) ⟨Nat.le_of_ble_eq_true rfl, Nat.le_of_ble_eq_true rfl⟩) (q_preV hG hW hS hm0 rfl) rfl rfl hl.1 rfl (lv_room (Nat.le_of_ble_eq_true rfl)) dX7_wordOf_120 ⟨Nat.le_of_ble_eq_true rfl, Nat.le_of_ble_eq_true rfl⟩) ?_
          exact q_wi hx hb hr hlocks hW hS dX7_wordOf_123 (by rw [if_pos ⟨c_7, c_21⟩]; unfold wof; rw [if_pos (by omega)]) (by exact ⟨Or.inl ⟨⟨c_7, c_21⟩, ⟨_, _, _, _, _, _, _, _, _, _, hm0, hm1, ⟨hRp, hP⟩, hm38, hsv, hm39, hm40, hsl, hm41, hbu, hm42, hm43, hm44⟩⟩, by intro id h9; rw [fr38 id (by omega)]; rw [fr29 id (by omega)]; try rfl⟩) (by decide) (by decide)
        · skip
          refine q_top (y := nI 1) (congrArg nI sw42) ?_
          refine lv_tableOut (tgt := 117) hx hb dX7_wordOf_42 (by decide) (by decide) ?_
          refine lv_aload_n hx hb dX7_wordOf_117 rfl (lv_at hl 0 rfl) ?_
          refine lv_iload_n hx hb dX7_wordOf_118 rfl (lv_at hl 1 rfl) ?_
          refine lv_iload_n hx hb dX7_wordOf_119 rfl (lv_at hl 2 rfl) ?_
          refine q_R1 (va_runV (As := [.int (nI (i32n x)), .int (nI (i32n y))]) (rest := []) ⟨hx, hb, hml, hown, hts⟩ (c_ofW l hm0 hm1 hRp hP (i32n x) (i32n y) (by omega) (by omega)) (cwV 2 hts gX7_wordOf_X7_ofWord rfl rfl rfl (by decide +kernel) ⟨Nat.le_of_ble_eq_true rfl, Nat.le_of_ble_eq_true rfl⟩) (q_preV hG hW hS hm0 rfl) rfl rfl hl.1 rfl (lv_room (Nat.le_of_ble_eq_true rfl)) dX7_wordOf_120 ⟨Nat.le_of_ble_eq_true rfl, Nat.le_of_ble_eq_true rfl⟩) ?_
          exact q_wi hx hb hr hlocks hW hS dX7_wordOf_123 (by rw [if_pos ⟨c_7, c_21⟩]; unfold wof; rw [if_pos (by omega)]) (by exact ⟨Or.inl ⟨⟨c_7, c_21⟩, ⟨_, _, _, _, _, _, _, _, _, _, hm0, hm1, ⟨hRp, hP⟩, hm38, hsv, hm39, hm40, hsl, hm41, hbu, hm42, hm43, hm44⟩⟩, by intro id h9; rw [fr38 id (by omega)]; rw [fr29 id (by omega)]; try rfl⟩) (by decide) (by decide)
        · skip
          refine q_top (y := nI 2) (congrArg nI sw42) ?_
          refine lv_tableOut (tgt := 117) hx hb dX7_wordOf_42 (by decide) (by decide) ?_
          refine lv_aload_n hx hb dX7_wordOf_117 rfl (lv_at hl 0 rfl) ?_
          refine lv_iload_n hx hb dX7_wordOf_118 rfl (lv_at hl 1 rfl) ?_
          refine lv_iload_n hx hb dX7_wordOf_119 rfl (lv_at hl 2 rfl) ?_
          refine q_R1 (va_runV (As := [.int (nI (i32n x)), .int (nI (i32n y))]) (rest := []) ⟨hx, hb, hml, hown, hts⟩ (c_ofW l hm0 hm1 hRp hP (i32n x) (i32n y) (by omega) (by omega)) (cwV 2 hts gX7_wordOf_X7_ofWord rfl rfl rfl (by decide +kernel) ⟨Nat.le_of_ble_eq_true rfl, Nat.le_of_ble_eq_true rfl⟩) (q_preV hG hW hS hm0 rfl) rfl rfl hl.1 rfl (lv_room (Nat.le_of_ble_eq_true rfl)) dX7_wordOf_120 ⟨Nat.le_of_ble_eq_true rfl, Nat.le_of_ble_eq_true rfl⟩) ?_
          exact q_wi hx hb hr hlocks hW hS dX7_wordOf_123 (by rw [if_pos ⟨c_7, c_21⟩]; unfold wof; rw [if_pos (by omega)]) (by exact ⟨Or.inl ⟨⟨c_7, c_21⟩, ⟨_, _, _, _, _, _, _, _, _, _, hm0, hm1, ⟨hRp, hP⟩, hm38, hsv, hm39, hm40, hsl, hm41, hbu, hm42, hm43, hm44⟩⟩, by intro id h9; rw [fr38 id (by omega)]; rw [fr29 id (by omega)]; try rfl⟩) (by decide) (by decide)
        · skip
          refine q_top (y := nI 3) (congrArg nI sw42) ?_
          refine lv_tableIn (tgt := 72) (off := 30) hx hb dX7_wordOf_42 (by decide) (by decide) rfl (by decide) ?_
          refine lv_aload_n hx hb dX7_wordOf_72 rfl (lv_at hl 0 rfl) ?_
          refine lv_iload_n hx hb dX7_wordOf_73 rfl (lv_at hl 1 rfl) ?_
          refine lv_iconst (v := nI 1) hx hb dX7_wordOf_74 (by decide) ?_
          refine q_R1 (va_runV (As := [.int (nI (i32n x)), .int (nI 1)]) (rest := []) ⟨hx, hb, hml, hown, hts⟩ (c_ofW l hm0 hm1 hRp hP (i32n x) (1) (by omega) (by omega)) (cwV 2 hts gX7_wordOf_X7_ofWord rfl rfl rfl (by decide +kernel) ⟨Nat.le_of_ble_eq_true rfl, Nat.le_of_ble_eq_true rfl⟩) (q_preV hG hW hS hm0 rfl) rfl rfl hl.1 rfl (lv_room (Nat.le_of_ble_eq_true rfl)) dX7_wordOf_75 ⟨Nat.le_of_ble_eq_true rfl, Nat.le_of_ble_eq_true rfl⟩) ?_
          refine lv_aload_n hx hb dX7_wordOf_78 rfl (lv_at hl 0 rfl) ?_
          refine lv_iload_n hx hb dX7_wordOf_79 rfl (lv_at hl 1 rfl) ?_
          refine q_R1 (va_runV (As := [.int (nI (i32n x))]) (rest := [.int (nI (P.W (i32n x) 1))]) ⟨hx, hb, hml, hown, hts⟩ (c_X7_maskedOf l hm0 hm1 hRp hP hm43 (i32n x) (by omega)) (cwV 1 hts gX7_wordOf_X7_maskedOf rfl rfl rfl (by decide +kernel) ⟨Nat.le_of_ble_eq_true rfl, Nat.le_of_ble_eq_true rfl⟩) (q_preV hG hW hS hm0 rfl) rfl rfl hl.1 rfl (lv_room (Nat.le_of_ble_eq_true rfl)) dX7_wordOf_80 ⟨Nat.le_of_ble_eq_true rfl, Nat.le_of_ble_eq_true rfl⟩) ?_
          have q_80 := mse_le P (i32n x)
          refine lv_isub hx hb dX7_wordOf_83 ?_
          exact q_wi hx hb hr hlocks hW hS dX7_wordOf_84 (by rw [if_pos ⟨c_7, c_21⟩]; unfold wof; rw [sw42]; rfl) (by exact ⟨Or.inl ⟨⟨c_7, c_21⟩, ⟨_, _, _, _, _, _, _, _, _, _, hm0, hm1, ⟨hRp, hP⟩, hm38, hsv, hm39, hm40, hsl, hm41, hbu, hm42, hm43, hm44⟩⟩, by intro id h9; rw [fr38 id (by omega)]; rw [fr29 id (by omega)]; try rfl⟩) (by decide) (by decide)
        · skip
          refine q_top (y := nI 4) (congrArg nI sw42) ?_
          refine lv_tableIn (tgt := 85) (off := 43) hx hb dX7_wordOf_42 (by decide) (by decide) rfl (by decide) ?_
          refine lv_aload_n hx hb dX7_wordOf_85 rfl (lv_at hl 0 rfl) ?_
          refine lv_iload_n hx hb dX7_wordOf_86 rfl (lv_at hl 1 rfl) ?_
          refine q_R1 (va_runV (As := [.int (nI (i32n x))]) (rest := []) ⟨hx, hb, hml, hown, hts⟩ (c_X7_firstMasked l hm0 hm1 hRp hP hm43 (i32n x) (by omega)) (cwV 1 hts gX7_wordOf_X7_firstMasked rfl rfl rfl (by decide +kernel) ⟨Nat.le_of_ble_eq_true rfl, Nat.le_of_ble_eq_true rfl⟩) (q_preV hG hW hS hm0 rfl) rfl rfl hl.1 rfl (lv_room (Nat.le_of_ble_eq_true rfl)) dX7_wordOf_87 ⟨Nat.le_of_ble_eq_true rfl, Nat.le_of_ble_eq_true rfl⟩) ?_
          exact q_wi hx hb hr hlocks hW hS dX7_wordOf_90 (by rw [if_pos ⟨c_7, c_21⟩]; unfold wof; rw [sw42]; rfl) (by exact ⟨Or.inl ⟨⟨c_7, c_21⟩, ⟨_, _, _, _, _, _, _, _, _, _, hm0, hm1, ⟨hRp, hP⟩, hm38, hsv, hm39, hm40, hsl, hm41, hbu, hm42, hm43, hm44⟩⟩, by intro id h9; rw [fr38 id (by omega)]; rw [fr29 id (by omega)]; try rfl⟩) (by decide) (by decide)
        · skip
          refine q_top (y := nI 5) (congrArg nI sw42) ?_
          refine lv_tableIn (tgt := 91) (off := 49) hx hb dX7_wordOf_42 (by decide) (by decide) rfl (by decide) ?_
          refine lv_aload_n hx hb dX7_wordOf_91 rfl (lv_at hl 0 rfl) ?_
          refine lv_iload_n hx hb dX7_wordOf_92 rfl (lv_at hl 1 rfl) ?_
          refine q_R1 (va_runV (As := [.int (nI (i32n x))]) (rest := []) ⟨hx, hb, hml, hown, hts⟩ (c_X7_maskedOf l hm0 hm1 hRp hP hm43 (i32n x) (by omega)) (cwV 1 hts gX7_wordOf_X7_maskedOf rfl rfl rfl (by decide +kernel) ⟨Nat.le_of_ble_eq_true rfl, Nat.le_of_ble_eq_true rfl⟩) (q_preV hG hW hS hm0 rfl) rfl rfl hl.1 rfl (lv_room (Nat.le_of_ble_eq_true rfl)) dX7_wordOf_93 ⟨Nat.le_of_ble_eq_true rfl, Nat.le_of_ble_eq_true rfl⟩) ?_
          have q_93 := mse_le P (i32n x)
          refine lv_aload_n hx hb dX7_wordOf_96 rfl (lv_at hl 0 rfl) ?_
          refine q_get hx hb hts hinX7 hown hG hW hm0 rfl 0 (by decide) (hts (.fieldLink RX7 7 "FoleyMixerModel" "s" "[I") (List.mem_of_getElem? (i := 1) rfl)) rfl rfl dX7_wordOf_97 ?_
          refine lv_iconst (v := nI 4) hx hb dX7_wordOf_100 (by decide) ?_
          refine q_iald hx hb hG hW hm1 (by omega) (by omega) dX7_wordOf_101 ?_
          refine q_top (y := nI (P.S 4)) (by exact congrArg nI (hRp.1 4 (by omega))) ?_
          have hS4 := hPS.2.2.2.2.2
          refine lv_icmp_gt (tgt := 109) hx hb dX7_wordOf_102 (by decide) (fun c_102 => ?_) (fun c_102 => ?_)
          · skip
            have c_102 : P.S 4 < mse P (i32n x) := (nI_ltI (a := P.S 4) (b := mse P (i32n x)) (by omega) (by omega)).mp c_102
            refine lv_iconst (v := nI 0) hx hb dX7_wordOf_109 (by decide) ?_
            exact q_wi hx hb hr hlocks hW hS dX7_wordOf_110 (by rw [if_pos ⟨c_7, c_21⟩]; unfold wof; rw [sw42]; show _ = (if mse P (i32n x) ≤ P.S 4 then 1 else 0); first | (rw [if_pos (by omega)]; rfl) | (rw [if_neg (by omega)]; rfl)) (by exact ⟨Or.inl ⟨⟨c_7, c_21⟩, ⟨_, _, _, _, _, _, _, _, _, _, hm0, hm1, ⟨hRp, hP⟩, hm38, hsv, hm39, hm40, hsl, hm41, hbu, hm42, hm43, hm44⟩⟩, by intro id h9; rw [fr38 id (by omega)]; rw [fr29 id (by omega)]; try rfl⟩) (by decide) (by decide)
          · skip
            have c_102 : ¬ (P.S 4 < mse P (i32n x)) := fun h__ => c_102 ((nI_ltI (a := P.S 4) (b := mse P (i32n x)) (by omega) (by omega)).mpr h__)
            refine lv_iconst (v := nI 1) hx hb dX7_wordOf_105 (by decide) ?_
            refine lv_goto (tgt := 110) hx hb dX7_wordOf_106 (by decide) ?_
            exact q_wi hx hb hr hlocks hW hS dX7_wordOf_110 (by rw [if_pos ⟨c_7, c_21⟩]; unfold wof; rw [sw42]; show _ = (if mse P (i32n x) ≤ P.S 4 then 1 else 0); first | (rw [if_pos (by omega)]; rfl) | (rw [if_neg (by omega)]; rfl)) (by exact ⟨Or.inl ⟨⟨c_7, c_21⟩, ⟨_, _, _, _, _, _, _, _, _, _, hm0, hm1, ⟨hRp, hP⟩, hm38, hsv, hm39, hm40, hsl, hm41, hbu, hm42, hm43, hm44⟩⟩, by intro id h9; rw [fr38 id (by omega)]; rw [fr29 id (by omega)]; try rfl⟩) (by decide) (by decide)
        · skip
          refine q_top (y := nI 6) (congrArg nI sw42) ?_
          refine lv_tableIn (tgt := 111) (off := 69) hx hb dX7_wordOf_42 (by decide) (by decide) rfl (by decide) ?_
          refine lv_aload_n hx hb dX7_wordOf_111 rfl (lv_at hl 0 rfl) ?_
          refine lv_iload_n hx hb dX7_wordOf_112 rfl (lv_at hl 1 rfl) ?_
          refine q_R1 (va_runV (As := [.int (nI (i32n x))]) (rest := []) ⟨hx, hb, hml, hown, hts⟩ (c_X7_greatestCover l hm0 hm1 hRp hP hm42 (i32n x) (by omega)) (cwV 1 hts gX7_wordOf_X7_greatestCover rfl rfl rfl (by decide +kernel) ⟨Nat.le_of_ble_eq_true rfl, Nat.le_of_ble_eq_true rfl⟩) (q_preV hG hW hS hm0 rfl) rfl rfl hl.1 rfl (lv_room (Nat.le_of_ble_eq_true rfl)) dX7_wordOf_113 ⟨Nat.le_of_ble_eq_true rfl, Nat.le_of_ble_eq_true rfl⟩) ?_
          exact q_wi hx hb hr hlocks hW hS dX7_wordOf_116 (by rw [if_pos ⟨c_7, c_21⟩]; unfold wof; rw [sw42]; rfl) (by exact ⟨Or.inl ⟨⟨c_7, c_21⟩, ⟨_, _, _, _, _, _, _, _, _, _, hm0, hm1, ⟨hRp, hP⟩, hm38, hsv, hm39, hm40, hsl, hm41, hbu, hm42, hm43, hm44⟩⟩, by intro id h9; rw [fr38 id (by omega)]; rw [fr29 id (by omega)]; try rfl⟩) (by decide) (by decide)
      · skip
        have c_32 : 1 = 0 := (nI_eq0 (i := 1) (by omega)).mp c_32
        exact absurd c_32 (by omega)
  · skip
    have c_7 : ¬ (0 ≤ x ∧ x < nI P.w) := pI_eq0.mp c_7
    refine lv_iconst (v := nI 1) hx hb dX7_wordOf_10 (by decide) ?_
    refine lv_goto (tgt := 29) hx hb dX7_wordOf_11 (by decide) ?_
    refine q_W1 (va_runV (As := [.int (nI 1)]) (rest := []) ⟨hx, hb, hml, hown, hts⟩ (c_X7_holds l hm0 (nI (1))) (cwV 1 hts gX7_wordOf_X7_holds rfl rfl rfl (by decide +kernel) ⟨Nat.le_of_ble_eq_true rfl, Nat.le_of_ble_eq_true rfl⟩) (q_preV hG hW hS hm0 rfl) rfl rfl hl.1 rfl (lv_room (Nat.le_of_ble_eq_true rfl)) dX7_wordOf_29 ⟨Nat.le_of_ble_eq_true rfl, Nat.le_of_ble_eq_true rfl⟩) hS (fun w_29 H locs hp29 hW hS => ?_)
    obtain ⟨hm0, fr29⟩ := hp29
    replace hm1 : w_29 37 = some (eN dA 85 F) := (fr29 _ (by omega)).trans hm1
    replace hm38 : w_29 38 = some (eN dA 510 G) := (fr29 _ (by omega)).trans hm38
    replace hm39 : w_29 39 = some (eN dA 170 GS) := (fr29 _ (by omega)).trans hm39
    replace hm40 : w_29 40 = some (eZ dA 2 Zt) := (fr29 _ (by omega)).trans hm40
    replace hm41 : w_29 41 = some (eN dA 80 C) := (fr29 _ (by omega)).trans hm41
    replace hm42 : w_29 42 = some (eN dA 120 D0) := (fr29 _ (by omega)).trans hm42
    replace hm43 : w_29 43 = some (eN dA 120 M0) := (fr29 _ (by omega)).trans hm43
    replace hm44 : w_29 44 = some (eN dA 3 TD) := (fr29 _ (by omega)).trans hm44
    refine q_topv (v' := .int (nI 0)) (congrArg Value.int (by decide)) ?_
    refine lv_if_ne (tgt := 37) hx hb dX7_wordOf_32 (by decide) (fun c_32 => ?_) (fun c_32 => ?_)
    · skip
      have c_32 : ¬ (0 = 0) := fun h__ => c_32 ((nI_eq0 (i := 0) (by omega)).mpr h__)
      exact absurd c_32 (by omega)
    · skip
      have c_32 : 0 = 0 := (nI_eq0 (i := 0) (by omega)).mp c_32
      refine lv_iconst (v := nI 0) hx hb dX7_wordOf_35 (by decide) ?_
      exact q_wi hx hb hr hlocks hW hS dX7_wordOf_36 (by rw [if_neg (by first | exact fun q9 => c_7 q9.1 | exact fun q9 => c_21 q9.2)]; rfl) (by exact ⟨Or.inr (Or.inl ⟨c_7, ⟨_, _, _, _, _, _, _, _, _, _, hm0, hm1, ⟨hRp, hP⟩, hm38, hsv, hm39, hm40, hsl, hm41, hbu, hm42, hm43, hm44⟩⟩), by intro id h9; rw [fr29 id (by omega)]; try rfl⟩) (by decide) (by decide)

set_option maxHeartbeats 300000 in
set_option maxRecDepth 100000 in
/-- noiseOf -/
theorem c_X7_noiseOf (l : Launch) {D : va_G} {dA : Nat → Nat} {b : Nat} {w : Wd} {n nc : Nat} {P : Pl} {Hs : Nat → Pl} {SL : Nat → Option Pl} {C : Nat → Nat} {tt : Int32} (hmd : isMod dA b w (P, (n, Hs), SL, (nc, C)) tt) (x y : Int32) : Met l yX7_noiseOf wsX7_noiseOf ({ frames := 6, cells := 0, slots := 0, locals := 141 } : Room) (PC D dA b w [.ref (b + 36), .int (x), .int (y)]) (QW D b (some (.int (if (0 ≤ x ∧ x < nI P.n) ∧ (0 ≤ y ∧ y ≤ nI 6) then nI (nof P (i32n x) (i32n y)) else 0))) (fun w' => ((((0 ≤ x ∧ x < nI P.n) ∧ (0 ≤ y ∧ y ≤ nI 6)) ∧ isMod dA b w' (P, (n, Hs), SL, (nc, C)) (nI 0)) ∨ ((¬ (0 ≤ x ∧ x < nI P.n)) ∧ isMod dA b w' (P, (n, Hs), SL, (nc, C)) (nI 1)) ∨ (((0 ≤ x ∧ x < nI P.n) ∧ ¬ (0 ≤ y ∧ y ≤ nI 6)) ∧ isMod dA b w' (P, (n, Hs), SL, (nc, C)) (nI 2))) ∧ ∀ id : Nat, (id < 36 ∨ 45 ≤ id) → w' id = w id)) 0 0 (Fb b) := by
  refine q_of (cc := cX7_noiseOf) (maxL := 7) (ret := (some .int)) (by decide) rfl rfl ?_
  intro p e s m args below meth c ls hx hb hr hml hts hown hlocks hG hW hS hl
  have hown : s.vm.findClass RX7 = some m.cls := hown
  have hinX7 : ∀ w ∈ u_ws RX7 TX7 14, w ∈ wsX7_noiseOf := fun w h => (goodIn_r (big := wsX7_noiseOf) (u_ws RX7 TX7 14) [55, 56, 57, 58, 59, 60, 61, 62, 63, 64, 65, 66, 67, 68] (by decide +kernel) (by decide +kernel) w h).1
  have hl : lv_has ls 7 [(0, .ref (b + 36)), (1, .int (x)), (2, .int (y))] := hl
  obtain ⟨pl, lt, dn, F, G, GS, Zt, D0, M0, TD, hm0, hm1, ⟨hRp, hP⟩, hm38, hsv, hm39, hm40, hsl, hm41, hbu, hm42, hm43, hm44⟩ := id hmd
  change w 36 = some (modO b (nI n) (nI nc) tt pl lt dn) at hm0
  change rep F P at hRp
  change okP P at hP
  change mSv n G Hs at hsv
  change mSl GS Zt SL at hsl
  change w 41 = some (eN dA 80 C) at hm41
  change mBu nc C at hbu
  have hn6 := hsv.1
  have hnc := hbu.1
  obtain ⟨hPw, hPn, hPW, hPN, hPS⟩ := id hP
  have hr5 := hRp.2.1
  have hr6 := hRp.2.2.1
  refine lv_aload_n hx hb dX7_noiseOf_0 rfl (lv_at hl 0 rfl) ?_
  refine lv_aload_n hx hb dX7_noiseOf_1 rfl (lv_at hl 0 rfl) ?_
  refine lv_iconst (v := nI 0) hx hb dX7_noiseOf_2 (by decide) ?_
  refine lv_iload_n hx hb dX7_noiseOf_3 rfl (lv_at hl 1 rfl) ?_
  refine q_R1 (va_runV (As := [.int (nI 0), .int (x)]) (rest := [.ref (b + 36)]) ⟨hx, hb, hml, hown, hts⟩ (c_isCueN l hm0 hm1 hRp hP (x)) (cwV 2 hts gX7_noiseOf_X7_isCue rfl rfl rfl (by decide +kernel) ⟨Nat.le_of_ble_eq_true rfl, Nat.le_of_ble_eq_true rfl⟩) (q_preV hG hW hS hm0 rfl) rfl rfl hl.1 rfl (lv_room (Nat.le_of_ble_eq_true rfl)) dX7_noiseOf_4 ⟨Nat.le_of_ble_eq_true rfl, Nat.le_of_ble_eq_true rfl⟩) ?_
  refine lv_if_ne (tgt := 14) hx hb dX7_noiseOf_7 (by decide) (fun c_7 => ?_) (fun c_7 => ?_)
  · skip
    have c_7 : 0 ≤ x ∧ x < nI P.n := Decidable.byContradiction (fun h__ => c_7 (pI_eq0.mpr h__))
    obtain ⟨ex9, bx9⟩ := has_n (by omega) c_7.1 c_7.2
    have el_14 : x = nI (i32n x) := by exact ex9
    rw [el_14] at hl
    refine lv_iload_n hx hb dX7_noiseOf_14 rfl (lv_at hl 2 rfl) ?_
    refine lv_iconst (v := nI 0) hx hb dX7_noiseOf_15 (by decide) ?_
    refine lv_bipush (v := nI 6) hx hb dX7_noiseOf_16 (by decide) ?_
    refine q_R1 (va_runS (As := [.int (y), .int (nI 0), .int (nI 6)]) (rest := [.ref (b + 36)]) ⟨hx, hb, hml, hown, hts⟩ (c_X7_in l (y) (nI (0)) (nI (6))) (va_cwS 3 hts gX7_noiseOf_X7_in rfl rfl rfl (by decide +kernel) ⟨Nat.le_of_ble_eq_true rfl, Nat.le_of_ble_eq_true rfl⟩) (q_preS hG hW hS) rfl rfl hl.1 rfl (lv_room (Nat.le_of_ble_eq_true rfl)) dX7_noiseOf_18 ⟨Nat.le_of_ble_eq_true rfl, Nat.le_of_ble_eq_true rfl⟩) ?_
    refine lv_if_eq (tgt := 28) hx hb dX7_noiseOf_21 (by decide) (fun c_21 => ?_) (fun c_21 => ?_)
    · skip
      have c_21 : ¬ ((nI (0)) ≤ (y) ∧ (y) ≤ (nI (6))) := pI_eq0.mp c_21
      refine lv_iconst (v := nI 2) hx hb dX7_noiseOf_28 (by decide) ?_
      refine q_W1 (va_runV (As := [.int (nI 2)]) (rest := []) ⟨hx, hb, hml, hown, hts⟩ (c_X7_holds l hm0 (nI (2))) (cwV 1 hts gX7_noiseOf_X7_holds rfl rfl rfl (by decide +kernel) ⟨Nat.le_of_ble_eq_true rfl, Nat.le_of_ble_eq_true rfl⟩) (q_preV hG hW hS hm0 rfl) rfl rfl hl.1 rfl (lv_room (Nat.le_of_ble_eq_true rfl)) dX7_noiseOf_29 ⟨Nat.le_of_ble_eq_true rfl, Nat.le_of_ble_eq_true rfl⟩) hS (fun w_29 H locs hp29 hW hS => ?_)
      obtain ⟨hm0, fr29⟩ := hp29
      replace hm1 : w_29 37 = some (eN dA 85 F) := (fr29 _ (by omega)).trans hm1
      replace hm38 : w_29 38 = some (eN dA 510 G) := (fr29 _ (by omega)).trans hm38
      replace hm39 : w_29 39 = some (eN dA 170 GS) := (fr29 _ (by omega)).trans hm39
      replace hm40 : w_29 40 = some (eZ dA 2 Zt) := (fr29 _ (by omega)).trans hm40
      replace hm41 : w_29 41 = some (eN dA 80 C) := (fr29 _ (by omega)).trans hm41
      replace hm42 : w_29 42 = some (eN dA 120 D0) := (fr29 _ (by omega)).trans hm42
      replace hm43 : w_29 43 = some (eN dA 120 M0) := (fr29 _ (by omega)).trans hm43
      replace hm44 : w_29 44 = some (eN dA 3 TD) := (fr29 _ (by omega)).trans hm44
      refine q_topv (v' := .int (nI 0)) (congrArg Value.int (by decide)) ?_
      refine lv_if_ne (tgt := 37) hx hb dX7_noiseOf_32 (by decide) (fun c_32 => ?_) (fun c_32 => ?_)
      · skip
        have c_32 : ¬ (0 = 0) := fun h__ => c_32 ((nI_eq0 (i := 0) (by omega)).mpr h__)
        exact absurd c_32 (by omega)
      · skip
        have c_32 : 0 = 0 := (nI_eq0 (i := 0) (by omega)).mp c_32
        refine lv_iconst (v := nI 0) hx hb dX7_noiseOf_35 (by decide) ?_
        exact q_wi hx hb hr hlocks hW hS dX7_noiseOf_36 (by rw [if_neg (by first | exact fun q9 => c_7 q9.1 | exact fun q9 => c_21 q9.2)]; rfl) (by exact ⟨Or.inr (Or.inr ⟨⟨c_7, c_21⟩, ⟨_, _, _, _, _, _, _, _, _, _, hm0, hm1, ⟨hRp, hP⟩, hm38, hsv, hm39, hm40, hsl, hm41, hbu, hm42, hm43, hm44⟩⟩), by intro id h9; rw [fr29 id (by omega)]; try rfl⟩) (by decide) (by decide)
    · skip
      have c_21 : (nI (0)) ≤ (y) ∧ (y) ≤ (nI (6)) := Decidable.byContradiction (fun h__ => c_21 (pI_eq0.mpr h__))
      refine lv_iconst (v := nI 0) hx hb dX7_noiseOf_24 (by decide) ?_
      refine lv_goto (tgt := 29) hx hb dX7_noiseOf_25 (by decide) ?_
      refine q_W1 (va_runV (As := [.int (nI 0)]) (rest := []) ⟨hx, hb, hml, hown, hts⟩ (c_X7_holds l hm0 (nI (0))) (cwV 1 hts gX7_noiseOf_X7_holds rfl rfl rfl (by decide +kernel) ⟨Nat.le_of_ble_eq_true rfl, Nat.le_of_ble_eq_true rfl⟩) (q_preV hG hW hS hm0 rfl) rfl rfl hl.1 rfl (lv_room (Nat.le_of_ble_eq_true rfl)) dX7_noiseOf_29 ⟨Nat.le_of_ble_eq_true rfl, Nat.le_of_ble_eq_true rfl⟩) hS (fun w_29 H locs hp29 hW hS => ?_)
      obtain ⟨hm0, fr29⟩ := hp29
      replace hm1 : w_29 37 = some (eN dA 85 F) := (fr29 _ (by omega)).trans hm1
      replace hm38 : w_29 38 = some (eN dA 510 G) := (fr29 _ (by omega)).trans hm38
      replace hm39 : w_29 39 = some (eN dA 170 GS) := (fr29 _ (by omega)).trans hm39
      replace hm40 : w_29 40 = some (eZ dA 2 Zt) := (fr29 _ (by omega)).trans hm40
      replace hm41 : w_29 41 = some (eN dA 80 C) := (fr29 _ (by omega)).trans hm41
      replace hm42 : w_29 42 = some (eN dA 120 D0) := (fr29 _ (by omega)).trans hm42
      replace hm43 : w_29 43 = some (eN dA 120 M0) := (fr29 _ (by omega)).trans hm43
      replace hm44 : w_29 44 = some (eN dA 3 TD) := (fr29 _ (by omega)).trans hm44
      refine q_topv (v' := .int (nI 1)) (congrArg Value.int (by decide)) ?_
      refine lv_if_ne (tgt := 37) hx hb dX7_noiseOf_32 (by decide) (fun c_32 => ?_) (fun c_32 => ?_)
      · skip
        have c_32 : ¬ (1 = 0) := fun h__ => c_32 ((nI_eq0 (i := 1) (by omega)).mpr h__)
        obtain ⟨ey9, by9⟩ := le_n (k := 6) (by decide) c_21.1 c_21.2
        have el_37 : y = nI (i32n y) := by exact ey9
        rw [el_37] at hl
        have hNi8 := hPN _ bx9
        refine lv_aload_n hx hb dX7_noiseOf_37 rfl (lv_at hl 0 rfl) ?_
        refine q_W0 (va_runV (As := []) (rest := []) ⟨hx, hb, hml, hown, hts⟩ (c_X7_layOut l hm0 hm1 hRp hP hm42 hm43) (cwV 0 hts gX7_noiseOf_X7_layOut rfl rfl rfl (by decide +kernel) ⟨Nat.le_of_ble_eq_true rfl, Nat.le_of_ble_eq_true rfl⟩) (q_preV hG hW hS hm0 rfl) rfl rfl hl.1 rfl (lv_room (Nat.le_of_ble_eq_true rfl)) dX7_noiseOf_38 ⟨Nat.le_of_ble_eq_true rfl, Nat.le_of_ble_eq_true rfl⟩) hS (fun w_38 H locs hp38 hW hS => ?_)
        obtain ⟨hm42, hm43, fr38⟩ := hp38
        replace hm1 : w_38 37 = some (eN dA 85 F) := (fr38 _ (by omega)).trans hm1
        replace hm38 : w_38 38 = some (eN dA 510 G) := (fr38 _ (by omega)).trans hm38
        replace hm39 : w_38 39 = some (eN dA 170 GS) := (fr38 _ (by omega)).trans hm39
        replace hm40 : w_38 40 = some (eZ dA 2 Zt) := (fr38 _ (by omega)).trans hm40
        replace hm41 : w_38 41 = some (eN dA 80 C) := (fr38 _ (by omega)).trans hm41
        replace hm44 : w_38 44 = some (eN dA 3 TD) := (fr38 _ (by omega)).trans hm44
        replace hm0 : w_38 36 = some (modO b (nI (n)) (nI (nc)) (nI (0)) (pl) (lt) (dn)) := (fr38 _ (by omega)).trans hm0
        refine lv_iconst (v := nI 0) hx hb dX7_noiseOf_41 (by decide) ?_
        refine lv_istore_n (lv' := [(3, .int (nI 0)), (0, .ref (b + 36)), (1, .int (nI (i32n x))), (2, .int (nI (i32n y)))]) hx hb dX7_noiseOf_42 rfl hl (by decide) rfl (fun ls hl => ?_)
        refine lv_iconst (v := nI 0) hx hb dX7_noiseOf_43 (by decide) ?_
        refine lv_istore (lv' := [(4, .int (nI 0)), (3, .int (nI 0)), (0, .ref (b + 36)), (1, .int (nI (i32n x))), (2, .int (nI (i32n y)))]) hx hb dX7_noiseOf_44 hl (by decide) rfl (fun ls hl => ?_)
        refine lv_iconst (v := nI 0) hx hb dX7_noiseOf_46 (by decide) ?_
        refine lv_istore (lv' := [(5, .int (nI 0)), (4, .int (nI 0)), (3, .int (nI 0)), (0, .ref (b + 36)), (1, .int (nI (i32n x))), (2, .int (nI (i32n y)))]) hx hb dX7_noiseOf_47 hl (by decide) rfl (fun ls hl => ?_)
        refine lv_aload_n hx hb dX7_noiseOf_49 rfl (lv_at hl 3 rfl) ?_
        refine lv_iload_n hx hb dX7_noiseOf_50 rfl (lv_at hl 4 rfl) ?_
        refine lv_iconst (v := nI 0) hx hb dX7_noiseOf_51 (by decide) ?_
        refine q_R1 (va_runV (As := [.int (nI (i32n x)), .int (nI 0)]) (rest := []) ⟨hx, hb, hml, hown, hts⟩ (c_ofN l hm0 hm1 hRp hP (i32n x) (0) (by omega) (by omega)) (cwV 2 hts gX7_noiseOf_X7_ofNoise rfl rfl rfl (by decide +kernel) ⟨Nat.le_of_ble_eq_true rfl, Nat.le_of_ble_eq_true rfl⟩) (q_preV hG hW hS hm0 rfl) rfl rfl hl.1 rfl (lv_room (Nat.le_of_ble_eq_true rfl)) dX7_noiseOf_52 ⟨Nat.le_of_ble_eq_true rfl, Nat.le_of_ble_eq_true rfl⟩) ?_
        refine lv_istore (lv' := [(6, .int (nI (P.N (i32n x) 0))), (5, .int (nI 0)), (4, .int (nI 0)), (3, .int (nI 0)), (0, .ref (b + 36)), (1, .int (nI (i32n x))), (2, .int (nI (i32n y)))]) hx hb dX7_noiseOf_55 hl (by decide) rfl (fun ls hl => ?_)
        have L57 : ∀ (n57 : Nat) (u : Nat), u ≤ P.N (i32n x) 1 → P.N (i32n x) 1 - u < n57 → ∀ (x57_3 : Int32) (x57_4 : Int32) (x57_5 : Int32) (x57_6 : Int32), x57_3 = nI (sm (fun d => stg P (i32n x) (P.N (i32n x) 0 + d)) u) → x57_4 = nI (ct (fun d => mmk P (P.N (i32n x) 0 + d) ≠ 0) u) → x57_5 = nI (ct (fun d => stg P (i32n x) (P.N (i32n x) 0 + d) < P.N (i32n x) 2) u) → x57_6 = nI (P.N (i32n x) 0 + u) → ∀ (ls : Array Slot), lv_has ls 7 [(0, .ref (b + 36)), (1, .int (nI (i32n x))), (2, .int (nI (i32n y))), (3, .int x57_3), (4, .int x57_4), (5, .int x57_5), (6, .int x57_6)] → W p l e ({ frames := 6, cells := 0, slots := 0, locals := 141 } : Room) s m args below meth c H locs 0 0 (MQ below (QW D b (some (.int (if (0 ≤ x ∧ x < nI P.n) ∧ (0 ≤ y ∧ y ≤ nI 6) then nI (nof P (i32n x) (i32n y)) else 0))) (fun w' => ((((0 ≤ x ∧ x < nI P.n) ∧ (0 ≤ y ∧ y ≤ nI 6)) ∧ isMod dA b w' (P, (n, Hs), SL, (nc, C)) (nI 0)) ∨ ((¬ (0 ≤ x ∧ x < nI P.n)) ∧ isMod dA b w' (P, (n, Hs), SL, (nc, C)) (nI 1)) ∨ (((0 ≤ x ∧ x < nI P.n) ∧ ¬ (0 ≤ y ∧ y ≤ nI 6)) ∧ isMod dA b w' (P, (n, Hs), SL, (nc, C)) (nI 2))) ∧ ∀ id : Nat, (id < 36 ∨ 45 ≤ id) → w' id = w id)) args s 0 0 (Fb b)) (F0 m 57 ls []) := by
          intro n57
          induction n57 with
          | zero =>
            intro u hu0 hn57 x57_3 x57_4 x57_5 x57_6 ex57_3 ex57_4 ex57_5 ex57_6 ls hl
            exact absurd hn57 (Nat.not_lt_zero _)
          | succ n57 ih57 =>
            intro u hu0 hn57 x57_3 x57_4 x57_5 x57_6 ex57_3 ex57_4 ex57_5 ex57_6 ls hl
            subst ex57_3 ex57_4 ex57_5 ex57_6
            have hst9 := stg_le P (i32n x) (P.N (i32n x) 0 + u)
            have hNi9 := hPN _ bx9
            have hmm9 := mmk_lt hP (P.N (i32n x) 0 + u)
            refine lv_iload hx hb dX7_noiseOf_57 (lv_at hl 6 rfl) ?_
            refine lv_aload_n hx hb dX7_noiseOf_59 rfl (lv_at hl 0 rfl) ?_
            refine lv_iload_n hx hb dX7_noiseOf_60 rfl (lv_at hl 1 rfl) ?_
            refine lv_iconst (v := nI 0) hx hb dX7_noiseOf_61 (by decide) ?_
            refine q_R1 (va_runV (As := [.int (nI (i32n x)), .int (nI 0)]) (rest := [.int (nI (P.N (i32n x) 0 + u))]) ⟨hx, hb, hml, hown, hts⟩ (c_ofN l hm0 hm1 hRp hP (i32n x) (0) (by omega) (by omega)) (cwV 2 hts gX7_noiseOf_X7_ofNoise rfl rfl rfl (by decide +kernel) ⟨Nat.le_of_ble_eq_true rfl, Nat.le_of_ble_eq_true rfl⟩) (q_preV hG hW hS hm0 rfl) rfl rfl hl.1 rfl (lv_room (Nat.le_of_ble_eq_true rfl)) dX7_noiseOf_62 ⟨Nat.le_of_ble_eq_true rfl, Nat.le_of_ble_eq_true rfl⟩) ?_
            refine lv_aload_n hx hb dX7_noiseOf_65 rfl (lv_at hl 0 rfl) ?_
            refine lv_iload_n hx hb dX7_noiseOf_66 rfl (lv_at hl 1 rfl) ?_
            refine lv_iconst (v := nI 1) hx hb dX7_noiseOf_67 (by decide) ?_
            refine q_R1 (va_runV (As := [.int (nI (i32n x)), .int (nI 1)]) (rest := [.int (nI (P.N (i32n x) 0)), .int (nI (P.N (i32n x) 0 + u))]) ⟨hx, hb, hml, hown, hts⟩ (c_ofN l hm0 hm1 hRp hP (i32n x) (1) (by omega) (by omega)) (cwV 2 hts gX7_noiseOf_X7_ofNoise rfl rfl rfl (by decide +kernel) ⟨Nat.le_of_ble_eq_true rfl, Nat.le_of_ble_eq_true rfl⟩) (q_preV hG hW hS hm0 rfl) rfl rfl hl.1 rfl (lv_room (Nat.le_of_ble_eq_true rfl)) dX7_noiseOf_68 ⟨Nat.le_of_ble_eq_true rfl, Nat.le_of_ble_eq_true rfl⟩) ?_
            refine lv_iadd hx hb dX7_noiseOf_71 ?_
            refine q_top (y := nI ((P.N (i32n x) 0) + (P.N (i32n x) 1))) (nI_add _ _) ?_
            refine lv_icmp_ge (tgt := 137) hx hb dX7_noiseOf_72 (by decide) (fun c_72 => ?_) (fun c_72 => ?_)
            · skip
              have c_72 : (P.N (i32n x) 0) + (P.N (i32n x) 1) ≤ P.N (i32n x) 0 + u := (nI_leI (a := (P.N (i32n x) 0) + (P.N (i32n x) 1)) (b := P.N (i32n x) 0 + u) (by omega) (by omega)).mp c_72
              refine lv_iload_n hx hb dX7_noiseOf_137 rfl (lv_at hl 2 rfl) ?_
              refine lv_iconst (v := nI 4) hx hb dX7_noiseOf_138 (by decide) ?_
              refine lv_icmp_ge (tgt := 151) hx hb dX7_noiseOf_139 (by decide) (fun c_139 => ?_) (fun c_139 => ?_)
              · skip
                have c_139 : 4 ≤ i32n y := (nI_leI (a := 4) (b := i32n y) (by omega) (by omega)).mp c_139
                refine lv_iload_n hx hb dX7_noiseOf_151 rfl (lv_at hl 2 rfl) ?_
                refine lv_iconst (v := nI 4) hx hb dX7_noiseOf_152 (by decide) ?_
                refine lv_icmp_ne (tgt := 160) hx hb dX7_noiseOf_153 (by decide) (fun c_153 => ?_) (fun c_153 => ?_)
                · skip
                  have c_153 : ¬ (i32n y = 4) := fun h__ => c_153 ((nI_eq (a := i32n y) (b := 4) (by omega) (by omega)).mpr h__)
                  refine lv_iload_n hx hb dX7_noiseOf_160 rfl (lv_at hl 2 rfl) ?_
                  refine lv_iconst (v := nI 5) hx hb dX7_noiseOf_161 (by decide) ?_
                  refine lv_icmp_ne (tgt := 170) hx hb dX7_noiseOf_162 (by decide) (fun c_162 => ?_) (fun c_162 => ?_)
                  · skip
                    have c_162 : ¬ (i32n y = 5) := fun h__ => c_162 ((nI_eq (a := i32n y) (b := 5) (by omega) (by omega)).mpr h__)
                    refine lv_iload hx hb dX7_noiseOf_170 (lv_at hl 5 rfl) ?_
                    exact q_wi hx hb hr hlocks hW hS dX7_noiseOf_172 (by rw [if_pos ⟨c_7, c_21⟩]; refine congrArg nI ?_; have hu9 : u = P.N (i32n x) 1 := (by omega); unfold nof; first | (rw [if_pos (by omega)]; done) | (rw [if_neg (by omega), if_pos (by omega), hu9]; done) | (rw [if_neg (by omega), if_neg (by omega), if_pos (by omega), hu9]; done) | (rw [if_neg (by omega), if_neg (by omega), if_neg (by omega), hu9]; done)) (by exact ⟨Or.inl ⟨⟨c_7, c_21⟩, ⟨_, _, _, _, _, _, _, _, _, _, hm0, hm1, ⟨hRp, hP⟩, hm38, hsv, hm39, hm40, hsl, hm41, hbu, hm42, hm43, hm44⟩⟩, by intro id h9; rw [fr38 id (by omega)]; rw [fr29 id (by omega)]; try rfl⟩) (by decide) (by decide)
                  · skip
                    have c_162 : i32n y = 5 := (nI_eq (a := i32n y) (b := 5) (by omega) (by omega)).mp c_162
                    refine lv_iload hx hb dX7_noiseOf_165 (lv_at hl 4 rfl) ?_
                    refine lv_goto (tgt := 172) hx hb dX7_noiseOf_167 (by decide) ?_
                    exact q_wi hx hb hr hlocks hW hS dX7_noiseOf_172 (by rw [if_pos ⟨c_7, c_21⟩]; refine congrArg nI ?_; have hu9 : u = P.N (i32n x) 1 := (by omega); unfold nof; first | (rw [if_pos (by omega)]; done) | (rw [if_neg (by omega), if_pos (by omega), hu9]; done) | (rw [if_neg (by omega), if_neg (by omega), if_pos (by omega), hu9]; done) | (rw [if_neg (by omega), if_neg (by omega), if_neg (by omega), hu9]; done)) (by exact ⟨Or.inl ⟨⟨c_7, c_21⟩, ⟨_, _, _, _, _, _, _, _, _, _, hm0, hm1, ⟨hRp, hP⟩, hm38, hsv, hm39, hm40, hsl, hm41, hbu, hm42, hm43, hm44⟩⟩, by intro id h9; rw [fr38 id (by omega)]; rw [fr29 id (by omega)]; try rfl⟩) (by decide) (by decide)
                · skip
                  have c_153 : i32n y = 4 := (nI_eq (a := i32n y) (b := 4) (by omega) (by omega)).mp c_153
                  refine lv_iload_n hx hb dX7_noiseOf_156 rfl (lv_at hl 3 rfl) ?_
                  refine lv_goto (tgt := 172) hx hb dX7_noiseOf_157 (by decide) ?_
                  exact q_wi hx hb hr hlocks hW hS dX7_noiseOf_172 (by rw [if_pos ⟨c_7, c_21⟩]; refine congrArg nI ?_; have hu9 : u = P.N (i32n x) 1 := (by omega); unfold nof; first | (rw [if_pos (by omega)]; done) | (rw [if_neg (by omega), if_pos (by omega), hu9]; done) | (rw [if_neg (by omega), if_neg (by omega), if_pos (by omega), hu9]; done) | (rw [if_neg (by omega), if_neg (by omega), if_neg (by omega), hu9]; done)) (by exact ⟨Or.inl ⟨⟨c_7, c_21⟩, ⟨_, _, _, _, _, _, _, _, _, _, hm0, hm1, ⟨hRp, hP⟩, hm38, hsv, hm39, hm40, hsl, hm41, hbu, hm42, hm43, hm44⟩⟩, by intro id h9; rw [fr38 id (by omega)]; rw [fr29 id (by omega)]; try rfl⟩) (by decide) (by decide)
              · skip
                have c_139 : ¬ (4 ≤ i32n y) := fun h__ => c_139 ((nI_leI (a := 4) (b := i32n y) (by omega) (by omega)).mpr h__)
                refine lv_aload_n hx hb dX7_noiseOf_142 rfl (lv_at hl 0 rfl) ?_
                refine lv_iload_n hx hb dX7_noiseOf_143 rfl (lv_at hl 1 rfl) ?_
                refine lv_iload_n hx hb dX7_noiseOf_144 rfl (lv_at hl 2 rfl) ?_
                refine q_R1 (va_runV (As := [.int (nI (i32n x)), .int (nI (i32n y))]) (rest := []) ⟨hx, hb, hml, hown, hts⟩ (c_ofN l hm0 hm1 hRp hP (i32n x) (i32n y) (by omega) (by omega)) (cwV 2 hts gX7_noiseOf_X7_ofNoise rfl rfl rfl (by decide +kernel) ⟨Nat.le_of_ble_eq_true rfl, Nat.le_of_ble_eq_true rfl⟩) (q_preV hG hW hS hm0 rfl) rfl rfl hl.1 rfl (lv_room (Nat.le_of_ble_eq_true rfl)) dX7_noiseOf_145 ⟨Nat.le_of_ble_eq_true rfl, Nat.le_of_ble_eq_true rfl⟩) ?_
                refine lv_goto (tgt := 172) hx hb dX7_noiseOf_148 (by decide) ?_
                exact q_wi hx hb hr hlocks hW hS dX7_noiseOf_172 (by rw [if_pos ⟨c_7, c_21⟩]; refine congrArg nI ?_; have hu9 : u = P.N (i32n x) 1 := (by omega); unfold nof; first | (rw [if_pos (by omega)]; done) | (rw [if_neg (by omega), if_pos (by omega), hu9]; done) | (rw [if_neg (by omega), if_neg (by omega), if_pos (by omega), hu9]; done) | (rw [if_neg (by omega), if_neg (by omega), if_neg (by omega), hu9]; done)) (by exact ⟨Or.inl ⟨⟨c_7, c_21⟩, ⟨_, _, _, _, _, _, _, _, _, _, hm0, hm1, ⟨hRp, hP⟩, hm38, hsv, hm39, hm40, hsl, hm41, hbu, hm42, hm43, hm44⟩⟩, by intro id h9; rw [fr38 id (by omega)]; rw [fr29 id (by omega)]; try rfl⟩) (by decide) (by decide)
            · skip
              have c_72 : ¬ ((P.N (i32n x) 0) + (P.N (i32n x) 1) ≤ P.N (i32n x) 0 + u) := fun h__ => c_72 ((nI_leI (a := (P.N (i32n x) 0) + (P.N (i32n x) 1)) (b := P.N (i32n x) 0 + u) (by omega) (by omega)).mpr h__)
              refine lv_iload_n hx hb dX7_noiseOf_75 rfl (lv_at hl 3 rfl) ?_
              refine lv_aload_n hx hb dX7_noiseOf_76 rfl (lv_at hl 0 rfl) ?_
              refine lv_iload_n hx hb dX7_noiseOf_77 rfl (lv_at hl 1 rfl) ?_
              refine lv_iload hx hb dX7_noiseOf_78 (lv_at hl 6 rfl) ?_
              refine q_R1 (va_runV (As := [.int (nI (i32n x)), .int (nI (P.N (i32n x) 0 + u))]) (rest := [.int (nI (sm (fun d => stg P (i32n x) (P.N (i32n x) 0 + d)) u))]) ⟨hx, hb, hml, hown, hts⟩ (c_X7_strength l hm0 hm1 hRp hP hm42 (i32n x) (P.N (i32n x) 0 + u) (by omega) (by omega) rfl) (cwV 2 hts gX7_noiseOf_X7_strength rfl rfl rfl (by decide +kernel) ⟨Nat.le_of_ble_eq_true rfl, Nat.le_of_ble_eq_true rfl⟩) (q_preV hG hW hS hm0 rfl) rfl rfl hl.1 rfl (lv_room (Nat.le_of_ble_eq_true rfl)) dX7_noiseOf_80 ⟨Nat.le_of_ble_eq_true rfl, Nat.le_of_ble_eq_true rfl⟩) ?_
              refine q_top (y := nI (stg P (i32n x) (P.N (i32n x) 0 + u))) (by refine congrArg nI ?_; exact if_pos ⟨by omega, by omega⟩) ?_
              refine lv_iadd hx hb dX7_noiseOf_83 ?_
              refine q_top (y := nI ((sm (fun d => stg P (i32n x) (P.N (i32n x) 0 + d)) u) + (stg P (i32n x) (P.N (i32n x) 0 + u)))) (nI_add _ _) ?_
              refine lv_istore_n (lv' := [(3, .int (nI ((sm (fun d => stg P (i32n x) (P.N (i32n x) 0 + d)) u) + (stg P (i32n x) (P.N (i32n x) 0 + u))))), (0, .ref (b + 36)), (1, .int (nI (i32n x))), (2, .int (nI (i32n y))), (4, .int (nI (ct (fun d => mmk P (P.N (i32n x) 0 + d) ≠ 0) u))), (5, .int (nI (ct (fun d => stg P (i32n x) (P.N (i32n x) 0 + d) < P.N (i32n x) 2) u))), (6, .int (nI (P.N (i32n x) 0 + u)))]) hx hb dX7_noiseOf_84 rfl hl (by decide) rfl (fun ls hl => ?_)
              refine lv_iload hx hb dX7_noiseOf_85 (lv_at hl 4 rfl) ?_
              refine lv_aload_n hx hb dX7_noiseOf_87 rfl (lv_at hl 1 rfl) ?_
              refine q_get hx hb hts hinX7 hown hG hW hm0 rfl 9 (by decide) (hts (.fieldLink RX7 29 "FoleyMixerModel" "masked" "[I") (List.mem_of_getElem? (i := 1) rfl)) rfl rfl dX7_noiseOf_88 ?_
              refine lv_iload hx hb dX7_noiseOf_91 (lv_at hl 6 rfl) ?_
              refine q_iald hx hb hG hW hm43 (by omega) (by omega) dX7_noiseOf_93 ?_
              refine lv_if_eq (tgt := 101) hx hb dX7_noiseOf_94 (by decide) (fun c_94 => ?_) (fun c_94 => ?_)
              · skip
                have c_94 : ((mmk P) (P.N (i32n x) 0 + u)) = 0 := (nI_eq0 (i := (mmk P) (P.N (i32n x) 0 + u)) (by omega)).mp c_94
                refine lv_iconst (v := nI 0) hx hb dX7_noiseOf_101 (by decide) ?_
                refine lv_iadd hx hb dX7_noiseOf_102 ?_
                refine q_top (y := nI ((ct (fun d => mmk P (P.N (i32n x) 0 + d) ≠ 0) u) + 0)) (nI_add _ _) ?_
                refine lv_istore (lv' := [(4, .int (nI ((ct (fun d => mmk P (P.N (i32n x) 0 + d) ≠ 0) u) + 0))), (3, .int (nI ((sm (fun d => stg P (i32n x) (P.N (i32n x) 0 + d)) u) + (stg P (i32n x) (P.N (i32n x) 0 + u))))), (0, .ref (b + 36)), (1, .int (nI (i32n x))), (2, .int (nI (i32n y))), (5, .int (nI (ct (fun d => stg P (i32n x) (P.N (i32n x) 0 + d) < P.N (i32n x) 2) u))), (6, .int (nI (P.N (i32n x) 0 + u)))]) hx hb dX7_noiseOf_103 hl (by decide) rfl (fun ls hl => ?_)
                refine lv_iload hx hb dX7_noiseOf_105 (lv_at hl 5 rfl) ?_
                refine lv_aload_n hx hb dX7_noiseOf_107 rfl (lv_at hl 2 rfl) ?_
                refine lv_iload_n hx hb dX7_noiseOf_108 rfl (lv_at hl 3 rfl) ?_
                refine lv_iload hx hb dX7_noiseOf_109 (lv_at hl 6 rfl) ?_
                refine q_R1 (va_runV (As := [.int (nI (i32n x)), .int (nI (P.N (i32n x) 0 + u))]) (rest := [.int (nI (ct (fun d => stg P (i32n x) (P.N (i32n x) 0 + d) < P.N (i32n x) 2) u))]) ⟨hx, hb, hml, hown, hts⟩ (c_X7_strength l hm0 hm1 hRp hP hm42 (i32n x) (P.N (i32n x) 0 + u) (by omega) (by omega) rfl) (cwV 2 hts gX7_noiseOf_X7_strength rfl rfl rfl (by decide +kernel) ⟨Nat.le_of_ble_eq_true rfl, Nat.le_of_ble_eq_true rfl⟩) (q_preV hG hW hS hm0 rfl) rfl rfl hl.1 rfl (lv_room (Nat.le_of_ble_eq_true rfl)) dX7_noiseOf_111 ⟨Nat.le_of_ble_eq_true rfl, Nat.le_of_ble_eq_true rfl⟩) ?_
                refine q_top (y := nI (stg P (i32n x) (P.N (i32n x) 0 + u))) (by refine congrArg nI ?_; exact if_pos ⟨by omega, by omega⟩) ?_
                refine lv_aload_n hx hb dX7_noiseOf_114 rfl (lv_at hl 2 rfl) ?_
                refine lv_iload_n hx hb dX7_noiseOf_115 rfl (lv_at hl 3 rfl) ?_
                refine lv_iconst (v := nI 2) hx hb dX7_noiseOf_116 (by decide) ?_
                refine q_R1 (va_runV (As := [.int (nI (i32n x)), .int (nI 2)]) (rest := [.int (nI (stg P (i32n x) (P.N (i32n x) 0 + u))), .int (nI (ct (fun d => stg P (i32n x) (P.N (i32n x) 0 + d) < P.N (i32n x) 2) u))]) ⟨hx, hb, hml, hown, hts⟩ (c_ofN l hm0 hm1 hRp hP (i32n x) (2) (by omega) (by omega)) (cwV 2 hts gX7_noiseOf_X7_ofNoise rfl rfl rfl (by decide +kernel) ⟨Nat.le_of_ble_eq_true rfl, Nat.le_of_ble_eq_true rfl⟩) (q_preV hG hW hS hm0 rfl) rfl rfl hl.1 rfl (lv_room (Nat.le_of_ble_eq_true rfl)) dX7_noiseOf_117 ⟨Nat.le_of_ble_eq_true rfl, Nat.le_of_ble_eq_true rfl⟩) ?_
                refine lv_icmp_ge (tgt := 127) hx hb dX7_noiseOf_120 (by decide) (fun c_120 => ?_) (fun c_120 => ?_)
                · skip
                  have c_120 : P.N (i32n x) 2 ≤ stg P (i32n x) (P.N (i32n x) 0 + u) := (nI_leI (a := P.N (i32n x) 2) (b := stg P (i32n x) (P.N (i32n x) 0 + u)) (by omega) (by omega)).mp c_120
                  refine lv_iconst (v := nI 0) hx hb dX7_noiseOf_127 (by decide) ?_
                  refine lv_iadd hx hb dX7_noiseOf_128 ?_
                  refine q_top (y := nI ((ct (fun d => stg P (i32n x) (P.N (i32n x) 0 + d) < P.N (i32n x) 2) u) + 0)) (nI_add _ _) ?_
                  refine lv_istore (lv' := [(5, .int (nI ((ct (fun d => stg P (i32n x) (P.N (i32n x) 0 + d) < P.N (i32n x) 2) u) + 0))), (4, .int (nI ((ct (fun d => mmk P (P.N (i32n x) 0 + d) ≠ 0) u) + 0))), (3, .int (nI ((sm (fun d => stg P (i32n x) (P.N (i32n x) 0 + d)) u) + (stg P (i32n x) (P.N (i32n x) 0 + u))))), (0, .ref (b + 36)), (1, .int (nI (i32n x))), (2, .int (nI (i32n y))), (6, .int (nI (P.N (i32n x) 0 + u)))]) hx hb dX7_noiseOf_129 hl (by decide) rfl (fun ls hl => ?_)
                  refine lv_iinc (v := nI ((P.N (i32n x) 0 + u) + 1)) (lv' := [(6, .int (nI ((P.N (i32n x) 0 + u) + 1))), (5, .int (nI ((ct (fun d => stg P (i32n x) (P.N (i32n x) 0 + d) < P.N (i32n x) 2) u) + 0))), (4, .int (nI ((ct (fun d => mmk P (P.N (i32n x) 0 + d) ≠ 0) u) + 0))), (3, .int (nI ((sm (fun d => stg P (i32n x) (P.N (i32n x) 0 + d)) u) + (stg P (i32n x) (P.N (i32n x) 0 + u))))), (0, .ref (b + 36)), (1, .int (nI (i32n x))), (2, .int (nI (i32n y)))]) hx hb dX7_noiseOf_131 hl (k := 6) rfl (nI_add _ 1) (by decide) rfl (fun ls hl => ?_)
                  refine lv_goto (tgt := 57) hx hb dX7_noiseOf_134 (by decide) ?_
                  exact ih57 (u + 1) (by omega) (by omega) _ _ _ _ (by rfl) (by refine congrArg nI ?_; rw [ct]; first | (rw [if_pos c_94]; done) | (rw [if_neg (fun q9 => q9 c_94)]; done) | (rw [if_neg (fun q9 => q9 c_94)]; rfl)) (by refine congrArg nI ?_; rw [ct]; first | (rw [if_pos (by omega)]; done) | (rw [if_neg (by omega)]; done) | (rw [if_neg (by omega)]; rfl)) (by rfl) _ (lv_sub hl [4, 5, 6, 3, 2, 1, 0] rfl)
                · skip
                  have c_120 : ¬ (P.N (i32n x) 2 ≤ stg P (i32n x) (P.N (i32n x) 0 + u)) := fun h__ => c_120 ((nI_leI (a := P.N (i32n x) 2) (b := stg P (i32n x) (P.N (i32n x) 0 + u)) (by omega) (by omega)).mpr h__)
                  refine lv_iconst (v := nI 1) hx hb dX7_noiseOf_123 (by decide) ?_
                  refine lv_goto (tgt := 128) hx hb dX7_noiseOf_124 (by decide) ?_
                  refine lv_iadd hx hb dX7_noiseOf_128 ?_
                  refine q_top (y := nI ((ct (fun d => stg P (i32n x) (P.N (i32n x) 0 + d) < P.N (i32n x) 2) u) + 1)) (nI_add _ _) ?_
                  refine lv_istore (lv' := [(5, .int (nI ((ct (fun d => stg P (i32n x) (P.N (i32n x) 0 + d) < P.N (i32n x) 2) u) + 1))), (4, .int (nI ((ct (fun d => mmk P (P.N (i32n x) 0 + d) ≠ 0) u) + 0))), (3, .int (nI ((sm (fun d => stg P (i32n x) (P.N (i32n x) 0 + d)) u) + (stg P (i32n x) (P.N (i32n x) 0 + u))))), (0, .ref (b + 36)), (1, .int (nI (i32n x))), (2, .int (nI (i32n y))), (6, .int (nI (P.N (i32n x) 0 + u)))]) hx hb dX7_noiseOf_129 hl (by decide) rfl (fun ls hl => ?_)
                  refine lv_iinc (v := nI ((P.N (i32n x) 0 + u) + 1)) (lv' := [(6, .int (nI ((P.N (i32n x) 0 + u) + 1))), (5, .int (nI ((ct (fun d => stg P (i32n x) (P.N (i32n x) 0 + d) < P.N (i32n x) 2) u) + 1))), (4, .int (nI ((ct (fun d => mmk P (P.N (i32n x) 0 + d) ≠ 0) u) + 0))), (3, .int (nI ((sm (fun d => stg P (i32n x) (P.N (i32n x) 0 + d)) u) + (stg P (i32n x) (P.N (i32n x) 0 + u))))), (0, .ref (b + 36)), (1, .int (nI (i32n x))), (2, .int (nI (i32n y)))]) hx hb dX7_noiseOf_131 hl (k := 6) rfl (nI_add _ 1) (by decide) rfl (fun ls hl => ?_)
                  refine lv_goto (tgt := 57) hx hb dX7_noiseOf_134 (by decide) ?_
                  exact ih57 (u + 1) (by omega) (by omega) _ _ _ _ (by rfl) (by refine congrArg nI ?_; rw [ct]; first | (rw [if_pos c_94]; done) | (rw [if_neg (fun q9 => q9 c_94)]; done) | (rw [if_neg (fun q9 => q9 c_94)]; rfl)) (by refine congrArg nI ?_; rw [ct]; first | (rw [if_pos (by omega)]; done) | (rw [if_neg (by omega)]; done) | (rw [if_neg (by omega)]; rfl)) (by rfl) _ (lv_sub hl [4, 5, 6, 3, 2, 1, 0] rfl)
              · skip
                have c_94 : ¬ (((mmk P) (P.N (i32n x) 0 + u)) = 0) := fun h__ => c_94 ((nI_eq0 (i := (mmk P) (P.N (i32n x) 0 + u)) (by omega)).mpr h__)
                refine lv_iconst (v := nI 1) hx hb dX7_noiseOf_97 (by decide) ?_
                refine lv_goto (tgt := 102) hx hb dX7_noiseOf_98 (by decide) ?_
                refine lv_iadd hx hb dX7_noiseOf_102 ?_
                refine q_top (y := nI ((ct (fun d => mmk P (P.N (i32n x) 0 + d) ≠ 0) u) + 1)) (nI_add _ _) ?_
                refine lv_istore (lv' := [(4, .int (nI ((ct (fun d => mmk P (P.N (i32n x) 0 + d) ≠ 0) u) + 1))), (3, .int (nI ((sm (fun d => stg P (i32n x) (P.N (i32n x) 0 + d)) u) + (stg P (i32n x) (P.N (i32n x) 0 + u))))), (0, .ref (b + 36)), (1, .int (nI (i32n x))), (2, .int (nI (i32n y))), (5, .int (nI (ct (fun d => stg P (i32n x) (P.N (i32n x) 0 + d) < P.N (i32n x) 2) u))), (6, .int (nI (P.N (i32n x) 0 + u)))]) hx hb dX7_noiseOf_103 hl (by decide) rfl (fun ls hl => ?_)
                refine lv_iload hx hb dX7_noiseOf_105 (lv_at hl 5 rfl) ?_
                refine lv_aload_n hx hb dX7_noiseOf_107 rfl (lv_at hl 2 rfl) ?_
                refine lv_iload_n hx hb dX7_noiseOf_108 rfl (lv_at hl 3 rfl) ?_
                refine lv_iload hx hb dX7_noiseOf_109 (lv_at hl 6 rfl) ?_
                refine q_R1 (va_runV (As := [.int (nI (i32n x)), .int (nI (P.N (i32n x) 0 + u))]) (rest := [.int (nI (ct (fun d => stg P (i32n x) (P.N (i32n x) 0 + d) < P.N (i32n x) 2) u))]) ⟨hx, hb, hml, hown, hts⟩ (c_X7_strength l hm0 hm1 hRp hP hm42 (i32n x) (P.N (i32n x) 0 + u) (by omega) (by omega) rfl) (cwV 2 hts gX7_noiseOf_X7_strength rfl rfl rfl (by decide +kernel) ⟨Nat.le_of_ble_eq_true rfl, Nat.le_of_ble_eq_true rfl⟩) (q_preV hG hW hS hm0 rfl) rfl rfl hl.1 rfl (lv_room (Nat.le_of_ble_eq_true rfl)) dX7_noiseOf_111 ⟨Nat.le_of_ble_eq_true rfl, Nat.le_of_ble_eq_true rfl⟩) ?_
                refine q_top (y := nI (stg P (i32n x) (P.N (i32n x) 0 + u))) (by refine congrArg nI ?_; exact if_pos ⟨by omega, by omega⟩) ?_
                refine lv_aload_n hx hb dX7_noiseOf_114 rfl (lv_at hl 2 rfl) ?_
                refine lv_iload_n hx hb dX7_noiseOf_115 rfl (lv_at hl 3 rfl) ?_
                refine lv_iconst (v := nI 2) hx hb dX7_noiseOf_116 (by decide) ?_
                refine q_R1 (va_runV (As := [.int (nI (i32n x)), .int (nI 2)]) (rest := [.int (nI (stg P (i32n x) (P.N (i32n x) 0 + u))), .int (nI (ct (fun d => stg P (i32n x) (P.N (i32n x) 0 + d) < P.N (i32n x) 2) u))]) ⟨hx, hb, hml, hown, hts⟩ (c_ofN l hm0 hm1 hRp hP (i32n x) (2) (by omega) (by omega)) (cwV 2 hts gX7_noiseOf_X7_ofNoise rfl rfl rfl (by decide +kernel) ⟨Nat.le_of_ble_eq_true rfl, Nat.le_of_ble_eq_true rfl⟩) (q_preV hG hW hS hm0 rfl) rfl rfl hl.1 rfl (lv_room (Nat.le_of_ble_eq_true rfl)) dX7_noiseOf_117 ⟨Nat.le_of_ble_eq_true rfl, Nat.le_of_ble_eq_true rfl⟩) ?_
                refine lv_icmp_ge (tgt := 127) hx hb dX7_noiseOf_120 (by decide) (fun c_120 => ?_) (fun c_120 => ?_)
                · skip
                  have c_120 : P.N (i32n x) 2 ≤ stg P (i32n x) (P.N (i32n x) 0 + u) := (nI_leI (a := P.N (i32n x) 2) (b := stg P (i32n x) (P.N (i32n x) 0 + u)) (by omega) (by omega)).mp c_120
                  refine lv_iconst (v := nI 0) hx hb dX7_noiseOf_127 (by decide) ?_
                  refine lv_iadd hx hb dX7_noiseOf_128 ?_
                  refine q_top (y := nI ((ct (fun d => stg P (i32n x) (P.N (i32n x) 0 + d) < P.N (i32n x) 2) u) + 0)) (nI_add _ _) ?_
                  refine lv_istore (lv' := [(5, .int (nI ((ct (fun d => stg P (i32n x) (P.N (i32n x) 0 + d) < P.N (i32n x) 2) u) + 0))), (4, .int (nI ((ct (fun d => mmk P (P.N (i32n x) 0 + d) ≠ 0) u) + 1))), (3, .int (nI ((sm (fun d => stg P (i32n x) (P.N (i32n x) 0 + d)) u) + (stg P (i32n x) (P.N (i32n x) 0 + u))))), (0, .ref (b + 36)), (1, .int (nI (i32n x))), (2, .int (nI (i32n y))), (6, .int (nI (P.N (i32n x) 0 + u)))]) hx hb dX7_noiseOf_129 hl (by decide) rfl (fun ls hl => ?_)
                  refine lv_iinc (v := nI ((P.N (i32n x) 0 + u) + 1)) (lv' := [(6, .int (nI ((P.N (i32n x) 0 + u) + 1))), (5, .int (nI ((ct (fun d => stg P (i32n x) (P.N (i32n x) 0 + d) < P.N (i32n x) 2) u) + 0))), (4, .int (nI ((ct (fun d => mmk P (P.N (i32n x) 0 + d) ≠ 0) u) + 1))), (3, .int (nI ((sm (fun d => stg P (i32n x) (P.N (i32n x) 0 + d)) u) + (stg P (i32n x) (P.N (i32n x) 0 + u))))), (0, .ref (b + 36)), (1, .int (nI (i32n x))), (2, .int (nI (i32n y)))]) hx hb dX7_noiseOf_131 hl (k := 6) rfl (nI_add _ 1) (by decide) rfl (fun ls hl => ?_)
                  refine lv_goto (tgt := 57) hx hb dX7_noiseOf_134 (by decide) ?_
                  exact ih57 (u + 1) (by omega) (by omega) _ _ _ _ (by rfl) (by refine congrArg nI ?_; rw [ct]; first | (rw [if_pos c_94]; done) | (rw [if_neg (fun q9 => q9 c_94)]; done) | (rw [if_neg (fun q9 => q9 c_94)]; rfl)) (by refine congrArg nI ?_; rw [ct]; first | (rw [if_pos (by omega)]; done) | (rw [if_neg (by omega)]; done) | (rw [if_neg (by omega)]; rfl)) (by rfl) _ (lv_sub hl [4, 5, 6, 3, 2, 1, 0] rfl)
                · skip
                  have c_120 : ¬ (P.N (i32n x) 2 ≤ stg P (i32n x) (P.N (i32n x) 0 + u)) := fun h__ => c_120 ((nI_leI (a := P.N (i32n x) 2) (b := stg P (i32n x) (P.N (i32n x) 0 + u)) (by omega) (by omega)).mpr h__)
                  refine lv_iconst (v := nI 1) hx hb dX7_noiseOf_123 (by decide) ?_
                  refine lv_goto (tgt := 128) hx hb dX7_noiseOf_124 (by decide) ?_
                  refine lv_iadd hx hb dX7_noiseOf_128 ?_
                  refine q_top (y := nI ((ct (fun d => stg P (i32n x) (P.N (i32n x) 0 + d) < P.N (i32n x) 2) u) + 1)) (nI_add _ _) ?_
                  refine lv_istore (lv' := [(5, .int (nI ((ct (fun d => stg P (i32n x) (P.N (i32n x) 0 + d) < P.N (i32n x) 2) u) + 1))), (4, .int (nI ((ct (fun d => mmk P (P.N (i32n x) 0 + d) ≠ 0) u) + 1))), (3, .int (nI ((sm (fun d => stg P (i32n x) (P.N (i32n x) 0 + d)) u) + (stg P (i32n x) (P.N (i32n x) 0 + u))))), (0, .ref (b + 36)), (1, .int (nI (i32n x))), (2, .int (nI (i32n y))), (6, .int (nI (P.N (i32n x) 0 + u)))]) hx hb dX7_noiseOf_129 hl (by decide) rfl (fun ls hl => ?_)
                  refine lv_iinc (v := nI ((P.N (i32n x) 0 + u) + 1)) (lv' := [(6, .int (nI ((P.N (i32n x) 0 + u) + 1))), (5, .int (nI ((ct (fun d => stg P (i32n x) (P.N (i32n x) 0 + d) < P.N (i32n x) 2) u) + 1))), (4, .int (nI ((ct (fun d => mmk P (P.N (i32n x) 0 + d) ≠ 0) u) + 1))), (3, .int (nI ((sm (fun d => stg P (i32n x) (P.N (i32n x) 0 + d)) u) + (stg P (i32n x) (P.N (i32n x) 0 + u))))), (0, .ref (b + 36)), (1, .int (nI (i32n x))), (2, .int (nI (i32n y)))]) hx hb dX7_noiseOf_131 hl (k := 6) rfl (nI_add _ 1) (by decide) rfl (fun ls hl => ?_)
                  refine lv_goto (tgt := 57) hx hb dX7_noiseOf_134 (by decide) ?_
                  exact ih57 (u + 1) (by omega) (by omega) _ _ _ _ (by rfl) (by refine congrArg nI ?_; rw [ct]; first | (rw [if_pos c_94]; done) | (rw [if_neg (fun q9 => q9 c_94)]; done) | (rw [if_neg (fun q9 => q9 c_94)]; rfl)) (by refine congrArg nI ?_; rw [ct]; first | (rw [if_pos (by omega)]; done) | (rw [if_neg (by omega)]; done) | (rw [if_neg (by omega)]; rfl)) (by rfl) _ (lv_sub hl [4, 5, 6, 3, 2, 1, 0] rfl)
        exact L57 ((P.N (i32n x) 1 - 0) + 1) 0 (by omega) (Nat.lt_succ_self _) _ _ _ _ (by rfl) (by rfl) (by rfl) (by rfl) _ (lv_sub hl [4, 5, 6, 3, 2, 1, 0] rfl)
      · skip
        have c_32 : 1 = 0 := (nI_eq0 (i := 1) (by omega)).mp c_32
        exact absurd c_32 (by omega)
  · skip
    have c_7 : ¬ (0 ≤ x ∧ x < nI P.n) := pI_eq0.mp c_7
    refine lv_iconst (v := nI 1) hx hb dX7_noiseOf_10 (by decide) ?_
    refine lv_goto (tgt := 29) hx hb dX7_noiseOf_11 (by decide) ?_
    refine q_W1 (va_runV (As := [.int (nI 1)]) (rest := []) ⟨hx, hb, hml, hown, hts⟩ (c_X7_holds l hm0 (nI (1))) (cwV 1 hts gX7_noiseOf_X7_holds rfl rfl rfl (by decide +kernel) ⟨Nat.le_of_ble_eq_true rfl, Nat.le_of_ble_eq_true rfl⟩) (q_preV hG hW hS hm0 rfl) rfl rfl hl.1 rfl (lv_room (Nat.le_of_ble_eq_true rfl)) dX7_noiseOf_29 ⟨Nat.le_of_ble_eq_true rfl, Nat.le_of_ble_eq_true rfl⟩) hS (fun w_29 H locs hp29 hW hS => ?_)
    obtain ⟨hm0, fr29⟩ := hp29
    replace hm1 : w_29 37 = some (eN dA 85 F) := (fr29 _ (by omega)).trans hm1
    replace hm38 : w_29 38 = some (eN dA 510 G) := (fr29 _ (by omega)).trans hm38
    replace hm39 : w_29 39 = some (eN dA 170 GS) := (fr29 _ (by omega)).trans hm39
    replace hm40 : w_29 40 = some (eZ dA 2 Zt) := (fr29 _ (by omega)).trans hm40
    replace hm41 : w_29 41 = some (eN dA 80 C) := (fr29 _ (by omega)).trans hm41
    replace hm42 : w_29 42 = some (eN dA 120 D0) := (fr29 _ (by omega)).trans hm42
    replace hm43 : w_29 43 = some (eN dA 120 M0) := (fr29 _ (by omega)).trans hm43
    replace hm44 : w_29 44 = some (eN dA 3 TD) := (fr29 _ (by omega)).trans hm44
    refine q_topv (v' := .int (nI 0)) (congrArg Value.int (by decide)) ?_
    refine lv_if_ne (tgt := 37) hx hb dX7_noiseOf_32 (by decide) (fun c_32 => ?_) (fun c_32 => ?_)
    · skip
      have c_32 : ¬ (0 = 0) := fun h__ => c_32 ((nI_eq0 (i := 0) (by omega)).mpr h__)
      exact absurd c_32 (by omega)
    · skip
      have c_32 : 0 = 0 := (nI_eq0 (i := 0) (by omega)).mp c_32
      refine lv_iconst (v := nI 0) hx hb dX7_noiseOf_35 (by decide) ?_
      exact q_wi hx hb hr hlocks hW hS dX7_noiseOf_36 (by rw [if_neg (by first | exact fun q9 => c_7 q9.1 | exact fun q9 => c_21 q9.2)]; rfl) (by exact ⟨Or.inr (Or.inl ⟨c_7, ⟨_, _, _, _, _, _, _, _, _, _, hm0, hm1, ⟨hRp, hP⟩, hm38, hsv, hm39, hm40, hsl, hm41, hbu, hm42, hm43, hm44⟩⟩), by intro id h9; rw [fr29 id (by omega)]; try rfl⟩) (by decide) (by decide)

set_option maxHeartbeats 300000 in
set_option maxRecDepth 100000 in
/-- second -/
theorem c_X7_second (l : Launch) {D : va_G} {dA : Nat → Nat} {b : Nat} {w : Wd} {n nc : Nat} {P : Pl} {Hs : Nat → Pl} {SL : Nat → Option Pl} {C : Nat → Nat} {tt : Int32} (hmd : isMod dA b w (P, (n, Hs), SL, (nc, C)) tt) (x y : Int32) : Met l yX7_second wsX7_second ({ frames := 6, cells := 0, slots := 0, locals := 141 } : Room) (PC D dA b w [.ref (b + 36), .int (x), .int (y)]) (QW D b (some (.int (if (0 ≤ x ∧ x < 120) ∧ (0 ≤ y ∧ y ≤ nI 5) then sof P (i32n x) (i32n y) else 0))) (fun w' => ((((0 ≤ x ∧ x < 120) ∧ (0 ≤ y ∧ y ≤ nI 5)) ∧ isMod dA b w' (P, (n, Hs), SL, (nc, C)) (nI 0)) ∨ ((¬ (0 ≤ x ∧ x < 120)) ∧ isMod dA b w' (P, (n, Hs), SL, (nc, C)) (nI 1)) ∨ (((0 ≤ x ∧ x < 120) ∧ ¬ (0 ≤ y ∧ y ≤ nI 5)) ∧ isMod dA b w' (P, (n, Hs), SL, (nc, C)) (nI 2))) ∧ ∀ id : Nat, (id < 36 ∨ 45 ≤ id) → w' id = w id)) 0 0 (Fb b) := by
  refine q_of (cc := cX7_second) (maxL := 3) (ret := (some .int)) (by decide) rfl rfl ?_
  intro p e s m args below meth c ls hx hb hr hml hts hown hlocks hG hW hS hl
  have hown : s.vm.findClass RX7 = some m.cls := hown
  have hinX7 : ∀ w ∈ u_ws RX7 TX7 14, w ∈ wsX7_second := fun w h => (goodIn_r (big := wsX7_second) (u_ws RX7 TX7 14) [59, 60, 61, 62, 63, 64, 65, 66, 67, 68, 69, 70, 71, 72] (by decide +kernel) (by decide +kernel) w h).1
  have hl : lv_has ls 3 [(0, .ref (b + 36)), (1, .int (x)), (2, .int (y))] := hl
  obtain ⟨pl, lt, dn, F, G, GS, Zt, D0, M0, TD, hm0, hm1, ⟨hRp, hP⟩, hm38, hsv, hm39, hm40, hsl, hm41, hbu, hm42, hm43, hm44⟩ := id hmd
  change w 36 = some (modO b (nI n) (nI nc) tt pl lt dn) at hm0
  change rep F P at hRp
  change okP P at hP
  change mSv n G Hs at hsv
  change mSl GS Zt SL at hsl
  change w 41 = some (eN dA 80 C) at hm41
  change mBu nc C at hbu
  have hn6 := hsv.1
  have hnc := hbu.1
  obtain ⟨hPw, hPn, hPW, hPN, hPS⟩ := id hP
  have hr5 := hRp.2.1
  have hr6 := hRp.2.2.1
  refine lv_aload_n hx hb dX7_second_0 rfl (lv_at hl 0 rfl) ?_
  refine lv_iload_n hx hb dX7_second_1 rfl (lv_at hl 1 rfl) ?_
  refine lv_iconst (v := nI 0) hx hb dX7_second_2 (by decide) ?_
  refine lv_bipush (v := nI 119) hx hb dX7_second_3 (by decide) ?_
  refine q_R1 (va_runS (As := [.int (x), .int (nI 0), .int (nI 119)]) (rest := [.ref (b + 36)]) ⟨hx, hb, hml, hown, hts⟩ (c_X7_in l (x) (nI (0)) (nI (119))) (va_cwS 3 hts gX7_second_X7_in rfl rfl rfl (by decide +kernel) ⟨Nat.le_of_ble_eq_true rfl, Nat.le_of_ble_eq_true rfl⟩) (q_preS hG hW hS) rfl rfl hl.1 rfl (lv_room (Nat.le_of_ble_eq_true rfl)) dX7_second_5 ⟨Nat.le_of_ble_eq_true rfl, Nat.le_of_ble_eq_true rfl⟩) ?_
  refine lv_if_ne (tgt := 15) hx hb dX7_second_8 (by decide) (fun c_8 => ?_) (fun c_8 => ?_)
  · skip
    have c_8 : (nI (0)) ≤ (x) ∧ (x) ≤ (nI (119)) := Decidable.byContradiction (fun h__ => c_8 (pI_eq0.mpr h__))
    have ho9 : 0 ≤ x ∧ x < 120 := ⟨c_8.1, (lt_le (k := 119) (by decide)).mpr c_8.2⟩
    obtain ⟨ex9, bx9⟩ := has_n (n := 120) (by decide) ho9.1 ho9.2
    have el_15 : x = nI (i32n x) := by exact ex9
    rw [el_15] at hl
    refine lv_iload_n hx hb dX7_second_15 rfl (lv_at hl 2 rfl) ?_
    refine lv_iconst (v := nI 0) hx hb dX7_second_16 (by decide) ?_
    refine lv_iconst (v := nI 5) hx hb dX7_second_17 (by decide) ?_
    refine q_R1 (va_runS (As := [.int (y), .int (nI 0), .int (nI 5)]) (rest := [.ref (b + 36)]) ⟨hx, hb, hml, hown, hts⟩ (c_X7_in l (y) (nI (0)) (nI (5))) (va_cwS 3 hts gX7_second_X7_in rfl rfl rfl (by decide +kernel) ⟨Nat.le_of_ble_eq_true rfl, Nat.le_of_ble_eq_true rfl⟩) (q_preS hG hW hS) rfl rfl hl.1 rfl (lv_room (Nat.le_of_ble_eq_true rfl)) dX7_second_18 ⟨Nat.le_of_ble_eq_true rfl, Nat.le_of_ble_eq_true rfl⟩) ?_
    refine lv_if_eq (tgt := 28) hx hb dX7_second_21 (by decide) (fun c_21 => ?_) (fun c_21 => ?_)
    · skip
      have c_21 : ¬ ((nI (0)) ≤ (y) ∧ (y) ≤ (nI (5))) := pI_eq0.mp c_21
      refine lv_iconst (v := nI 2) hx hb dX7_second_28 (by decide) ?_
      refine q_W1 (va_runV (As := [.int (nI 2)]) (rest := []) ⟨hx, hb, hml, hown, hts⟩ (c_X7_holds l hm0 (nI (2))) (cwV 1 hts gX7_second_X7_holds rfl rfl rfl (by decide +kernel) ⟨Nat.le_of_ble_eq_true rfl, Nat.le_of_ble_eq_true rfl⟩) (q_preV hG hW hS hm0 rfl) rfl rfl hl.1 rfl (lv_room (Nat.le_of_ble_eq_true rfl)) dX7_second_29 ⟨Nat.le_of_ble_eq_true rfl, Nat.le_of_ble_eq_true rfl⟩) hS (fun w_29 H locs hp29 hW hS => ?_)
      obtain ⟨hm0, fr29⟩ := hp29
      replace hm1 : w_29 37 = some (eN dA 85 F) := (fr29 _ (by omega)).trans hm1
      replace hm38 : w_29 38 = some (eN dA 510 G) := (fr29 _ (by omega)).trans hm38
      replace hm39 : w_29 39 = some (eN dA 170 GS) := (fr29 _ (by omega)).trans hm39
      replace hm40 : w_29 40 = some (eZ dA 2 Zt) := (fr29 _ (by omega)).trans hm40
      replace hm41 : w_29 41 = some (eN dA 80 C) := (fr29 _ (by omega)).trans hm41
      replace hm42 : w_29 42 = some (eN dA 120 D0) := (fr29 _ (by omega)).trans hm42
      replace hm43 : w_29 43 = some (eN dA 120 M0) := (fr29 _ (by omega)).trans hm43
      replace hm44 : w_29 44 = some (eN dA 3 TD) := (fr29 _ (by omega)).trans hm44
      refine q_topv (v' := .int (nI 0)) (congrArg Value.int (by decide)) ?_
      refine lv_if_ne (tgt := 37) hx hb dX7_second_32 (by decide) (fun c_32 => ?_) (fun c_32 => ?_)
      · skip
        have c_32 : ¬ (0 = 0) := fun h__ => c_32 ((nI_eq0 (i := 0) (by omega)).mpr h__)
        exact absurd c_32 (by omega)
      · skip
        have c_32 : 0 = 0 := (nI_eq0 (i := 0) (by omega)).mp c_32
        refine lv_iconst (v := nI 0) hx hb dX7_second_35 (by decide) ?_
        exact q_wi hx hb hr hlocks hW hS dX7_second_36 (by rw [if_neg (by first | exact fun q9 => c_8 ⟨q9.1.1, (lt_le (k := 119) (by decide)).mp q9.1.2⟩ | exact fun q9 => c_21 q9.2)]; rfl) (by exact ⟨Or.inr (Or.inr ⟨⟨ho9, c_21⟩, ⟨_, _, _, _, _, _, _, _, _, _, hm0, hm1, ⟨hRp, hP⟩, hm38, hsv, hm39, hm40, hsl, hm41, hbu, hm42, hm43, hm44⟩⟩), by intro id h9; rw [fr29 id (by omega)]; try rfl⟩) (by decide) (by decide)
    · skip
      have c_21 : (nI (0)) ≤ (y) ∧ (y) ≤ (nI (5)) := Decidable.byContradiction (fun h__ => c_21 (pI_eq0.mpr h__))
      refine lv_iconst (v := nI 0) hx hb dX7_second_24 (by decide) ?_
      refine lv_goto (tgt := 29) hx hb dX7_second_25 (by decide) ?_
      refine q_W1 (va_runV (As := [.int (nI 0)]) (rest := []) ⟨hx, hb, hml, hown, hts⟩ (c_X7_holds l hm0 (nI (0))) (cwV 1 hts gX7_second_X7_holds rfl rfl rfl (by decide +kernel) ⟨Nat.le_of_ble_eq_true rfl, Nat.le_of_ble_eq_true rfl⟩) (q_preV hG hW hS hm0 rfl) rfl rfl hl.1 rfl (lv_room (Nat.le_of_ble_eq_true rfl)) dX7_second_29 ⟨Nat.le_of_ble_eq_true rfl, Nat.le_of_ble_eq_true rfl⟩) hS (fun w_29 H locs hp29 hW hS => ?_)
      obtain ⟨hm0, fr29⟩ := hp29
      replace hm1 : w_29 37 = some (eN dA 85 F) := (fr29 _ (by omega)).trans hm1
      replace hm38 : w_29 38 = some (eN dA 510 G) := (fr29 _ (by omega)).trans hm38
      replace hm39 : w_29 39 = some (eN dA 170 GS) := (fr29 _ (by omega)).trans hm39
      replace hm40 : w_29 40 = some (eZ dA 2 Zt) := (fr29 _ (by omega)).trans hm40
      replace hm41 : w_29 41 = some (eN dA 80 C) := (fr29 _ (by omega)).trans hm41
      replace hm42 : w_29 42 = some (eN dA 120 D0) := (fr29 _ (by omega)).trans hm42
      replace hm43 : w_29 43 = some (eN dA 120 M0) := (fr29 _ (by omega)).trans hm43
      replace hm44 : w_29 44 = some (eN dA 3 TD) := (fr29 _ (by omega)).trans hm44
      refine q_topv (v' := .int (nI 1)) (congrArg Value.int (by decide)) ?_
      refine lv_if_ne (tgt := 37) hx hb dX7_second_32 (by decide) (fun c_32 => ?_) (fun c_32 => ?_)
      · skip
        have c_32 : ¬ (1 = 0) := fun h__ => c_32 ((nI_eq0 (i := 1) (by omega)).mpr h__)
        obtain ⟨ey9, by9⟩ := le_n (k := 5) (by decide) c_21.1 c_21.2
        have el_37 : y = nI (i32n y) := by exact ey9
        rw [el_37] at hl
        have hDK : dk P (i32n x) = dk P (i32n x) := rfl
        refine lv_aload_n hx hb dX7_second_37 rfl (lv_at hl 0 rfl) ?_
        refine q_W0 (va_runV (As := []) (rest := []) ⟨hx, hb, hml, hown, hts⟩ (c_X7_layOut l hm0 hm1 hRp hP hm42 hm43) (cwV 0 hts gX7_second_X7_layOut rfl rfl rfl (by decide +kernel) ⟨Nat.le_of_ble_eq_true rfl, Nat.le_of_ble_eq_true rfl⟩) (q_preV hG hW hS hm0 rfl) rfl rfl hl.1 rfl (lv_room (Nat.le_of_ble_eq_true rfl)) dX7_second_38 ⟨Nat.le_of_ble_eq_true rfl, Nat.le_of_ble_eq_true rfl⟩) hS (fun w_38 H locs hp38 hW hS => ?_)
        obtain ⟨hm42, hm43, fr38⟩ := hp38
        replace hm1 : w_38 37 = some (eN dA 85 F) := (fr38 _ (by omega)).trans hm1
        replace hm38 : w_38 38 = some (eN dA 510 G) := (fr38 _ (by omega)).trans hm38
        replace hm39 : w_38 39 = some (eN dA 170 GS) := (fr38 _ (by omega)).trans hm39
        replace hm40 : w_38 40 = some (eZ dA 2 Zt) := (fr38 _ (by omega)).trans hm40
        replace hm41 : w_38 41 = some (eN dA 80 C) := (fr38 _ (by omega)).trans hm41
        replace hm44 : w_38 44 = some (eN dA 3 TD) := (fr38 _ (by omega)).trans hm44
        replace hm0 : w_38 36 = some (modO b (nI (n)) (nI (nc)) (nI (0)) (pl) (lt) (dn)) := (fr38 _ (by omega)).trans hm0
        refine lv_iload_n hx hb dX7_second_41 rfl (lv_at hl 2 rfl) ?_
        rcases (show i32n y = 0 ∨ i32n y = 1 ∨ i32n y = 2 ∨ i32n y = 3 ∨ i32n y = 4 ∨ i32n y = 5 by omega) with sw42 | sw42 | sw42 | sw42 | sw42 | sw42
        · skip
          refine q_top (y := nI 0) (congrArg nI sw42) ?_
          refine lv_tableIn (tgt := 76) (off := 34) hx hb dX7_second_42 (by decide) (by decide) rfl (by decide) ?_
          refine lv_aload_n hx hb dX7_second_76 rfl (lv_at hl 0 rfl) ?_
          refine q_get hx hb hts hinX7 hown hG hW hm0 rfl 8 (by decide) (hts (.fieldLink RX7 26 "FoleyMixerModel" "ducking" "[I") (List.mem_of_getElem? (i := 1) rfl)) rfl rfl dX7_second_77 ?_
          refine lv_iload_n hx hb dX7_second_80 rfl (lv_at hl 1 rfl) ?_
          refine q_iald hx hb hG hW hm42 (by omega) (by omega) dX7_second_81 ?_
          exact q_wi hx hb hr hlocks hW hS dX7_second_82 (by rw [if_pos ⟨ho9, c_21⟩]; unfold sof; rw [sw42]; first | rfl | (rw [(wgr_0 P.w).1, (wgr_0 P.w).2]; rfl)) (by exact ⟨Or.inl ⟨⟨ho9, c_21⟩, ⟨_, _, _, _, _, _, _, _, _, _, hm0, hm1, ⟨hRp, hP⟩, hm38, hsv, hm39, hm40, hsl, hm41, hbu, hm42, hm43, hm44⟩⟩, by intro id h9; rw [fr38 id (by omega)]; rw [fr29 id (by omega)]; try rfl⟩) (by decide) (by decide)
        · skip
          refine q_top (y := nI 1) (congrArg nI sw42) ?_
          refine lv_tableIn (tgt := 83) (off := 41) hx hb dX7_second_42 (by decide) (by decide) rfl (by decide) ?_
          refine lv_aload_n hx hb dX7_second_83 rfl (lv_at hl 0 rfl) ?_
          refine lv_iload_n hx hb dX7_second_84 rfl (lv_at hl 1 rfl) ?_
          refine q_R1 (va_runV (As := [.int (nI (i32n x))]) (rest := []) ⟨hx, hb, hml, hown, hts⟩ (c_X7_wordsAt l hm0 hm1 hRp hP (i32n x) (by omega)) (cwV 1 hts gX7_second_X7_wordsAt rfl rfl rfl (by decide +kernel) ⟨Nat.le_of_ble_eq_true rfl, Nat.le_of_ble_eq_true rfl⟩) (q_preV hG hW hS hm0 rfl) rfl rfl hl.1 rfl (lv_room (Nat.le_of_ble_eq_true rfl)) dX7_second_85 ⟨Nat.le_of_ble_eq_true rfl, Nat.le_of_ble_eq_true rfl⟩) ?_
          exact q_wi hx hb hr hlocks hW hS dX7_second_88 (by rw [if_pos ⟨ho9, c_21⟩]; unfold sof; rw [sw42]; first | rfl | (rw [(wgr_0 P.w).1, (wgr_0 P.w).2]; rfl)) (by exact ⟨Or.inl ⟨⟨ho9, c_21⟩, ⟨_, _, _, _, _, _, _, _, _, _, hm0, hm1, ⟨hRp, hP⟩, hm38, hsv, hm39, hm40, hsl, hm41, hbu, hm42, hm43, hm44⟩⟩, by intro id h9; rw [fr38 id (by omega)]; rw [fr29 id (by omega)]; try rfl⟩) (by decide) (by decide)
        · skip
          refine q_top (y := nI 2) (congrArg nI sw42) ?_
          refine lv_tableIn (tgt := 89) (off := 47) hx hb dX7_second_42 (by decide) (by decide) rfl (by decide) ?_
          refine lv_aload_n hx hb dX7_second_89 rfl (lv_at hl 0 rfl) ?_
          refine lv_iload_n hx hb dX7_second_90 rfl (lv_at hl 1 rfl) ?_
          refine q_R1 (va_runV (As := [.int (nI (i32n x))]) (rest := []) ⟨hx, hb, hml, hown, hts⟩ (c_X7_noisesAt l hm0 hm1 hRp hP (i32n x) (by omega)) (cwV 1 hts gX7_second_X7_noisesAt rfl rfl rfl (by decide +kernel) ⟨Nat.le_of_ble_eq_true rfl, Nat.le_of_ble_eq_true rfl⟩) (q_preV hG hW hS hm0 rfl) rfl rfl hl.1 rfl (lv_room (Nat.le_of_ble_eq_true rfl)) dX7_second_91 ⟨Nat.le_of_ble_eq_true rfl, Nat.le_of_ble_eq_true rfl⟩) ?_
          exact q_wi hx hb hr hlocks hW hS dX7_second_94 (by rw [if_pos ⟨ho9, c_21⟩]; unfold sof; rw [sw42]; first | rfl | (rw [(wgr_0 P.w).1, (wgr_0 P.w).2]; rfl)) (by exact ⟨Or.inl ⟨⟨ho9, c_21⟩, ⟨_, _, _, _, _, _, _, _, _, _, hm0, hm1, ⟨hRp, hP⟩, hm38, hsv, hm39, hm40, hsl, hm41, hbu, hm42, hm43, hm44⟩⟩, by intro id h9; rw [fr38 id (by omega)]; rw [fr29 id (by omega)]; try rfl⟩) (by decide) (by decide)
        · skip
          refine q_top (y := nI 3) (congrArg nI sw42) ?_
          refine lv_tableIn (tgt := 95) (off := 53) hx hb dX7_second_42 (by decide) (by decide) rfl (by decide) ?_
          refine lv_aload_n hx hb dX7_second_95 rfl (lv_at hl 0 rfl) ?_
          refine lv_iload_n hx hb dX7_second_96 rfl (lv_at hl 1 rfl) ?_
          refine lv_iconst (v := nI 0) hx hb dX7_second_97 (by decide) ?_
          refine q_R1 (va_runV (As := [.int (nI (i32n x)), .int (nI 0)]) (rest := []) ⟨hx, hb, hml, hown, hts⟩ (c_X7_level l hm0 hm1 hRp hP hm42 (i32n x) (0) (by omega) (by omega) hDK) (cwV 2 hts gX7_second_X7_level rfl rfl rfl (by decide +kernel) ⟨Nat.le_of_ble_eq_true rfl, Nat.le_of_ble_eq_true rfl⟩) (q_preV hG hW hS hm0 rfl) rfl rfl hl.1 rfl (lv_room (Nat.le_of_ble_eq_true rfl)) dX7_second_98 ⟨Nat.le_of_ble_eq_true rfl, Nat.le_of_ble_eq_true rfl⟩) ?_
          exact q_wi hx hb hr hlocks hW hS dX7_second_101 (by rw [if_pos ⟨ho9, c_21⟩]; unfold sof; rw [sw42]; first | rfl | (rw [(wgr_0 P.w).1, (wgr_0 P.w).2]; rfl)) (by exact ⟨Or.inl ⟨⟨ho9, c_21⟩, ⟨_, _, _, _, _, _, _, _, _, _, hm0, hm1, ⟨hRp, hP⟩, hm38, hsv, hm39, hm40, hsl, hm41, hbu, hm42, hm43, hm44⟩⟩, by intro id h9; rw [fr38 id (by omega)]; rw [fr29 id (by omega)]; try rfl⟩) (by decide) (by decide)
        · skip
          refine q_top (y := nI 4) (congrArg nI sw42) ?_
          refine lv_tableIn (tgt := 102) (off := 60) hx hb dX7_second_42 (by decide) (by decide) rfl (by decide) ?_
          refine lv_aload_n hx hb dX7_second_102 rfl (lv_at hl 0 rfl) ?_
          refine q_get hx hb hts hinX7 hown hG hW hm0 rfl 9 (by decide) (hts (.fieldLink RX7 29 "FoleyMixerModel" "masked" "[I") (List.mem_of_getElem? (i := 2) rfl)) rfl rfl dX7_second_103 ?_
          refine lv_iload_n hx hb dX7_second_106 rfl (lv_at hl 1 rfl) ?_
          refine q_iald hx hb hG hW hm43 (by omega) (by omega) dX7_second_107 ?_
          exact q_wi hx hb hr hlocks hW hS dX7_second_108 (by rw [if_pos ⟨ho9, c_21⟩]; unfold sof; rw [sw42]; first | rfl | (rw [(wgr_0 P.w).1, (wgr_0 P.w).2]; rfl)) (by exact ⟨Or.inl ⟨⟨ho9, c_21⟩, ⟨_, _, _, _, _, _, _, _, _, _, hm0, hm1, ⟨hRp, hP⟩, hm38, hsv, hm39, hm40, hsl, hm41, hbu, hm42, hm43, hm44⟩⟩, by intro id h9; rw [fr38 id (by omega)]; rw [fr29 id (by omega)]; try rfl⟩) (by decide) (by decide)
        · skip
          refine q_top (y := nI 5) (congrArg nI sw42) ?_
          refine lv_tableOut (tgt := 109) hx hb dX7_second_42 (by decide) (by decide) ?_
          refine lv_aload_n hx hb dX7_second_109 rfl (lv_at hl 0 rfl) ?_
          refine lv_iload_n hx hb dX7_second_110 rfl (lv_at hl 1 rfl) ?_
          refine q_R1 (va_runV (As := [.int (nI (i32n x))]) (rest := []) ⟨hx, hb, hml, hown, hts⟩ (c_X7_strongest l hm0 hm1 hRp hP hm42 (i32n x) (by omega)) (cwV 1 hts gX7_second_X7_strongest rfl rfl rfl (by decide +kernel) ⟨Nat.le_of_ble_eq_true rfl, Nat.le_of_ble_eq_true rfl⟩) (q_preV hG hW hS hm0 rfl) rfl rfl hl.1 rfl (lv_room (Nat.le_of_ble_eq_true rfl)) dX7_second_111 ⟨Nat.le_of_ble_eq_true rfl, Nat.le_of_ble_eq_true rfl⟩) ?_
          exact q_wi hx hb hr hlocks hW hS dX7_second_114 (by rw [if_pos ⟨ho9, c_21⟩]; unfold sof; rw [sw42]; first | rfl | (rw [(wgr_0 P.w).1, (wgr_0 P.w).2]; rfl)) (by exact ⟨Or.inl ⟨⟨ho9, c_21⟩, ⟨_, _, _, _, _, _, _, _, _, _, hm0, hm1, ⟨hRp, hP⟩, hm38, hsv, hm39, hm40, hsl, hm41, hbu, hm42, hm43, hm44⟩⟩, by intro id h9; rw [fr38 id (by omega)]; rw [fr29 id (by omega)]; try rfl⟩) (by decide) (by decide)
      · skip
        have c_32 : 1 = 0 := (nI_eq0 (i := 1) (by omega)).mp c_32
        exact absurd c_32 (by omega)
  · skip
    have c_8 : ¬ ((nI (0)) ≤ (x) ∧ (x) ≤ (nI (119))) := pI_eq0.mp c_8
    refine lv_iconst (v := nI 1) hx hb dX7_second_11 (by decide) ?_
    refine lv_goto (tgt := 29) hx hb dX7_second_12 (by decide) ?_
    refine q_W1 (va_runV (As := [.int (nI 1)]) (rest := []) ⟨hx, hb, hml, hown, hts⟩ (c_X7_holds l hm0 (nI (1))) (cwV 1 hts gX7_second_X7_holds rfl rfl rfl (by decide +kernel) ⟨Nat.le_of_ble_eq_true rfl, Nat.le_of_ble_eq_true rfl⟩) (q_preV hG hW hS hm0 rfl) rfl rfl hl.1 rfl (lv_room (Nat.le_of_ble_eq_true rfl)) dX7_second_29 ⟨Nat.le_of_ble_eq_true rfl, Nat.le_of_ble_eq_true rfl⟩) hS (fun w_29 H locs hp29 hW hS => ?_)
    obtain ⟨hm0, fr29⟩ := hp29
    replace hm1 : w_29 37 = some (eN dA 85 F) := (fr29 _ (by omega)).trans hm1
    replace hm38 : w_29 38 = some (eN dA 510 G) := (fr29 _ (by omega)).trans hm38
    replace hm39 : w_29 39 = some (eN dA 170 GS) := (fr29 _ (by omega)).trans hm39
    replace hm40 : w_29 40 = some (eZ dA 2 Zt) := (fr29 _ (by omega)).trans hm40
    replace hm41 : w_29 41 = some (eN dA 80 C) := (fr29 _ (by omega)).trans hm41
    replace hm42 : w_29 42 = some (eN dA 120 D0) := (fr29 _ (by omega)).trans hm42
    replace hm43 : w_29 43 = some (eN dA 120 M0) := (fr29 _ (by omega)).trans hm43
    replace hm44 : w_29 44 = some (eN dA 3 TD) := (fr29 _ (by omega)).trans hm44
    refine q_topv (v' := .int (nI 0)) (congrArg Value.int (by decide)) ?_
    refine lv_if_ne (tgt := 37) hx hb dX7_second_32 (by decide) (fun c_32 => ?_) (fun c_32 => ?_)
    · skip
      have c_32 : ¬ (0 = 0) := fun h__ => c_32 ((nI_eq0 (i := 0) (by omega)).mpr h__)
      exact absurd c_32 (by omega)
    · skip
      have c_32 : 0 = 0 := (nI_eq0 (i := 0) (by omega)).mp c_32
      refine lv_iconst (v := nI 0) hx hb dX7_second_35 (by decide) ?_
      exact q_wi hx hb hr hlocks hW hS dX7_second_36 (by rw [if_neg (by first | exact fun q9 => c_8 ⟨q9.1.1, (lt_le (k := 119) (by decide)).mp q9.1.2⟩ | exact fun q9 => c_21 q9.2)]; rfl) (by exact ⟨Or.inr (Or.inl ⟨fun q9 => c_8 ⟨q9.1, (lt_le (k := 119) (by decide)).mp q9.2⟩, ⟨_, _, _, _, _, _, _, _, _, _, hm0, hm1, ⟨hRp, hP⟩, hm38, hsv, hm39, hm40, hsl, hm41, hbu, hm42, hm43, hm44⟩⟩), by intro id h9; rw [fr29 id (by omega)]; try rfl⟩) (by decide) (by decide)

set_option maxHeartbeats 300000 in
set_option maxRecDepth 100000 in
/-- count -/
theorem c_X7_count (l : Launch) {D : va_G} {dA : Nat → Nat} {b : Nat} {w : Wd} {n nc : Nat} {P : Pl} {Hs : Nat → Pl} {SL : Nat → Option Pl} {C : Nat → Nat} {tt : Int32} (hmd : isMod dA b w (P, (n, Hs), SL, (nc, C)) tt) (x : Int32) : Met l yX7_count wsX7_count ({ frames := 6, cells := 0, slots := 0, locals := 141 } : Room) (PC D dA b w [.ref (b + 36), .int (x)]) (QW D b (some (.int (if 0 ≤ x ∧ x ≤ nI 13 then cof P n nc (i32n x) else 0))) (fun w' => (((0 ≤ x ∧ x ≤ nI 13) ∧ isMod dA b w' (P, (n, Hs), SL, (nc, C)) (nI 0)) ∨ ((¬ (0 ≤ x ∧ x ≤ nI 13)) ∧ isMod dA b w' (P, (n, Hs), SL, (nc, C)) (nI 1))) ∧ ∀ id : Nat, (id < 36 ∨ 45 ≤ id) → w' id = w id)) 0 0 (Fb b) := by
  refine q_of (cc := cX7_count) (maxL := 2) (ret := (some .int)) (by decide) rfl rfl ?_
  intro p e s m args below meth c ls hx hb hr hml hts hown hlocks hG hW hS hl
  have hown : s.vm.findClass RX7 = some m.cls := hown
  have hinX7 : ∀ w ∈ u_ws RX7 TX7 14, w ∈ wsX7_count := fun w h => (goodIn_r (big := wsX7_count) (u_ws RX7 TX7 14) [92, 93, 94, 95, 96, 97, 98, 99, 100, 101, 102, 103, 104, 105] (by decide +kernel) (by decide +kernel) w h).1
  have hl : lv_has ls 2 [(0, .ref (b + 36)), (1, .int (x))] := hl
  obtain ⟨pl, lt, dn, F, G, GS, Zt, D0, M0, TD, hm0, hm1, ⟨hRp, hP⟩, hm38, hsv, hm39, hm40, hsl, hm41, hbu, hm42, hm43, hm44⟩ := id hmd
  change w 36 = some (modO b (nI n) (nI nc) tt pl lt dn) at hm0
  change rep F P at hRp
  change okP P at hP
  change mSv n G Hs at hsv
  change mSl GS Zt SL at hsl
  change w 41 = some (eN dA 80 C) at hm41
  change mBu nc C at hbu
  have hn6 := hsv.1
  have hnc := hbu.1
  obtain ⟨hPw, hPn, hPW, hPN, hPS⟩ := id hP
  have hr5 := hRp.2.1
  have hr6 := hRp.2.2.1
  refine lv_aload_n hx hb dX7_count_0 rfl (lv_at hl 0 rfl) ?_
  refine lv_iload_n hx hb dX7_count_1 rfl (lv_at hl 1 rfl) ?_
  refine lv_iconst (v := nI 0) hx hb dX7_count_2 (by decide) ?_
  refine lv_bipush (v := nI 13) hx hb dX7_count_3 (by decide) ?_
  refine q_R1 (va_runS (As := [.int (x), .int (nI 0), .int (nI 13)]) (rest := [.ref (b + 36)]) ⟨hx, hb, hml, hown, hts⟩ (c_X7_in l (x) (nI (0)) (nI (13))) (va_cwS 3 hts gX7_count_X7_in rfl rfl rfl (by decide +kernel) ⟨Nat.le_of_ble_eq_true rfl, Nat.le_of_ble_eq_true rfl⟩) (q_preS hG hW hS) rfl rfl hl.1 rfl (lv_room (Nat.le_of_ble_eq_true rfl)) dX7_count_5 ⟨Nat.le_of_ble_eq_true rfl, Nat.le_of_ble_eq_true rfl⟩) ?_
  refine lv_if_eq (tgt := 15) hx hb dX7_count_8 (by decide) (fun c_8 => ?_) (fun c_8 => ?_)
  · skip
    have c_8 : ¬ ((nI (0)) ≤ (x) ∧ (x) ≤ (nI (13))) := pI_eq0.mp c_8
    refine lv_iconst (v := nI 1) hx hb dX7_count_15 (by decide) ?_
    refine q_W1 (va_runV (As := [.int (nI 1)]) (rest := []) ⟨hx, hb, hml, hown, hts⟩ (c_X7_holds l hm0 (nI (1))) (cwV 1 hts gX7_count_X7_holds rfl rfl rfl (by decide +kernel) ⟨Nat.le_of_ble_eq_true rfl, Nat.le_of_ble_eq_true rfl⟩) (q_preV hG hW hS hm0 rfl) rfl rfl hl.1 rfl (lv_room (Nat.le_of_ble_eq_true rfl)) dX7_count_16 ⟨Nat.le_of_ble_eq_true rfl, Nat.le_of_ble_eq_true rfl⟩) hS (fun w_16 H locs hp16 hW hS => ?_)
    obtain ⟨hm0, fr16⟩ := hp16
    replace hm1 : w_16 37 = some (eN dA 85 F) := (fr16 _ (by omega)).trans hm1
    replace hm38 : w_16 38 = some (eN dA 510 G) := (fr16 _ (by omega)).trans hm38
    replace hm39 : w_16 39 = some (eN dA 170 GS) := (fr16 _ (by omega)).trans hm39
    replace hm40 : w_16 40 = some (eZ dA 2 Zt) := (fr16 _ (by omega)).trans hm40
    replace hm41 : w_16 41 = some (eN dA 80 C) := (fr16 _ (by omega)).trans hm41
    replace hm42 : w_16 42 = some (eN dA 120 D0) := (fr16 _ (by omega)).trans hm42
    replace hm43 : w_16 43 = some (eN dA 120 M0) := (fr16 _ (by omega)).trans hm43
    replace hm44 : w_16 44 = some (eN dA 3 TD) := (fr16 _ (by omega)).trans hm44
    refine q_topv (v' := .int (nI 0)) (congrArg Value.int (by decide)) ?_
    refine lv_if_ne (tgt := 24) hx hb dX7_count_19 (by decide) (fun c_19 => ?_) (fun c_19 => ?_)
    · skip
      have c_19 : ¬ (0 = 0) := fun h__ => c_19 ((nI_eq0 (i := 0) (by omega)).mpr h__)
      exact absurd c_19 (by omega)
    · skip
      have c_19 : 0 = 0 := (nI_eq0 (i := 0) (by omega)).mp c_19
      refine lv_iconst (v := nI 0) hx hb dX7_count_22 (by decide) ?_
      exact q_wi hx hb hr hlocks hW hS dX7_count_23 (by rw [if_neg (by first | exact fun q9 => c_8 q9)]; rfl) (by exact ⟨Or.inr ⟨c_8, ⟨_, _, _, _, _, _, _, _, _, _, hm0, hm1, ⟨hRp, hP⟩, hm38, hsv, hm39, hm40, hsl, hm41, hbu, hm42, hm43, hm44⟩⟩, by intro id h9; rw [fr16 id (by omega)]; try rfl⟩) (by decide) (by decide)
  · skip
    have c_8 : (nI (0)) ≤ (x) ∧ (x) ≤ (nI (13)) := Decidable.byContradiction (fun h__ => c_8 (pI_eq0.mpr h__))
    refine lv_iconst (v := nI 0) hx hb dX7_count_11 (by decide) ?_
    refine lv_goto (tgt := 16) hx hb dX7_count_12 (by decide) ?_
    refine q_W1 (va_runV (As := [.int (nI 0)]) (rest := []) ⟨hx, hb, hml, hown, hts⟩ (c_X7_holds l hm0 (nI (0))) (cwV 1 hts gX7_count_X7_holds rfl rfl rfl (by decide +kernel) ⟨Nat.le_of_ble_eq_true rfl, Nat.le_of_ble_eq_true rfl⟩) (q_preV hG hW hS hm0 rfl) rfl rfl hl.1 rfl (lv_room (Nat.le_of_ble_eq_true rfl)) dX7_count_16 ⟨Nat.le_of_ble_eq_true rfl, Nat.le_of_ble_eq_true rfl⟩) hS (fun w_16 H locs hp16 hW hS => ?_)
    obtain ⟨hm0, fr16⟩ := hp16
    replace hm1 : w_16 37 = some (eN dA 85 F) := (fr16 _ (by omega)).trans hm1
    replace hm38 : w_16 38 = some (eN dA 510 G) := (fr16 _ (by omega)).trans hm38
    replace hm39 : w_16 39 = some (eN dA 170 GS) := (fr16 _ (by omega)).trans hm39
    replace hm40 : w_16 40 = some (eZ dA 2 Zt) := (fr16 _ (by omega)).trans hm40
    replace hm41 : w_16 41 = some (eN dA 80 C) := (fr16 _ (by omega)).trans hm41
    replace hm42 : w_16 42 = some (eN dA 120 D0) := (fr16 _ (by omega)).trans hm42
    replace hm43 : w_16 43 = some (eN dA 120 M0) := (fr16 _ (by omega)).trans hm43
    replace hm44 : w_16 44 = some (eN dA 3 TD) := (fr16 _ (by omega)).trans hm44
    refine q_topv (v' := .int (nI 1)) (congrArg Value.int (by decide)) ?_
    refine lv_if_ne (tgt := 24) hx hb dX7_count_19 (by decide) (fun c_19 => ?_) (fun c_19 => ?_)
    · skip
      have c_19 : ¬ (1 = 0) := fun h__ => c_19 ((nI_eq0 (i := 1) (by omega)).mpr h__)
      obtain ⟨ex9, bx9⟩ := le_n (k := 13) (by decide) c_8.1 c_8.2
      have el_24 : x = nI (i32n x) := by exact ex9
      rw [el_24] at hl
      refine lv_aload_n hx hb dX7_count_24 rfl (lv_at hl 0 rfl) ?_
      refine q_W0 (va_runV (As := []) (rest := []) ⟨hx, hb, hml, hown, hts⟩ (c_X7_layOut l hm0 hm1 hRp hP hm42 hm43) (cwV 0 hts gX7_count_X7_layOut rfl rfl rfl (by decide +kernel) ⟨Nat.le_of_ble_eq_true rfl, Nat.le_of_ble_eq_true rfl⟩) (q_preV hG hW hS hm0 rfl) rfl rfl hl.1 rfl (lv_room (Nat.le_of_ble_eq_true rfl)) dX7_count_25 ⟨Nat.le_of_ble_eq_true rfl, Nat.le_of_ble_eq_true rfl⟩) hS (fun w_25 H locs hp25 hW hS => ?_)
      obtain ⟨hm42, hm43, fr25⟩ := hp25
      replace hm1 : w_25 37 = some (eN dA 85 F) := (fr25 _ (by omega)).trans hm1
      replace hm38 : w_25 38 = some (eN dA 510 G) := (fr25 _ (by omega)).trans hm38
      replace hm39 : w_25 39 = some (eN dA 170 GS) := (fr25 _ (by omega)).trans hm39
      replace hm40 : w_25 40 = some (eZ dA 2 Zt) := (fr25 _ (by omega)).trans hm40
      replace hm41 : w_25 41 = some (eN dA 80 C) := (fr25 _ (by omega)).trans hm41
      replace hm44 : w_25 44 = some (eN dA 3 TD) := (fr25 _ (by omega)).trans hm44
      replace hm0 : w_25 36 = some (modO b (nI (n)) (nI (nc)) (nI (0)) (pl) (lt) (dn)) := (fr25 _ (by omega)).trans hm0
      refine lv_iload_n hx hb dX7_count_28 rfl (lv_at hl 1 rfl) ?_
      rcases (show i32n x = 0 ∨ i32n x = 1 ∨ i32n x = 2 ∨ i32n x = 3 ∨ i32n x = 4 ∨ i32n x = 5 ∨ i32n x = 6 ∨ i32n x = 7 ∨ i32n x = 8 ∨ i32n x = 9 ∨ i32n x = 10 ∨ i32n x = 11 ∨ i32n x = 12 ∨ i32n x = 13 by omega) with sw29 | sw29 | sw29 | sw29 | sw29 | sw29 | sw29 | sw29 | sw29 | sw29 | sw29 | sw29 | sw29 | sw29
      · skip
        refine q_top (y := nI 0) (congrArg nI sw29) ?_
        refine lv_tableIn (tgt := 80) (off := 51) hx hb dX7_count_29 (by decide) (by decide) rfl (by decide) ?_
        refine lv_aload_n hx hb dX7_count_80 rfl (lv_at hl 0 rfl) ?_
        refine q_get hx hb hts hinX7 hown hG hW hm0 rfl 0 (by decide) (hts (.fieldLink RX7 7 "FoleyMixerModel" "s" "[I") (List.mem_of_getElem? (i := 1) rfl)) rfl rfl dX7_count_81 ?_
        refine lv_iconst (v := nI 5) hx hb dX7_count_84 (by decide) ?_
        refine q_iald hx hb hG hW hm1 (by omega) (by omega) dX7_count_85 ?_
        refine q_top (y := nI (P.w)) (by exact congrArg nI hr5) ?_
        exact q_wi hx hb hr hlocks hW hS dX7_count_86 (by rw [if_pos (show 0 ≤ x ∧ x ≤ nI 13 from c_8)]; unfold cof; rw [sw29]; rfl) (by exact ⟨Or.inl ⟨c_8, ⟨_, _, _, _, _, _, _, _, _, _, hm0, hm1, ⟨hRp, hP⟩, hm38, hsv, hm39, hm40, hsl, hm41, hbu, hm42, hm43, hm44⟩⟩, by intro id h9; rw [fr25 id (by omega)]; rw [fr16 id (by omega)]; try rfl⟩) (by decide) (by decide)
      · skip
        refine q_top (y := nI 1) (congrArg nI sw29) ?_
        refine lv_tableIn (tgt := 87) (off := 58) hx hb dX7_count_29 (by decide) (by decide) rfl (by decide) ?_
        refine lv_aload_n hx hb dX7_count_87 rfl (lv_at hl 0 rfl) ?_
        refine q_get hx hb hts hinX7 hown hG hW hm0 rfl 0 (by decide) (hts (.fieldLink RX7 7 "FoleyMixerModel" "s" "[I") (List.mem_of_getElem? (i := 1) rfl)) rfl rfl dX7_count_88 ?_
        refine lv_bipush (v := nI 6) hx hb dX7_count_91 (by decide) ?_
        refine q_iald hx hb hG hW hm1 (by omega) (by omega) dX7_count_93 ?_
        refine q_top (y := nI (P.n)) (by exact congrArg nI hr6) ?_
        exact q_wi hx hb hr hlocks hW hS dX7_count_94 (by rw [if_pos (show 0 ≤ x ∧ x ≤ nI 13 from c_8)]; unfold cof; rw [sw29]; rfl) (by exact ⟨Or.inl ⟨c_8, ⟨_, _, _, _, _, _, _, _, _, _, hm0, hm1, ⟨hRp, hP⟩, hm38, hsv, hm39, hm40, hsl, hm41, hbu, hm42, hm43, hm44⟩⟩, by intro id h9; rw [fr25 id (by omega)]; rw [fr16 id (by omega)]; try rfl⟩) (by decide) (by decide)
      · skip
        refine q_top (y := nI 2) (congrArg nI sw29) ?_
        refine lv_tableIn (tgt := 95) (off := 66) hx hb dX7_count_29 (by decide) (by decide) rfl (by decide) ?_
        refine lv_aload_n hx hb dX7_count_95 rfl (lv_at hl 0 rfl) ?_
        refine q_R1 (va_runV (As := []) (rest := []) ⟨hx, hb, hml, hown, hts⟩ (c_X7_understood l hm0 hm1 hRp hP hm43) (cwV 0 hts gX7_count_X7_understood rfl rfl rfl (by decide +kernel) ⟨Nat.le_of_ble_eq_true rfl, Nat.le_of_ble_eq_true rfl⟩) (q_preV hG hW hS hm0 rfl) rfl rfl hl.1 rfl (lv_room (Nat.le_of_ble_eq_true rfl)) dX7_count_96 ⟨Nat.le_of_ble_eq_true rfl, Nat.le_of_ble_eq_true rfl⟩) ?_
        exact q_wi hx hb hr hlocks hW hS dX7_count_99 (by rw [if_pos (show 0 ≤ x ∧ x ≤ nI 13 from c_8)]; unfold cof; rw [sw29]; rfl) (by exact ⟨Or.inl ⟨c_8, ⟨_, _, _, _, _, _, _, _, _, _, hm0, hm1, ⟨hRp, hP⟩, hm38, hsv, hm39, hm40, hsl, hm41, hbu, hm42, hm43, hm44⟩⟩, by intro id h9; rw [fr25 id (by omega)]; rw [fr16 id (by omega)]; try rfl⟩) (by decide) (by decide)
      · skip
        refine q_top (y := nI 3) (congrArg nI sw29) ?_
        refine lv_tableIn (tgt := 100) (off := 71) hx hb dX7_count_29 (by decide) (by decide) rfl (by decide) ?_
        refine lv_aload_n hx hb dX7_count_100 rfl (lv_at hl 0 rfl) ?_
        refine q_R1 (va_runV (As := []) (rest := []) ⟨hx, hb, hml, hown, hts⟩ (c_X7_allMasked l hm0 hm1 hRp hP hm43) (cwV 0 hts gX7_count_X7_allMasked rfl rfl rfl (by decide +kernel) ⟨Nat.le_of_ble_eq_true rfl, Nat.le_of_ble_eq_true rfl⟩) (q_preV hG hW hS hm0 rfl) rfl rfl hl.1 rfl (lv_room (Nat.le_of_ble_eq_true rfl)) dX7_count_101 ⟨Nat.le_of_ble_eq_true rfl, Nat.le_of_ble_eq_true rfl⟩) ?_
        exact q_wi hx hb hr hlocks hW hS dX7_count_104 (by rw [if_pos (show 0 ≤ x ∧ x ≤ nI 13 from c_8)]; unfold cof; rw [sw29]; rfl) (by exact ⟨Or.inl ⟨c_8, ⟨_, _, _, _, _, _, _, _, _, _, hm0, hm1, ⟨hRp, hP⟩, hm38, hsv, hm39, hm40, hsl, hm41, hbu, hm42, hm43, hm44⟩⟩, by intro id h9; rw [fr25 id (by omega)]; rw [fr16 id (by omega)]; try rfl⟩) (by decide) (by decide)
      · skip
        refine q_top (y := nI 4) (congrArg nI sw29) ?_
        refine lv_tableIn (tgt := 105) (off := 76) hx hb dX7_count_29 (by decide) (by decide) rfl (by decide) ?_
        refine lv_aload_n hx hb dX7_count_105 rfl (lv_at hl 0 rfl) ?_
        refine q_R1 (va_runV (As := []) (rest := []) ⟨hx, hb, hml, hown, hts⟩ (c_X7_lastSecond l hm0 hm1 hRp hP) (cwV 0 hts gX7_count_X7_lastSecond rfl rfl rfl (by decide +kernel) ⟨Nat.le_of_ble_eq_true rfl, Nat.le_of_ble_eq_true rfl⟩) (q_preV hG hW hS hm0 rfl) rfl rfl hl.1 rfl (lv_room (Nat.le_of_ble_eq_true rfl)) dX7_count_106 ⟨Nat.le_of_ble_eq_true rfl, Nat.le_of_ble_eq_true rfl⟩) ?_
        exact q_wi hx hb hr hlocks hW hS dX7_count_109 (by rw [if_pos (show 0 ≤ x ∧ x ≤ nI 13 from c_8)]; unfold cof; rw [sw29]; rfl) (by exact ⟨Or.inl ⟨c_8, ⟨_, _, _, _, _, _, _, _, _, _, hm0, hm1, ⟨hRp, hP⟩, hm38, hsv, hm39, hm40, hsl, hm41, hbu, hm42, hm43, hm44⟩⟩, by intro id h9; rw [fr25 id (by omega)]; rw [fr16 id (by omega)]; try rfl⟩) (by decide) (by decide)
      · skip
        refine q_top (y := nI 5) (congrArg nI sw29) ?_
        refine lv_tableIn (tgt := 110) (off := 81) hx hb dX7_count_29 (by decide) (by decide) rfl (by decide) ?_
        refine lv_aload_n hx hb dX7_count_110 rfl (lv_at hl 0 rfl) ?_
        refine q_R1 (va_runV (As := []) (rest := []) ⟨hx, hb, hml, hown, hts⟩ (c_X7_silentSeconds l hm0 hm1 hRp hP) (cwV 0 hts gX7_count_X7_silentSeconds rfl rfl rfl (by decide +kernel) ⟨Nat.le_of_ble_eq_true rfl, Nat.le_of_ble_eq_true rfl⟩) (q_preV hG hW hS hm0 rfl) rfl rfl hl.1 rfl (lv_room (Nat.le_of_ble_eq_true rfl)) dX7_count_111 ⟨Nat.le_of_ble_eq_true rfl, Nat.le_of_ble_eq_true rfl⟩) ?_
        exact q_wi hx hb hr hlocks hW hS dX7_count_114 (by rw [if_pos (show 0 ≤ x ∧ x ≤ nI 13 from c_8)]; unfold cof; rw [sw29]; rfl) (by exact ⟨Or.inl ⟨c_8, ⟨_, _, _, _, _, _, _, _, _, _, hm0, hm1, ⟨hRp, hP⟩, hm38, hsv, hm39, hm40, hsl, hm41, hbu, hm42, hm43, hm44⟩⟩, by intro id h9; rw [fr25 id (by omega)]; rw [fr16 id (by omega)]; try rfl⟩) (by decide) (by decide)
      · skip
        refine q_top (y := nI 6) (congrArg nI sw29) ?_
        refine lv_tableIn (tgt := 115) (off := 86) hx hb dX7_count_29 (by decide) (by decide) rfl (by decide) ?_
        refine lv_aload_n hx hb dX7_count_115 rfl (lv_at hl 0 rfl) ?_
        refine q_R1 (va_runV (As := []) (rest := []) ⟨hx, hb, hml, hown, hts⟩ (c_X7_masksMost l hm0 hm1 hRp hP hm42 hm43) (cwV 0 hts gX7_count_X7_masksMost rfl rfl rfl (by decide +kernel) ⟨Nat.le_of_ble_eq_true rfl, Nat.le_of_ble_eq_true rfl⟩) (q_preV hG hW hS hm0 rfl) rfl rfl hl.1 rfl (lv_room (Nat.le_of_ble_eq_true rfl)) dX7_count_116 ⟨Nat.le_of_ble_eq_true rfl, Nat.le_of_ble_eq_true rfl⟩) ?_
        exact q_wi hx hb hr hlocks hW hS dX7_count_119 (by rw [if_pos (show 0 ≤ x ∧ x ≤ nI 13 from c_8)]; unfold cof; rw [sw29]; rfl) (by exact ⟨Or.inl ⟨c_8, ⟨_, _, _, _, _, _, _, _, _, _, hm0, hm1, ⟨hRp, hP⟩, hm38, hsv, hm39, hm40, hsl, hm41, hbu, hm42, hm43, hm44⟩⟩, by intro id h9; rw [fr25 id (by omega)]; rw [fr16 id (by omega)]; try rfl⟩) (by decide) (by decide)
      · skip
        refine q_top (y := nI 7) (congrArg nI sw29) ?_
        refine lv_tableIn (tgt := 120) (off := 91) hx hb dX7_count_29 (by decide) (by decide) rfl (by decide) ?_
        refine lv_aload_n hx hb dX7_count_120 rfl (lv_at hl 0 rfl) ?_
        refine q_get hx hb hts hinX7 hown hG hW hm0 rfl 2 (by decide) (hts (.fieldLink RX7 47 "FoleyMixerModel" "savedMany" "I") (List.mem_of_getElem? (i := 2) rfl)) rfl rfl dX7_count_121 ?_
        exact q_wi hx hb hr hlocks hW hS dX7_count_124 (by rw [if_pos (show 0 ≤ x ∧ x ≤ nI 13 from c_8)]; unfold cof; rw [sw29]; rfl) (by exact ⟨Or.inl ⟨c_8, ⟨_, _, _, _, _, _, _, _, _, _, hm0, hm1, ⟨hRp, hP⟩, hm38, hsv, hm39, hm40, hsl, hm41, hbu, hm42, hm43, hm44⟩⟩, by intro id h9; rw [fr25 id (by omega)]; rw [fr16 id (by omega)]; try rfl⟩) (by decide) (by decide)
      · skip
        refine q_top (y := nI 8) (congrArg nI sw29) ?_
        refine lv_tableIn (tgt := 125) (off := 96) hx hb dX7_count_29 (by decide) (by decide) rfl (by decide) ?_
        refine lv_aload_n hx hb dX7_count_125 rfl (lv_at hl 0 rfl) ?_
        refine q_get hx hb hts hinX7 hown hG hW hm0 rfl 6 (by decide) (hts (.fieldLink RX7 117 "FoleyMixerModel" "length" "I") (List.mem_of_getElem? (i := 3) rfl)) rfl rfl dX7_count_126 ?_
        exact q_wi hx hb hr hlocks hW hS dX7_count_129 (by rw [if_pos (show 0 ≤ x ∧ x ≤ nI 13 from c_8)]; unfold cof; rw [sw29]; rfl) (by exact ⟨Or.inl ⟨c_8, ⟨_, _, _, _, _, _, _, _, _, _, hm0, hm1, ⟨hRp, hP⟩, hm38, hsv, hm39, hm40, hsl, hm41, hbu, hm42, hm43, hm44⟩⟩, by intro id h9; rw [fr25 id (by omega)]; rw [fr16 id (by omega)]; try rfl⟩) (by decide) (by decide)
      · skip
        refine q_top (y := nI 9) (congrArg nI sw29) ?_
        refine lv_tableOut (tgt := 130) hx hb dX7_count_29 (by decide) (by decide) ?_
        refine lv_aload_n hx hb dX7_count_130 rfl (lv_at hl 0 rfl) ?_
        refine q_get hx hb hts hinX7 hown hG hW hm0 rfl 0 (by decide) (hts (.fieldLink RX7 7 "FoleyMixerModel" "s" "[I") (List.mem_of_getElem? (i := 1) rfl)) rfl rfl dX7_count_131 ?_
        refine lv_iload_n hx hb dX7_count_134 rfl (lv_at hl 1 rfl) ?_
        refine lv_bipush (v := nI 9) hx hb dX7_count_135 (by decide) ?_
        refine lv_isub hx hb dX7_count_137 ?_
        refine q_top (y := nI ((i32n x) - 9)) (nI_sub (by omega)) ?_
        refine q_iald hx hb hG hW hm1 (by omega) (by omega) dX7_count_138 ?_
        refine q_top (y := nI (P.S (i32n x - 9))) (by exact congrArg nI (hRp.1 _ (by omega))) ?_
        exact q_wi hx hb hr hlocks hW hS dX7_count_139 (by rw [if_pos (show 0 ≤ x ∧ x ≤ nI 13 from c_8)]; unfold cof; rw [if_pos (by omega)]) (by exact ⟨Or.inl ⟨c_8, ⟨_, _, _, _, _, _, _, _, _, _, hm0, hm1, ⟨hRp, hP⟩, hm38, hsv, hm39, hm40, hsl, hm41, hbu, hm42, hm43, hm44⟩⟩, by intro id h9; rw [fr25 id (by omega)]; rw [fr16 id (by omega)]; try rfl⟩) (by decide) (by decide)
      · skip
        refine q_top (y := nI 10) (congrArg nI sw29) ?_
        refine lv_tableOut (tgt := 130) hx hb dX7_count_29 (by decide) (by decide) ?_
        refine lv_aload_n hx hb dX7_count_130 rfl (lv_at hl 0 rfl) ?_
        refine q_get hx hb hts hinX7 hown hG hW hm0 rfl 0 (by decide) (hts (.fieldLink RX7 7 "FoleyMixerModel" "s" "[I") (List.mem_of_getElem? (i := 1) rfl)) rfl rfl dX7_count_131 ?_
        refine lv_iload_n hx hb dX7_count_134 rfl (lv_at hl 1 rfl) ?_
        refine lv_bipush (v := nI 9) hx hb dX7_count_135 (by decide) ?_
        refine lv_isub hx hb dX7_count_137 ?_
        refine q_top (y := nI ((i32n x) - 9)) (nI_sub (by omega)) ?_
        refine q_iald hx hb hG hW hm1 (by omega) (by omega) dX7_count_138 ?_
        refine q_top (y := nI (P.S (i32n x - 9))) (by exact congrArg nI (hRp.1 _ (by omega))) ?_
        exact q_wi hx hb hr hlocks hW hS dX7_count_139 (by rw [if_pos (show 0 ≤ x ∧ x ≤ nI 13 from c_8)]; unfold cof; rw [if_pos (by omega)]) (by exact ⟨Or.inl ⟨c_8, ⟨_, _, _, _, _, _, _, _, _, _, hm0, hm1, ⟨hRp, hP⟩, hm38, hsv, hm39, hm40, hsl, hm41, hbu, hm42, hm43, hm44⟩⟩, by intro id h9; rw [fr25 id (by omega)]; rw [fr16 id (by omega)]; try rfl⟩) (by decide) (by decide)
      · skip
        refine q_top (y := nI 11) (congrArg nI sw29) ?_
        refine lv_tableOut (tgt := 130) hx hb dX7_count_29 (by decide) (by decide) ?_
        refine lv_aload_n hx hb dX7_count_130 rfl (lv_at hl 0 rfl) ?_
        refine q_get hx hb hts hinX7 hown hG hW hm0 rfl 0 (by decide) (hts (.fieldLink RX7 7 "FoleyMixerModel" "s" "[I") (List.mem_of_getElem? (i := 1) rfl)) rfl rfl dX7_count_131 ?_
        refine lv_iload_n hx hb dX7_count_134 rfl (lv_at hl 1 rfl) ?_
        refine lv_bipush (v := nI 9) hx hb dX7_count_135 (by decide) ?_
        refine lv_isub hx hb dX7_count_137 ?_
        refine q_top (y := nI ((i32n x) - 9)) (nI_sub (by omega)) ?_
        refine q_iald hx hb hG hW hm1 (by omega) (by omega) dX7_count_138 ?_
        refine q_top (y := nI (P.S (i32n x - 9))) (by exact congrArg nI (hRp.1 _ (by omega))) ?_
        exact q_wi hx hb hr hlocks hW hS dX7_count_139 (by rw [if_pos (show 0 ≤ x ∧ x ≤ nI 13 from c_8)]; unfold cof; rw [if_pos (by omega)]) (by exact ⟨Or.inl ⟨c_8, ⟨_, _, _, _, _, _, _, _, _, _, hm0, hm1, ⟨hRp, hP⟩, hm38, hsv, hm39, hm40, hsl, hm41, hbu, hm42, hm43, hm44⟩⟩, by intro id h9; rw [fr25 id (by omega)]; rw [fr16 id (by omega)]; try rfl⟩) (by decide) (by decide)
      · skip
        refine q_top (y := nI 12) (congrArg nI sw29) ?_
        refine lv_tableOut (tgt := 130) hx hb dX7_count_29 (by decide) (by decide) ?_
        refine lv_aload_n hx hb dX7_count_130 rfl (lv_at hl 0 rfl) ?_
        refine q_get hx hb hts hinX7 hown hG hW hm0 rfl 0 (by decide) (hts (.fieldLink RX7 7 "FoleyMixerModel" "s" "[I") (List.mem_of_getElem? (i := 1) rfl)) rfl rfl dX7_count_131 ?_
        refine lv_iload_n hx hb dX7_count_134 rfl (lv_at hl 1 rfl) ?_
        refine lv_bipush (v := nI 9) hx hb dX7_count_135 (by decide) ?_
        refine lv_isub hx hb dX7_count_137 ?_
        refine q_top (y := nI ((i32n x) - 9)) (nI_sub (by omega)) ?_
        refine q_iald hx hb hG hW hm1 (by omega) (by omega) dX7_count_138 ?_
        refine q_top (y := nI (P.S (i32n x - 9))) (by exact congrArg nI (hRp.1 _ (by omega))) ?_
        exact q_wi hx hb hr hlocks hW hS dX7_count_139 (by rw [if_pos (show 0 ≤ x ∧ x ≤ nI 13 from c_8)]; unfold cof; rw [if_pos (by omega)]) (by exact ⟨Or.inl ⟨c_8, ⟨_, _, _, _, _, _, _, _, _, _, hm0, hm1, ⟨hRp, hP⟩, hm38, hsv, hm39, hm40, hsl, hm41, hbu, hm42, hm43, hm44⟩⟩, by intro id h9; rw [fr25 id (by omega)]; rw [fr16 id (by omega)]; try rfl⟩) (by decide) (by decide)
      · skip
        refine q_top (y := nI 13) (congrArg nI sw29) ?_
        refine lv_tableOut (tgt := 130) hx hb dX7_count_29 (by decide) (by decide) ?_
        refine lv_aload_n hx hb dX7_count_130 rfl (lv_at hl 0 rfl) ?_
        refine q_get hx hb hts hinX7 hown hG hW hm0 rfl 0 (by decide) (hts (.fieldLink RX7 7 "FoleyMixerModel" "s" "[I") (List.mem_of_getElem? (i := 1) rfl)) rfl rfl dX7_count_131 ?_
        refine lv_iload_n hx hb dX7_count_134 rfl (lv_at hl 1 rfl) ?_
        refine lv_bipush (v := nI 9) hx hb dX7_count_135 (by decide) ?_
        refine lv_isub hx hb dX7_count_137 ?_
        refine q_top (y := nI ((i32n x) - 9)) (nI_sub (by omega)) ?_
        refine q_iald hx hb hG hW hm1 (by omega) (by omega) dX7_count_138 ?_
        refine q_top (y := nI (P.S (i32n x - 9))) (by exact congrArg nI (hRp.1 _ (by omega))) ?_
        exact q_wi hx hb hr hlocks hW hS dX7_count_139 (by rw [if_pos (show 0 ≤ x ∧ x ≤ nI 13 from c_8)]; unfold cof; rw [if_pos (by omega)]) (by exact ⟨Or.inl ⟨c_8, ⟨_, _, _, _, _, _, _, _, _, _, hm0, hm1, ⟨hRp, hP⟩, hm38, hsv, hm39, hm40, hsl, hm41, hbu, hm42, hm43, hm44⟩⟩, by intro id h9; rw [fr25 id (by omega)]; rw [fr16 id (by omega)]; try rfl⟩) (by decide) (by decide)
    · skip
      have c_19 : 1 = 0 := (nI_eq0 (i := 1) (by omega)).mp c_19
      exact absurd c_19 (by omega)

set_option maxHeartbeats 300000 in
set_option maxRecDepth 100000 in
/-- total -/
theorem c_X7_total (l : Launch) {D : va_G} {dA : Nat → Nat} {b : Nat} {w : Wd} {n nc : Nat} {P : Pl} {Hs : Nat → Pl} {SL : Nat → Option Pl} {C : Nat → Nat} {tt : Int32} (hmd : isMod dA b w (P, (n, Hs), SL, (nc, C)) tt) (x : Int32) : Met l yX7_total wsX7_total ({ frames := 1, cells := 0, slots := 0, locals := 22 } : Room) (PC D dA b w [.ref (b + 36), .int (x)]) (QW D b (some (.int (if 0 ≤ x ∧ x ≤ nI 1 then nI (ttc P) else 0))) (fun w' => (((0 ≤ x ∧ x ≤ nI 1) ∧ isMod dA b w' (P, (n, Hs), SL, (nc, C)) (nI 0)) ∨ ((¬ (0 ≤ x ∧ x ≤ nI 1)) ∧ isMod dA b w' (P, (n, Hs), SL, (nc, C)) (nI 1))) ∧ ∀ id : Nat, (id < 36 ∨ 45 ≤ id) → w' id = w id)) 0 0 (Fb b) := by
  refine q_of (cc := cX7_total) (maxL := 4) (ret := (some .int)) (by decide) rfl rfl ?_
  intro p e s m args below meth c ls hx hb hr hml hts hown hlocks hG hW hS hl
  have hown : s.vm.findClass RX7 = some m.cls := hown
  have hinX7 : ∀ w ∈ u_ws RX7 TX7 14, w ∈ wsX7_total := fun w h => (goodIn_r (big := wsX7_total) (u_ws RX7 TX7 14) [19, 20, 21, 22, 23, 24, 25, 26, 27, 28, 29, 30, 31, 32] (by decide +kernel) (by decide +kernel) w h).1
  have hl : lv_has ls 4 [(0, .ref (b + 36)), (1, .int (x))] := hl
  obtain ⟨pl, lt, dn, F, G, GS, Zt, D0, M0, TD, hm0, hm1, ⟨hRp, hP⟩, hm38, hsv, hm39, hm40, hsl, hm41, hbu, hm42, hm43, hm44⟩ := id hmd
  change w 36 = some (modO b (nI n) (nI nc) tt pl lt dn) at hm0
  change rep F P at hRp
  change okP P at hP
  change mSv n G Hs at hsv
  change mSl GS Zt SL at hsl
  change w 41 = some (eN dA 80 C) at hm41
  change mBu nc C at hbu
  have hn6 := hsv.1
  have hnc := hbu.1
  obtain ⟨hPw, hPn, hPW, hPN, hPS⟩ := id hP
  have hr5 := hRp.2.1
  have hr6 := hRp.2.2.1
  refine lv_aload_n hx hb dX7_total_0 rfl (lv_at hl 0 rfl) ?_
  refine lv_iload_n hx hb dX7_total_1 rfl (lv_at hl 1 rfl) ?_
  refine lv_iconst (v := nI 0) hx hb dX7_total_2 (by decide) ?_
  refine lv_iconst (v := nI 1) hx hb dX7_total_3 (by decide) ?_
  refine q_R1 (va_runS (As := [.int (x), .int (nI 0), .int (nI 1)]) (rest := [.ref (b + 36)]) ⟨hx, hb, hml, hown, hts⟩ (c_X7_in l (x) (nI (0)) (nI (1))) (va_cwS 3 hts gX7_total_X7_in rfl rfl rfl (by decide +kernel) ⟨Nat.le_of_ble_eq_true rfl, Nat.le_of_ble_eq_true rfl⟩) (q_preS hG hW hS) rfl rfl hl.1 rfl (lv_room (Nat.le_of_ble_eq_true rfl)) dX7_total_4 ⟨Nat.le_of_ble_eq_true rfl, Nat.le_of_ble_eq_true rfl⟩) ?_
  refine lv_if_eq (tgt := 14) hx hb dX7_total_7 (by decide) (fun c_7 => ?_) (fun c_7 => ?_)
  · skip
    have c_7 : ¬ ((nI (0)) ≤ (x) ∧ (x) ≤ (nI (1))) := pI_eq0.mp c_7
    refine lv_iconst (v := nI 1) hx hb dX7_total_14 (by decide) ?_
    refine q_W1 (va_runV (As := [.int (nI 1)]) (rest := []) ⟨hx, hb, hml, hown, hts⟩ (c_X7_holds l hm0 (nI (1))) (cwV 1 hts gX7_total_X7_holds rfl rfl rfl (by decide +kernel) ⟨Nat.le_of_ble_eq_true rfl, Nat.le_of_ble_eq_true rfl⟩) (q_preV hG hW hS hm0 rfl) rfl rfl hl.1 rfl (lv_room (Nat.le_of_ble_eq_true rfl)) dX7_total_15 ⟨Nat.le_of_ble_eq_true rfl, Nat.le_of_ble_eq_true rfl⟩) hS (fun w_15 H locs hp15 hW hS => ?_)
    obtain ⟨hm0, fr15⟩ := hp15
    replace hm1 : w_15 37 = some (eN dA 85 F) := (fr15 _ (by omega)).trans hm1
    replace hm38 : w_15 38 = some (eN dA 510 G) := (fr15 _ (by omega)).trans hm38
    replace hm39 : w_15 39 = some (eN dA 170 GS) := (fr15 _ (by omega)).trans hm39
    replace hm40 : w_15 40 = some (eZ dA 2 Zt) := (fr15 _ (by omega)).trans hm40
    replace hm41 : w_15 41 = some (eN dA 80 C) := (fr15 _ (by omega)).trans hm41
    replace hm42 : w_15 42 = some (eN dA 120 D0) := (fr15 _ (by omega)).trans hm42
    replace hm43 : w_15 43 = some (eN dA 120 M0) := (fr15 _ (by omega)).trans hm43
    replace hm44 : w_15 44 = some (eN dA 3 TD) := (fr15 _ (by omega)).trans hm44
    refine q_topv (v' := .int (nI 0)) (congrArg Value.int (by decide)) ?_
    refine lv_if_ne (tgt := 23) hx hb dX7_total_18 (by decide) (fun c_18 => ?_) (fun c_18 => ?_)
    · skip
      have c_18 : ¬ (0 = 0) := fun h__ => c_18 ((nI_eq0 (i := 0) (by omega)).mpr h__)
      exact absurd c_18 (by omega)
    · skip
      have c_18 : 0 = 0 := (nI_eq0 (i := 0) (by omega)).mp c_18
      refine lv_iconst (v := nI 0) hx hb dX7_total_21 (by decide) ?_
      exact q_wi hx hb hr hlocks hW hS dX7_total_22 (by rw [if_neg (by first | exact fun q9 => c_7 q9)]; rfl) (by exact ⟨Or.inr ⟨c_7, ⟨_, _, _, _, _, _, _, _, _, _, hm0, hm1, ⟨hRp, hP⟩, hm38, hsv, hm39, hm40, hsl, hm41, hbu, hm42, hm43, hm44⟩⟩, by intro id h9; rw [fr15 id (by omega)]; try rfl⟩) (by decide) (by decide)
  · skip
    have c_7 : (nI (0)) ≤ (x) ∧ (x) ≤ (nI (1)) := Decidable.byContradiction (fun h__ => c_7 (pI_eq0.mpr h__))
    refine lv_iconst (v := nI 0) hx hb dX7_total_10 (by decide) ?_
    refine lv_goto (tgt := 15) hx hb dX7_total_11 (by decide) ?_
    refine q_W1 (va_runV (As := [.int (nI 0)]) (rest := []) ⟨hx, hb, hml, hown, hts⟩ (c_X7_holds l hm0 (nI (0))) (cwV 1 hts gX7_total_X7_holds rfl rfl rfl (by decide +kernel) ⟨Nat.le_of_ble_eq_true rfl, Nat.le_of_ble_eq_true rfl⟩) (q_preV hG hW hS hm0 rfl) rfl rfl hl.1 rfl (lv_room (Nat.le_of_ble_eq_true rfl)) dX7_total_15 ⟨Nat.le_of_ble_eq_true rfl, Nat.le_of_ble_eq_true rfl⟩) hS (fun w_15 H locs hp15 hW hS => ?_)
    obtain ⟨hm0, fr15⟩ := hp15
    replace hm1 : w_15 37 = some (eN dA 85 F) := (fr15 _ (by omega)).trans hm1
    replace hm38 : w_15 38 = some (eN dA 510 G) := (fr15 _ (by omega)).trans hm38
    replace hm39 : w_15 39 = some (eN dA 170 GS) := (fr15 _ (by omega)).trans hm39
    replace hm40 : w_15 40 = some (eZ dA 2 Zt) := (fr15 _ (by omega)).trans hm40
    replace hm41 : w_15 41 = some (eN dA 80 C) := (fr15 _ (by omega)).trans hm41
    replace hm42 : w_15 42 = some (eN dA 120 D0) := (fr15 _ (by omega)).trans hm42
    replace hm43 : w_15 43 = some (eN dA 120 M0) := (fr15 _ (by omega)).trans hm43
    replace hm44 : w_15 44 = some (eN dA 3 TD) := (fr15 _ (by omega)).trans hm44
    refine q_topv (v' := .int (nI 1)) (congrArg Value.int (by decide)) ?_
    refine lv_if_ne (tgt := 23) hx hb dX7_total_18 (by decide) (fun c_18 => ?_) (fun c_18 => ?_)
    · skip
      have c_18 : ¬ (1 = 0) := fun h__ => c_18 ((nI_eq0 (i := 1) (by omega)).mpr h__)
      refine lv_iconst (v := nI 0) hx hb dX7_total_23 (by decide) ?_
      refine lv_istore_n (lv' := [(2, .int (nI 0)), (0, .ref (b + 36)), (1, .int (x))]) hx hb dX7_total_24 rfl hl (by decide) rfl (fun ls hl => ?_)
      refine lv_iconst (v := nI 0) hx hb dX7_total_25 (by decide) ?_
      refine lv_istore_n (lv' := [(3, .int (nI 0)), (2, .int (nI 0)), (0, .ref (b + 36)), (1, .int (x))]) hx hb dX7_total_26 rfl hl (by decide) rfl (fun ls hl => ?_)
      have L27 : ∀ (n27 : Nat) (u : Nat), u ≤ P.w → P.w - u < n27 → ∀ (x27_2 : Int32) (x27_3 : Int32), x27_2 = nI (sm (fun j => P.W j 1 * P.W j 2) u) → x27_3 = nI (u) → ∀ (ls : Array Slot), lv_has ls 4 [(0, .ref (b + 36)), (1, .int (x)), (2, .int x27_2), (3, .int x27_3)] → W p l e ({ frames := 1, cells := 0, slots := 0, locals := 22 } : Room) s m args below meth c H locs 0 0 (MQ below (QW D b (some (.int (if 0 ≤ x ∧ x ≤ nI 1 then nI (ttc P) else 0))) (fun w' => (((0 ≤ x ∧ x ≤ nI 1) ∧ isMod dA b w' (P, (n, Hs), SL, (nc, C)) (nI 0)) ∨ ((¬ (0 ≤ x ∧ x ≤ nI 1)) ∧ isMod dA b w' (P, (n, Hs), SL, (nc, C)) (nI 1))) ∧ ∀ id : Nat, (id < 36 ∨ 45 ≤ id) → w' id = w id)) args s 0 0 (Fb b)) (F0 m 27 ls []) := by
        intro n27
        induction n27 with
        | zero =>
          intro u hu0 hn27 x27_2 x27_3 ex27_2 ex27_3 ls hl
          exact absurd hn27 (Nat.not_lt_zero _)
        | succ n27 ih27 =>
          intro u hu0 hn27 x27_2 x27_3 ex27_2 ex27_3 ls hl
          subst ex27_2 ex27_3
          refine lv_iload_n hx hb dX7_total_27 rfl (lv_at hl 3 rfl) ?_
          refine lv_aload_n hx hb dX7_total_28 rfl (lv_at hl 0 rfl) ?_
          refine q_get hx hb hts hinX7 hown hG hW hm0 rfl 0 (by decide) (hts (.fieldLink RX7 7 "FoleyMixerModel" "s" "[I") (List.mem_of_getElem? (i := 1) rfl)) rfl rfl dX7_total_29 ?_
          refine lv_iconst (v := nI 5) hx hb dX7_total_32 (by decide) ?_
          refine q_iald hx hb hG hW hm1 (by omega) (by omega) dX7_total_33 ?_
          refine q_top (y := nI (P.w)) (by exact congrArg nI hr5) ?_
          refine lv_icmp_ge (tgt := 59) hx hb dX7_total_34 (by decide) (fun c_34 => ?_) (fun c_34 => ?_)
          · skip
            have c_34 : P.w ≤ u := (nI_leI (a := P.w) (b := u) (by omega) (by omega)).mp c_34
            refine lv_iconst (v := nI 0) hx hb dX7_total_59 (by decide) ?_
            refine lv_istore_n (lv' := [(3, .int (nI 0)), (0, .ref (b + 36)), (1, .int (x)), (2, .int (nI (sm (fun j => P.W j 1 * P.W j 2) u)))]) hx hb dX7_total_60 rfl hl (by decide) rfl (fun ls hl => ?_)
            have L61 : ∀ (n61 : Nat) (v : Nat), v ≤ P.n → P.n - v < n61 → ∀ (x61_2 : Int32) (x61_3 : Int32), x61_2 = nI (sm (fun j => P.W j 1 * P.W j 2) P.w + sm (fun j => P.N j 1 * P.N j 2) v) → x61_3 = nI (v) → ∀ (ls : Array Slot), lv_has ls 4 [(0, .ref (b + 36)), (1, .int (x)), (2, .int x61_2), (3, .int x61_3)] → W p l e ({ frames := 1, cells := 0, slots := 0, locals := 22 } : Room) s m args below meth c H locs 0 0 (MQ below (QW D b (some (.int (if 0 ≤ x ∧ x ≤ nI 1 then nI (ttc P) else 0))) (fun w' => (((0 ≤ x ∧ x ≤ nI 1) ∧ isMod dA b w' (P, (n, Hs), SL, (nc, C)) (nI 0)) ∨ ((¬ (0 ≤ x ∧ x ≤ nI 1)) ∧ isMod dA b w' (P, (n, Hs), SL, (nc, C)) (nI 1))) ∧ ∀ id : Nat, (id < 36 ∨ 45 ≤ id) → w' id = w id)) args s 0 0 (Fb b)) (F0 m 61 ls []) := by
              intro n61
              induction n61 with
              | zero =>
                intro v hv0 hn61 x61_2 x61_3 ex61_2 ex61_3 ls hl
                exact absurd hn61 (Nat.not_lt_zero _)
              | succ n61 ih61 =>
                intro v hv0 hn61 x61_2 x61_3 ex61_2 ex61_3 ls hl
                subst ex61_2 ex61_3
                refine lv_iload_n hx hb dX7_total_61 rfl (lv_at hl 3 rfl) ?_
                refine lv_aload_n hx hb dX7_total_62 rfl (lv_at hl 0 rfl) ?_
                refine q_get hx hb hts hinX7 hown hG hW hm0 rfl 0 (by decide) (hts (.fieldLink RX7 7 "FoleyMixerModel" "s" "[I") (List.mem_of_getElem? (i := 1) rfl)) rfl rfl dX7_total_63 ?_
                refine lv_bipush (v := nI 6) hx hb dX7_total_66 (by decide) ?_
                refine q_iald hx hb hG hW hm1 (by omega) (by omega) dX7_total_68 ?_
                refine q_top (y := nI (P.n)) (by exact congrArg nI hr6) ?_
                refine lv_icmp_ge (tgt := 94) hx hb dX7_total_69 (by decide) (fun c_69 => ?_) (fun c_69 => ?_)
                · skip
                  have c_69 : P.n ≤ v := (nI_leI (a := P.n) (b := v) (by omega) (by omega)).mp c_69
                  refine lv_iload_n hx hb dX7_total_94 rfl (lv_at hl 2 rfl) ?_
                  exact q_wi hx hb hr hlocks hW hS dX7_total_95 (by rw [if_pos (show 0 ≤ x ∧ x ≤ nI 1 from c_7), show v = P.n by omega]; rfl) (by exact ⟨Or.inl ⟨c_7, ⟨_, _, _, _, _, _, _, _, _, _, hm0, hm1, ⟨hRp, hP⟩, hm38, hsv, hm39, hm40, hsl, hm41, hbu, hm42, hm43, hm44⟩⟩, by intro id h9; rw [fr15 id (by omega)]; try rfl⟩) (by decide) (by decide)
                · skip
                  have c_69 : ¬ (P.n ≤ v) := fun h__ => c_69 ((nI_leI (a := P.n) (b := v) (by omega) (by omega)).mpr h__)
                  refine lv_iload_n hx hb dX7_total_72 rfl (lv_at hl 2 rfl) ?_
                  refine lv_aload_n hx hb dX7_total_73 rfl (lv_at hl 0 rfl) ?_
                  refine lv_iload_n hx hb dX7_total_74 rfl (lv_at hl 3 rfl) ?_
                  refine lv_iconst (v := nI 1) hx hb dX7_total_75 (by decide) ?_
                  refine q_R1 (va_runV (As := [.int (nI v), .int (nI 1)]) (rest := [.int (nI (sm (fun j => P.W j 1 * P.W j 2) P.w + sm (fun j => P.N j 1 * P.N j 2) v))]) ⟨hx, hb, hml, hown, hts⟩ (c_ofN l hm0 hm1 hRp hP (v) (1) (by omega) (by omega)) (cwV 2 hts gX7_total_X7_ofNoise rfl rfl rfl (by decide +kernel) ⟨Nat.le_of_ble_eq_true rfl, Nat.le_of_ble_eq_true rfl⟩) (q_preV hG hW hS hm0 rfl) rfl rfl hl.1 rfl (lv_room (Nat.le_of_ble_eq_true rfl)) dX7_total_76 ⟨Nat.le_of_ble_eq_true rfl, Nat.le_of_ble_eq_true rfl⟩) ?_
                  refine lv_aload_n hx hb dX7_total_79 rfl (lv_at hl 0 rfl) ?_
                  refine lv_iload_n hx hb dX7_total_80 rfl (lv_at hl 3 rfl) ?_
                  refine lv_iconst (v := nI 2) hx hb dX7_total_81 (by decide) ?_
                  refine q_R1 (va_runV (As := [.int (nI v), .int (nI 2)]) (rest := [.int (nI (P.N v 1)), .int (nI (sm (fun j => P.W j 1 * P.W j 2) P.w + sm (fun j => P.N j 1 * P.N j 2) v))]) ⟨hx, hb, hml, hown, hts⟩ (c_ofN l hm0 hm1 hRp hP (v) (2) (by omega) (by omega)) (cwV 2 hts gX7_total_X7_ofNoise rfl rfl rfl (by decide +kernel) ⟨Nat.le_of_ble_eq_true rfl, Nat.le_of_ble_eq_true rfl⟩) (q_preV hG hW hS hm0 rfl) rfl rfl hl.1 rfl (lv_room (Nat.le_of_ble_eq_true rfl)) dX7_total_82 ⟨Nat.le_of_ble_eq_true rfl, Nat.le_of_ble_eq_true rfl⟩) ?_
                  refine lv_imul hx hb dX7_total_85 ?_
                  refine q_top (y := nI ((P.N v 1) * (P.N v 2))) (nI_mul _ _) ?_
                  refine lv_iadd hx hb dX7_total_86 ?_
                  refine q_top (y := nI ((sm (fun j => P.W j 1 * P.W j 2) P.w + sm (fun j => P.N j 1 * P.N j 2) v) + ((P.N v 1) * (P.N v 2)))) (nI_add _ _) ?_
                  refine lv_istore_n (lv' := [(2, .int (nI ((sm (fun j => P.W j 1 * P.W j 2) P.w + sm (fun j => P.N j 1 * P.N j 2) v) + ((P.N v 1) * (P.N v 2))))), (0, .ref (b + 36)), (1, .int (x)), (3, .int (nI v))]) hx hb dX7_total_87 rfl hl (by decide) rfl (fun ls hl => ?_)
                  refine lv_iinc (v := nI (v + 1)) (lv' := [(3, .int (nI (v + 1))), (2, .int (nI ((sm (fun j => P.W j 1 * P.W j 2) P.w + sm (fun j => P.N j 1 * P.N j 2) v) + ((P.N v 1) * (P.N v 2))))), (0, .ref (b + 36)), (1, .int (x))]) hx hb dX7_total_88 hl (k := 3) rfl (nI_add _ 1) (by decide) rfl (fun ls hl => ?_)
                  refine lv_goto (tgt := 61) hx hb dX7_total_91 (by decide) ?_
                  exact ih61 (v + 1) (by omega) (by omega) _ _ (by refine congrArg nI ?_; rw [sm]; exact Nat.add_assoc _ _ _) (by first | rfl | (congr 1; omega)) _ (lv_sub hl [2, 3, 1, 0] rfl)
            exact L61 ((P.n - 0) + 1) 0 (by omega) (Nat.lt_succ_self _) _ _ (by rw [show u = P.w by omega]; rfl) (by first | rfl | (congr 1; omega)) _ (lv_sub hl [1, 2, 3, 0] rfl)
          · skip
            have c_34 : ¬ (P.w ≤ u) := fun h__ => c_34 ((nI_leI (a := P.w) (b := u) (by omega) (by omega)).mpr h__)
            refine lv_iload_n hx hb dX7_total_37 rfl (lv_at hl 2 rfl) ?_
            refine lv_aload_n hx hb dX7_total_38 rfl (lv_at hl 0 rfl) ?_
            refine lv_iload_n hx hb dX7_total_39 rfl (lv_at hl 3 rfl) ?_
            refine lv_iconst (v := nI 1) hx hb dX7_total_40 (by decide) ?_
            refine q_R1 (va_runV (As := [.int (nI u), .int (nI 1)]) (rest := [.int (nI (sm (fun j => P.W j 1 * P.W j 2) u))]) ⟨hx, hb, hml, hown, hts⟩ (c_ofW l hm0 hm1 hRp hP (u) (1) (by omega) (by omega)) (cwV 2 hts gX7_total_X7_ofWord rfl rfl rfl (by decide +kernel) ⟨Nat.le_of_ble_eq_true rfl, Nat.le_of_ble_eq_true rfl⟩) (q_preV hG hW hS hm0 rfl) rfl rfl hl.1 rfl (lv_room (Nat.le_of_ble_eq_true rfl)) dX7_total_41 ⟨Nat.le_of_ble_eq_true rfl, Nat.le_of_ble_eq_true rfl⟩) ?_
            refine lv_aload_n hx hb dX7_total_44 rfl (lv_at hl 0 rfl) ?_
            refine lv_iload_n hx hb dX7_total_45 rfl (lv_at hl 3 rfl) ?_
            refine lv_iconst (v := nI 2) hx hb dX7_total_46 (by decide) ?_
            refine q_R1 (va_runV (As := [.int (nI u), .int (nI 2)]) (rest := [.int (nI (P.W u 1)), .int (nI (sm (fun j => P.W j 1 * P.W j 2) u))]) ⟨hx, hb, hml, hown, hts⟩ (c_ofW l hm0 hm1 hRp hP (u) (2) (by omega) (by omega)) (cwV 2 hts gX7_total_X7_ofWord rfl rfl rfl (by decide +kernel) ⟨Nat.le_of_ble_eq_true rfl, Nat.le_of_ble_eq_true rfl⟩) (q_preV hG hW hS hm0 rfl) rfl rfl hl.1 rfl (lv_room (Nat.le_of_ble_eq_true rfl)) dX7_total_47 ⟨Nat.le_of_ble_eq_true rfl, Nat.le_of_ble_eq_true rfl⟩) ?_
            refine lv_imul hx hb dX7_total_50 ?_
            refine q_top (y := nI ((P.W u 1) * (P.W u 2))) (nI_mul _ _) ?_
            refine lv_iadd hx hb dX7_total_51 ?_
            refine q_top (y := nI ((sm (fun j => P.W j 1 * P.W j 2) u) + ((P.W u 1) * (P.W u 2)))) (nI_add _ _) ?_
            refine lv_istore_n (lv' := [(2, .int (nI ((sm (fun j => P.W j 1 * P.W j 2) u) + ((P.W u 1) * (P.W u 2))))), (0, .ref (b + 36)), (1, .int (x)), (3, .int (nI u))]) hx hb dX7_total_52 rfl hl (by decide) rfl (fun ls hl => ?_)
            refine lv_iinc (v := nI (u + 1)) (lv' := [(3, .int (nI (u + 1))), (2, .int (nI ((sm (fun j => P.W j 1 * P.W j 2) u) + ((P.W u 1) * (P.W u 2))))), (0, .ref (b + 36)), (1, .int (x))]) hx hb dX7_total_53 hl (k := 3) rfl (nI_add _ 1) (by decide) rfl (fun ls hl => ?_)
            refine lv_goto (tgt := 27) hx hb dX7_total_56 (by decide) ?_
            exact ih27 (u + 1) (by omega) (by omega) _ _ (by rfl) (by first | rfl | (congr 1; omega)) _ (lv_sub hl [2, 3, 1, 0] rfl)
      exact L27 ((P.w - 0) + 1) 0 (by omega) (Nat.lt_succ_self _) _ _ (by rfl) (by first | rfl | (congr 1; omega)) _ (lv_sub hl [2, 3, 1, 0] rfl)
    · skip
      have c_18 : 1 = 0 := (nI_eq0 (i := 1) (by omega)).mp c_18
      exact absurd c_18 (by omega)

set_option maxHeartbeats 300000 in
set_option maxRecDepth 100000 in
/-- toldWith -/
theorem c_X7_toldWith (l : Launch) {D : va_G} {dA : Nat → Nat} {b : Nat} {w : Wd} {sv nc th pl lt dn : Int32} (hm0 : w 36 = some (modO b sv nc th pl lt dn)) {F : Nat → Nat} (hm1 : w 37 = some (eN dA 85 F)) {Q9 : Pl} (hRq : rep F Q9) (hPq : okP Q9) {D0 M0 : Nat → Nat} (hm42 : w 42 = some (eN dA 120 D0)) (hm43 : w 43 = some (eN dA 120 M0)) (i v z : Nat) (hi : i < 5) (hv : okP (setS Q9 i v)) (hz : z ≤ 1) : Met l yX7_toldWith wsX7_toldWith ({ frames := 6, cells := 0, slots := 0, locals := 141 } : Room) (PC D dA b w [.ref (b + 36), .int (nI i), .int (nI v), .int (nI z)]) (QW D b (some (.int (nI (if z = 0 then und (setS Q9 i v) else ams (setS Q9 i v))))) (fun w' => (∃ D1 M1 : Nat → Nat, w' 42 = some (eN dA 120 D1) ∧ w' 43 = some (eN dA 120 M1)) ∧ ∀ id : Nat, id ≠ 42 ∧ id ≠ 43 → w' id = w id)) 0 0 (Fb b) := by
  refine q_of (cc := cX7_toldWith) (maxL := 6) (ret := (some .int)) (by decide) rfl rfl ?_
  intro p e s m args below meth c ls hx hb hr hml hts hown hlocks hG hW hS hl
  have hown : s.vm.findClass RX7 = some m.cls := hown
  have hinX7 : ∀ w ∈ u_ws RX7 TX7 14, w ∈ wsX7_toldWith := fun w h => (goodIn_r (big := wsX7_toldWith) (u_ws RX7 TX7 14) [61, 62, 63, 64, 65, 66, 67, 68, 69, 70, 71, 72, 73, 74] (by decide +kernel) (by decide +kernel) w h).1
  have hl : lv_has ls 6 [(0, .ref (b + 36)), (1, .int (nI i)), (2, .int (nI v)), (3, .int (nI z))] := hl
  have hm1o := hm1
  refine lv_aload_n hx hb dX7_toldWith_0 rfl (lv_at hl 0 rfl) ?_
  refine q_get hx hb hts hinX7 hown hG hW hm0 rfl 0 (by decide) (hts (.fieldLink RX7 7 "FoleyMixerModel" "s" "[I") (List.mem_of_getElem? (i := 1) rfl)) rfl rfl dX7_toldWith_1 ?_
  refine lv_iload_n hx hb dX7_toldWith_4 rfl (lv_at hl 1 rfl) ?_
  refine q_iald hx hb hG hW hm1 (by omega) (by omega) dX7_toldWith_5 ?_
  refine lv_istore (lv' := [(4, .int (nI (F i))), (0, .ref (b + 36)), (1, .int (nI i)), (2, .int (nI v)), (3, .int (nI z))]) hx hb dX7_toldWith_6 hl (by decide) rfl (fun ls hl => ?_)
  refine lv_aload_n hx hb dX7_toldWith_8 rfl (lv_at hl 1 rfl) ?_
  refine q_get hx hb hts hinX7 hown hG hW hm0 rfl 0 (by decide) (hts (.fieldLink RX7 7 "FoleyMixerModel" "s" "[I") (List.mem_of_getElem? (i := 1) rfl)) rfl rfl dX7_toldWith_9 ?_
  refine lv_iload_n hx hb dX7_toldWith_12 rfl (lv_at hl 2 rfl) ?_
  refine lv_iload_n hx hb dX7_toldWith_13 rfl (lv_at hl 3 rfl) ?_
  refine q_nast hx hb hG hW hS hm1 (by omega) (by omega) dX7_toldWith_14 (fun H locs hW hS hz14 => ?_)
  obtain ⟨w1, ew1⟩ : ∃ wq__ : Wd, wq__ = va_up w 37 (some (eN dA 85 (va_up F i v))) := ⟨_, rfl⟩
  replace hW : WP D b w1 H := by rw [ew1]; exact hW
  have frw1 : ∀ id : Nat, id ≠ 37 → w1 id = w id := fun id h9 => by rw [ew1, up_ne h9]
  replace hm0 : w1 36 = some (modO b (sv) (nc) (th) (pl) (lt) (dn)) := (frw1 _ (by omega)).trans hm0
  replace hm42 : w1 42 = some (eN dA 120 D0) := (frw1 _ (by omega)).trans hm42
  replace hm43 : w1 43 = some (eN dA 120 M0) := (frw1 _ (by omega)).trans hm43
  replace hm1 : w1 37 = some (eN dA 85 (va_up F i v)) := by rw [ew1]; exact up_eq
  obtain ⟨P, hPe⟩ : ∃ P : Pl, P = setS Q9 i v := ⟨_, rfl⟩
  have hRp : rep (va_up F i v) P := by rw [hPe]; exact rep_setS hRq hi
  have hP : okP P := by rw [hPe]; exact hv
  obtain ⟨hPw, hPn, hPW, hPN, hPS⟩ := id hP
  have hr5 := hRp.2.1
  have hr6 := hRp.2.2.1
  refine lv_aload_n hx hb dX7_toldWith_15 rfl (lv_at hl 1 rfl) ?_
  refine q_W0 (va_runV (As := []) (rest := []) ⟨hx, hb, hml, hown, hts⟩ (c_X7_layOut l hm0 hm1 hRp hP hm42 hm43) (cwV 0 hts gX7_toldWith_X7_layOut rfl rfl rfl (by decide +kernel) ⟨Nat.le_of_ble_eq_true rfl, Nat.le_of_ble_eq_true rfl⟩) (q_preV hG hW hS hm0 rfl) rfl rfl hl.1 rfl (lv_room (Nat.le_of_ble_eq_true rfl)) dX7_toldWith_16 ⟨Nat.le_of_ble_eq_true rfl, Nat.le_of_ble_eq_true rfl⟩) hS (fun w_16 H locs hp16 hW hS => ?_)
  obtain ⟨hm42, hm43, fr16⟩ := hp16
  replace hm0 : w_16 36 = some (modO b (sv) (nc) (th) (pl) (lt) (dn)) := (fr16 _ (by omega)).trans hm0
  replace hm1 : w_16 37 = some (eN dA 85 (va_up F i v)) := (fr16 _ (by omega)).trans hm1
  refine lv_iload_n hx hb dX7_toldWith_19 rfl (lv_at hl 4 rfl) ?_
  refine lv_if_ne (tgt := 30) hx hb dX7_toldWith_20 (by decide) (fun c_20 => ?_) (fun c_20 => ?_)
  · skip
    have c_20 : ¬ (z = 0) := fun h__ => c_20 ((nI_eq0 (i := z) (by omega)).mpr h__)
    refine lv_aload_n hx hb dX7_toldWith_30 rfl (lv_at hl 1 rfl) ?_
    refine q_R1 (va_runV (As := []) (rest := []) ⟨hx, hb, hml, hown, hts⟩ (c_X7_allMasked l hm0 hm1 hRp hP hm43) (cwV 0 hts gX7_toldWith_X7_allMasked rfl rfl rfl (by decide +kernel) ⟨Nat.le_of_ble_eq_true rfl, Nat.le_of_ble_eq_true rfl⟩) (q_preV hG hW hS hm0 rfl) rfl rfl hl.1 rfl (lv_room (Nat.le_of_ble_eq_true rfl)) dX7_toldWith_31 ⟨Nat.le_of_ble_eq_true rfl, Nat.le_of_ble_eq_true rfl⟩) ?_
    refine lv_istore (lv' := [(5, .int (nI (ams P))), (4, .int (nI (F i))), (0, .ref (b + 36)), (1, .int (nI i)), (2, .int (nI v)), (3, .int (nI z))]) hx hb dX7_toldWith_34 hl (by decide) rfl (fun ls hl => ?_)
    refine lv_aload_n hx hb dX7_toldWith_36 rfl (lv_at hl 2 rfl) ?_
    refine q_get hx hb hts hinX7 hown hG hW hm0 rfl 0 (by decide) (hts (.fieldLink RX7 7 "FoleyMixerModel" "s" "[I") (List.mem_of_getElem? (i := 1) rfl)) rfl rfl dX7_toldWith_37 ?_
    refine lv_iload_n hx hb dX7_toldWith_40 rfl (lv_at hl 3 rfl) ?_
    refine lv_iload hx hb dX7_toldWith_41 (lv_at hl 1 rfl) ?_
    refine q_nast hx hb hG hW hS hm1 (by omega) (by omega) dX7_toldWith_43 (fun H locs hW hS hz43 => ?_)
    obtain ⟨w2, ew2⟩ : ∃ wq__ : Wd, wq__ = va_up w_16 37 (some (eN dA 85 (va_up (va_up F i v) i (F i)))) := ⟨_, rfl⟩
    replace hW : WP D b w2 H := by rw [ew2]; exact hW
    have frw2 : ∀ id : Nat, id ≠ 37 → w2 id = w_16 id := fun id h9 => by rw [ew2, up_ne h9]
    replace hm0 : w2 36 = some (modO b (sv) (nc) (th) (pl) (lt) (dn)) := (frw2 _ (by omega)).trans hm0
    replace hm42 : w2 42 = some (eN dA 120 (dk P)) := (frw2 _ (by omega)).trans hm42
    replace hm43 : w2 43 = some (eN dA 120 (mmk P)) := (frw2 _ (by omega)).trans hm43
    replace hm1 : w2 37 = some (eN dA 85 (va_up (va_up F i v) i (F i))) := by rw [ew2]; exact up_eq
    refine lv_iload hx hb dX7_toldWith_44 (lv_at hl 0 rfl) ?_
    exact q_wi hx hb hr hlocks hW hS dX7_toldWith_46 (by rw [hPe]; first | (rw [if_pos (by omega)]; done) | (rw [if_neg (by omega)]; done)) (by exact ⟨⟨_, _, hm42, hm43⟩, fun id h9 => (Decidable.em (id = 37)).elim (fun h37 => by subst h37; exact (hm1.trans (eN_congr fun j => by rw [up_up]; exact up_id rfl j)).trans hm1o.symm) (fun h37 => (frw2 id (by omega)).trans ((fr16 id (by omega)).trans ((frw1 id (by omega)))))⟩) (by decide) (by decide)
  · skip
    have c_20 : z = 0 := (nI_eq0 (i := z) (by omega)).mp c_20
    refine lv_aload_n hx hb dX7_toldWith_23 rfl (lv_at hl 1 rfl) ?_
    refine q_R1 (va_runV (As := []) (rest := []) ⟨hx, hb, hml, hown, hts⟩ (c_X7_understood l hm0 hm1 hRp hP hm43) (cwV 0 hts gX7_toldWith_X7_understood rfl rfl rfl (by decide +kernel) ⟨Nat.le_of_ble_eq_true rfl, Nat.le_of_ble_eq_true rfl⟩) (q_preV hG hW hS hm0 rfl) rfl rfl hl.1 rfl (lv_room (Nat.le_of_ble_eq_true rfl)) dX7_toldWith_24 ⟨Nat.le_of_ble_eq_true rfl, Nat.le_of_ble_eq_true rfl⟩) ?_
    refine lv_goto (tgt := 34) hx hb dX7_toldWith_27 (by decide) ?_
    refine lv_istore (lv' := [(5, .int (nI (und P))), (4, .int (nI (F i))), (0, .ref (b + 36)), (1, .int (nI i)), (2, .int (nI v)), (3, .int (nI z))]) hx hb dX7_toldWith_34 hl (by decide) rfl (fun ls hl => ?_)
    refine lv_aload_n hx hb dX7_toldWith_36 rfl (lv_at hl 2 rfl) ?_
    refine q_get hx hb hts hinX7 hown hG hW hm0 rfl 0 (by decide) (hts (.fieldLink RX7 7 "FoleyMixerModel" "s" "[I") (List.mem_of_getElem? (i := 1) rfl)) rfl rfl dX7_toldWith_37 ?_
    refine lv_iload_n hx hb dX7_toldWith_40 rfl (lv_at hl 3 rfl) ?_
    refine lv_iload hx hb dX7_toldWith_41 (lv_at hl 1 rfl) ?_
    refine q_nast hx hb hG hW hS hm1 (by omega) (by omega) dX7_toldWith_43 (fun H locs hW hS hz43 => ?_)
    obtain ⟨w3, ew3⟩ : ∃ wq__ : Wd, wq__ = va_up w_16 37 (some (eN dA 85 (va_up (va_up F i v) i (F i)))) := ⟨_, rfl⟩
    replace hW : WP D b w3 H := by rw [ew3]; exact hW
    have frw3 : ∀ id : Nat, id ≠ 37 → w3 id = w_16 id := fun id h9 => by rw [ew3, up_ne h9]
    replace hm0 : w3 36 = some (modO b (sv) (nc) (th) (pl) (lt) (dn)) := (frw3 _ (by omega)).trans hm0
    replace hm42 : w3 42 = some (eN dA 120 (dk P)) := (frw3 _ (by omega)).trans hm42
    replace hm43 : w3 43 = some (eN dA 120 (mmk P)) := (frw3 _ (by omega)).trans hm43
    replace hm1 : w3 37 = some (eN dA 85 (va_up (va_up F i v) i (F i))) := by rw [ew3]; exact up_eq
    refine lv_iload hx hb dX7_toldWith_44 (lv_at hl 0 rfl) ?_
    exact q_wi hx hb hr hlocks hW hS dX7_toldWith_46 (by rw [hPe]; first | (rw [if_pos (by omega)]; done) | (rw [if_neg (by omega)]; done)) (by exact ⟨⟨_, _, hm42, hm43⟩, fun id h9 => (Decidable.em (id = 37)).elim (fun h37 => by subst h37; exact (hm1.trans (eN_congr fun j => by rw [up_up]; exact up_id rfl j)).trans hm1o.symm) (fun h37 => (frw3 id (by omega)).trans ((fr16 id (by omega)).trans ((frw1 id (by omega)))))⟩) (by decide) (by decide)

set_option maxHeartbeats 300000 in
set_option maxRecDepth 100000 in
/-- leastDucking -/
theorem c_X7_leastDucking (l : Launch) {D : va_G} {dA : Nat → Nat} {b : Nat} {w : Wd} {n nc : Nat} {P : Pl} {Hs : Nat → Pl} {SL : Nat → Option Pl} {C : Nat → Nat} {tt : Int32} (hmd : isMod dA b w (P, (n, Hs), SL, (nc, C)) tt) : Met l yX7_leastDucking wsX7_leastDucking ({ frames := 7, cells := 0, slots := 0, locals := 166 } : Room) (PC D dA b w [.ref (b + 36)]) (QW D b (some (.int (ldk P 21))) (fun w' => isMod dA b w' (P, (n, Hs), SL, (nc, C)) (nI 0) ∧ ∀ id : Nat, (id < 36 ∨ 45 ≤ id) → w' id = w id)) 0 0 (Fb b) := by
  refine q_of (cc := cX7_leastDucking) (maxL := 3) (ret := (some .int)) (by decide) rfl rfl ?_
  intro p e s m args below meth c ls hx hb hr hml hts hown hlocks hG hW hS hl
  have hown : s.vm.findClass RX7 = some m.cls := hown
  have hinX7 : ∀ w ∈ u_ws RX7 TX7 14, w ∈ wsX7_leastDucking := fun w h => (goodIn_r (big := wsX7_leastDucking) (u_ws RX7 TX7 14) [66, 67, 68, 69, 70, 71, 72, 73, 74, 75, 76, 77, 78, 79] (by decide +kernel) (by decide +kernel) w h).1
  have hl : lv_has ls 3 [(0, .ref (b + 36))] := hl
  obtain ⟨pl, lt, dn, F, G, GS, Zt, D0, M0, TD, hm0, hm1, ⟨hRp, hP⟩, hm38, hsv, hm39, hm40, hsl, hm41, hbu, hm42, hm43, hm44⟩ := id hmd
  change w 36 = some (modO b (nI n) (nI nc) tt pl lt dn) at hm0
  change rep F P at hRp
  change okP P at hP
  change mSv n G Hs at hsv
  change mSl GS Zt SL at hsl
  change w 41 = some (eN dA 80 C) at hm41
  change mBu nc C at hbu
  have hn6 := hsv.1
  have hnc := hbu.1
  obtain ⟨hPw, hPn, hPW, hPN, hPS⟩ := id hP
  have hr5 := hRp.2.1
  have hr6 := hRp.2.2.1
  have h2w : 2 ^ P.w ≤ 1024 := Nat.pow_le_pow_right (by decide) hPw
  have h2x : 1 ≤ 2 ^ P.w := Nat.one_le_two_pow
  refine lv_aload_n hx hb dX7_leastDucking_0 rfl (lv_at hl 0 rfl) ?_
  refine lv_iconst (v := nI 0) hx hb dX7_leastDucking_1 (by decide) ?_
  refine q_put hx hb hts hinX7 tyX7_ok nmX7 hown hG hW hS hm0 rfl 7 (by decide) (hts (.fieldLink RX7 35 "FoleyMixerModel" "thrown" "I") (List.mem_of_getElem? (i := 1) rfl)) rfl rfl rfl rfl (Nat.le_of_ble_eq_true rfl) dX7_leastDucking_2 (fun H locs hW hS hz2 => ?_)
  obtain ⟨w1, ew1⟩ : ∃ wq__ : Wd, wq__ = va_up w 36 (some (modO b (nI (n)) (nI (nc)) (nI (0)) (pl) (lt) (dn))) := ⟨_, rfl⟩
  replace hW : WP D b w1 H := by rw [ew1]; exact hW
  have frw1 : ∀ id : Nat, id ≠ 36 → w1 id = w id := fun id h9 => by rw [ew1, up_ne h9]
  replace hm1 : w1 37 = some (eN dA 85 F) := (frw1 _ (by omega)).trans hm1
  replace hm38 : w1 38 = some (eN dA 510 G) := (frw1 _ (by omega)).trans hm38
  replace hm39 : w1 39 = some (eN dA 170 GS) := (frw1 _ (by omega)).trans hm39
  replace hm40 : w1 40 = some (eZ dA 2 Zt) := (frw1 _ (by omega)).trans hm40
  replace hm41 : w1 41 = some (eN dA 80 C) := (frw1 _ (by omega)).trans hm41
  replace hm42 : w1 42 = some (eN dA 120 D0) := (frw1 _ (by omega)).trans hm42
  replace hm43 : w1 43 = some (eN dA 120 M0) := (frw1 _ (by omega)).trans hm43
  replace hm44 : w1 44 = some (eN dA 3 TD) := (frw1 _ (by omega)).trans hm44
  replace hm0 : w1 36 = some (modO b (nI (n)) (nI (nc)) (nI (0)) (pl) (lt) (dn)) := by rw [ew1]; exact up_eq
  refine lv_iconst (v := (-1)) hx hb dX7_leastDucking_5 (by decide) ?_
  refine lv_istore_n (lv' := [(1, .int (-1)), (0, .ref (b + 36))]) hx hb dX7_leastDucking_6 rfl hl (by decide) rfl (fun ls hl => ?_)
  refine lv_bipush (v := nI 20) hx hb dX7_leastDucking_7 (by decide) ?_
  refine lv_istore_n (lv' := [(2, .int (nI 20)), (1, .int (-1)), (0, .ref (b + 36))]) hx hb dX7_leastDucking_9 rfl hl (by decide) rfl (fun ls hl => ?_)
  have L10 : ∀ (n10 : Nat) (j : Nat) (Da Ma : Nat → Nat), j ≤ 21 → j < n10 → ∀ (x10_1 : Int32) (x10_2 : Int32), x10_1 = ldk P (21 - j) → x10_2 = nI j + (-1) → ∀ (wa : Wd) (H : Heap) (locs : List Loc), wa 42 = some (eN dA 120 Da) → wa 43 = some (eN dA 120 Ma) → (∀ id : Nat, id ≠ 42 ∧ id ≠ 43 → wa id = w1 id) → WP D b wa H → va_S (Fb b) s.heap H locs → ∀ (ls : Array Slot), lv_has ls 3 [(0, .ref (b + 36)), (1, .int x10_1), (2, .int x10_2)] → W p l e ({ frames := 7, cells := 0, slots := 0, locals := 166 } : Room) s m args below meth c H locs 0 0 (MQ below (QW D b (some (.int (ldk P 21))) (fun w' => isMod dA b w' (P, (n, Hs), SL, (nc, C)) (nI 0) ∧ ∀ id : Nat, (id < 36 ∨ 45 ≤ id) → w' id = w id)) args s 0 0 (Fb b)) (F0 m 10 ls []) := by
    intro n10
    induction n10 with
    | zero =>
      intro j Da Ma hj0 hn10 x10_1 x10_2 ex10_1 ex10_2 wa H locs hm42 hm43 fr hW hS ls hl
      exact absurd hn10 (Nat.not_lt_zero _)
    | succ n10 ih10 =>
      intro j Da Ma hj0 hn10 x10_1 x10_2 ex10_1 ex10_2 wa H locs hm42 hm43 fr hW hS ls hl
      subst ex10_1 ex10_2
      replace hm0 := (fr 36 (by omega)).trans hm0
      replace hm1 := (fr 37 (by omega)).trans hm1
      replace hm38 := (fr 38 (by omega)).trans hm38
      replace hm39 := (fr 39 (by omega)).trans hm39
      replace hm40 := (fr 40 (by omega)).trans hm40
      replace hm41 := (fr 41 (by omega)).trans hm41
      replace hm44 := (fr 44 (by omega)).trans hm44
      cases j with
      | zero =>
        replace hl : lv_has ls 3 [(0, .ref (b + 36)), (1, .int (ldk P (21 - 0))), (2, .int (-1))] := by rw [show nI 0 + (-1) = (-1 : Int32) from by decide] at hl; exact hl
        refine lv_iload_n hx hb dX7_leastDucking_10 rfl (lv_at hl 2 rfl) ?_
        refine lv_if_lt (tgt := 46) hx hb dX7_leastDucking_11 (by decide) (fun c_11 => ?_) (fun c_11 => ?_)
        · skip
          refine lv_iload_n hx hb dX7_leastDucking_46 rfl (lv_at hl 1 rfl) ?_
          exact q_wi hx hb hr hlocks hW hS dX7_leastDucking_47 (by first | rfl | omega) (by exact ⟨⟨_, _, _, _, _, _, _, _, _, _, hm0, hm1, ⟨hRp, hP⟩, hm38, hsv, hm39, hm40, hsl, hm41, hbu, hm42, hm43, hm44⟩, by intro id h9; rw [fr id (by omega), frw1 id (by omega)]⟩) (by decide) (by decide)
        · skip
          exact absurd (by decide) c_11
      | succ j =>
        rw [pk_m1] at hl
        refine lv_iload_n hx hb dX7_leastDucking_10 rfl (lv_at hl 2 rfl) ?_
        refine lv_if_lt (tgt := 46) hx hb dX7_leastDucking_11 (by decide) (fun c_11 => ?_) (fun c_11 => ?_)
        · skip
          have c_11 : j < 0 := (nI_lt0 (i := j) (by omega)).mp c_11
          refine lv_iload_n hx hb dX7_leastDucking_46 rfl (lv_at hl 1 rfl) ?_
          exact q_wi hx hb hr hlocks hW hS dX7_leastDucking_47 (by first | rfl | omega) (by exact ⟨⟨_, _, _, _, _, _, _, _, _, _, hm0, hm1, ⟨hRp, hP⟩, hm38, hsv, hm39, hm40, hsl, hm41, hbu, hm42, hm43, hm44⟩, by intro id h9; rw [fr id (by omega), frw1 id (by omega)]⟩) (by decide) (by decide)
        · skip
          have c_11 : ¬ (j < 0) := fun h__ => c_11 ((nI_lt0 (i := j) (by omega)).mpr h__)
          refine lv_aload_n hx hb dX7_leastDucking_14 rfl (lv_at hl 0 rfl) ?_
          refine lv_iconst (v := nI 0) hx hb dX7_leastDucking_15 (by decide) ?_
          refine lv_iload_n hx hb dX7_leastDucking_16 rfl (lv_at hl 2 rfl) ?_
          refine lv_iconst (v := nI 0) hx hb dX7_leastDucking_17 (by decide) ?_
          refine q_W1 (va_runV (As := [.int (nI 0), .int (nI j), .int (nI 0)]) (rest := []) ⟨hx, hb, hml, hown, hts⟩ (c_X7_toldWith l hm0 hm1 hRp hP hm42 hm43 0 j 0 (by omega) (⟨hPw, hPn, hPW, hPN, okS_up0 hPS (by omega)⟩) (by omega)) (cwV 3 hts gX7_leastDucking_X7_toldWith rfl rfl rfl (by decide +kernel) ⟨Nat.le_of_ble_eq_true rfl, Nat.le_of_ble_eq_true rfl⟩) (q_preV hG hW hS hm0 rfl) rfl rfl hl.1 rfl (lv_room (Nat.le_of_ble_eq_true rfl)) dX7_leastDucking_18 ⟨Nat.le_of_ble_eq_true rfl, Nat.le_of_ble_eq_true rfl⟩) hS (fun w_18 H locs hp18 hW hS => ?_)
          obtain ⟨⟨D18, M18, hm42, hm43⟩, fr18⟩ := hp18
          replace hm0 : w_18 36 = some (modO b (nI (n)) (nI (nc)) (nI (0)) (pl) (lt) (dn)) := (fr18 _ (by omega)).trans hm0
          replace hm1 : w_18 37 = some (eN dA 85 F) := (fr18 _ (by omega)).trans hm1
          replace hm38 : w_18 38 = some (eN dA 510 G) := (fr18 _ (by omega)).trans hm38
          replace hm39 : w_18 39 = some (eN dA 170 GS) := (fr18 _ (by omega)).trans hm39
          replace hm40 : w_18 40 = some (eZ dA 2 Zt) := (fr18 _ (by omega)).trans hm40
          replace hm41 : w_18 41 = some (eN dA 80 C) := (fr18 _ (by omega)).trans hm41
          replace hm44 : w_18 44 = some (eN dA 3 TD) := (fr18 _ (by omega)).trans hm44
          refine q_top (y := nI (und (setS P 0 j))) (by exact congrArg nI (if_pos rfl)) ?_
          refine lv_iconst (v := nI 1) hx hb dX7_leastDucking_21 (by decide) ?_
          refine lv_aload_n hx hb dX7_leastDucking_22 rfl (lv_at hl 0 rfl) ?_
          refine q_get hx hb hts hinX7 hown hG hW hm0 rfl 0 (by decide) (hts (.fieldLink RX7 7 "FoleyMixerModel" "s" "[I") (List.mem_of_getElem? (i := 2) rfl)) rfl rfl dX7_leastDucking_23 ?_
          refine lv_iconst (v := nI 5) hx hb dX7_leastDucking_26 (by decide) ?_
          refine q_iald hx hb hG hW hm1 (by omega) (by omega) dX7_leastDucking_27 ?_
          refine q_top (y := nI (P.w)) (by exact congrArg nI hr5) ?_
          refine lv_ishl hx hb dX7_leastDucking_28 ?_
          refine q_top (y := nI (2 ^ P.w)) (by exact nI_shl1 (by omega)) ?_
          have hu := und_lt (P := setS P 0 j) hPw
          refine lv_iconst (v := nI 1) hx hb dX7_leastDucking_29 (by decide) ?_
          refine lv_isub hx hb dX7_leastDucking_30 ?_
          refine q_top (y := nI ((2 ^ P.w) - 1)) (nI_sub (by omega)) ?_
          refine lv_icmp_ne (tgt := 38) hx hb dX7_leastDucking_31 (by decide) (fun c_31 => ?_) (fun c_31 => ?_)
          · skip
            have c_31 : ¬ (und (setS P 0 j) = (2 ^ P.w) - 1) := fun h__ => c_31 ((nI_eq (a := und (setS P 0 j)) (b := (2 ^ P.w) - 1) (by omega) (by omega)).mpr h__)
            refine lv_iload_n hx hb dX7_leastDucking_38 rfl (lv_at hl 1 rfl) ?_
            refine lv_istore_n (lv' := [(1, .int (ldk P (21 - (j + 1)))), (0, .ref (b + 36)), (2, .int (nI j))]) hx hb dX7_leastDucking_39 rfl hl (by decide) rfl (fun ls hl => ?_)
            refine lv_iinc (v := nI j + (-1)) (lv' := [(2, .int (nI j + (-1))), (1, .int (ldk P (21 - (j + 1)))), (0, .ref (b + 36))]) hx hb dX7_leastDucking_40 hl (k := 2) rfl (by rw [show Int32.ofInt (-1) = -1 from by decide]) (by decide) rfl (fun ls hl => ?_)
            refine lv_goto (tgt := 10) hx hb dX7_leastDucking_43 (by decide) ?_
            exact ih10 j D18 M18 (by omega) (by omega) _ _ (by first | (rw [ldk_yes (by omega) c_31]; done) | (rw [ldk_no (by omega) c_31]; done)) (by rfl) _ _ _ (by exact hm42) (by exact hm43) (by intro id h9; rw [fr18 id (by omega)]; exact fr id h9) hW hS _ (lv_sub hl [2, 1, 0] rfl)
          · skip
            have c_31 : und (setS P 0 j) = (2 ^ P.w) - 1 := (nI_eq (a := und (setS P 0 j)) (b := (2 ^ P.w) - 1) (by omega) (by omega)).mp c_31
            refine lv_iload_n hx hb dX7_leastDucking_34 rfl (lv_at hl 2 rfl) ?_
            refine lv_goto (tgt := 39) hx hb dX7_leastDucking_35 (by decide) ?_
            refine lv_istore_n (lv' := [(1, .int (nI j)), (0, .ref (b + 36)), (2, .int (nI j))]) hx hb dX7_leastDucking_39 rfl hl (by decide) rfl (fun ls hl => ?_)
            refine lv_iinc (v := nI j + (-1)) (lv' := [(2, .int (nI j + (-1))), (1, .int (nI j)), (0, .ref (b + 36))]) hx hb dX7_leastDucking_40 hl (k := 2) rfl (by rw [show Int32.ofInt (-1) = -1 from by decide]) (by decide) rfl (fun ls hl => ?_)
            refine lv_goto (tgt := 10) hx hb dX7_leastDucking_43 (by decide) ?_
            exact ih10 j D18 M18 (by omega) (by omega) _ _ (by first | (rw [ldk_yes (by omega) c_31]; done) | (rw [ldk_no (by omega) c_31]; done)) (by rfl) _ _ _ (by exact hm42) (by exact hm43) (by intro id h9; rw [fr18 id (by omega)]; exact fr id h9) hW hS _ (lv_sub hl [2, 1, 0] rfl)
  exact L10 (21 + 1) 21 D0 M0 (by omega) (Nat.lt_succ_self _) _ _ (by first | rfl | decide) (by decide) _ _ _ (by exact hm42) (by exact hm43) (by intro id h9; rfl) hW hS _ (lv_sub hl [2, 1, 0] rfl)

set_option maxHeartbeats 300000 in
set_option maxRecDepth 100000 in
/-- ifSet -/
theorem c_X7_ifSet (l : Launch) {D : va_G} {dA : Nat → Nat} {b : Nat} {w : Wd} {n nc : Nat} {P : Pl} {Hs : Nat → Pl} {SL : Nat → Option Pl} {C : Nat → Nat} {tt : Int32} (hmd : isMod dA b w (P, (n, Hs), SL, (nc, C)) tt) (x y z : Int32) : Met l yX7_ifSet wsX7_ifSet ({ frames := 7, cells := 0, slots := 0, locals := 166 } : Room) (PC D dA b w [.ref (b + 36), .int (x), .int (y), .int (z)]) (QW D b (some (.int (if (0 ≤ x ∧ x < nI 5) ∧ fitS (i32n x) y ∧ (0 ≤ z ∧ z ≤ nI 1) then nI (if i32n z = 0 then und (setS P (i32n x) (i32n y)) else ams (setS P (i32n x) (i32n y))) else 0))) (fun w' => ((((0 ≤ x ∧ x < nI 5) ∧ fitS (i32n x) y ∧ (0 ≤ z ∧ z ≤ nI 1)) ∧ isMod dA b w' (P, (n, Hs), SL, (nc, C)) (nI 0)) ∨ ((¬ (0 ≤ x ∧ x < nI 5)) ∧ isMod dA b w' (P, (n, Hs), SL, (nc, C)) (nI 1)) ∨ (((0 ≤ x ∧ x < nI 5) ∧ ¬ (fitS (i32n x) y ∧ (0 ≤ z ∧ z ≤ nI 1))) ∧ isMod dA b w' (P, (n, Hs), SL, (nc, C)) (nI 2))) ∧ ∀ id : Nat, (id < 36 ∨ 45 ≤ id) → w' id = w id)) 0 0 (Fb b) := by
  refine q_of (cc := cX7_ifSet) (maxL := 5) (ret := (some .int)) (by decide) rfl rfl ?_
  intro p e s m args below meth c ls hx hb hr hml hts hown hlocks hG hW hS hl
  have hown : s.vm.findClass RX7 = some m.cls := hown
  have hl : lv_has ls 5 [(0, .ref (b + 36)), (1, .int (x)), (2, .int (y)), (3, .int (z))] := hl
  obtain ⟨pl, lt, dn, F, G, GS, Zt, D0, M0, TD, hm0, hm1, ⟨hRp, hP⟩, hm38, hsv, hm39, hm40, hsl, hm41, hbu, hm42, hm43, hm44⟩ := id hmd
  change w 36 = some (modO b (nI n) (nI nc) tt pl lt dn) at hm0
  change rep F P at hRp
  change okP P at hP
  change mSv n G Hs at hsv
  change mSl GS Zt SL at hsl
  change w 41 = some (eN dA 80 C) at hm41
  change mBu nc C at hbu
  have hn6 := hsv.1
  have hnc := hbu.1
  obtain ⟨hPw, hPn, hPW, hPN, hPS⟩ := id hP
  have hr5 := hRp.2.1
  have hr6 := hRp.2.2.1
  refine lv_iload_n hx hb dX7_ifSet_0 rfl (lv_at hl 1 rfl) ?_
  refine lv_iconst (v := nI 0) hx hb dX7_ifSet_1 (by decide) ?_
  refine lv_iconst (v := nI 4) hx hb dX7_ifSet_2 (by decide) ?_
  refine q_R1 (va_runS (As := [.int (x), .int (nI 0), .int (nI 4)]) (rest := []) ⟨hx, hb, hml, hown, hts⟩ (c_X7_in l (x) (nI (0)) (nI (4))) (va_cwS 3 hts gX7_ifSet_X7_in rfl rfl rfl (by decide +kernel) ⟨Nat.le_of_ble_eq_true rfl, Nat.le_of_ble_eq_true rfl⟩) (q_preS hG hW hS) rfl rfl hl.1 rfl (lv_room (Nat.le_of_ble_eq_true rfl)) dX7_ifSet_3 ⟨Nat.le_of_ble_eq_true rfl, Nat.le_of_ble_eq_true rfl⟩) ?_
  refine lv_istore (lv' := [(4, .int (if (nI (0)) ≤ (x) ∧ (x) ≤ (nI (4)) then 1 else 0)), (0, .ref (b + 36)), (1, .int (x)), (2, .int (y)), (3, .int (z))]) hx hb dX7_ifSet_6 hl (by decide) rfl (fun ls hl => ?_)
  refine lv_aload_n hx hb dX7_ifSet_8 rfl (lv_at hl 1 rfl) ?_
  refine lv_iload hx hb dX7_ifSet_9 (lv_at hl 0 rfl) ?_
  refine lv_if_ne (tgt := 18) hx hb dX7_ifSet_11 (by decide) (fun c_11 => ?_) (fun c_11 => ?_)
  · skip
    have c_11 : (nI (0)) ≤ (x) ∧ (x) ≤ (nI (4)) := Decidable.byContradiction (fun h__ => c_11 (pI_eq0.mpr h__))
    have ho5 : 0 ≤ x ∧ x < nI 5 := ⟨c_11.1, (lt_le (k := 4) (by decide)).mpr c_11.2⟩
    obtain ⟨ex9, bx9⟩ := has_n (n := 5) (by decide) ho5.1 ho5.2
    have el_18 : x = nI (i32n x) := by exact ex9
    rw [el_18] at hl
    refine lv_iload_n hx hb dX7_ifSet_18 rfl (lv_at hl 2 rfl) ?_
    refine lv_iload_n hx hb dX7_ifSet_19 rfl (lv_at hl 3 rfl) ?_
    refine q_R1 (va_runS (As := [.int (nI (i32n x)), .int (y)]) (rest := [.ref (b + 36)]) ⟨hx, hb, hml, hown, hts⟩ (c_X7_isValue l (i32n x) (by omega) (y)) (va_cwS 2 hts gX7_ifSet_X7_isValue rfl rfl rfl (by decide +kernel) ⟨Nat.le_of_ble_eq_true rfl, Nat.le_of_ble_eq_true rfl⟩) (q_preS hG hW hS) rfl rfl hl.1 rfl (lv_room (Nat.le_of_ble_eq_true rfl)) dX7_ifSet_20 ⟨Nat.le_of_ble_eq_true rfl, Nat.le_of_ble_eq_true rfl⟩) ?_
    refine lv_if_eq (tgt := 39) hx hb dX7_ifSet_23 (by decide) (fun c_23 => ?_) (fun c_23 => ?_)
    · skip
      have c_23 : ¬ (fitS (i32n x) y) := pI_eq0.mp c_23
      refine lv_iconst (v := nI 2) hx hb dX7_ifSet_39 (by decide) ?_
      refine q_W1 (va_runV (As := [.int (nI 2)]) (rest := []) ⟨hx, hb, hml, hown, hts⟩ (c_X7_holds l hm0 (nI (2))) (cwV 1 hts gX7_ifSet_X7_holds rfl rfl rfl (by decide +kernel) ⟨Nat.le_of_ble_eq_true rfl, Nat.le_of_ble_eq_true rfl⟩) (q_preV hG hW hS hm0 rfl) rfl rfl hl.1 rfl (lv_room (Nat.le_of_ble_eq_true rfl)) dX7_ifSet_40 ⟨Nat.le_of_ble_eq_true rfl, Nat.le_of_ble_eq_true rfl⟩) hS (fun w_40 H locs hp40 hW hS => ?_)
      obtain ⟨hm0, fr40⟩ := hp40
      replace hm1 : w_40 37 = some (eN dA 85 F) := (fr40 _ (by omega)).trans hm1
      replace hm38 : w_40 38 = some (eN dA 510 G) := (fr40 _ (by omega)).trans hm38
      replace hm39 : w_40 39 = some (eN dA 170 GS) := (fr40 _ (by omega)).trans hm39
      replace hm40 : w_40 40 = some (eZ dA 2 Zt) := (fr40 _ (by omega)).trans hm40
      replace hm41 : w_40 41 = some (eN dA 80 C) := (fr40 _ (by omega)).trans hm41
      replace hm42 : w_40 42 = some (eN dA 120 D0) := (fr40 _ (by omega)).trans hm42
      replace hm43 : w_40 43 = some (eN dA 120 M0) := (fr40 _ (by omega)).trans hm43
      replace hm44 : w_40 44 = some (eN dA 3 TD) := (fr40 _ (by omega)).trans hm44
      refine q_topv (v' := .int (nI 0)) (congrArg Value.int (by decide)) ?_
      refine lv_if_eq (tgt := 56) hx hb dX7_ifSet_43 (by decide) (fun c_43 => ?_) (fun c_43 => ?_)
      · skip
        have c_43 : 0 = 0 := (nI_eq0 (i := 0) (by omega)).mp c_43
        refine lv_iconst (v := nI 0) hx hb dX7_ifSet_56 (by decide) ?_
        exact q_wi hx hb hr hlocks hW hS dX7_ifSet_57 (by first | (rw [if_pos (show (0 ≤ x ∧ x < nI 5) ∧ fitS (i32n x) y ∧ (0 ≤ z ∧ z ≤ nI 1) from ⟨ho5, c_23, c_32⟩)]; done) | (rw [if_neg (by first | exact fun q9 => (fun q9 => c_11 ⟨q9.1, (lt_le (k := 4) (by decide)).mp q9.2⟩) q9.1 | exact fun q9 => c_23 q9.2.1 | exact fun q9 => c_32 q9.2.2)]; rfl)) (by exact ⟨Or.inr (Or.inr ⟨⟨ho5, by first | exact fun q9 => c_23 q9.1 | exact fun q9 => c_32 q9.2⟩, ⟨_, _, _, _, _, _, _, _, _, _, hm0, hm1, ⟨hRp, hP⟩, hm38, hsv, hm39, hm40, hsl, hm41, hbu, hm42, hm43, hm44⟩⟩), by intro id h9; rw [fr40 id (by omega)]; try rfl⟩) (by decide) (by decide)
      · skip
        have c_43 : ¬ (0 = 0) := fun h__ => c_43 ((nI_eq0 (i := 0) (by omega)).mpr h__)
        exact absurd c_43 (by omega)
    · skip
      have c_23 : fitS (i32n x) y := Decidable.byContradiction (fun h__ => c_23 (pI_eq0.mpr h__))
      refine lv_iload_n hx hb dX7_ifSet_26 rfl (lv_at hl 4 rfl) ?_
      refine lv_iconst (v := nI 0) hx hb dX7_ifSet_27 (by decide) ?_
      refine lv_iconst (v := nI 1) hx hb dX7_ifSet_28 (by decide) ?_
      refine q_R1 (va_runS (As := [.int (z), .int (nI 0), .int (nI 1)]) (rest := [.ref (b + 36)]) ⟨hx, hb, hml, hown, hts⟩ (c_X7_in l (z) (nI (0)) (nI (1))) (va_cwS 3 hts gX7_ifSet_X7_in rfl rfl rfl (by decide +kernel) ⟨Nat.le_of_ble_eq_true rfl, Nat.le_of_ble_eq_true rfl⟩) (q_preS hG hW hS) rfl rfl hl.1 rfl (lv_room (Nat.le_of_ble_eq_true rfl)) dX7_ifSet_29 ⟨Nat.le_of_ble_eq_true rfl, Nat.le_of_ble_eq_true rfl⟩) ?_
      refine lv_if_eq (tgt := 39) hx hb dX7_ifSet_32 (by decide) (fun c_32 => ?_) (fun c_32 => ?_)
      · skip
        have c_32 : ¬ ((nI (0)) ≤ (z) ∧ (z) ≤ (nI (1))) := pI_eq0.mp c_32
        refine lv_iconst (v := nI 2) hx hb dX7_ifSet_39 (by decide) ?_
        refine q_W1 (va_runV (As := [.int (nI 2)]) (rest := []) ⟨hx, hb, hml, hown, hts⟩ (c_X7_holds l hm0 (nI (2))) (cwV 1 hts gX7_ifSet_X7_holds rfl rfl rfl (by decide +kernel) ⟨Nat.le_of_ble_eq_true rfl, Nat.le_of_ble_eq_true rfl⟩) (q_preV hG hW hS hm0 rfl) rfl rfl hl.1 rfl (lv_room (Nat.le_of_ble_eq_true rfl)) dX7_ifSet_40 ⟨Nat.le_of_ble_eq_true rfl, Nat.le_of_ble_eq_true rfl⟩) hS (fun w_40 H locs hp40 hW hS => ?_)
        obtain ⟨hm0, fr40⟩ := hp40
        replace hm1 : w_40 37 = some (eN dA 85 F) := (fr40 _ (by omega)).trans hm1
        replace hm38 : w_40 38 = some (eN dA 510 G) := (fr40 _ (by omega)).trans hm38
        replace hm39 : w_40 39 = some (eN dA 170 GS) := (fr40 _ (by omega)).trans hm39
        replace hm40 : w_40 40 = some (eZ dA 2 Zt) := (fr40 _ (by omega)).trans hm40
        replace hm41 : w_40 41 = some (eN dA 80 C) := (fr40 _ (by omega)).trans hm41
        replace hm42 : w_40 42 = some (eN dA 120 D0) := (fr40 _ (by omega)).trans hm42
        replace hm43 : w_40 43 = some (eN dA 120 M0) := (fr40 _ (by omega)).trans hm43
        replace hm44 : w_40 44 = some (eN dA 3 TD) := (fr40 _ (by omega)).trans hm44
        refine q_topv (v' := .int (nI 0)) (congrArg Value.int (by decide)) ?_
        refine lv_if_eq (tgt := 56) hx hb dX7_ifSet_43 (by decide) (fun c_43 => ?_) (fun c_43 => ?_)
        · skip
          have c_43 : 0 = 0 := (nI_eq0 (i := 0) (by omega)).mp c_43
          refine lv_iconst (v := nI 0) hx hb dX7_ifSet_56 (by decide) ?_
          exact q_wi hx hb hr hlocks hW hS dX7_ifSet_57 (by first | (rw [if_pos (show (0 ≤ x ∧ x < nI 5) ∧ fitS (i32n x) y ∧ (0 ≤ z ∧ z ≤ nI 1) from ⟨ho5, c_23, c_32⟩)]; done) | (rw [if_neg (by first | exact fun q9 => (fun q9 => c_11 ⟨q9.1, (lt_le (k := 4) (by decide)).mp q9.2⟩) q9.1 | exact fun q9 => c_23 q9.2.1 | exact fun q9 => c_32 q9.2.2)]; rfl)) (by exact ⟨Or.inr (Or.inr ⟨⟨ho5, by first | exact fun q9 => c_23 q9.1 | exact fun q9 => c_32 q9.2⟩, ⟨_, _, _, _, _, _, _, _, _, _, hm0, hm1, ⟨hRp, hP⟩, hm38, hsv, hm39, hm40, hsl, hm41, hbu, hm42, hm43, hm44⟩⟩), by intro id h9; rw [fr40 id (by omega)]; try rfl⟩) (by decide) (by decide)
        · skip
          have c_43 : ¬ (0 = 0) := fun h__ => c_43 ((nI_eq0 (i := 0) (by omega)).mpr h__)
          exact absurd c_43 (by omega)
      · skip
        have c_32 : (nI (0)) ≤ (z) ∧ (z) ≤ (nI (1)) := Decidable.byContradiction (fun h__ => c_32 (pI_eq0.mpr h__))
        refine lv_iconst (v := nI 0) hx hb dX7_ifSet_35 (by decide) ?_
        refine lv_goto (tgt := 40) hx hb dX7_ifSet_36 (by decide) ?_
        refine q_W1 (va_runV (As := [.int (nI 0)]) (rest := []) ⟨hx, hb, hml, hown, hts⟩ (c_X7_holds l hm0 (nI (0))) (cwV 1 hts gX7_ifSet_X7_holds rfl rfl rfl (by decide +kernel) ⟨Nat.le_of_ble_eq_true rfl, Nat.le_of_ble_eq_true rfl⟩) (q_preV hG hW hS hm0 rfl) rfl rfl hl.1 rfl (lv_room (Nat.le_of_ble_eq_true rfl)) dX7_ifSet_40 ⟨Nat.le_of_ble_eq_true rfl, Nat.le_of_ble_eq_true rfl⟩) hS (fun w_40 H locs hp40 hW hS => ?_)
        obtain ⟨hm0, fr40⟩ := hp40
        replace hm1 : w_40 37 = some (eN dA 85 F) := (fr40 _ (by omega)).trans hm1
        replace hm38 : w_40 38 = some (eN dA 510 G) := (fr40 _ (by omega)).trans hm38
        replace hm39 : w_40 39 = some (eN dA 170 GS) := (fr40 _ (by omega)).trans hm39
        replace hm40 : w_40 40 = some (eZ dA 2 Zt) := (fr40 _ (by omega)).trans hm40
        replace hm41 : w_40 41 = some (eN dA 80 C) := (fr40 _ (by omega)).trans hm41
        replace hm42 : w_40 42 = some (eN dA 120 D0) := (fr40 _ (by omega)).trans hm42
        replace hm43 : w_40 43 = some (eN dA 120 M0) := (fr40 _ (by omega)).trans hm43
        replace hm44 : w_40 44 = some (eN dA 3 TD) := (fr40 _ (by omega)).trans hm44
        refine q_topv (v' := .int (nI 1)) (congrArg Value.int (by decide)) ?_
        refine lv_if_eq (tgt := 56) hx hb dX7_ifSet_43 (by decide) (fun c_43 => ?_) (fun c_43 => ?_)
        · skip
          have c_43 : 1 = 0 := (nI_eq0 (i := 1) (by omega)).mp c_43
          exact absurd c_43 (by omega)
        · skip
          have c_43 : ¬ (1 = 0) := fun h__ => c_43 ((nI_eq0 (i := 1) (by omega)).mpr h__)
          have ey9 := fitS_n bx9 c_23
          have el_46 : y = nI (i32n y) := by exact ey9
          rw [el_46] at hl
          obtain ⟨ez9, bz9⟩ := le_n (k := 1) (by decide) c_32.1 c_32.2
          have el_46 : z = nI (i32n z) := by exact ez9
          rw [el_46] at hl
          refine lv_aload_n hx hb dX7_ifSet_46 rfl (lv_at hl 1 rfl) ?_
          refine lv_iload_n hx hb dX7_ifSet_47 rfl (lv_at hl 2 rfl) ?_
          refine lv_iload_n hx hb dX7_ifSet_48 rfl (lv_at hl 3 rfl) ?_
          refine lv_iload_n hx hb dX7_ifSet_49 rfl (lv_at hl 4 rfl) ?_
          refine q_W1 (va_runV (As := [.int (nI (i32n x)), .int (nI (i32n y)), .int (nI (i32n z))]) (rest := []) ⟨hx, hb, hml, hown, hts⟩ (c_X7_toldWith l hm0 hm1 hRp hP hm42 hm43 (i32n x) (i32n y) (i32n z) (by omega) (ok_setS hP (by omega) c_23) (by omega)) (cwV 3 hts gX7_ifSet_X7_toldWith rfl rfl rfl (by decide +kernel) ⟨Nat.le_of_ble_eq_true rfl, Nat.le_of_ble_eq_true rfl⟩) (q_preV hG hW hS hm0 rfl) rfl rfl hl.1 rfl (lv_room (Nat.le_of_ble_eq_true rfl)) dX7_ifSet_50 ⟨Nat.le_of_ble_eq_true rfl, Nat.le_of_ble_eq_true rfl⟩) hS (fun w_50 H locs hp50 hW hS => ?_)
          obtain ⟨⟨D50, M50, hm42, hm43⟩, fr50⟩ := hp50
          replace hm1 : w_50 37 = some (eN dA 85 F) := (fr50 _ (by omega)).trans hm1
          replace hm38 : w_50 38 = some (eN dA 510 G) := (fr50 _ (by omega)).trans hm38
          replace hm39 : w_50 39 = some (eN dA 170 GS) := (fr50 _ (by omega)).trans hm39
          replace hm40 : w_50 40 = some (eZ dA 2 Zt) := (fr50 _ (by omega)).trans hm40
          replace hm41 : w_50 41 = some (eN dA 80 C) := (fr50 _ (by omega)).trans hm41
          replace hm44 : w_50 44 = some (eN dA 3 TD) := (fr50 _ (by omega)).trans hm44
          replace hm0 : w_50 36 = some (modO b (nI (n)) (nI (nc)) (nI (0)) (pl) (lt) (dn)) := (fr50 _ (by omega)).trans hm0
          refine lv_goto (tgt := 57) hx hb dX7_ifSet_53 (by decide) ?_
          exact q_wi hx hb hr hlocks hW hS dX7_ifSet_57 (by first | (rw [if_pos (show (0 ≤ x ∧ x < nI 5) ∧ fitS (i32n x) y ∧ (0 ≤ z ∧ z ≤ nI 1) from ⟨ho5, c_23, c_32⟩)]; done) | (rw [if_neg (by first | exact fun q9 => (fun q9 => c_11 ⟨q9.1, (lt_le (k := 4) (by decide)).mp q9.2⟩) q9.1 | exact fun q9 => c_23 q9.2.1 | exact fun q9 => c_32 q9.2.2)]; rfl)) (by exact ⟨Or.inl ⟨⟨ho5, c_23, c_32⟩, ⟨_, _, _, _, _, _, _, _, _, _, hm0, hm1, ⟨hRp, hP⟩, hm38, hsv, hm39, hm40, hsl, hm41, hbu, hm42, hm43, hm44⟩⟩, by intro id h9; rw [fr50 id (by omega)]; rw [fr40 id (by omega)]; try rfl⟩) (by decide) (by decide)
  · skip
    have c_11 : ¬ ((nI (0)) ≤ (x) ∧ (x) ≤ (nI (4))) := pI_eq0.mp c_11
    refine lv_iconst (v := nI 1) hx hb dX7_ifSet_14 (by decide) ?_
    refine lv_goto (tgt := 40) hx hb dX7_ifSet_15 (by decide) ?_
    refine q_W1 (va_runV (As := [.int (nI 1)]) (rest := []) ⟨hx, hb, hml, hown, hts⟩ (c_X7_holds l hm0 (nI (1))) (cwV 1 hts gX7_ifSet_X7_holds rfl rfl rfl (by decide +kernel) ⟨Nat.le_of_ble_eq_true rfl, Nat.le_of_ble_eq_true rfl⟩) (q_preV hG hW hS hm0 rfl) rfl rfl hl.1 rfl (lv_room (Nat.le_of_ble_eq_true rfl)) dX7_ifSet_40 ⟨Nat.le_of_ble_eq_true rfl, Nat.le_of_ble_eq_true rfl⟩) hS (fun w_40 H locs hp40 hW hS => ?_)
    obtain ⟨hm0, fr40⟩ := hp40
    replace hm1 : w_40 37 = some (eN dA 85 F) := (fr40 _ (by omega)).trans hm1
    replace hm38 : w_40 38 = some (eN dA 510 G) := (fr40 _ (by omega)).trans hm38
    replace hm39 : w_40 39 = some (eN dA 170 GS) := (fr40 _ (by omega)).trans hm39
    replace hm40 : w_40 40 = some (eZ dA 2 Zt) := (fr40 _ (by omega)).trans hm40
    replace hm41 : w_40 41 = some (eN dA 80 C) := (fr40 _ (by omega)).trans hm41
    replace hm42 : w_40 42 = some (eN dA 120 D0) := (fr40 _ (by omega)).trans hm42
    replace hm43 : w_40 43 = some (eN dA 120 M0) := (fr40 _ (by omega)).trans hm43
    replace hm44 : w_40 44 = some (eN dA 3 TD) := (fr40 _ (by omega)).trans hm44
    refine q_topv (v' := .int (nI 0)) (congrArg Value.int (by decide)) ?_
    refine lv_if_eq (tgt := 56) hx hb dX7_ifSet_43 (by decide) (fun c_43 => ?_) (fun c_43 => ?_)
    · skip
      have c_43 : 0 = 0 := (nI_eq0 (i := 0) (by omega)).mp c_43
      refine lv_iconst (v := nI 0) hx hb dX7_ifSet_56 (by decide) ?_
      exact q_wi hx hb hr hlocks hW hS dX7_ifSet_57 (by first | (rw [if_pos (show (0 ≤ x ∧ x < nI 5) ∧ fitS (i32n x) y ∧ (0 ≤ z ∧ z ≤ nI 1) from ⟨ho5, c_23, c_32⟩)]; done) | (rw [if_neg (by first | exact fun q9 => (fun q9 => c_11 ⟨q9.1, (lt_le (k := 4) (by decide)).mp q9.2⟩) q9.1 | exact fun q9 => c_23 q9.2.1 | exact fun q9 => c_32 q9.2.2)]; rfl)) (by exact ⟨Or.inr (Or.inl ⟨fun q9 => c_11 ⟨q9.1, (lt_le (k := 4) (by decide)).mp q9.2⟩, ⟨_, _, _, _, _, _, _, _, _, _, hm0, hm1, ⟨hRp, hP⟩, hm38, hsv, hm39, hm40, hsl, hm41, hbu, hm42, hm43, hm44⟩⟩), by intro id h9; rw [fr40 id (by omega)]; try rfl⟩) (by decide) (by decide)
    · skip
      have c_43 : ¬ (0 = 0) := fun h__ => c_43 ((nI_eq0 (i := 0) (by omega)).mpr h__)
      exact absurd c_43 (by omega)

