abbrev Bf : Type := Nat × (Nat → Nat)
def okB (B : Bf) : Prop := ∀ i, i < B.1 → B.2 i < 128
theorem okB_ap {B : Bf} (h : okB B) {c : Nat} (hc : c < 128) : okB (ap B c) := scr_add h hc
theorem okB_apN {B : Bf} (h : okB B) {v : Nat} (hv : v ≤ 99) : okB (apN B v) := by
  unfold apN
  by_cases e : 10 ≤ v
  · rw [if_pos e]; exact okB_ap (okB_ap h (by omega)) (by omega)
  · rw [if_neg e]; exact okB_ap h (by omega)
theorem sgN_lt (V : Nat → Nat → Nat) (i : Nat) : sgN V i < 128 := by unfold sgN; split <;> omega
/-- what write does from the j-th cue on -/
def wfin (P : Pl) (j : Nat) (B : Bf) : Bf × Nat :=
  if j < P.w then (let a := wgo sgW P.W P.w (P.w - j) B; if a.2 < P.w then a else let r := wgo (sgN P.N) P.N P.n P.n a.1; (r.1, a.2 + r.2)) else (let r := wgo (sgN P.N) P.N P.n (P.n - (j - P.w)) B; (r.1, P.w + r.2))
theorem wfin_0 (P : Pl) (C : Nat → Nat) : wfin P 0 (0, C) = wrt P C := by
  by_cases h : 0 < P.w
  · unfold wfin; rw [if_pos h]; rfl
  · rcases P with ⟨wn, W9, n9, N9, S9⟩
    obtain rfl : wn = 0 := by
      have : ¬ 0 < wn := h
      omega
    unfold wfin wrt
    rw [if_neg (show ¬ 0 < Pl.w (0, W9, n9, N9, S9) from Nat.lt_irrefl 0)]
    show _ = (if (0 : Nat) < 0 then _ else _)
    rw [if_neg (Nat.lt_irrefl 0)]
    rfl
theorem wfin_W {P : Pl} {j : Nat} {B : Bf} (hj : j < P.w) (hf : B.1 + needC B.1 (P.W j 0) (P.W j 1) (P.W j 2) ≤ 80) : wfin P j B = wfin P (j + 1) (apC B (sgW j) (P.W j 0) (P.W j 1) (P.W j 2)) := by
  have g : wgo sgW P.W P.w (P.w - j) B = wgo sgW P.W P.w (P.w - (j + 1)) (apC B (sgW j) (P.W j 0) (P.W j 1) (P.W j 2)) := wgo_go (n := B.1) (C := B.2) hj hf
  unfold wfin
  rw [if_pos hj, g]
  by_cases h : j + 1 < P.w
  · rw [if_pos h]
  · rw [if_neg h, show P.w - (j + 1) = 0 by omega, show j + 1 - P.w = 0 by omega, Nat.sub_zero]
    show (if P.w < P.w then _ else _) = _
    rw [if_neg (Nat.lt_irrefl _)]; rfl
theorem wfin_Wno {P : Pl} {j : Nat} {B : Bf} (hj : j < P.w) (hf : ¬ B.1 + needC B.1 (P.W j 0) (P.W j 1) (P.W j 2) ≤ 80) : wfin P j B = (B, j) := by
  have g : wgo sgW P.W P.w (P.w - j) B = (B, j) := wgo_no (n := B.1) (C := B.2) hj hf
  unfold wfin
  rw [if_pos hj, g]
  show (if j < P.w then _ else _) = _
  rw [if_pos hj]
theorem wfin_N {P : Pl} {j : Nat} {B : Bf} (h1 : ¬ j < P.w) (hj : j - P.w < P.n) (hf : B.1 + needC B.1 (P.N (j - P.w) 0) (P.N (j - P.w) 1) (P.N (j - P.w) 2) ≤ 80) : wfin P j B = wfin P (j + 1) (apC B (sgN P.N (j - P.w)) (P.N (j - P.w) 0) (P.N (j - P.w) 1) (P.N (j - P.w) 2)) := by
  have g : wgo (sgN P.N) P.N P.n (P.n - (j - P.w)) B = wgo (sgN P.N) P.N P.n (P.n - (j - P.w + 1)) (apC B (sgN P.N (j - P.w)) (P.N (j - P.w) 0) (P.N (j - P.w) 1) (P.N (j - P.w) 2)) := wgo_go (n := B.1) (C := B.2) hj hf
  unfold wfin
  rw [if_neg h1, if_neg (by omega), g, show j + 1 - P.w = j - P.w + 1 by omega]
theorem wfin_Nno {P : Pl} {j : Nat} {B : Bf} (h1 : ¬ j < P.w) (hj : j - P.w < P.n) (hf : ¬ B.1 + needC B.1 (P.N (j - P.w) 0) (P.N (j - P.w) 1) (P.N (j - P.w) 2) ≤ 80) : wfin P j B = (B, j) := by
  have g : wgo (sgN P.N) P.N P.n (P.n - (j - P.w)) B = (B, j - P.w) := wgo_no (n := B.1) (C := B.2) hj hf
  unfold wfin
  rw [if_neg h1, g]
  show (B, P.w + (j - P.w)) = (B, j)
  rw [show P.w + (j - P.w) = j by omega]
theorem wfin_end {P : Pl} {j : Nat} {B : Bf} (h : j = P.w + P.n) : wfin P j B = (B, j) := by
  unfold wfin
  rw [if_neg (by omega), show P.n - (j - P.w) = 0 by omega]
  show (B, P.w + P.n) = (B, j)
  rw [h]
theorem apC_one {B B1 B2 B3 B4 B5 B6 B7 : Bf} {sg a l d : Nat} (h1 : B1 = if B.1 = 0 then B else ap B 59) (h2 : B2 = ap B1 sg) (h3 : B3 = apN B2 a) (h4 : B4 = ap B3 43) (h5 : B5 = apN B4 l) (h6 : B6 = ap B5 64) (h7 : B7 = apN B6 d) : B7 = apC B sg a l d := by
  rw [h7, h6, h5, h4, h3, h2, h1]; rfl
theorem P0_ok : okP P0 := ⟨by decide, by decide, fun i hi => absurd hi (Nat.not_lt_zero i), fun i hi => absurd hi (Nat.not_lt_zero i), P0_okS⟩
theorem rep_P0 : rep (va_up (va_up (va_up (va_up (fun _ => 0) 0 6) 1 2) 2 1) 3 2) P0 := by
  refine ⟨fun j hj => ?_, rfl, rfl, fun i hi => absurd hi (Nat.not_lt_zero i), fun i hi => absurd hi (Nat.not_lt_zero i)⟩
  rcases (show j = 0 ∨ j = 1 ∨ j = 2 ∨ j = 3 ∨ j = 4 by omega) with rfl | rfl | rfl | rfl | rfl <;> rfl

set_option maxHeartbeats 300000 in
set_option maxRecDepth 100000 in
/-- size(v) -/
theorem c_X7_size (l : Launch) {D : va_G} {dA : Nat → Nat} {b : Nat} {w : Wd} (v : Nat) (hv : v < 2 ^ 31) : Met l yX7_size wsX7_size ({ frames := 0, cells := 0, slots := 0, locals := 0 } : Room) (PC D dA b w [.int (nI v)]) (QR (some (.int (nI (dl v))))) 0 0 Fno := by
  refine q_of (cc := cX7_size) (maxL := 1) (ret := (some .int)) (by decide) rfl rfl ?_
  intro p e s m args below meth c ls hx hb hr hml hts hown hlocks hG hW hS hl
  have hown : s.vm.findClass RX7 = some m.cls := hown
  have hl : lv_has ls 1 [(0, .int (nI v))] := hl
  refine lv_iload_n hx hb dX7_size_0 rfl (lv_at hl 0 rfl) ?_
  refine lv_bipush (v := nI 9) hx hb dX7_size_1 (by decide) ?_
  refine lv_icmp_le (tgt := 10) hx hb dX7_size_3 (by decide) (fun c_3 => ?_) (fun c_3 => ?_)
  · skip
    have c_3 : v ≤ 9 := (nI_leI (a := v) (b := 9) (by omega) (by omega)).mp c_3
    refine lv_iconst (v := nI 1) hx hb dX7_size_10 (by decide) ?_
    exact q_ri hx hb hr hlocks dX7_size_11 (by unfold dl; first | (rw [if_pos (by omega)]; done) | (rw [if_neg (by omega)]; done))
  · skip
    have c_3 : ¬ (v ≤ 9) := fun h__ => c_3 ((nI_leI (a := v) (b := 9) (by omega) (by omega)).mpr h__)
    refine lv_iconst (v := nI 2) hx hb dX7_size_6 (by decide) ?_
    refine lv_goto (tgt := 11) hx hb dX7_size_7 (by decide) ?_
    exact q_ri hx hb hr hlocks dX7_size_11 (by unfold dl; first | (rw [if_pos (by omega)]; done) | (rw [if_neg (by omega)]; done))

set_option maxHeartbeats 300000 in
set_option maxRecDepth 100000 in
/-- writeNumber -/
theorem c_X7_writeNumber (l : Launch) {D : va_G} {dA : Nat → Nat} {b : Nat} {w : Wd} {sv th pl lt dn : Int32} {B : Bf} (hm0 : w 36 = some (modO b sv (nI B.1) th pl lt dn)) (hm41 : w 41 = some (eN dA 80 B.2)) (v : Nat) (hv : v ≤ 99) (hk : B.1 + dl v ≤ 80) : Met l yX7_writeNumber wsX7_writeNumber ({ frames := 0, cells := 0, slots := 0, locals := 0 } : Room) (PC D dA b w [.ref (b + 36), .int (nI v)]) (QW D b (none) (fun w' => w' 36 = some (modO b sv (nI (apN B v).1) th pl lt dn) ∧ w' 41 = some (eN dA 80 (apN B v).2) ∧ ∀ id : Nat, id ≠ 36 ∧ id ≠ 41 → w' id = w id)) 0 0 (Fb b) := by
  refine q_of (cc := cX7_writeNumber) (maxL := 2) (ret := none) (by decide) rfl rfl ?_
  intro p e s m args below meth c ls hx hb hr hml hts hown hlocks hG hW hS hl
  have hown : s.vm.findClass RX7 = some m.cls := hown
  have hinX7 : ∀ w ∈ u_ws RX7 TX7 14, w ∈ wsX7_writeNumber := fun w h => (goodIn_r (big := wsX7_writeNumber) (u_ws RX7 TX7 14) [3, 4, 5, 6, 7, 8, 9, 10, 11, 12, 13, 14, 15, 16] (by decide +kernel) (by decide +kernel) w h).1
  have hl : lv_has ls 2 [(0, .ref (b + 36)), (1, .int (nI v))] := hl
  refine lv_iload_n hx hb dX7_writeNumber_0 rfl (lv_at hl 1 rfl) ?_
  refine lv_bipush (v := nI 9) hx hb dX7_writeNumber_1 (by decide) ?_
  refine lv_icmp_le (tgt := 32) hx hb dX7_writeNumber_3 (by decide) (fun c_3 => ?_) (fun c_3 => ?_)
  · skip
    have c_3 : v ≤ 9 := (nI_leI (a := v) (b := 9) (by omega) (by omega)).mp c_3
    have hd2 : dl v = 1 := if_neg (by omega)
    have e9 : apN B v = ap B (48 + v % 10) := if_neg (by omega)
    refine lv_aload_n hx hb dX7_writeNumber_32 rfl (lv_at hl 0 rfl) ?_
    refine q_get hx hb hts hinX7 hown hG hW hm0 rfl 5 (by decide) (hts (.fieldLink RX7 23 "FoleyMixerModel" "text" "[I") (List.mem_of_getElem? (i := 1) rfl)) rfl rfl dX7_writeNumber_33 ?_
    refine lv_aload_n hx hb dX7_writeNumber_36 rfl (lv_at hl 0 rfl) ?_
    refine q_get hx hb hts hinX7 hown hG hW hm0 rfl 6 (by decide) (hts (.fieldLink RX7 117 "FoleyMixerModel" "length" "I") (List.mem_of_getElem? (i := 2) rfl)) rfl rfl dX7_writeNumber_37 ?_
    refine lv_bipush (v := nI 48) hx hb dX7_writeNumber_40 (by decide) ?_
    refine lv_iload_n hx hb dX7_writeNumber_42 rfl (lv_at hl 1 rfl) ?_
    refine lv_bipush (v := nI 10) hx hb dX7_writeNumber_43 (by decide) ?_
    refine lv_irem hx hb dX7_writeNumber_45 (by decide) ?_
    refine q_top (y := nI (v % 10)) (pk_rem (by omega) (by omega) (by omega)) ?_
    refine lv_iadd hx hb dX7_writeNumber_46 ?_
    refine q_top (y := nI (48 + (v % 10))) (nI_add _ _) ?_
    refine q_nast hx hb hG hW hS hm41 (by omega) (by omega) dX7_writeNumber_47 (fun H locs hW hS hz47 => ?_)
    obtain ⟨w1, ew1⟩ : ∃ wq__ : Wd, wq__ = va_up w 41 (some (eN dA 80 (va_up B.2 B.1 (48 + (v % 10))))) := ⟨_, rfl⟩
    replace hW : WP D b w1 H := by rw [ew1]; exact hW
    have frw1 : ∀ id : Nat, id ≠ 41 → w1 id = w id := fun id h9 => by rw [ew1, up_ne h9]
    replace hm0 : w1 36 = some (modO b (sv) (nI (B.1)) (th) (pl) (lt) (dn)) := (frw1 _ (by omega)).trans hm0
    replace hm41 : w1 41 = some (eN dA 80 (va_up B.2 B.1 (48 + (v % 10)))) := by rw [ew1]; exact up_eq
    refine lv_aload_n hx hb dX7_writeNumber_48 rfl (lv_at hl 0 rfl) ?_
    refine lv_dup hx hb dX7_writeNumber_49 rfl ?_
    refine q_get hx hb hts hinX7 hown hG hW hm0 rfl 6 (by decide) (hts (.fieldLink RX7 117 "FoleyMixerModel" "length" "I") (List.mem_of_getElem? (i := 2) rfl)) rfl rfl dX7_writeNumber_50 ?_
    refine lv_iconst (v := nI 1) hx hb dX7_writeNumber_53 (by decide) ?_
    refine lv_iadd hx hb dX7_writeNumber_54 ?_
    refine q_top (y := nI (B.1 + 1)) (nI_add _ _) ?_
    refine q_put hx hb hts hinX7 tyX7_ok nmX7 hown hG hW hS hm0 rfl 6 (by decide) (hts (.fieldLink RX7 117 "FoleyMixerModel" "length" "I") (List.mem_of_getElem? (i := 2) rfl)) rfl rfl rfl rfl (Nat.le_of_ble_eq_true rfl) dX7_writeNumber_55 (fun H locs hW hS hz55 => ?_)
    obtain ⟨w2, ew2⟩ : ∃ wq__ : Wd, wq__ = va_up w1 36 (some (modO b (sv) (nI (B.1 + 1)) (th) (pl) (lt) (dn))) := ⟨_, rfl⟩
    replace hW : WP D b w2 H := by rw [ew2]; exact hW
    have frw2 : ∀ id : Nat, id ≠ 36 → w2 id = w1 id := fun id h9 => by rw [ew2, up_ne h9]
    replace hm41 : w2 41 = some (eN dA 80 (va_up B.2 B.1 (48 + (v % 10)))) := (frw2 _ (by omega)).trans hm41
    replace hm0 : w2 36 = some (modO b (sv) (nI (B.1 + 1)) (th) (pl) (lt) (dn)) := by rw [ew2]; exact up_eq
    exact q_wv hx hb hr hlocks hW hS dX7_writeNumber_58 (by rw [e9]; exact ⟨hm0, hm41, by intro id h9; rw [frw2 id (by omega)]; rw [frw1 id (by omega)]; try rfl⟩) (by decide) (by decide)
  · skip
    have c_3 : ¬ (v ≤ 9) := fun h__ => c_3 ((nI_leI (a := v) (b := 9) (by omega) (by omega)).mpr h__)
    have hd2 : dl v = 2 := if_pos (by omega)
    have e9 : apN B v = ap (ap B (48 + v / 10)) (48 + v % 10) := if_pos (by omega)
    refine lv_aload_n hx hb dX7_writeNumber_6 rfl (lv_at hl 0 rfl) ?_
    refine q_get hx hb hts hinX7 hown hG hW hm0 rfl 5 (by decide) (hts (.fieldLink RX7 23 "FoleyMixerModel" "text" "[I") (List.mem_of_getElem? (i := 1) rfl)) rfl rfl dX7_writeNumber_7 ?_
    refine lv_aload_n hx hb dX7_writeNumber_10 rfl (lv_at hl 0 rfl) ?_
    refine q_get hx hb hts hinX7 hown hG hW hm0 rfl 6 (by decide) (hts (.fieldLink RX7 117 "FoleyMixerModel" "length" "I") (List.mem_of_getElem? (i := 2) rfl)) rfl rfl dX7_writeNumber_11 ?_
    refine lv_bipush (v := nI 48) hx hb dX7_writeNumber_14 (by decide) ?_
    refine lv_iload_n hx hb dX7_writeNumber_16 rfl (lv_at hl 1 rfl) ?_
    refine lv_bipush (v := nI 10) hx hb dX7_writeNumber_17 (by decide) ?_
    refine lv_idiv hx hb dX7_writeNumber_19 (by decide) ?_
    refine q_top (y := nI (v / 10)) (pk_div (by omega) (by omega) (by omega)) ?_
    refine lv_iadd hx hb dX7_writeNumber_20 ?_
    refine q_top (y := nI (48 + (v / 10))) (nI_add _ _) ?_
    refine q_nast hx hb hG hW hS hm41 (by omega) (by omega) dX7_writeNumber_21 (fun H locs hW hS hz21 => ?_)
    obtain ⟨w3, ew3⟩ : ∃ wq__ : Wd, wq__ = va_up w 41 (some (eN dA 80 (va_up B.2 B.1 (48 + (v / 10))))) := ⟨_, rfl⟩
    replace hW : WP D b w3 H := by rw [ew3]; exact hW
    have frw3 : ∀ id : Nat, id ≠ 41 → w3 id = w id := fun id h9 => by rw [ew3, up_ne h9]
    replace hm0 : w3 36 = some (modO b (sv) (nI (B.1)) (th) (pl) (lt) (dn)) := (frw3 _ (by omega)).trans hm0
    replace hm41 : w3 41 = some (eN dA 80 (va_up B.2 B.1 (48 + (v / 10)))) := by rw [ew3]; exact up_eq
    refine lv_aload_n hx hb dX7_writeNumber_22 rfl (lv_at hl 0 rfl) ?_
    refine lv_dup hx hb dX7_writeNumber_23 rfl ?_
    refine q_get hx hb hts hinX7 hown hG hW hm0 rfl 6 (by decide) (hts (.fieldLink RX7 117 "FoleyMixerModel" "length" "I") (List.mem_of_getElem? (i := 2) rfl)) rfl rfl dX7_writeNumber_24 ?_
    refine lv_iconst (v := nI 1) hx hb dX7_writeNumber_27 (by decide) ?_
    refine lv_iadd hx hb dX7_writeNumber_28 ?_
    refine q_top (y := nI (B.1 + 1)) (nI_add _ _) ?_
    refine q_put hx hb hts hinX7 tyX7_ok nmX7 hown hG hW hS hm0 rfl 6 (by decide) (hts (.fieldLink RX7 117 "FoleyMixerModel" "length" "I") (List.mem_of_getElem? (i := 2) rfl)) rfl rfl rfl rfl (Nat.le_of_ble_eq_true rfl) dX7_writeNumber_29 (fun H locs hW hS hz29 => ?_)
    obtain ⟨w4, ew4⟩ : ∃ wq__ : Wd, wq__ = va_up w3 36 (some (modO b (sv) (nI (B.1 + 1)) (th) (pl) (lt) (dn))) := ⟨_, rfl⟩
    replace hW : WP D b w4 H := by rw [ew4]; exact hW
    have frw4 : ∀ id : Nat, id ≠ 36 → w4 id = w3 id := fun id h9 => by rw [ew4, up_ne h9]
    replace hm41 : w4 41 = some (eN dA 80 (va_up B.2 B.1 (48 + (v / 10)))) := (frw4 _ (by omega)).trans hm41
    replace hm0 : w4 36 = some (modO b (sv) (nI (B.1 + 1)) (th) (pl) (lt) (dn)) := by rw [ew4]; exact up_eq
    refine lv_aload_n hx hb dX7_writeNumber_32 rfl (lv_at hl 0 rfl) ?_
    refine q_get hx hb hts hinX7 hown hG hW hm0 rfl 5 (by decide) (hts (.fieldLink RX7 23 "FoleyMixerModel" "text" "[I") (List.mem_of_getElem? (i := 1) rfl)) rfl rfl dX7_writeNumber_33 ?_
    refine lv_aload_n hx hb dX7_writeNumber_36 rfl (lv_at hl 0 rfl) ?_
    refine q_get hx hb hts hinX7 hown hG hW hm0 rfl 6 (by decide) (hts (.fieldLink RX7 117 "FoleyMixerModel" "length" "I") (List.mem_of_getElem? (i := 2) rfl)) rfl rfl dX7_writeNumber_37 ?_
    refine lv_bipush (v := nI 48) hx hb dX7_writeNumber_40 (by decide) ?_
    refine lv_iload_n hx hb dX7_writeNumber_42 rfl (lv_at hl 1 rfl) ?_
    refine lv_bipush (v := nI 10) hx hb dX7_writeNumber_43 (by decide) ?_
    refine lv_irem hx hb dX7_writeNumber_45 (by decide) ?_
    refine q_top (y := nI (v % 10)) (pk_rem (by omega) (by omega) (by omega)) ?_
    refine lv_iadd hx hb dX7_writeNumber_46 ?_
    refine q_top (y := nI (48 + (v % 10))) (nI_add _ _) ?_
    refine q_nast hx hb hG hW hS hm41 (by omega) (by omega) dX7_writeNumber_47 (fun H locs hW hS hz47 => ?_)
    obtain ⟨w5, ew5⟩ : ∃ wq__ : Wd, wq__ = va_up w4 41 (some (eN dA 80 (va_up (va_up B.2 B.1 (48 + (v / 10))) (B.1 + 1) (48 + (v % 10))))) := ⟨_, rfl⟩
    replace hW : WP D b w5 H := by rw [ew5]; exact hW
    have frw5 : ∀ id : Nat, id ≠ 41 → w5 id = w4 id := fun id h9 => by rw [ew5, up_ne h9]
    replace hm0 : w5 36 = some (modO b (sv) (nI (B.1 + 1)) (th) (pl) (lt) (dn)) := (frw5 _ (by omega)).trans hm0
    replace hm41 : w5 41 = some (eN dA 80 (va_up (va_up B.2 B.1 (48 + (v / 10))) (B.1 + 1) (48 + (v % 10)))) := by rw [ew5]; exact up_eq
    refine lv_aload_n hx hb dX7_writeNumber_48 rfl (lv_at hl 0 rfl) ?_
    refine lv_dup hx hb dX7_writeNumber_49 rfl ?_
    refine q_get hx hb hts hinX7 hown hG hW hm0 rfl 6 (by decide) (hts (.fieldLink RX7 117 "FoleyMixerModel" "length" "I") (List.mem_of_getElem? (i := 2) rfl)) rfl rfl dX7_writeNumber_50 ?_
    refine lv_iconst (v := nI 1) hx hb dX7_writeNumber_53 (by decide) ?_
    refine lv_iadd hx hb dX7_writeNumber_54 ?_
    refine q_top (y := nI ((B.1 + 1) + 1)) (nI_add _ _) ?_
    refine q_put hx hb hts hinX7 tyX7_ok nmX7 hown hG hW hS hm0 rfl 6 (by decide) (hts (.fieldLink RX7 117 "FoleyMixerModel" "length" "I") (List.mem_of_getElem? (i := 2) rfl)) rfl rfl rfl rfl (Nat.le_of_ble_eq_true rfl) dX7_writeNumber_55 (fun H locs hW hS hz55 => ?_)
    obtain ⟨w6, ew6⟩ : ∃ wq__ : Wd, wq__ = va_up w5 36 (some (modO b (sv) (nI ((B.1 + 1) + 1)) (th) (pl) (lt) (dn))) := ⟨_, rfl⟩
    replace hW : WP D b w6 H := by rw [ew6]; exact hW
    have frw6 : ∀ id : Nat, id ≠ 36 → w6 id = w5 id := fun id h9 => by rw [ew6, up_ne h9]
    replace hm41 : w6 41 = some (eN dA 80 (va_up (va_up B.2 B.1 (48 + (v / 10))) (B.1 + 1) (48 + (v % 10)))) := (frw6 _ (by omega)).trans hm41
    replace hm0 : w6 36 = some (modO b (sv) (nI ((B.1 + 1) + 1)) (th) (pl) (lt) (dn)) := by rw [ew6]; exact up_eq
    exact q_wv hx hb hr hlocks hW hS dX7_writeNumber_58 (by rw [e9]; exact ⟨hm0, hm41, by intro id h9; rw [frw6 id (by omega)]; rw [frw5 id (by omega)]; rw [frw4 id (by omega)]; rw [frw3 id (by omega)]; try rfl⟩) (by decide) (by decide)

set_option maxHeartbeats 4000000 in
set_option maxRecDepth 100000 in
/-- write -/
theorem c_X7_write (l : Launch) {D : va_G} {dA : Nat → Nat} {b : Nat} {w : Wd} {n nc : Nat} {P : Pl} {Hs : Nat → Pl} {SL : Nat → Option Pl} {C : Nat → Nat} {tt : Int32} (hmd : isMod dA b w (P, (n, Hs), SL, (nc, C)) tt) : Met l yX7_write wsX7_write ({ frames := 1, cells := 0, slots := 0, locals := 21 } : Room) (PC D dA b w [.ref (b + 36)]) (QW D b (some (.int (nI ((wrt P C).2)))) (fun w' => isMod dA b w' (P, (n, Hs), SL, ((wrt P C).1.1, (wrt P C).1.2)) (nI 0) ∧ ∀ id : Nat, (id < 36 ∨ 45 ≤ id) → w' id = w id)) 0 0 (Fb b) := by
  refine q_of (cc := cX7_write) (maxL := 7) (ret := (some .int)) (by decide) rfl rfl ?_
  intro p e s m args below meth c ls hx hb hr hml hts hown hlocks hG hW hS hl
  have hown : s.vm.findClass RX7 = some m.cls := hown
  have hinX7 : ∀ w ∈ u_ws RX7 TX7 14, w ∈ wsX7_write := fun w h => (goodIn_r (big := wsX7_write) (u_ws RX7 TX7 14) [16, 17, 18, 19, 20, 21, 22, 23, 24, 25, 26, 27, 28, 29] (by decide +kernel) (by decide +kernel) w h).1
  have hl : lv_has ls 7 [(0, .ref (b + 36))] := hl
  obtain ⟨pl, lt, dn, F, G, GS, Zt, D0, M0, TD, hm0, hm1, ⟨hRp, hP⟩, hm38, hsv, hm39, hm40, hsl, hm41, hbu, hm42, hm43, hm44⟩ := id hmd
  change w 36 = some (modO b (nI n) (nI nc) tt pl lt dn) at hm0
  change rep F P at hRp
  change okP P at hP
  change mSv n G Hs at hsv
  change mSl GS Zt SL at hsl
  change w 41 = some (eN dA 80 C) at hm41
  change mBu nc C at hbu
  have hn6 := hsv.1
  have hnc := hbu.1
  obtain ⟨hPw, hPn, hPW, hPN, hPS⟩ := id hP
  have hr5 := hRp.2.1
  have hr6 := hRp.2.2.1
  have hm1o := hm1
  have hm38o := hm38
  have hm39o := hm39
  have hm40o := hm40
  have hm42o := hm42
  have hm43o := hm43
  have hm44o := hm44
  refine lv_aload_n hx hb dX7_write_0 rfl (lv_at hl 0 rfl) ?_
  refine lv_iconst (v := nI 0) hx hb dX7_write_1 (by decide) ?_
  refine q_put hx hb hts hinX7 tyX7_ok nmX7 hown hG hW hS hm0 rfl 7 (by decide) (hts (.fieldLink RX7 35 "FoleyMixerModel" "thrown" "I") (List.mem_of_getElem? (i := 1) rfl)) rfl rfl rfl rfl (Nat.le_of_ble_eq_true rfl) dX7_write_2 (fun H locs hW hS hz2 => ?_)
  obtain ⟨w1, ew1⟩ : ∃ wq__ : Wd, wq__ = va_up w 36 (some (modO b (nI (n)) (nI (nc)) (nI (0)) (pl) (lt) (dn))) := ⟨_, rfl⟩
  replace hW : WP D b w1 H := by rw [ew1]; exact hW
  have frw1 : ∀ id : Nat, id ≠ 36 → w1 id = w id := fun id h9 => by rw [ew1, up_ne h9]
  replace hm1 : w1 37 = some (eN dA 85 F) := (frw1 _ (by omega)).trans hm1
  replace hm38 : w1 38 = some (eN dA 510 G) := (frw1 _ (by omega)).trans hm38
  replace hm39 : w1 39 = some (eN dA 170 GS) := (frw1 _ (by omega)).trans hm39
  replace hm40 : w1 40 = some (eZ dA 2 Zt) := (frw1 _ (by omega)).trans hm40
  replace hm41 : w1 41 = some (eN dA 80 C) := (frw1 _ (by omega)).trans hm41
  replace hm42 : w1 42 = some (eN dA 120 D0) := (frw1 _ (by omega)).trans hm42
  replace hm43 : w1 43 = some (eN dA 120 M0) := (frw1 _ (by omega)).trans hm43
  replace hm44 : w1 44 = some (eN dA 3 TD) := (frw1 _ (by omega)).trans hm44
  replace hm0 : w1 36 = some (modO b (nI (n)) (nI (nc)) (nI (0)) (pl) (lt) (dn)) := by rw [ew1]; exact up_eq
  refine lv_aload_n hx hb dX7_write_5 rfl (lv_at hl 0 rfl) ?_
  refine lv_iconst (v := nI 0) hx hb dX7_write_6 (by decide) ?_
  refine q_put hx hb hts hinX7 tyX7_ok nmX7 hown hG hW hS hm0 rfl 6 (by decide) (hts (.fieldLink RX7 117 "FoleyMixerModel" "length" "I") (List.mem_of_getElem? (i := 2) rfl)) rfl rfl rfl rfl (Nat.le_of_ble_eq_true rfl) dX7_write_7 (fun H locs hW hS hz7 => ?_)
  obtain ⟨w2, ew2⟩ : ∃ wq__ : Wd, wq__ = va_up w1 36 (some (modO b (nI (n)) (nI (0)) (nI (0)) (pl) (lt) (dn))) := ⟨_, rfl⟩
  replace hW : WP D b w2 H := by rw [ew2]; exact hW
  have frw2 : ∀ id : Nat, id ≠ 36 → w2 id = w1 id := fun id h9 => by rw [ew2, up_ne h9]
  replace hm1 : w2 37 = some (eN dA 85 F) := (frw2 _ (by omega)).trans hm1
  replace hm38 : w2 38 = some (eN dA 510 G) := (frw2 _ (by omega)).trans hm38
  replace hm39 : w2 39 = some (eN dA 170 GS) := (frw2 _ (by omega)).trans hm39
  replace hm40 : w2 40 = some (eZ dA 2 Zt) := (frw2 _ (by omega)).trans hm40
  replace hm41 : w2 41 = some (eN dA 80 C) := (frw2 _ (by omega)).trans hm41
  replace hm42 : w2 42 = some (eN dA 120 D0) := (frw2 _ (by omega)).trans hm42
  replace hm43 : w2 43 = some (eN dA 120 M0) := (frw2 _ (by omega)).trans hm43
  replace hm44 : w2 44 = some (eN dA 3 TD) := (frw2 _ (by omega)).trans hm44
  replace hm0 : w2 36 = some (modO b (nI (n)) (nI (0)) (nI (0)) (pl) (lt) (dn)) := by rw [ew2]; exact up_eq
  refine lv_iconst (v := nI 0) hx hb dX7_write_10 (by decide) ?_
  refine lv_istore_n (lv' := [(1, .int (nI 0)), (0, .ref (b + 36))]) hx hb dX7_write_11 rfl hl (by decide) rfl (fun ls hl => ?_)
  refine lv_aload_n hx hb dX7_write_12 rfl (lv_at hl 1 rfl) ?_
  refine q_get hx hb hts hinX7 hown hG hW hm0 rfl 0 (by decide) (hts (.fieldLink RX7 7 "FoleyMixerModel" "s" "[I") (List.mem_of_getElem? (i := 3) rfl)) rfl rfl dX7_write_13 ?_
  refine lv_iconst (v := nI 5) hx hb dX7_write_16 (by decide) ?_
  refine q_iald hx hb hG hW hm1 (by omega) (by omega) dX7_write_17 ?_
  refine q_top (y := nI (P.w)) (by exact congrArg nI hr5) ?_
  refine lv_aload_n hx hb dX7_write_18 rfl (lv_at hl 1 rfl) ?_
  refine q_get hx hb hts hinX7 hown hG hW hm0 rfl 0 (by decide) (hts (.fieldLink RX7 7 "FoleyMixerModel" "s" "[I") (List.mem_of_getElem? (i := 3) rfl)) rfl rfl dX7_write_19 ?_
  refine lv_bipush (v := nI 6) hx hb dX7_write_22 (by decide) ?_
  refine q_iald hx hb hG hW hm1 (by omega) (by omega) dX7_write_24 ?_
  refine q_top (y := nI (P.n)) (by exact congrArg nI hr6) ?_
  refine lv_iadd hx hb dX7_write_25 ?_
  refine q_top (y := nI (P.w + P.n)) (nI_add _ _) ?_
  refine lv_istore_n (lv' := [(2, .int (nI (P.w + P.n))), (1, .int (nI 0)), (0, .ref (b + 36))]) hx hb dX7_write_26 rfl hl (by decide) rfl (fun ls hl => ?_)
  refine lv_iconst (v := nI 1) hx hb dX7_write_27 (by decide) ?_
  refine lv_istore_n (lv' := [(3, .int (nI 1)), (2, .int (nI (P.w + P.n))), (1, .int (nI 0)), (0, .ref (b + 36))]) hx hb dX7_write_28 rfl hl (by decide) rfl (fun ls hl => ?_)
  have L29 : ∀ (n29 : Nat) (j f8 : Nat) (B : Bf), j ≤ P.w + P.n → f8 < 2 → ((f8 = 1 ∧ wfin P j B = wrt P C) ∨ (f8 = 0 ∧ (B, j) = wrt P C)) → B.1 ≤ 80 → okB B → ((j = 0 → B.1 = 0) ∧ (0 < j → 0 < B.1)) → 2 * (P.w + P.n - j) + f8 < n29 → ∀ (x29_1 : Int32) (x29_3 : Int32), x29_1 = nI (j) → x29_3 = nI (f8) → ∀ (wa : Wd) (H : Heap) (locs : List Loc), wa 36 = some (modO b (nI n) (nI B.1) (nI 0) pl lt dn) → wa 41 = some (eN dA 80 B.2) → (∀ id : Nat, id ≠ 36 ∧ id ≠ 41 → wa id = w id) → WP D b wa H → va_S (Fb b) s.heap H locs → ∀ (ls : Array Slot), lv_has ls 7 [(0, .ref (b + 36)), (1, .int x29_1), (2, .int (nI (P.w + P.n))), (3, .int x29_3)] → W p l e ({ frames := 1, cells := 0, slots := 0, locals := 21 } : Room) s m args below meth c H locs 0 0 (MQ below (QW D b (some (.int (nI ((wrt P C).2)))) (fun w' => isMod dA b w' (P, (n, Hs), SL, ((wrt P C).1.1, (wrt P C).1.2)) (nI 0) ∧ ∀ id : Nat, (id < 36 ∨ 45 ≤ id) → w' id = w id)) args s 0 0 (Fb b)) (F0 m 29 ls []) := by
    intro n29
    induction n29 with
    | zero =>
      intro j f8 B hj0 hf8 hres hB0 hk0 hz0 hn29 x29_1 x29_3 ex29_1 ex29_3 wa H locs hm0 hm41 fr hW hS ls hl
      exact absurd hn29 (Nat.not_lt_zero _)
    | succ n29 ih29 =>
      intro j f8 B hj0 hf8 hres hB0 hk0 hz0 hn29 x29_1 x29_3 ex29_1 ex29_3 wa H locs hm0 hm41 fr hW hS ls hl
      subst ex29_1 ex29_3
      replace hm1 := (fr 37 (by omega)).trans hm1o
      replace hm38 := (fr 38 (by omega)).trans hm38o
      replace hm39 := (fr 39 (by omega)).trans hm39o
      replace hm40 := (fr 40 (by omega)).trans hm40o
      replace hm42 := (fr 42 (by omega)).trans hm42o
      replace hm43 := (fr 43 (by omega)).trans hm43o
      replace hm44 := (fr 44 (by omega)).trans hm44o
      refine lv_iload_n hx hb dX7_write_29 rfl (lv_at hl 1 rfl) ?_
      refine lv_iload_n hx hb dX7_write_30 rfl (lv_at hl 2 rfl) ?_
      refine lv_icmp_ge (tgt := 314) hx hb dX7_write_31 (by decide) (fun c_31 => ?_) (fun c_31 => ?_)
      · skip
        have c_31 : P.w + P.n ≤ j := (nI_leI (a := P.w + P.n) (b := j) (by omega) (by omega)).mp c_31
        have hend : (B, j) = wrt P C := by first | exact (wfin_end (by omega)).symm.trans (hres.resolve_right (fun h => absurd h.1 (by omega))).2 | exact (hres.resolve_left (fun h => absurd h.1 (by omega))).2 | exact hres.elim (fun h => (wfin_end (by omega)).symm.trans h.2) (fun h => h.2)
        refine lv_iload_n hx hb dX7_write_314 rfl (lv_at hl 1 rfl) ?_
        exact q_wi hx hb hr hlocks hW hS dX7_write_315 (by rw [← hend]) (by have hbu9 : mBu B.1 B.2 := ⟨hB0, hk0⟩; rw [← hend]; exact ⟨⟨_, _, _, _, _, _, _, _, _, _, hm0, hm1, ⟨hRp, hP⟩, hm38, hsv, hm39, hm40, hsl, hm41, hbu9, hm42, hm43, hm44⟩, by intro id h9; rw [fr id (by omega)]⟩) (by decide) (by decide)
      · skip
        have c_31 : ¬ (P.w + P.n ≤ j) := fun h__ => c_31 ((nI_leI (a := P.w + P.n) (b := j) (by omega) (by omega)).mpr h__)
        refine lv_iload_n hx hb dX7_write_34 rfl (lv_at hl 3 rfl) ?_
        refine lv_if_eq (tgt := 314) hx hb dX7_write_35 (by decide) (fun c_35 => ?_) (fun c_35 => ?_)
        · skip
          have c_35 : f8 = 0 := (nI_eq0 (i := f8) (by omega)).mp c_35
          have hend : (B, j) = wrt P C := by first | exact (wfin_end (by omega)).symm.trans (hres.resolve_right (fun h => absurd h.1 (by omega))).2 | exact (hres.resolve_left (fun h => absurd h.1 (by omega))).2 | exact hres.elim (fun h => (wfin_end (by omega)).symm.trans h.2) (fun h => h.2)
          refine lv_iload_n hx hb dX7_write_314 rfl (lv_at hl 1 rfl) ?_
          exact q_wi hx hb hr hlocks hW hS dX7_write_315 (by rw [← hend]) (by have hbu9 : mBu B.1 B.2 := ⟨hB0, hk0⟩; rw [← hend]; exact ⟨⟨_, _, _, _, _, _, _, _, _, _, hm0, hm1, ⟨hRp, hP⟩, hm38, hsv, hm39, hm40, hsl, hm41, hbu9, hm42, hm43, hm44⟩, by intro id h9; rw [fr id (by omega)]⟩) (by decide) (by decide)
        · skip
          have c_35 : ¬ (f8 = 0) := fun h__ => c_35 ((nI_eq0 (i := f8) (by omega)).mpr h__)
          refine lv_iload_n hx hb dX7_write_38 rfl (lv_at hl 1 rfl) ?_
          refine lv_aload_n hx hb dX7_write_39 rfl (lv_at hl 0 rfl) ?_
          refine q_get hx hb hts hinX7 hown hG hW hm0 rfl 0 (by decide) (hts (.fieldLink RX7 7 "FoleyMixerModel" "s" "[I") (List.mem_of_getElem? (i := 3) rfl)) rfl rfl dX7_write_40 ?_
          refine lv_iconst (v := nI 5) hx hb dX7_write_43 (by decide) ?_
          refine q_iald hx hb hG hW hm1 (by omega) (by omega) dX7_write_44 ?_
          refine q_top (y := nI (P.w)) (by exact congrArg nI hr5) ?_
          refine lv_icmp_ge (tgt := 52) hx hb dX7_write_45 (by decide) (fun c_45 => ?_) (fun c_45 => ?_)
          · skip
            have c_45 : P.w ≤ j := (nI_leI (a := P.w) (b := j) (by omega) (by omega)).mp c_45
            have hj9 : ¬ j < P.w := by omega
            have hj8 : j - P.w < P.n := by omega
            have hWj := hPN _ hj8
            refine lv_iconst (v := nI 0) hx hb dX7_write_52 (by decide) ?_
            refine lv_istore (lv' := [(4, .int (nI 0)), (0, .ref (b + 36)), (1, .int (nI j)), (2, .int (nI (P.w + P.n))), (3, .int (nI f8))]) hx hb dX7_write_53 hl (by decide) rfl (fun ls hl => ?_)
            refine lv_iload hx hb dX7_write_55 (lv_at hl 0 rfl) ?_
            refine lv_iload hx hb dX7_write_57 (lv_at hl 0 rfl) ?_
            refine lv_if_eq (tgt := 66) hx hb dX7_write_59 (by decide) (fun c_59 => ?_) (fun c_59 => ?_)
            · skip
              have c_59 : 0 = 0 := (nI_eq0 (i := 0) (by omega)).mp c_59
              refine lv_iload_n hx hb dX7_write_66 rfl (lv_at hl 2 rfl) ?_
              refine lv_aload_n hx hb dX7_write_67 rfl (lv_at hl 1 rfl) ?_
              refine q_get hx hb hts hinX7 hown hG hW hm0 rfl 0 (by decide) (hts (.fieldLink RX7 7 "FoleyMixerModel" "s" "[I") (List.mem_of_getElem? (i := 3) rfl)) rfl rfl dX7_write_68 ?_
              refine lv_iconst (v := nI 5) hx hb dX7_write_71 (by decide) ?_
              refine q_iald hx hb hG hW hm1 (by omega) (by omega) dX7_write_72 ?_
              refine q_top (y := nI (P.w)) (by exact congrArg nI hr5) ?_
              refine lv_isub hx hb dX7_write_73 ?_
              refine q_top (y := nI (j - P.w)) (nI_sub (by omega)) ?_
              refine q_R1 (va_runS (As := [.int (nI 0), .int (nI (j - P.w))]) (rest := []) ⟨hx, hb, hml, hown, hts⟩ (c_X7_whereIs_f l (j - P.w)) (va_cwS 2 hts gX7_write_X7_whereIs rfl rfl rfl (by decide +kernel) ⟨Nat.le_of_ble_eq_true rfl, Nat.le_of_ble_eq_true rfl⟩) (q_preS hG hW hS) rfl rfl hl.1 rfl (lv_room (Nat.le_of_ble_eq_true rfl)) dX7_write_74 ⟨Nat.le_of_ble_eq_true rfl, Nat.le_of_ble_eq_true rfl⟩) ?_
              refine lv_istore (lv' := [(5, .int (nI (37 + 4 * (j - P.w)))), (4, .int (nI 0)), (0, .ref (b + 36)), (1, .int (nI j)), (2, .int (nI (P.w + P.n))), (3, .int (nI f8))]) hx hb dX7_write_77 hl (by decide) rfl (fun ls hl => ?_)
              refine lv_iload_n hx hb dX7_write_79 rfl (lv_at hl 3 rfl) ?_
              refine lv_if_le (tgt := 87) hx hb dX7_write_80 (by decide) (fun c_80 => ?_) (fun c_80 => ?_)
              · skip
                have c_80 : j ≤ 0 := (nI_le0 (i := j) (by omega)).mp c_80
                refine lv_iconst (v := nI 0) hx hb dX7_write_87 (by decide) ?_
                refine lv_iconst (v := nI 3) hx hb dX7_write_88 (by decide) ?_
                refine lv_iadd hx hb dX7_write_89 ?_
                refine q_top (y := nI (3)) (nI_add _ _) ?_
                refine lv_aload_n hx hb dX7_write_90 rfl (lv_at hl 2 rfl) ?_
                refine q_get hx hb hts hinX7 hown hG hW hm0 rfl 0 (by decide) (hts (.fieldLink RX7 7 "FoleyMixerModel" "s" "[I") (List.mem_of_getElem? (i := 3) rfl)) rfl rfl dX7_write_91 ?_
                refine lv_iload hx hb dX7_write_94 (lv_at hl 0 rfl) ?_
                refine lv_iconst (v := nI 0) hx hb dX7_write_96 (by decide) ?_
                refine lv_iadd hx hb dX7_write_97 ?_
                refine q_top (y := nI ((37 + 4 * (j - P.w)) + 0)) (nI_add _ _) ?_
                refine q_iald hx hb hG hW hm1 (by omega) (by omega) dX7_write_98 ?_
                refine q_top (y := nI (P.N (j - P.w) 0)) (by exact congrArg nI (hRp.2.2.2.2 _ hj8 0 (by decide))) ?_
                refine q_R1 (va_runS (As := [.int (nI (P.N (j - P.w) 0))]) (rest := [.int (nI 3)]) ⟨hx, hb, hml, hown, hts⟩ (c_X7_size l (P.N (j - P.w) 0) (by omega)) (va_cwS 1 hts gX7_write_X7_size rfl rfl rfl (by decide +kernel) ⟨Nat.le_of_ble_eq_true rfl, Nat.le_of_ble_eq_true rfl⟩) (q_preS hG hW hS) rfl rfl hl.1 rfl (lv_room (Nat.le_of_ble_eq_true rfl)) dX7_write_99 ⟨Nat.le_of_ble_eq_true rfl, Nat.le_of_ble_eq_true rfl⟩) ?_
                have hdl99 := dl_rng (P.N (j - P.w) 0)
                refine lv_iadd hx hb dX7_write_102 ?_
                refine q_top (y := nI (3 + (dl (P.N (j - P.w) 0)))) (nI_add _ _) ?_
                refine lv_aload_n hx hb dX7_write_103 rfl (lv_at hl 2 rfl) ?_
                refine q_get hx hb hts hinX7 hown hG hW hm0 rfl 0 (by decide) (hts (.fieldLink RX7 7 "FoleyMixerModel" "s" "[I") (List.mem_of_getElem? (i := 3) rfl)) rfl rfl dX7_write_104 ?_
                refine lv_iload hx hb dX7_write_107 (lv_at hl 0 rfl) ?_
                refine lv_iconst (v := nI 1) hx hb dX7_write_109 (by decide) ?_
                refine lv_iadd hx hb dX7_write_110 ?_
                refine q_top (y := nI ((37 + 4 * (j - P.w)) + 1)) (nI_add _ _) ?_
                refine q_iald hx hb hG hW hm1 (by omega) (by omega) dX7_write_111 ?_
                refine q_top (y := nI (P.N (j - P.w) 1)) (by exact congrArg nI (hRp.2.2.2.2 _ hj8 1 (by decide))) ?_
                refine q_R1 (va_runS (As := [.int (nI (P.N (j - P.w) 1))]) (rest := [.int (nI (3 + (dl (P.N (j - P.w) 0))))]) ⟨hx, hb, hml, hown, hts⟩ (c_X7_size l (P.N (j - P.w) 1) (by omega)) (va_cwS 1 hts gX7_write_X7_size rfl rfl rfl (by decide +kernel) ⟨Nat.le_of_ble_eq_true rfl, Nat.le_of_ble_eq_true rfl⟩) (q_preS hG hW hS) rfl rfl hl.1 rfl (lv_room (Nat.le_of_ble_eq_true rfl)) dX7_write_112 ⟨Nat.le_of_ble_eq_true rfl, Nat.le_of_ble_eq_true rfl⟩) ?_
                have hdl112 := dl_rng (P.N (j - P.w) 1)
                refine lv_iadd hx hb dX7_write_115 ?_
                refine q_top (y := nI ((3 + (dl (P.N (j - P.w) 0))) + (dl (P.N (j - P.w) 1)))) (nI_add _ _) ?_
                refine lv_aload_n hx hb dX7_write_116 rfl (lv_at hl 2 rfl) ?_
                refine q_get hx hb hts hinX7 hown hG hW hm0 rfl 0 (by decide) (hts (.fieldLink RX7 7 "FoleyMixerModel" "s" "[I") (List.mem_of_getElem? (i := 3) rfl)) rfl rfl dX7_write_117 ?_
                refine lv_iload hx hb dX7_write_120 (lv_at hl 0 rfl) ?_
                refine lv_iconst (v := nI 2) hx hb dX7_write_122 (by decide) ?_
                refine lv_iadd hx hb dX7_write_123 ?_
                refine q_top (y := nI ((37 + 4 * (j - P.w)) + 2)) (nI_add _ _) ?_
                refine q_iald hx hb hG hW hm1 (by omega) (by omega) dX7_write_124 ?_
                refine q_top (y := nI (P.N (j - P.w) 2)) (by exact congrArg nI (hRp.2.2.2.2 _ hj8 2 (by decide))) ?_
                refine q_R1 (va_runS (As := [.int (nI (P.N (j - P.w) 2))]) (rest := [.int (nI ((3 + (dl (P.N (j - P.w) 0))) + (dl (P.N (j - P.w) 1))))]) ⟨hx, hb, hml, hown, hts⟩ (c_X7_size l (P.N (j - P.w) 2) (by omega)) (va_cwS 1 hts gX7_write_X7_size rfl rfl rfl (by decide +kernel) ⟨Nat.le_of_ble_eq_true rfl, Nat.le_of_ble_eq_true rfl⟩) (q_preS hG hW hS) rfl rfl hl.1 rfl (lv_room (Nat.le_of_ble_eq_true rfl)) dX7_write_125 ⟨Nat.le_of_ble_eq_true rfl, Nat.le_of_ble_eq_true rfl⟩) ?_
                have hdl125 := dl_rng (P.N (j - P.w) 2)
                refine lv_iadd hx hb dX7_write_128 ?_
                refine q_top (y := nI (((3 + (dl (P.N (j - P.w) 0))) + (dl (P.N (j - P.w) 1))) + (dl (P.N (j - P.w) 2)))) (nI_add _ _) ?_
                refine lv_istore (lv' := [(6, .int (nI (((3 + (dl (P.N (j - P.w) 0))) + (dl (P.N (j - P.w) 1))) + (dl (P.N (j - P.w) 2))))), (5, .int (nI (37 + 4 * (j - P.w)))), (4, .int (nI 0)), (0, .ref (b + 36)), (1, .int (nI j)), (2, .int (nI (P.w + P.n))), (3, .int (nI f8))]) hx hb dX7_write_129 hl (by decide) rfl (fun ls hl => ?_)
                refine lv_aload_n hx hb dX7_write_131 rfl (lv_at hl 3 rfl) ?_
                refine q_get hx hb hts hinX7 hown hG hW hm0 rfl 6 (by decide) (hts (.fieldLink RX7 117 "FoleyMixerModel" "length" "I") (List.mem_of_getElem? (i := 2) rfl)) rfl rfl dX7_write_132 ?_
                refine lv_iload hx hb dX7_write_135 (lv_at hl 0 rfl) ?_
                refine lv_iadd hx hb dX7_write_137 ?_
                refine q_top (y := nI (B.1 + (((3 + (dl (P.N (j - P.w) 0))) + (dl (P.N (j - P.w) 1))) + (dl (P.N (j - P.w) 2))))) (nI_add _ _) ?_
                refine lv_bipush (v := nI 80) hx hb dX7_write_138 (by decide) ?_
                refine lv_icmp_gt (tgt := 147) hx hb dX7_write_140 (by decide) (fun c_140 => ?_) (fun c_140 => ?_)
                · skip
                  have c_140 : 80 < B.1 + (((3 + (dl (P.N (j - P.w) 0))) + (dl (P.N (j - P.w) 1))) + (dl (P.N (j - P.w) 2))) := (nI_ltI (a := 80) (b := B.1 + (((3 + (dl (P.N (j - P.w) 0))) + (dl (P.N (j - P.w) 1))) + (dl (P.N (j - P.w) 2)))) (by omega) (by omega)).mp c_140
                  have hnd : needC B.1 (P.N (j - P.w) 0) (P.N (j - P.w) 1) (P.N (j - P.w) 2) = 3 + dl (P.N (j - P.w) 0) + dl (P.N (j - P.w) 1) + dl (P.N (j - P.w) 2) := by unfold needC; rw [if_pos (by omega)]
                  have hwf : wfin P j B = (B, j) := wfin_Nno hj9 hj8 (by rw [hnd]; omega)
                  refine lv_iconst (v := nI 0) hx hb dX7_write_147 (by decide) ?_
                  refine lv_istore_n (lv' := [(3, .int (nI 0)), (6, .int (nI (((3 + (dl (P.N (j - P.w) 0))) + (dl (P.N (j - P.w) 1))) + (dl (P.N (j - P.w) 2))))), (5, .int (nI (37 + 4 * (j - P.w)))), (4, .int (nI 0)), (0, .ref (b + 36)), (1, .int (nI j)), (2, .int (nI (P.w + P.n)))]) hx hb dX7_write_148 rfl hl (by decide) rfl (fun ls hl => ?_)
                  refine lv_iload_n hx hb dX7_write_149 rfl (lv_at hl 0 rfl) ?_
                  refine lv_if_eq (tgt := 311) hx hb dX7_write_150 (by decide) (fun c_150 => ?_) (fun c_150 => ?_)
                  · skip
                    have c_150 : 0 = 0 := (nI_eq0 (i := 0) (by omega)).mp c_150
                    refine lv_goto (tgt := 29) hx hb dX7_write_311 (by decide) ?_
                    exact ih29 j 0 B (by omega) (by omega) (by exact Or.inr ⟨rfl, hwf.symm.trans (hres.resolve_right (fun h => c_35 h.1)).2⟩) (by omega) (by exact hk0) (by omega) (by omega) _ _ (by first | rfl | (congr 1; omega)) (by first | rfl | (congr 1; omega)) _ _ _ (by exact hm0) (by exact hm41) (by intro id h9; exact fr id h9) hW hS _ (lv_sub hl [4, 5, 6, 0] rfl)
                  · skip
                    have c_150 : ¬ (0 = 0) := fun h__ => c_150 ((nI_eq0 (i := 0) (by omega)).mpr h__)
                    exact absurd c_150 (by omega)
                · skip
                  have c_140 : ¬ (80 < B.1 + (((3 + (dl (P.N (j - P.w) 0))) + (dl (P.N (j - P.w) 1))) + (dl (P.N (j - P.w) 2)))) := fun h__ => c_140 ((nI_ltI (a := 80) (b := B.1 + (((3 + (dl (P.N (j - P.w) 0))) + (dl (P.N (j - P.w) 1))) + (dl (P.N (j - P.w) 2)))) (by omega) (by omega)).mpr h__)
                  have hnd : needC B.1 (P.N (j - P.w) 0) (P.N (j - P.w) 1) (P.N (j - P.w) 2) = 3 + dl (P.N (j - P.w) 0) + dl (P.N (j - P.w) 1) + dl (P.N (j - P.w) 2) := by unfold needC; rw [if_pos (by omega)]
                  have hwf := wfin_N (P := P) hj9 hj8 (B := B) (by rw [hnd]; omega)
                  refine lv_iconst (v := nI 1) hx hb dX7_write_143 (by decide) ?_
                  refine lv_goto (tgt := 148) hx hb dX7_write_144 (by decide) ?_
                  refine lv_istore_n (lv' := [(3, .int (nI 1)), (6, .int (nI (((3 + (dl (P.N (j - P.w) 0))) + (dl (P.N (j - P.w) 1))) + (dl (P.N (j - P.w) 2))))), (5, .int (nI (37 + 4 * (j - P.w)))), (4, .int (nI 0)), (0, .ref (b + 36)), (1, .int (nI j)), (2, .int (nI (P.w + P.n)))]) hx hb dX7_write_148 rfl hl (by decide) rfl (fun ls hl => ?_)
                  refine lv_iload_n hx hb dX7_write_149 rfl (lv_at hl 0 rfl) ?_
                  refine lv_if_eq (tgt := 311) hx hb dX7_write_150 (by decide) (fun c_150 => ?_) (fun c_150 => ?_)
                  · skip
                    have c_150 : 1 = 0 := (nI_eq0 (i := 1) (by omega)).mp c_150
                    exact absurd c_150 (by omega)
                  · skip
                    have c_150 : ¬ (1 = 0) := fun h__ => c_150 ((nI_eq0 (i := 1) (by omega)).mpr h__)
                    refine lv_iload_n hx hb dX7_write_153 rfl (lv_at hl 5 rfl) ?_
                    refine lv_if_le (tgt := 178) hx hb dX7_write_154 (by decide) (fun c_154 => ?_) (fun c_154 => ?_)
                    · skip
                      have c_154 : j ≤ 0 := (nI_le0 (i := j) (by omega)).mp c_154
                      obtain ⟨B1, hB1⟩ : ∃ B1 : Bf, B1 = B := ⟨_, rfl⟩
                      have hl1 : B1.1 = B.1 := by rw [hB1]; try rfl
                      have hk1 : okB B1 := by rw [hB1]; exact hk0
                      replace hm0 : wa 36 = some (modO b (nI (n)) (nI (B1.1)) (nI (0)) (pl) (lt) (dn)) := by rw [hB1]; exact hm0
                      replace hm41 : wa 41 = some (eN dA 80 B1.2) := by rw [hB1]; exact hm41
                      refine lv_aload_n hx hb dX7_write_178 rfl (lv_at hl 4 rfl) ?_
                      refine q_get hx hb hts hinX7 hown hG hW hm0 rfl 5 (by decide) (hts (.fieldLink RX7 23 "FoleyMixerModel" "text" "[I") (List.mem_of_getElem? (i := 4) rfl)) rfl rfl dX7_write_179 ?_
                      refine lv_aload_n hx hb dX7_write_182 rfl (lv_at hl 4 rfl) ?_
                      refine q_get hx hb hts hinX7 hown hG hW hm0 rfl 6 (by decide) (hts (.fieldLink RX7 117 "FoleyMixerModel" "length" "I") (List.mem_of_getElem? (i := 2) rfl)) rfl rfl dX7_write_183 ?_
                      refine lv_iload hx hb dX7_write_186 (lv_at hl 3 rfl) ?_
                      refine lv_if_eq (tgt := 196) hx hb dX7_write_188 (by decide) (fun c_188 => ?_) (fun c_188 => ?_)
                      · skip
                        have c_188 : 0 = 0 := (nI_eq0 (i := 0) (by omega)).mp c_188
                        refine lv_aload_n hx hb dX7_write_196 rfl (lv_at hl 4 rfl) ?_
                        refine q_get hx hb hts hinX7 hown hG hW hm0 rfl 0 (by decide) (hts (.fieldLink RX7 7 "FoleyMixerModel" "s" "[I") (List.mem_of_getElem? (i := 3) rfl)) rfl rfl dX7_write_197 ?_
                        refine lv_iload hx hb dX7_write_200 (lv_at hl 2 rfl) ?_
                        refine lv_iconst (v := nI 3) hx hb dX7_write_202 (by decide) ?_
                        refine lv_iadd hx hb dX7_write_203 ?_
                        refine q_top (y := nI ((37 + 4 * (j - P.w)) + 3)) (nI_add _ _) ?_
                        refine q_iald hx hb hG hW hm1 (by omega) (by omega) dX7_write_204 ?_
                        refine q_top (y := nI (P.N (j - P.w) 3)) (by exact congrArg nI (hRp.2.2.2.2 _ hj8 3 (by decide))) ?_
                        refine lv_iconst (v := nI 1) hx hb dX7_write_205 (by decide) ?_
                        refine lv_icmp_ne (tgt := 214) hx hb dX7_write_206 (by decide) (fun c_206 => ?_) (fun c_206 => ?_)
                        · skip
                          have c_206 : ¬ (P.N (j - P.w) 3 = 1) := fun h__ => c_206 ((nI_eq (a := P.N (j - P.w) 3) (b := 1) (by omega) (by omega)).mpr h__)
                          refine lv_bipush (v := nI 110) hx hb dX7_write_214 (by decide) ?_
                          refine q_top (y := nI (sgN P.N (j - P.w))) (by first | rfl | (refine congrArg nI ?_; unfold sgN; first | (rw [if_pos c_206]; done) | (rw [if_neg c_206]; done))) ?_
                          refine q_nast hx hb hG hW hS hm41 (by omega) (by omega) dX7_write_216 (fun H locs hW hS hz216 => ?_)
                          obtain ⟨w3, ew3⟩ : ∃ wq__ : Wd, wq__ = va_up wa 41 (some (eN dA 80 (va_up B1.2 B1.1 (sgN P.N (j - P.w))))) := ⟨_, rfl⟩
                          replace hW : WP D b w3 H := by rw [ew3]; exact hW
                          have frw3 : ∀ id : Nat, id ≠ 41 → w3 id = wa id := fun id h9 => by rw [ew3, up_ne h9]
                          replace hm0 : w3 36 = some (modO b (nI (n)) (nI (B1.1)) (nI (0)) (pl) (lt) (dn)) := (frw3 _ (by omega)).trans hm0
                          replace hm1 : w3 37 = some (eN dA 85 F) := (frw3 _ (by omega)).trans hm1
                          replace hm38 : w3 38 = some (eN dA 510 G) := (frw3 _ (by omega)).trans hm38
                          replace hm39 : w3 39 = some (eN dA 170 GS) := (frw3 _ (by omega)).trans hm39
                          replace hm40 : w3 40 = some (eZ dA 2 Zt) := (frw3 _ (by omega)).trans hm40
                          replace hm42 : w3 42 = some (eN dA 120 D0) := (frw3 _ (by omega)).trans hm42
                          replace hm43 : w3 43 = some (eN dA 120 M0) := (frw3 _ (by omega)).trans hm43
                          replace hm44 : w3 44 = some (eN dA 3 TD) := (frw3 _ (by omega)).trans hm44
                          replace hm41 : w3 41 = some (eN dA 80 (va_up B1.2 B1.1 (sgN P.N (j - P.w)))) := by rw [ew3]; exact up_eq
                          refine lv_aload_n hx hb dX7_write_217 rfl (lv_at hl 4 rfl) ?_
                          refine lv_dup hx hb dX7_write_218 rfl ?_
                          refine q_get hx hb hts hinX7 hown hG hW hm0 rfl 6 (by decide) (hts (.fieldLink RX7 117 "FoleyMixerModel" "length" "I") (List.mem_of_getElem? (i := 2) rfl)) rfl rfl dX7_write_219 ?_
                          refine lv_iconst (v := nI 1) hx hb dX7_write_222 (by decide) ?_
                          refine lv_iadd hx hb dX7_write_223 ?_
                          refine q_top (y := nI (B1.1 + 1)) (nI_add _ _) ?_
                          refine q_put hx hb hts hinX7 tyX7_ok nmX7 hown hG hW hS hm0 rfl 6 (by decide) (hts (.fieldLink RX7 117 "FoleyMixerModel" "length" "I") (List.mem_of_getElem? (i := 2) rfl)) rfl rfl rfl rfl (Nat.le_of_ble_eq_true rfl) dX7_write_224 (fun H locs hW hS hz224 => ?_)
                          obtain ⟨w4, ew4⟩ : ∃ wq__ : Wd, wq__ = va_up w3 36 (some (modO b (nI (n)) (nI (B1.1 + 1)) (nI (0)) (pl) (lt) (dn))) := ⟨_, rfl⟩
                          replace hW : WP D b w4 H := by rw [ew4]; exact hW
                          have frw4 : ∀ id : Nat, id ≠ 36 → w4 id = w3 id := fun id h9 => by rw [ew4, up_ne h9]
                          replace hm1 : w4 37 = some (eN dA 85 F) := (frw4 _ (by omega)).trans hm1
                          replace hm38 : w4 38 = some (eN dA 510 G) := (frw4 _ (by omega)).trans hm38
                          replace hm39 : w4 39 = some (eN dA 170 GS) := (frw4 _ (by omega)).trans hm39
                          replace hm40 : w4 40 = some (eZ dA 2 Zt) := (frw4 _ (by omega)).trans hm40
                          replace hm41 : w4 41 = some (eN dA 80 (va_up B1.2 B1.1 (sgN P.N (j - P.w)))) := (frw4 _ (by omega)).trans hm41
                          replace hm42 : w4 42 = some (eN dA 120 D0) := (frw4 _ (by omega)).trans hm42
                          replace hm43 : w4 43 = some (eN dA 120 M0) := (frw4 _ (by omega)).trans hm43
                          replace hm44 : w4 44 = some (eN dA 3 TD) := (frw4 _ (by omega)).trans hm44
                          replace hm0 : w4 36 = some (modO b (nI (n)) (nI (B1.1 + 1)) (nI (0)) (pl) (lt) (dn)) := by rw [ew4]; exact up_eq
                          obtain ⟨B2, hB2⟩ : ∃ B2 : Bf, B2 = ap B1 (sgN P.N (j - P.w)) := ⟨_, rfl⟩
                          have hl2 : B2.1 = B1.1 + 1 := by rw [hB2]; rfl
                          have hk2 : okB B2 := by rw [hB2]; exact okB_ap hk1 (by exact sgN_lt _ _)
                          replace hm0 : w4 36 = some (modO b (nI (n)) (nI (B2.1)) (nI (0)) (pl) (lt) (dn)) := by rw [hB2]; exact hm0
                          replace hm41 : w4 41 = some (eN dA 80 B2.2) := by rw [hB2]; exact hm41
                          refine lv_aload_n hx hb dX7_write_227 rfl (lv_at hl 4 rfl) ?_
                          refine lv_aload_n hx hb dX7_write_228 rfl (lv_at hl 4 rfl) ?_
                          refine q_get hx hb hts hinX7 hown hG hW hm0 rfl 0 (by decide) (hts (.fieldLink RX7 7 "FoleyMixerModel" "s" "[I") (List.mem_of_getElem? (i := 3) rfl)) rfl rfl dX7_write_229 ?_
                          refine lv_iload hx hb dX7_write_232 (lv_at hl 2 rfl) ?_
                          refine lv_iconst (v := nI 0) hx hb dX7_write_234 (by decide) ?_
                          refine lv_iadd hx hb dX7_write_235 ?_
                          refine q_top (y := nI ((37 + 4 * (j - P.w)) + 0)) (nI_add _ _) ?_
                          refine q_iald hx hb hG hW hm1 (by omega) (by omega) dX7_write_236 ?_
                          refine q_top (y := nI (P.N (j - P.w) 0)) (by exact congrArg nI (hRp.2.2.2.2 _ hj8 0 (by decide))) ?_
                          refine q_W0 (va_runV (As := [.int (nI (P.N (j - P.w) 0))]) (rest := []) ⟨hx, hb, hml, hown, hts⟩ (c_X7_writeNumber l (B := B2) hm0 hm41 (P.N (j - P.w) 0) (by omega) (by omega)) (cwV 1 hts gX7_write_X7_writeNumber rfl rfl rfl (by decide +kernel) ⟨Nat.le_of_ble_eq_true rfl, Nat.le_of_ble_eq_true rfl⟩) (q_preV hG hW hS hm0 rfl) rfl rfl hl.1 rfl (lv_room (Nat.le_of_ble_eq_true rfl)) dX7_write_237 ⟨Nat.le_of_ble_eq_true rfl, Nat.le_of_ble_eq_true rfl⟩) hS (fun w_237 H locs hp237 hW hS => ?_)
                          obtain ⟨hm0, hm41, fr237⟩ := hp237
                          replace hm1 : w_237 37 = some (eN dA 85 F) := (fr237 _ (by omega)).trans hm1
                          replace hm38 : w_237 38 = some (eN dA 510 G) := (fr237 _ (by omega)).trans hm38
                          replace hm39 : w_237 39 = some (eN dA 170 GS) := (fr237 _ (by omega)).trans hm39
                          replace hm40 : w_237 40 = some (eZ dA 2 Zt) := (fr237 _ (by omega)).trans hm40
                          replace hm42 : w_237 42 = some (eN dA 120 D0) := (fr237 _ (by omega)).trans hm42
                          replace hm43 : w_237 43 = some (eN dA 120 M0) := (fr237 _ (by omega)).trans hm43
                          replace hm44 : w_237 44 = some (eN dA 3 TD) := (fr237 _ (by omega)).trans hm44
                          obtain ⟨B3, hB3⟩ : ∃ B3 : Bf, B3 = apN B2 (P.N (j - P.w) 0) := ⟨_, rfl⟩
                          have hl3 : B3.1 = B2.1 + dl (P.N (j - P.w) 0) := by rw [hB3]; exact apN_len _ _
                          have hk3 : okB B3 := by rw [hB3]; exact okB_apN hk2 (by omega)
                          replace hm0 : w_237 36 = some (modO b (nI (n)) (nI (B3.1)) (nI (0)) (pl) (lt) (dn)) := by rw [hB3]; exact hm0
                          replace hm41 : w_237 41 = some (eN dA 80 B3.2) := by rw [hB3]; exact hm41
                          refine lv_aload_n hx hb dX7_write_240 rfl (lv_at hl 4 rfl) ?_
                          refine q_get hx hb hts hinX7 hown hG hW hm0 rfl 5 (by decide) (hts (.fieldLink RX7 23 "FoleyMixerModel" "text" "[I") (List.mem_of_getElem? (i := 4) rfl)) rfl rfl dX7_write_241 ?_
                          refine lv_aload_n hx hb dX7_write_244 rfl (lv_at hl 4 rfl) ?_
                          refine q_get hx hb hts hinX7 hown hG hW hm0 rfl 6 (by decide) (hts (.fieldLink RX7 117 "FoleyMixerModel" "length" "I") (List.mem_of_getElem? (i := 2) rfl)) rfl rfl dX7_write_245 ?_
                          refine lv_bipush (v := nI 43) hx hb dX7_write_248 (by decide) ?_
                          refine q_nast hx hb hG hW hS hm41 (by omega) (by omega) dX7_write_250 (fun H locs hW hS hz250 => ?_)
                          obtain ⟨w5, ew5⟩ : ∃ wq__ : Wd, wq__ = va_up w_237 41 (some (eN dA 80 (va_up B3.2 B3.1 43))) := ⟨_, rfl⟩
                          replace hW : WP D b w5 H := by rw [ew5]; exact hW
                          have frw5 : ∀ id : Nat, id ≠ 41 → w5 id = w_237 id := fun id h9 => by rw [ew5, up_ne h9]
                          replace hm1 : w5 37 = some (eN dA 85 F) := (frw5 _ (by omega)).trans hm1
                          replace hm38 : w5 38 = some (eN dA 510 G) := (frw5 _ (by omega)).trans hm38
                          replace hm39 : w5 39 = some (eN dA 170 GS) := (frw5 _ (by omega)).trans hm39
                          replace hm40 : w5 40 = some (eZ dA 2 Zt) := (frw5 _ (by omega)).trans hm40
                          replace hm42 : w5 42 = some (eN dA 120 D0) := (frw5 _ (by omega)).trans hm42
                          replace hm43 : w5 43 = some (eN dA 120 M0) := (frw5 _ (by omega)).trans hm43
                          replace hm44 : w5 44 = some (eN dA 3 TD) := (frw5 _ (by omega)).trans hm44
                          replace hm0 : w5 36 = some (modO b (nI (n)) (nI (B3.1)) (nI (0)) (pl) (lt) (dn)) := (frw5 _ (by omega)).trans hm0
                          replace hm41 : w5 41 = some (eN dA 80 (va_up B3.2 B3.1 43)) := by rw [ew5]; exact up_eq
                          refine lv_aload_n hx hb dX7_write_251 rfl (lv_at hl 4 rfl) ?_
                          refine lv_dup hx hb dX7_write_252 rfl ?_
                          refine q_get hx hb hts hinX7 hown hG hW hm0 rfl 6 (by decide) (hts (.fieldLink RX7 117 "FoleyMixerModel" "length" "I") (List.mem_of_getElem? (i := 2) rfl)) rfl rfl dX7_write_253 ?_
                          refine lv_iconst (v := nI 1) hx hb dX7_write_256 (by decide) ?_
                          refine lv_iadd hx hb dX7_write_257 ?_
                          refine q_top (y := nI (B3.1 + 1)) (nI_add _ _) ?_
                          refine q_put hx hb hts hinX7 tyX7_ok nmX7 hown hG hW hS hm0 rfl 6 (by decide) (hts (.fieldLink RX7 117 "FoleyMixerModel" "length" "I") (List.mem_of_getElem? (i := 2) rfl)) rfl rfl rfl rfl (Nat.le_of_ble_eq_true rfl) dX7_write_258 (fun H locs hW hS hz258 => ?_)
                          obtain ⟨w6, ew6⟩ : ∃ wq__ : Wd, wq__ = va_up w5 36 (some (modO b (nI (n)) (nI (B3.1 + 1)) (nI (0)) (pl) (lt) (dn))) := ⟨_, rfl⟩
                          replace hW : WP D b w6 H := by rw [ew6]; exact hW
                          have frw6 : ∀ id : Nat, id ≠ 36 → w6 id = w5 id := fun id h9 => by rw [ew6, up_ne h9]
                          replace hm1 : w6 37 = some (eN dA 85 F) := (frw6 _ (by omega)).trans hm1
                          replace hm38 : w6 38 = some (eN dA 510 G) := (frw6 _ (by omega)).trans hm38
                          replace hm39 : w6 39 = some (eN dA 170 GS) := (frw6 _ (by omega)).trans hm39
                          replace hm40 : w6 40 = some (eZ dA 2 Zt) := (frw6 _ (by omega)).trans hm40
                          replace hm42 : w6 42 = some (eN dA 120 D0) := (frw6 _ (by omega)).trans hm42
                          replace hm43 : w6 43 = some (eN dA 120 M0) := (frw6 _ (by omega)).trans hm43
                          replace hm44 : w6 44 = some (eN dA 3 TD) := (frw6 _ (by omega)).trans hm44
                          replace hm41 : w6 41 = some (eN dA 80 (va_up B3.2 B3.1 43)) := (frw6 _ (by omega)).trans hm41
                          replace hm0 : w6 36 = some (modO b (nI (n)) (nI (B3.1 + 1)) (nI (0)) (pl) (lt) (dn)) := by rw [ew6]; exact up_eq
                          obtain ⟨B4, hB4⟩ : ∃ B4 : Bf, B4 = ap B3 43 := ⟨_, rfl⟩
                          have hl4 : B4.1 = B3.1 + 1 := by rw [hB4]; rfl
                          have hk4 : okB B4 := by rw [hB4]; exact okB_ap hk3 (by omega)
                          replace hm0 : w6 36 = some (modO b (nI (n)) (nI (B4.1)) (nI (0)) (pl) (lt) (dn)) := by rw [hB4]; exact hm0
                          replace hm41 : w6 41 = some (eN dA 80 B4.2) := by rw [hB4]; exact hm41
                          refine lv_aload_n hx hb dX7_write_261 rfl (lv_at hl 4 rfl) ?_
                          refine lv_aload_n hx hb dX7_write_262 rfl (lv_at hl 4 rfl) ?_
                          refine q_get hx hb hts hinX7 hown hG hW hm0 rfl 0 (by decide) (hts (.fieldLink RX7 7 "FoleyMixerModel" "s" "[I") (List.mem_of_getElem? (i := 3) rfl)) rfl rfl dX7_write_263 ?_
                          refine lv_iload hx hb dX7_write_266 (lv_at hl 2 rfl) ?_
                          refine lv_iconst (v := nI 1) hx hb dX7_write_268 (by decide) ?_
                          refine lv_iadd hx hb dX7_write_269 ?_
                          refine q_top (y := nI ((37 + 4 * (j - P.w)) + 1)) (nI_add _ _) ?_
                          refine q_iald hx hb hG hW hm1 (by omega) (by omega) dX7_write_270 ?_
                          refine q_top (y := nI (P.N (j - P.w) 1)) (by exact congrArg nI (hRp.2.2.2.2 _ hj8 1 (by decide))) ?_
                          refine q_W0 (va_runV (As := [.int (nI (P.N (j - P.w) 1))]) (rest := []) ⟨hx, hb, hml, hown, hts⟩ (c_X7_writeNumber l (B := B4) hm0 hm41 (P.N (j - P.w) 1) (by omega) (by omega)) (cwV 1 hts gX7_write_X7_writeNumber rfl rfl rfl (by decide +kernel) ⟨Nat.le_of_ble_eq_true rfl, Nat.le_of_ble_eq_true rfl⟩) (q_preV hG hW hS hm0 rfl) rfl rfl hl.1 rfl (lv_room (Nat.le_of_ble_eq_true rfl)) dX7_write_271 ⟨Nat.le_of_ble_eq_true rfl, Nat.le_of_ble_eq_true rfl⟩) hS (fun w_271 H locs hp271 hW hS => ?_)
                          obtain ⟨hm0, hm41, fr271⟩ := hp271
                          replace hm1 : w_271 37 = some (eN dA 85 F) := (fr271 _ (by omega)).trans hm1
                          replace hm38 : w_271 38 = some (eN dA 510 G) := (fr271 _ (by omega)).trans hm38
                          replace hm39 : w_271 39 = some (eN dA 170 GS) := (fr271 _ (by omega)).trans hm39
                          replace hm40 : w_271 40 = some (eZ dA 2 Zt) := (fr271 _ (by omega)).trans hm40
                          replace hm42 : w_271 42 = some (eN dA 120 D0) := (fr271 _ (by omega)).trans hm42
                          replace hm43 : w_271 43 = some (eN dA 120 M0) := (fr271 _ (by omega)).trans hm43
                          replace hm44 : w_271 44 = some (eN dA 3 TD) := (fr271 _ (by omega)).trans hm44
                          obtain ⟨B5, hB5⟩ : ∃ B5 : Bf, B5 = apN B4 (P.N (j - P.w) 1) := ⟨_, rfl⟩
                          have hl5 : B5.1 = B4.1 + dl (P.N (j - P.w) 1) := by rw [hB5]; exact apN_len _ _
                          have hk5 : okB B5 := by rw [hB5]; exact okB_apN hk4 (by omega)
                          replace hm0 : w_271 36 = some (modO b (nI (n)) (nI (B5.1)) (nI (0)) (pl) (lt) (dn)) := by rw [hB5]; exact hm0
                          replace hm41 : w_271 41 = some (eN dA 80 B5.2) := by rw [hB5]; exact hm41
                          refine lv_aload_n hx hb dX7_write_274 rfl (lv_at hl 4 rfl) ?_
                          refine q_get hx hb hts hinX7 hown hG hW hm0 rfl 5 (by decide) (hts (.fieldLink RX7 23 "FoleyMixerModel" "text" "[I") (List.mem_of_getElem? (i := 4) rfl)) rfl rfl dX7_write_275 ?_
                          refine lv_aload_n hx hb dX7_write_278 rfl (lv_at hl 4 rfl) ?_
                          refine q_get hx hb hts hinX7 hown hG hW hm0 rfl 6 (by decide) (hts (.fieldLink RX7 117 "FoleyMixerModel" "length" "I") (List.mem_of_getElem? (i := 2) rfl)) rfl rfl dX7_write_279 ?_
                          refine lv_bipush (v := nI 64) hx hb dX7_write_282 (by decide) ?_
                          refine q_nast hx hb hG hW hS hm41 (by omega) (by omega) dX7_write_284 (fun H locs hW hS hz284 => ?_)
                          obtain ⟨w7, ew7⟩ : ∃ wq__ : Wd, wq__ = va_up w_271 41 (some (eN dA 80 (va_up B5.2 B5.1 64))) := ⟨_, rfl⟩
                          replace hW : WP D b w7 H := by rw [ew7]; exact hW
                          have frw7 : ∀ id : Nat, id ≠ 41 → w7 id = w_271 id := fun id h9 => by rw [ew7, up_ne h9]
                          replace hm1 : w7 37 = some (eN dA 85 F) := (frw7 _ (by omega)).trans hm1
                          replace hm38 : w7 38 = some (eN dA 510 G) := (frw7 _ (by omega)).trans hm38
                          replace hm39 : w7 39 = some (eN dA 170 GS) := (frw7 _ (by omega)).trans hm39
                          replace hm40 : w7 40 = some (eZ dA 2 Zt) := (frw7 _ (by omega)).trans hm40
                          replace hm42 : w7 42 = some (eN dA 120 D0) := (frw7 _ (by omega)).trans hm42
                          replace hm43 : w7 43 = some (eN dA 120 M0) := (frw7 _ (by omega)).trans hm43
                          replace hm44 : w7 44 = some (eN dA 3 TD) := (frw7 _ (by omega)).trans hm44
                          replace hm0 : w7 36 = some (modO b (nI (n)) (nI (B5.1)) (nI (0)) (pl) (lt) (dn)) := (frw7 _ (by omega)).trans hm0
                          replace hm41 : w7 41 = some (eN dA 80 (va_up B5.2 B5.1 64)) := by rw [ew7]; exact up_eq
                          refine lv_aload_n hx hb dX7_write_285 rfl (lv_at hl 4 rfl) ?_
                          refine lv_dup hx hb dX7_write_286 rfl ?_
                          refine q_get hx hb hts hinX7 hown hG hW hm0 rfl 6 (by decide) (hts (.fieldLink RX7 117 "FoleyMixerModel" "length" "I") (List.mem_of_getElem? (i := 2) rfl)) rfl rfl dX7_write_287 ?_
                          refine lv_iconst (v := nI 1) hx hb dX7_write_290 (by decide) ?_
                          refine lv_iadd hx hb dX7_write_291 ?_
                          refine q_top (y := nI (B5.1 + 1)) (nI_add _ _) ?_
                          refine q_put hx hb hts hinX7 tyX7_ok nmX7 hown hG hW hS hm0 rfl 6 (by decide) (hts (.fieldLink RX7 117 "FoleyMixerModel" "length" "I") (List.mem_of_getElem? (i := 2) rfl)) rfl rfl rfl rfl (Nat.le_of_ble_eq_true rfl) dX7_write_292 (fun H locs hW hS hz292 => ?_)
                          obtain ⟨w8, ew8⟩ : ∃ wq__ : Wd, wq__ = va_up w7 36 (some (modO b (nI (n)) (nI (B5.1 + 1)) (nI (0)) (pl) (lt) (dn))) := ⟨_, rfl⟩
                          replace hW : WP D b w8 H := by rw [ew8]; exact hW
                          have frw8 : ∀ id : Nat, id ≠ 36 → w8 id = w7 id := fun id h9 => by rw [ew8, up_ne h9]
                          replace hm1 : w8 37 = some (eN dA 85 F) := (frw8 _ (by omega)).trans hm1
                          replace hm38 : w8 38 = some (eN dA 510 G) := (frw8 _ (by omega)).trans hm38
                          replace hm39 : w8 39 = some (eN dA 170 GS) := (frw8 _ (by omega)).trans hm39
                          replace hm40 : w8 40 = some (eZ dA 2 Zt) := (frw8 _ (by omega)).trans hm40
                          replace hm42 : w8 42 = some (eN dA 120 D0) := (frw8 _ (by omega)).trans hm42
                          replace hm43 : w8 43 = some (eN dA 120 M0) := (frw8 _ (by omega)).trans hm43
                          replace hm44 : w8 44 = some (eN dA 3 TD) := (frw8 _ (by omega)).trans hm44
                          replace hm41 : w8 41 = some (eN dA 80 (va_up B5.2 B5.1 64)) := (frw8 _ (by omega)).trans hm41
                          replace hm0 : w8 36 = some (modO b (nI (n)) (nI (B5.1 + 1)) (nI (0)) (pl) (lt) (dn)) := by rw [ew8]; exact up_eq
                          obtain ⟨B6, hB6⟩ : ∃ B6 : Bf, B6 = ap B5 64 := ⟨_, rfl⟩
                          have hl6 : B6.1 = B5.1 + 1 := by rw [hB6]; rfl
                          have hk6 : okB B6 := by rw [hB6]; exact okB_ap hk5 (by omega)
                          replace hm0 : w8 36 = some (modO b (nI (n)) (nI (B6.1)) (nI (0)) (pl) (lt) (dn)) := by rw [hB6]; exact hm0
                          replace hm41 : w8 41 = some (eN dA 80 B6.2) := by rw [hB6]; exact hm41
                          refine lv_aload_n hx hb dX7_write_295 rfl (lv_at hl 4 rfl) ?_
                          refine lv_aload_n hx hb dX7_write_296 rfl (lv_at hl 4 rfl) ?_
                          refine q_get hx hb hts hinX7 hown hG hW hm0 rfl 0 (by decide) (hts (.fieldLink RX7 7 "FoleyMixerModel" "s" "[I") (List.mem_of_getElem? (i := 3) rfl)) rfl rfl dX7_write_297 ?_
                          refine lv_iload hx hb dX7_write_300 (lv_at hl 2 rfl) ?_
                          refine lv_iconst (v := nI 2) hx hb dX7_write_302 (by decide) ?_
                          refine lv_iadd hx hb dX7_write_303 ?_
                          refine q_top (y := nI ((37 + 4 * (j - P.w)) + 2)) (nI_add _ _) ?_
                          refine q_iald hx hb hG hW hm1 (by omega) (by omega) dX7_write_304 ?_
                          refine q_top (y := nI (P.N (j - P.w) 2)) (by exact congrArg nI (hRp.2.2.2.2 _ hj8 2 (by decide))) ?_
                          refine q_W0 (va_runV (As := [.int (nI (P.N (j - P.w) 2))]) (rest := []) ⟨hx, hb, hml, hown, hts⟩ (c_X7_writeNumber l (B := B6) hm0 hm41 (P.N (j - P.w) 2) (by omega) (by omega)) (cwV 1 hts gX7_write_X7_writeNumber rfl rfl rfl (by decide +kernel) ⟨Nat.le_of_ble_eq_true rfl, Nat.le_of_ble_eq_true rfl⟩) (q_preV hG hW hS hm0 rfl) rfl rfl hl.1 rfl (lv_room (Nat.le_of_ble_eq_true rfl)) dX7_write_305 ⟨Nat.le_of_ble_eq_true rfl, Nat.le_of_ble_eq_true rfl⟩) hS (fun w_305 H locs hp305 hW hS => ?_)
                          obtain ⟨hm0, hm41, fr305⟩ := hp305
                          replace hm1 : w_305 37 = some (eN dA 85 F) := (fr305 _ (by omega)).trans hm1
                          replace hm38 : w_305 38 = some (eN dA 510 G) := (fr305 _ (by omega)).trans hm38
                          replace hm39 : w_305 39 = some (eN dA 170 GS) := (fr305 _ (by omega)).trans hm39
                          replace hm40 : w_305 40 = some (eZ dA 2 Zt) := (fr305 _ (by omega)).trans hm40
                          replace hm42 : w_305 42 = some (eN dA 120 D0) := (fr305 _ (by omega)).trans hm42
                          replace hm43 : w_305 43 = some (eN dA 120 M0) := (fr305 _ (by omega)).trans hm43
                          replace hm44 : w_305 44 = some (eN dA 3 TD) := (fr305 _ (by omega)).trans hm44
                          obtain ⟨B7, hB7⟩ : ∃ B7 : Bf, B7 = apN B6 (P.N (j - P.w) 2) := ⟨_, rfl⟩
                          have hl7 : B7.1 = B6.1 + dl (P.N (j - P.w) 2) := by rw [hB7]; exact apN_len _ _
                          have hk7 : okB B7 := by rw [hB7]; exact okB_apN hk6 (by omega)
                          replace hm0 : w_305 36 = some (modO b (nI (n)) (nI (B7.1)) (nI (0)) (pl) (lt) (dn)) := by rw [hB7]; exact hm0
                          replace hm41 : w_305 41 = some (eN dA 80 B7.2) := by rw [hB7]; exact hm41
                          have hB9 : B7 = apC B (sgN P.N (j - P.w)) (P.N (j - P.w) 0) (P.N (j - P.w) 1) (P.N (j - P.w) 2) := apC_one (by rw [if_pos (by omega)]; exact hB1) hB2 hB3 hB4 hB5 hB6 hB7
                          rw [← hB9] at hwf
                          refine lv_iinc (v := nI (j + 1)) (lv' := [(1, .int (nI (j + 1))), (3, .int (nI 1)), (6, .int (nI (((3 + (dl (P.N (j - P.w) 0))) + (dl (P.N (j - P.w) 1))) + (dl (P.N (j - P.w) 2))))), (5, .int (nI (37 + 4 * (j - P.w)))), (4, .int (nI 0)), (0, .ref (b + 36)), (2, .int (nI (P.w + P.n)))]) hx hb dX7_write_308 hl (k := 5) rfl (nI_add _ 1) (by decide) rfl (fun ls hl => ?_)
                          refine lv_goto (tgt := 29) hx hb dX7_write_311 (by decide) ?_
                          exact ih29 (j + 1) 1 B7 (by omega) (by omega) (by exact Or.inl ⟨rfl, hwf.symm.trans (hres.resolve_right (fun h => c_35 h.1)).2⟩) (by omega) (by exact hk7) (by omega) (by omega) _ _ (by first | rfl | (congr 1; omega)) (by first | rfl | (congr 1; omega)) _ _ _ (by exact hm0) (by exact hm41) (by intro id h9; rw [fr305 id (by omega)]; rw [frw8 id (by omega)]; rw [frw7 id (by omega)]; rw [fr271 id (by omega)]; rw [frw6 id (by omega)]; rw [frw5 id (by omega)]; rw [fr237 id (by omega)]; rw [frw4 id (by omega)]; rw [frw3 id (by omega)]; exact fr id h9) hW hS _ (lv_sub hl [5, 0, 6, 1] rfl)
                        · skip
                          have c_206 : P.N (j - P.w) 3 = 1 := (nI_eq (a := P.N (j - P.w) 3) (b := 1) (by omega) (by omega)).mp c_206
                          refine lv_bipush (v := nI 78) hx hb dX7_write_209 (by decide) ?_
                          refine lv_goto (tgt := 216) hx hb dX7_write_211 (by decide) ?_
                          refine q_top (y := nI (sgN P.N (j - P.w))) (by first | rfl | (refine congrArg nI ?_; unfold sgN; first | (rw [if_pos c_206]; done) | (rw [if_neg c_206]; done))) ?_
                          refine q_nast hx hb hG hW hS hm41 (by omega) (by omega) dX7_write_216 (fun H locs hW hS hz216 => ?_)
                          obtain ⟨w9, ew9⟩ : ∃ wq__ : Wd, wq__ = va_up wa 41 (some (eN dA 80 (va_up B1.2 B1.1 (sgN P.N (j - P.w))))) := ⟨_, rfl⟩
                          replace hW : WP D b w9 H := by rw [ew9]; exact hW
                          have frw9 : ∀ id : Nat, id ≠ 41 → w9 id = wa id := fun id h9 => by rw [ew9, up_ne h9]
                          replace hm0 : w9 36 = some (modO b (nI (n)) (nI (B1.1)) (nI (0)) (pl) (lt) (dn)) := (frw9 _ (by omega)).trans hm0
                          replace hm1 : w9 37 = some (eN dA 85 F) := (frw9 _ (by omega)).trans hm1
                          replace hm38 : w9 38 = some (eN dA 510 G) := (frw9 _ (by omega)).trans hm38
                          replace hm39 : w9 39 = some (eN dA 170 GS) := (frw9 _ (by omega)).trans hm39
                          replace hm40 : w9 40 = some (eZ dA 2 Zt) := (frw9 _ (by omega)).trans hm40
                          replace hm42 : w9 42 = some (eN dA 120 D0) := (frw9 _ (by omega)).trans hm42
                          replace hm43 : w9 43 = some (eN dA 120 M0) := (frw9 _ (by omega)).trans hm43
                          replace hm44 : w9 44 = some (eN dA 3 TD) := (frw9 _ (by omega)).trans hm44
                          replace hm41 : w9 41 = some (eN dA 80 (va_up B1.2 B1.1 (sgN P.N (j - P.w)))) := by rw [ew9]; exact up_eq
                          refine lv_aload_n hx hb dX7_write_217 rfl (lv_at hl 4 rfl) ?_
                          refine lv_dup hx hb dX7_write_218 rfl ?_
                          refine q_get hx hb hts hinX7 hown hG hW hm0 rfl 6 (by decide) (hts (.fieldLink RX7 117 "FoleyMixerModel" "length" "I") (List.mem_of_getElem? (i := 2) rfl)) rfl rfl dX7_write_219 ?_
                          refine lv_iconst (v := nI 1) hx hb dX7_write_222 (by decide) ?_
                          refine lv_iadd hx hb dX7_write_223 ?_
                          refine q_top (y := nI (B1.1 + 1)) (nI_add _ _) ?_
                          refine q_put hx hb hts hinX7 tyX7_ok nmX7 hown hG hW hS hm0 rfl 6 (by decide) (hts (.fieldLink RX7 117 "FoleyMixerModel" "length" "I") (List.mem_of_getElem? (i := 2) rfl)) rfl rfl rfl rfl (Nat.le_of_ble_eq_true rfl) dX7_write_224 (fun H locs hW hS hz224 => ?_)
                          obtain ⟨w10, ew10⟩ : ∃ wq__ : Wd, wq__ = va_up w9 36 (some (modO b (nI (n)) (nI (B1.1 + 1)) (nI (0)) (pl) (lt) (dn))) := ⟨_, rfl⟩
                          replace hW : WP D b w10 H := by rw [ew10]; exact hW
                          have frw10 : ∀ id : Nat, id ≠ 36 → w10 id = w9 id := fun id h9 => by rw [ew10, up_ne h9]
                          replace hm1 : w10 37 = some (eN dA 85 F) := (frw10 _ (by omega)).trans hm1
                          replace hm38 : w10 38 = some (eN dA 510 G) := (frw10 _ (by omega)).trans hm38
                          replace hm39 : w10 39 = some (eN dA 170 GS) := (frw10 _ (by omega)).trans hm39
                          replace hm40 : w10 40 = some (eZ dA 2 Zt) := (frw10 _ (by omega)).trans hm40
                          replace hm41 : w10 41 = some (eN dA 80 (va_up B1.2 B1.1 (sgN P.N (j - P.w)))) := (frw10 _ (by omega)).trans hm41
                          replace hm42 : w10 42 = some (eN dA 120 D0) := (frw10 _ (by omega)).trans hm42
                          replace hm43 : w10 43 = some (eN dA 120 M0) := (frw10 _ (by omega)).trans hm43
                          replace hm44 : w10 44 = some (eN dA 3 TD) := (frw10 _ (by omega)).trans hm44
                          replace hm0 : w10 36 = some (modO b (nI (n)) (nI (B1.1 + 1)) (nI (0)) (pl) (lt) (dn)) := by rw [ew10]; exact up_eq
                          obtain ⟨B2, hB2⟩ : ∃ B2 : Bf, B2 = ap B1 (sgN P.N (j - P.w)) := ⟨_, rfl⟩
                          have hl2 : B2.1 = B1.1 + 1 := by rw [hB2]; rfl
                          have hk2 : okB B2 := by rw [hB2]; exact okB_ap hk1 (by exact sgN_lt _ _)
                          replace hm0 : w10 36 = some (modO b (nI (n)) (nI (B2.1)) (nI (0)) (pl) (lt) (dn)) := by rw [hB2]; exact hm0
                          replace hm41 : w10 41 = some (eN dA 80 B2.2) := by rw [hB2]; exact hm41
                          refine lv_aload_n hx hb dX7_write_227 rfl (lv_at hl 4 rfl) ?_
                          refine lv_aload_n hx hb dX7_write_228 rfl (lv_at hl 4 rfl) ?_
                          refine q_get hx hb hts hinX7 hown hG hW hm0 rfl 0 (by decide) (hts (.fieldLink RX7 7 "FoleyMixerModel" "s" "[I") (List.mem_of_getElem? (i := 3) rfl)) rfl rfl dX7_write_229 ?_
                          refine lv_iload hx hb dX7_write_232 (lv_at hl 2 rfl) ?_
                          refine lv_iconst (v := nI 0) hx hb dX7_write_234 (by decide) ?_
                          refine lv_iadd hx hb dX7_write_235 ?_
                          refine q_top (y := nI ((37 + 4 * (j - P.w)) + 0)) (nI_add _ _) ?_
                          refine q_iald hx hb hG hW hm1 (by omega) (by omega) dX7_write_236 ?_
                          refine q_top (y := nI (P.N (j - P.w) 0)) (by exact congrArg nI (hRp.2.2.2.2 _ hj8 0 (by decide))) ?_
                          refine q_W0 (va_runV (As := [.int (nI (P.N (j - P.w) 0))]) (rest := []) ⟨hx, hb, hml, hown, hts⟩ (c_X7_writeNumber l (B := B2) hm0 hm41 (P.N (j - P.w) 0) (by omega) (by omega)) (cwV 1 hts gX7_write_X7_writeNumber rfl rfl rfl (by decide +kernel) ⟨Nat.le_of_ble_eq_true rfl, Nat.le_of_ble_eq_true rfl⟩) (q_preV hG hW hS hm0 rfl) rfl rfl hl.1 rfl (lv_room (Nat.le_of_ble_eq_true rfl)) dX7_write_237 ⟨Nat.le_of_ble_eq_true rfl, Nat.le_of_ble_eq_true rfl⟩) hS (fun w_237 H locs hp237 hW hS => ?_)
                          obtain ⟨hm0, hm41, fr237⟩ := hp237
                          replace hm1 : w_237 37 = some (eN dA 85 F) := (fr237 _ (by omega)).trans hm1
                          replace hm38 : w_237 38 = some (eN dA 510 G) := (fr237 _ (by omega)).trans hm38
                          replace hm39 : w_237 39 = some (eN dA 170 GS) := (fr237 _ (by omega)).trans hm39
                          replace hm40 : w_237 40 = some (eZ dA 2 Zt) := (fr237 _ (by omega)).trans hm40
                          replace hm42 : w_237 42 = some (eN dA 120 D0) := (fr237 _ (by omega)).trans hm42
                          replace hm43 : w_237 43 = some (eN dA 120 M0) := (fr237 _ (by omega)).trans hm43
                          replace hm44 : w_237 44 = some (eN dA 3 TD) := (fr237 _ (by omega)).trans hm44
                          obtain ⟨B3, hB3⟩ : ∃ B3 : Bf, B3 = apN B2 (P.N (j - P.w) 0) := ⟨_, rfl⟩
                          have hl3 : B3.1 = B2.1 + dl (P.N (j - P.w) 0) := by rw [hB3]; exact apN_len _ _
                          have hk3 : okB B3 := by rw [hB3]; exact okB_apN hk2 (by omega)
                          replace hm0 : w_237 36 = some (modO b (nI (n)) (nI (B3.1)) (nI (0)) (pl) (lt) (dn)) := by rw [hB3]; exact hm0
                          replace hm41 : w_237 41 = some (eN dA 80 B3.2) := by rw [hB3]; exact hm41
                          refine lv_aload_n hx hb dX7_write_240 rfl (lv_at hl 4 rfl) ?_
                          refine q_get hx hb hts hinX7 hown hG hW hm0 rfl 5 (by decide) (hts (.fieldLink RX7 23 "FoleyMixerModel" "text" "[I") (List.mem_of_getElem? (i := 4) rfl)) rfl rfl dX7_write_241 ?_
                          refine lv_aload_n hx hb dX7_write_244 rfl (lv_at hl 4 rfl) ?_
                          refine q_get hx hb hts hinX7 hown hG hW hm0 rfl 6 (by decide) (hts (.fieldLink RX7 117 "FoleyMixerModel" "length" "I") (List.mem_of_getElem? (i := 2) rfl)) rfl rfl dX7_write_245 ?_
                          refine lv_bipush (v := nI 43) hx hb dX7_write_248 (by decide) ?_
                          refine q_nast hx hb hG hW hS hm41 (by omega) (by omega) dX7_write_250 (fun H locs hW hS hz250 => ?_)
                          obtain ⟨w11, ew11⟩ : ∃ wq__ : Wd, wq__ = va_up w_237 41 (some (eN dA 80 (va_up B3.2 B3.1 43))) := ⟨_, rfl⟩
                          replace hW : WP D b w11 H := by rw [ew11]; exact hW
                          have frw11 : ∀ id : Nat, id ≠ 41 → w11 id = w_237 id := fun id h9 => by rw [ew11, up_ne h9]
                          replace hm1 : w11 37 = some (eN dA 85 F) := (frw11 _ (by omega)).trans hm1
                          replace hm38 : w11 38 = some (eN dA 510 G) := (frw11 _ (by omega)).trans hm38
                          replace hm39 : w11 39 = some (eN dA 170 GS) := (frw11 _ (by omega)).trans hm39
                          replace hm40 : w11 40 = some (eZ dA 2 Zt) := (frw11 _ (by omega)).trans hm40
                          replace hm42 : w11 42 = some (eN dA 120 D0) := (frw11 _ (by omega)).trans hm42
                          replace hm43 : w11 43 = some (eN dA 120 M0) := (frw11 _ (by omega)).trans hm43
                          replace hm44 : w11 44 = some (eN dA 3 TD) := (frw11 _ (by omega)).trans hm44
                          replace hm0 : w11 36 = some (modO b (nI (n)) (nI (B3.1)) (nI (0)) (pl) (lt) (dn)) := (frw11 _ (by omega)).trans hm0
                          replace hm41 : w11 41 = some (eN dA 80 (va_up B3.2 B3.1 43)) := by rw [ew11]; exact up_eq
                          refine lv_aload_n hx hb dX7_write_251 rfl (lv_at hl 4 rfl) ?_
                          refine lv_dup hx hb dX7_write_252 rfl ?_
                          refine q_get hx hb hts hinX7 hown hG hW hm0 rfl 6 (by decide) (hts (.fieldLink RX7 117 "FoleyMixerModel" "length" "I") (List.mem_of_getElem? (i := 2) rfl)) rfl rfl dX7_write_253 ?_
                          refine lv_iconst (v := nI 1) hx hb dX7_write_256 (by decide) ?_
                          refine lv_iadd hx hb dX7_write_257 ?_
                          refine q_top (y := nI (B3.1 + 1)) (nI_add _ _) ?_
                          refine q_put hx hb hts hinX7 tyX7_ok nmX7 hown hG hW hS hm0 rfl 6 (by decide) (hts (.fieldLink RX7 117 "FoleyMixerModel" "length" "I") (List.mem_of_getElem? (i := 2) rfl)) rfl rfl rfl rfl (Nat.le_of_ble_eq_true rfl) dX7_write_258 (fun H locs hW hS hz258 => ?_)
                          obtain ⟨w12, ew12⟩ : ∃ wq__ : Wd, wq__ = va_up w11 36 (some (modO b (nI (n)) (nI (B3.1 + 1)) (nI (0)) (pl) (lt) (dn))) := ⟨_, rfl⟩
                          replace hW : WP D b w12 H := by rw [ew12]; exact hW
                          have frw12 : ∀ id : Nat, id ≠ 36 → w12 id = w11 id := fun id h9 => by rw [ew12, up_ne h9]
                          replace hm1 : w12 37 = some (eN dA 85 F) := (frw12 _ (by omega)).trans hm1
                          replace hm38 : w12 38 = some (eN dA 510 G) := (frw12 _ (by omega)).trans hm38
                          replace hm39 : w12 39 = some (eN dA 170 GS) := (frw12 _ (by omega)).trans hm39
                          replace hm40 : w12 40 = some (eZ dA 2 Zt) := (frw12 _ (by omega)).trans hm40
                          replace hm42 : w12 42 = some (eN dA 120 D0) := (frw12 _ (by omega)).trans hm42
                          replace hm43 : w12 43 = some (eN dA 120 M0) := (frw12 _ (by omega)).trans hm43
                          replace hm44 : w12 44 = some (eN dA 3 TD) := (frw12 _ (by omega)).trans hm44
                          replace hm41 : w12 41 = some (eN dA 80 (va_up B3.2 B3.1 43)) := (frw12 _ (by omega)).trans hm41
                          replace hm0 : w12 36 = some (modO b (nI (n)) (nI (B3.1 + 1)) (nI (0)) (pl) (lt) (dn)) := by rw [ew12]; exact up_eq
                          obtain ⟨B4, hB4⟩ : ∃ B4 : Bf, B4 = ap B3 43 := ⟨_, rfl⟩
                          have hl4 : B4.1 = B3.1 + 1 := by rw [hB4]; rfl
                          have hk4 : okB B4 := by rw [hB4]; exact okB_ap hk3 (by omega)
                          replace hm0 : w12 36 = some (modO b (nI (n)) (nI (B4.1)) (nI (0)) (pl) (lt) (dn)) := by rw [hB4]; exact hm0
                          replace hm41 : w12 41 = some (eN dA 80 B4.2) := by rw [hB4]; exact hm41
                          refine lv_aload_n hx hb dX7_write_261 rfl (lv_at hl 4 rfl) ?_
                          refine lv_aload_n hx hb dX7_write_262 rfl (lv_at hl 4 rfl) ?_
                          refine q_get hx hb hts hinX7 hown hG hW hm0 rfl 0 (by decide) (hts (.fieldLink RX7 7 "FoleyMixerModel" "s" "[I") (List.mem_of_getElem? (i := 3) rfl)) rfl rfl dX7_write_263 ?_
                          refine lv_iload hx hb dX7_write_266 (lv_at hl 2 rfl) ?_
                          refine lv_iconst (v := nI 1) hx hb dX7_write_268 (by decide) ?_
                          refine lv_iadd hx hb dX7_write_269 ?_
                          refine q_top (y := nI ((37 + 4 * (j - P.w)) + 1)) (nI_add _ _) ?_
                          refine q_iald hx hb hG hW hm1 (by omega) (by omega) dX7_write_270 ?_
                          refine q_top (y := nI (P.N (j - P.w) 1)) (by exact congrArg nI (hRp.2.2.2.2 _ hj8 1 (by decide))) ?_
                          refine q_W0 (va_runV (As := [.int (nI (P.N (j - P.w) 1))]) (rest := []) ⟨hx, hb, hml, hown, hts⟩ (c_X7_writeNumber l (B := B4) hm0 hm41 (P.N (j - P.w) 1) (by omega) (by omega)) (cwV 1 hts gX7_write_X7_writeNumber rfl rfl rfl (by decide +kernel) ⟨Nat.le_of_ble_eq_true rfl, Nat.le_of_ble_eq_true rfl⟩) (q_preV hG hW hS hm0 rfl) rfl rfl hl.1 rfl (lv_room (Nat.le_of_ble_eq_true rfl)) dX7_write_271 ⟨Nat.le_of_ble_eq_true rfl, Nat.le_of_ble_eq_true rfl⟩) hS (fun w_271 H locs hp271 hW hS => ?_)
                          obtain ⟨hm0, hm41, fr271⟩ := hp271
                          replace hm1 : w_271 37 = some (eN dA 85 F) := (fr271 _ (by omega)).trans hm1
                          replace hm38 : w_271 38 = some (eN dA 510 G) := (fr271 _ (by omega)).trans hm38
                          replace hm39 : w_271 39 = some (eN dA 170 GS) := (fr271 _ (by omega)).trans hm39
                          replace hm40 : w_271 40 = some (eZ dA 2 Zt) := (fr271 _ (by omega)).trans hm40
                          replace hm42 : w_271 42 = some (eN dA 120 D0) := (fr271 _ (by omega)).trans hm42
                          replace hm43 : w_271 43 = some (eN dA 120 M0) := (fr271 _ (by omega)).trans hm43
                          replace hm44 : w_271 44 = some (eN dA 3 TD) := (fr271 _ (by omega)).trans hm44
                          obtain ⟨B5, hB5⟩ : ∃ B5 : Bf, B5 = apN B4 (P.N (j - P.w) 1) := ⟨_, rfl⟩
                          have hl5 : B5.1 = B4.1 + dl (P.N (j - P.w) 1) := by rw [hB5]; exact apN_len _ _
                          have hk5 : okB B5 := by rw [hB5]; exact okB_apN hk4 (by omega)
                          replace hm0 : w_271 36 = some (modO b (nI (n)) (nI (B5.1)) (nI (0)) (pl) (lt) (dn)) := by rw [hB5]; exact hm0
                          replace hm41 : w_271 41 = some (eN dA 80 B5.2) := by rw [hB5]; exact hm41
                          refine lv_aload_n hx hb dX7_write_274 rfl (lv_at hl 4 rfl) ?_
                          refine q_get hx hb hts hinX7 hown hG hW hm0 rfl 5 (by decide) (hts (.fieldLink RX7 23 "FoleyMixerModel" "text" "[I") (List.mem_of_getElem? (i := 4) rfl)) rfl rfl dX7_write_275 ?_
                          refine lv_aload_n hx hb dX7_write_278 rfl (lv_at hl 4 rfl) ?_
                          refine q_get hx hb hts hinX7 hown hG hW hm0 rfl 6 (by decide) (hts (.fieldLink RX7 117 "FoleyMixerModel" "length" "I") (List.mem_of_getElem? (i := 2) rfl)) rfl rfl dX7_write_279 ?_
                          refine lv_bipush (v := nI 64) hx hb dX7_write_282 (by decide) ?_
                          refine q_nast hx hb hG hW hS hm41 (by omega) (by omega) dX7_write_284 (fun H locs hW hS hz284 => ?_)
                          obtain ⟨w13, ew13⟩ : ∃ wq__ : Wd, wq__ = va_up w_271 41 (some (eN dA 80 (va_up B5.2 B5.1 64))) := ⟨_, rfl⟩
                          replace hW : WP D b w13 H := by rw [ew13]; exact hW
                          have frw13 : ∀ id : Nat, id ≠ 41 → w13 id = w_271 id := fun id h9 => by rw [ew13, up_ne h9]
                          replace hm1 : w13 37 = some (eN dA 85 F) := (frw13 _ (by omega)).trans hm1
                          replace hm38 : w13 38 = some (eN dA 510 G) := (frw13 _ (by omega)).trans hm38
                          replace hm39 : w13 39 = some (eN dA 170 GS) := (frw13 _ (by omega)).trans hm39
                          replace hm40 : w13 40 = some (eZ dA 2 Zt) := (frw13 _ (by omega)).trans hm40
                          replace hm42 : w13 42 = some (eN dA 120 D0) := (frw13 _ (by omega)).trans hm42
                          replace hm43 : w13 43 = some (eN dA 120 M0) := (frw13 _ (by omega)).trans hm43
                          replace hm44 : w13 44 = some (eN dA 3 TD) := (frw13 _ (by omega)).trans hm44
                          replace hm0 : w13 36 = some (modO b (nI (n)) (nI (B5.1)) (nI (0)) (pl) (lt) (dn)) := (frw13 _ (by omega)).trans hm0
                          replace hm41 : w13 41 = some (eN dA 80 (va_up B5.2 B5.1 64)) := by rw [ew13]; exact up_eq
                          refine lv_aload_n hx hb dX7_write_285 rfl (lv_at hl 4 rfl) ?_
                          refine lv_dup hx hb dX7_write_286 rfl ?_
                          refine q_get hx hb hts hinX7 hown hG hW hm0 rfl 6 (by decide) (hts (.fieldLink RX7 117 "FoleyMixerModel" "length" "I") (List.mem_of_getElem? (i := 2) rfl)) rfl rfl dX7_write_287 ?_
                          refine lv_iconst (v := nI 1) hx hb dX7_write_290 (by decide) ?_
                          refine lv_iadd hx hb dX7_write_291 ?_
                          refine q_top (y := nI (B5.1 + 1)) (nI_add _ _) ?_
                          refine q_put hx hb hts hinX7 tyX7_ok nmX7 hown hG hW hS hm0 rfl 6 (by decide) (hts (.fieldLink RX7 117 "FoleyMixerModel" "length" "I") (List.mem_of_getElem? (i := 2) rfl)) rfl rfl rfl rfl (Nat.le_of_ble_eq_true rfl) dX7_write_292 (fun H locs hW hS hz292 => ?_)
                          obtain ⟨w14, ew14⟩ : ∃ wq__ : Wd, wq__ = va_up w13 36 (some (modO b (nI (n)) (nI (B5.1 + 1)) (nI (0)) (pl) (lt) (dn))) := ⟨_, rfl⟩
                          replace hW : WP D b w14 H := by rw [ew14]; exact hW
                          have frw14 : ∀ id : Nat, id ≠ 36 → w14 id = w13 id := fun id h9 => by rw [ew14, up_ne h9]
                          replace hm1 : w14 37 = some (eN dA 85 F) := (frw14 _ (by omega)).trans hm1
                          replace hm38 : w14 38 = some (eN dA 510 G) := (frw14 _ (by omega)).trans hm38
                          replace hm39 : w14 39 = some (eN dA 170 GS) := (frw14 _ (by omega)).trans hm39
                          replace hm40 : w14 40 = some (eZ dA 2 Zt) := (frw14 _ (by omega)).trans hm40
                          replace hm42 : w14 42 = some (eN dA 120 D0) := (frw14 _ (by omega)).trans hm42
                          replace hm43 : w14 43 = some (eN dA 120 M0) := (frw14 _ (by omega)).trans hm43
                          replace hm44 : w14 44 = some (eN dA 3 TD) := (frw14 _ (by omega)).trans hm44
                          replace hm41 : w14 41 = some (eN dA 80 (va_up B5.2 B5.1 64)) := (frw14 _ (by omega)).trans hm41
                          replace hm0 : w14 36 = some (modO b (nI (n)) (nI (B5.1 + 1)) (nI (0)) (pl) (lt) (dn)) := by rw [ew14]; exact up_eq
                          obtain ⟨B6, hB6⟩ : ∃ B6 : Bf, B6 = ap B5 64 := ⟨_, rfl⟩
                          have hl6 : B6.1 = B5.1 + 1 := by rw [hB6]; rfl
                          have hk6 : okB B6 := by rw [hB6]; exact okB_ap hk5 (by omega)
                          replace hm0 : w14 36 = some (modO b (nI (n)) (nI (B6.1)) (nI (0)) (pl) (lt) (dn)) := by rw [hB6]; exact hm0
                          replace hm41 : w14 41 = some (eN dA 80 B6.2) := by rw [hB6]; exact hm41
                          refine lv_aload_n hx hb dX7_write_295 rfl (lv_at hl 4 rfl) ?_
                          refine lv_aload_n hx hb dX7_write_296 rfl (lv_at hl 4 rfl) ?_
                          refine q_get hx hb hts hinX7 hown hG hW hm0 rfl 0 (by decide) (hts (.fieldLink RX7 7 "FoleyMixerModel" "s" "[I") (List.mem_of_getElem? (i := 3) rfl)) rfl rfl dX7_write_297 ?_
                          refine lv_iload hx hb dX7_write_300 (lv_at hl 2 rfl) ?_
                          refine lv_iconst (v := nI 2) hx hb dX7_write_302 (by decide) ?_
                          refine lv_iadd hx hb dX7_write_303 ?_
                          refine q_top (y := nI ((37 + 4 * (j - P.w)) + 2)) (nI_add _ _) ?_
                          refine q_iald hx hb hG hW hm1 (by omega) (by omega) dX7_write_304 ?_
                          refine q_top (y := nI (P.N (j - P.w) 2)) (by exact congrArg nI (hRp.2.2.2.2 _ hj8 2 (by decide))) ?_
                          refine q_W0 (va_runV (As := [.int (nI (P.N (j - P.w) 2))]) (rest := []) ⟨hx, hb, hml, hown, hts⟩ (c_X7_writeNumber l (B := B6) hm0 hm41 (P.N (j - P.w) 2) (by omega) (by omega)) (cwV 1 hts gX7_write_X7_writeNumber rfl rfl rfl (by decide +kernel) ⟨Nat.le_of_ble_eq_true rfl, Nat.le_of_ble_eq_true rfl⟩) (q_preV hG hW hS hm0 rfl) rfl rfl hl.1 rfl (lv_room (Nat.le_of_ble_eq_true rfl)) dX7_write_305 ⟨Nat.le_of_ble_eq_true rfl, Nat.le_of_ble_eq_true rfl⟩) hS (fun w_305 H locs hp305 hW hS => ?_)
                          obtain ⟨hm0, hm41, fr305⟩ := hp305
                          replace hm1 : w_305 37 = some (eN dA 85 F) := (fr305 _ (by omega)).trans hm1
                          replace hm38 : w_305 38 = some (eN dA 510 G) := (fr305 _ (by omega)).trans hm38
                          replace hm39 : w_305 39 = some (eN dA 170 GS) := (fr305 _ (by omega)).trans hm39
                          replace hm40 : w_305 40 = some (eZ dA 2 Zt) := (fr305 _ (by omega)).trans hm40
                          replace hm42 : w_305 42 = some (eN dA 120 D0) := (fr305 _ (by omega)).trans hm42
                          replace hm43 : w_305 43 = some (eN dA 120 M0) := (fr305 _ (by omega)).trans hm43
                          replace hm44 : w_305 44 = some (eN dA 3 TD) := (fr305 _ (by omega)).trans hm44
                          obtain ⟨B7, hB7⟩ : ∃ B7 : Bf, B7 = apN B6 (P.N (j - P.w) 2) := ⟨_, rfl⟩
                          have hl7 : B7.1 = B6.1 + dl (P.N (j - P.w) 2) := by rw [hB7]; exact apN_len _ _
                          have hk7 : okB B7 := by rw [hB7]; exact okB_apN hk6 (by omega)
                          replace hm0 : w_305 36 = some (modO b (nI (n)) (nI (B7.1)) (nI (0)) (pl) (lt) (dn)) := by rw [hB7]; exact hm0
                          replace hm41 : w_305 41 = some (eN dA 80 B7.2) := by rw [hB7]; exact hm41
                          have hB9 : B7 = apC B (sgN P.N (j - P.w)) (P.N (j - P.w) 0) (P.N (j - P.w) 1) (P.N (j - P.w) 2) := apC_one (by rw [if_pos (by omega)]; exact hB1) hB2 hB3 hB4 hB5 hB6 hB7
                          rw [← hB9] at hwf
                          refine lv_iinc (v := nI (j + 1)) (lv' := [(1, .int (nI (j + 1))), (3, .int (nI 1)), (6, .int (nI (((3 + (dl (P.N (j - P.w) 0))) + (dl (P.N (j - P.w) 1))) + (dl (P.N (j - P.w) 2))))), (5, .int (nI (37 + 4 * (j - P.w)))), (4, .int (nI 0)), (0, .ref (b + 36)), (2, .int (nI (P.w + P.n)))]) hx hb dX7_write_308 hl (k := 5) rfl (nI_add _ 1) (by decide) rfl (fun ls hl => ?_)
                          refine lv_goto (tgt := 29) hx hb dX7_write_311 (by decide) ?_
                          exact ih29 (j + 1) 1 B7 (by omega) (by omega) (by exact Or.inl ⟨rfl, hwf.symm.trans (hres.resolve_right (fun h => c_35 h.1)).2⟩) (by omega) (by exact hk7) (by omega) (by omega) _ _ (by first | rfl | (congr 1; omega)) (by first | rfl | (congr 1; omega)) _ _ _ (by exact hm0) (by exact hm41) (by intro id h9; rw [fr305 id (by omega)]; rw [frw14 id (by omega)]; rw [frw13 id (by omega)]; rw [fr271 id (by omega)]; rw [frw12 id (by omega)]; rw [frw11 id (by omega)]; rw [fr237 id (by omega)]; rw [frw10 id (by omega)]; rw [frw9 id (by omega)]; exact fr id h9) hW hS _ (lv_sub hl [5, 0, 6, 1] rfl)
                      · skip
                        have c_188 : ¬ (0 = 0) := fun h__ => c_188 ((nI_eq0 (i := 0) (by omega)).mpr h__)
                        exact absurd c_188 (by omega)
                    · skip
                      have c_154 : ¬ (j ≤ 0) := fun h__ => c_154 ((nI_le0 (i := j) (by omega)).mpr h__)
                      exact absurd c_154 (by omega)
              · skip
                have c_80 : ¬ (j ≤ 0) := fun h__ => c_80 ((nI_le0 (i := j) (by omega)).mpr h__)
                refine lv_iconst (v := nI 1) hx hb dX7_write_83 (by decide) ?_
                refine lv_goto (tgt := 88) hx hb dX7_write_84 (by decide) ?_
                refine lv_iconst (v := nI 3) hx hb dX7_write_88 (by decide) ?_
                refine lv_iadd hx hb dX7_write_89 ?_
                refine q_top (y := nI (4)) (nI_add _ _) ?_
                refine lv_aload_n hx hb dX7_write_90 rfl (lv_at hl 2 rfl) ?_
                refine q_get hx hb hts hinX7 hown hG hW hm0 rfl 0 (by decide) (hts (.fieldLink RX7 7 "FoleyMixerModel" "s" "[I") (List.mem_of_getElem? (i := 3) rfl)) rfl rfl dX7_write_91 ?_
                refine lv_iload hx hb dX7_write_94 (lv_at hl 0 rfl) ?_
                refine lv_iconst (v := nI 0) hx hb dX7_write_96 (by decide) ?_
                refine lv_iadd hx hb dX7_write_97 ?_
                refine q_top (y := nI ((37 + 4 * (j - P.w)) + 0)) (nI_add _ _) ?_
                refine q_iald hx hb hG hW hm1 (by omega) (by omega) dX7_write_98 ?_
                refine q_top (y := nI (P.N (j - P.w) 0)) (by exact congrArg nI (hRp.2.2.2.2 _ hj8 0 (by decide))) ?_
                refine q_R1 (va_runS (As := [.int (nI (P.N (j - P.w) 0))]) (rest := [.int (nI 4)]) ⟨hx, hb, hml, hown, hts⟩ (c_X7_size l (P.N (j - P.w) 0) (by omega)) (va_cwS 1 hts gX7_write_X7_size rfl rfl rfl (by decide +kernel) ⟨Nat.le_of_ble_eq_true rfl, Nat.le_of_ble_eq_true rfl⟩) (q_preS hG hW hS) rfl rfl hl.1 rfl (lv_room (Nat.le_of_ble_eq_true rfl)) dX7_write_99 ⟨Nat.le_of_ble_eq_true rfl, Nat.le_of_ble_eq_true rfl⟩) ?_
                have hdl99 := dl_rng (P.N (j - P.w) 0)
                refine lv_iadd hx hb dX7_write_102 ?_
                refine q_top (y := nI (4 + (dl (P.N (j - P.w) 0)))) (nI_add _ _) ?_
                refine lv_aload_n hx hb dX7_write_103 rfl (lv_at hl 2 rfl) ?_
                refine q_get hx hb hts hinX7 hown hG hW hm0 rfl 0 (by decide) (hts (.fieldLink RX7 7 "FoleyMixerModel" "s" "[I") (List.mem_of_getElem? (i := 3) rfl)) rfl rfl dX7_write_104 ?_
                refine lv_iload hx hb dX7_write_107 (lv_at hl 0 rfl) ?_
                refine lv_iconst (v := nI 1) hx hb dX7_write_109 (by decide) ?_
                refine lv_iadd hx hb dX7_write_110 ?_
                refine q_top (y := nI ((37 + 4 * (j - P.w)) + 1)) (nI_add _ _) ?_
                refine q_iald hx hb hG hW hm1 (by omega) (by omega) dX7_write_111 ?_
                refine q_top (y := nI (P.N (j - P.w) 1)) (by exact congrArg nI (hRp.2.2.2.2 _ hj8 1 (by decide))) ?_
                refine q_R1 (va_runS (As := [.int (nI (P.N (j - P.w) 1))]) (rest := [.int (nI (4 + (dl (P.N (j - P.w) 0))))]) ⟨hx, hb, hml, hown, hts⟩ (c_X7_size l (P.N (j - P.w) 1) (by omega)) (va_cwS 1 hts gX7_write_X7_size rfl rfl rfl (by decide +kernel) ⟨Nat.le_of_ble_eq_true rfl, Nat.le_of_ble_eq_true rfl⟩) (q_preS hG hW hS) rfl rfl hl.1 rfl (lv_room (Nat.le_of_ble_eq_true rfl)) dX7_write_112 ⟨Nat.le_of_ble_eq_true rfl, Nat.le_of_ble_eq_true rfl⟩) ?_
                have hdl112 := dl_rng (P.N (j - P.w) 1)
                refine lv_iadd hx hb dX7_write_115 ?_
                refine q_top (y := nI ((4 + (dl (P.N (j - P.w) 0))) + (dl (P.N (j - P.w) 1)))) (nI_add _ _) ?_
                refine lv_aload_n hx hb dX7_write_116 rfl (lv_at hl 2 rfl) ?_
                refine q_get hx hb hts hinX7 hown hG hW hm0 rfl 0 (by decide) (hts (.fieldLink RX7 7 "FoleyMixerModel" "s" "[I") (List.mem_of_getElem? (i := 3) rfl)) rfl rfl dX7_write_117 ?_
                refine lv_iload hx hb dX7_write_120 (lv_at hl 0 rfl) ?_
                refine lv_iconst (v := nI 2) hx hb dX7_write_122 (by decide) ?_
                refine lv_iadd hx hb dX7_write_123 ?_
                refine q_top (y := nI ((37 + 4 * (j - P.w)) + 2)) (nI_add _ _) ?_
                refine q_iald hx hb hG hW hm1 (by omega) (by omega) dX7_write_124 ?_
                refine q_top (y := nI (P.N (j - P.w) 2)) (by exact congrArg nI (hRp.2.2.2.2 _ hj8 2 (by decide))) ?_
                refine q_R1 (va_runS (As := [.int (nI (P.N (j - P.w) 2))]) (rest := [.int (nI ((4 + (dl (P.N (j - P.w) 0))) + (dl (P.N (j - P.w) 1))))]) ⟨hx, hb, hml, hown, hts⟩ (c_X7_size l (P.N (j - P.w) 2) (by omega)) (va_cwS 1 hts gX7_write_X7_size rfl rfl rfl (by decide +kernel) ⟨Nat.le_of_ble_eq_true rfl, Nat.le_of_ble_eq_true rfl⟩) (q_preS hG hW hS) rfl rfl hl.1 rfl (lv_room (Nat.le_of_ble_eq_true rfl)) dX7_write_125 ⟨Nat.le_of_ble_eq_true rfl, Nat.le_of_ble_eq_true rfl⟩) ?_
                have hdl125 := dl_rng (P.N (j - P.w) 2)
                refine lv_iadd hx hb dX7_write_128 ?_
                refine q_top (y := nI (((4 + (dl (P.N (j - P.w) 0))) + (dl (P.N (j - P.w) 1))) + (dl (P.N (j - P.w) 2)))) (nI_add _ _) ?_
                refine lv_istore (lv' := [(6, .int (nI (((4 + (dl (P.N (j - P.w) 0))) + (dl (P.N (j - P.w) 1))) + (dl (P.N (j - P.w) 2))))), (5, .int (nI (37 + 4 * (j - P.w)))), (4, .int (nI 0)), (0, .ref (b + 36)), (1, .int (nI j)), (2, .int (nI (P.w + P.n))), (3, .int (nI f8))]) hx hb dX7_write_129 hl (by decide) rfl (fun ls hl => ?_)
                refine lv_aload_n hx hb dX7_write_131 rfl (lv_at hl 3 rfl) ?_
                refine q_get hx hb hts hinX7 hown hG hW hm0 rfl 6 (by decide) (hts (.fieldLink RX7 117 "FoleyMixerModel" "length" "I") (List.mem_of_getElem? (i := 2) rfl)) rfl rfl dX7_write_132 ?_
                refine lv_iload hx hb dX7_write_135 (lv_at hl 0 rfl) ?_
                refine lv_iadd hx hb dX7_write_137 ?_
                refine q_top (y := nI (B.1 + (((4 + (dl (P.N (j - P.w) 0))) + (dl (P.N (j - P.w) 1))) + (dl (P.N (j - P.w) 2))))) (nI_add _ _) ?_
                refine lv_bipush (v := nI 80) hx hb dX7_write_138 (by decide) ?_
                refine lv_icmp_gt (tgt := 147) hx hb dX7_write_140 (by decide) (fun c_140 => ?_) (fun c_140 => ?_)
                · skip
                  have c_140 : 80 < B.1 + (((4 + (dl (P.N (j - P.w) 0))) + (dl (P.N (j - P.w) 1))) + (dl (P.N (j - P.w) 2))) := (nI_ltI (a := 80) (b := B.1 + (((4 + (dl (P.N (j - P.w) 0))) + (dl (P.N (j - P.w) 1))) + (dl (P.N (j - P.w) 2)))) (by omega) (by omega)).mp c_140
                  have hnd : needC B.1 (P.N (j - P.w) 0) (P.N (j - P.w) 1) (P.N (j - P.w) 2) = 4 + dl (P.N (j - P.w) 0) + dl (P.N (j - P.w) 1) + dl (P.N (j - P.w) 2) := by unfold needC; rw [if_neg (by omega)]
                  have hwf : wfin P j B = (B, j) := wfin_Nno hj9 hj8 (by rw [hnd]; omega)
                  refine lv_iconst (v := nI 0) hx hb dX7_write_147 (by decide) ?_
                  refine lv_istore_n (lv' := [(3, .int (nI 0)), (6, .int (nI (((4 + (dl (P.N (j - P.w) 0))) + (dl (P.N (j - P.w) 1))) + (dl (P.N (j - P.w) 2))))), (5, .int (nI (37 + 4 * (j - P.w)))), (4, .int (nI 0)), (0, .ref (b + 36)), (1, .int (nI j)), (2, .int (nI (P.w + P.n)))]) hx hb dX7_write_148 rfl hl (by decide) rfl (fun ls hl => ?_)
                  refine lv_iload_n hx hb dX7_write_149 rfl (lv_at hl 0 rfl) ?_
                  refine lv_if_eq (tgt := 311) hx hb dX7_write_150 (by decide) (fun c_150 => ?_) (fun c_150 => ?_)
                  · skip
                    have c_150 : 0 = 0 := (nI_eq0 (i := 0) (by omega)).mp c_150
                    refine lv_goto (tgt := 29) hx hb dX7_write_311 (by decide) ?_
                    exact ih29 j 0 B (by omega) (by omega) (by exact Or.inr ⟨rfl, hwf.symm.trans (hres.resolve_right (fun h => c_35 h.1)).2⟩) (by omega) (by exact hk0) (by omega) (by omega) _ _ (by first | rfl | (congr 1; omega)) (by first | rfl | (congr 1; omega)) _ _ _ (by exact hm0) (by exact hm41) (by intro id h9; exact fr id h9) hW hS _ (lv_sub hl [4, 5, 6, 0] rfl)
                  · skip
                    have c_150 : ¬ (0 = 0) := fun h__ => c_150 ((nI_eq0 (i := 0) (by omega)).mpr h__)
                    exact absurd c_150 (by omega)
                · skip
                  have c_140 : ¬ (80 < B.1 + (((4 + (dl (P.N (j - P.w) 0))) + (dl (P.N (j - P.w) 1))) + (dl (P.N (j - P.w) 2)))) := fun h__ => c_140 ((nI_ltI (a := 80) (b := B.1 + (((4 + (dl (P.N (j - P.w) 0))) + (dl (P.N (j - P.w) 1))) + (dl (P.N (j - P.w) 2)))) (by omega) (by omega)).mpr h__)
                  have hnd : needC B.1 (P.N (j - P.w) 0) (P.N (j - P.w) 1) (P.N (j - P.w) 2) = 4 + dl (P.N (j - P.w) 0) + dl (P.N (j - P.w) 1) + dl (P.N (j - P.w) 2) := by unfold needC; rw [if_neg (by omega)]
                  have hwf := wfin_N (P := P) hj9 hj8 (B := B) (by rw [hnd]; omega)
                  refine lv_iconst (v := nI 1) hx hb dX7_write_143 (by decide) ?_
                  refine lv_goto (tgt := 148) hx hb dX7_write_144 (by decide) ?_
                  refine lv_istore_n (lv' := [(3, .int (nI 1)), (6, .int (nI (((4 + (dl (P.N (j - P.w) 0))) + (dl (P.N (j - P.w) 1))) + (dl (P.N (j - P.w) 2))))), (5, .int (nI (37 + 4 * (j - P.w)))), (4, .int (nI 0)), (0, .ref (b + 36)), (1, .int (nI j)), (2, .int (nI (P.w + P.n)))]) hx hb dX7_write_148 rfl hl (by decide) rfl (fun ls hl => ?_)
                  refine lv_iload_n hx hb dX7_write_149 rfl (lv_at hl 0 rfl) ?_
                  refine lv_if_eq (tgt := 311) hx hb dX7_write_150 (by decide) (fun c_150 => ?_) (fun c_150 => ?_)
                  · skip
                    have c_150 : 1 = 0 := (nI_eq0 (i := 1) (by omega)).mp c_150
                    exact absurd c_150 (by omega)
                  · skip
                    have c_150 : ¬ (1 = 0) := fun h__ => c_150 ((nI_eq0 (i := 1) (by omega)).mpr h__)
                    refine lv_iload_n hx hb dX7_write_153 rfl (lv_at hl 5 rfl) ?_
                    refine lv_if_le (tgt := 178) hx hb dX7_write_154 (by decide) (fun c_154 => ?_) (fun c_154 => ?_)
                    · skip
                      have c_154 : j ≤ 0 := (nI_le0 (i := j) (by omega)).mp c_154
                      exact absurd c_154 (by omega)
                    · skip
                      have c_154 : ¬ (j ≤ 0) := fun h__ => c_154 ((nI_le0 (i := j) (by omega)).mpr h__)
                      refine lv_aload_n hx hb dX7_write_157 rfl (lv_at hl 4 rfl) ?_
                      refine q_get hx hb hts hinX7 hown hG hW hm0 rfl 5 (by decide) (hts (.fieldLink RX7 23 "FoleyMixerModel" "text" "[I") (List.mem_of_getElem? (i := 4) rfl)) rfl rfl dX7_write_158 ?_
                      refine lv_aload_n hx hb dX7_write_161 rfl (lv_at hl 4 rfl) ?_
                      refine q_get hx hb hts hinX7 hown hG hW hm0 rfl 6 (by decide) (hts (.fieldLink RX7 117 "FoleyMixerModel" "length" "I") (List.mem_of_getElem? (i := 2) rfl)) rfl rfl dX7_write_162 ?_
                      refine lv_bipush (v := nI 59) hx hb dX7_write_165 (by decide) ?_
                      refine q_nast hx hb hG hW hS hm41 (by omega) (by omega) dX7_write_167 (fun H locs hW hS hz167 => ?_)
                      obtain ⟨w15, ew15⟩ : ∃ wq__ : Wd, wq__ = va_up wa 41 (some (eN dA 80 (va_up B.2 B.1 59))) := ⟨_, rfl⟩
                      replace hW : WP D b w15 H := by rw [ew15]; exact hW
                      have frw15 : ∀ id : Nat, id ≠ 41 → w15 id = wa id := fun id h9 => by rw [ew15, up_ne h9]
                      replace hm0 : w15 36 = some (modO b (nI (n)) (nI (B.1)) (nI (0)) (pl) (lt) (dn)) := (frw15 _ (by omega)).trans hm0
                      replace hm1 : w15 37 = some (eN dA 85 F) := (frw15 _ (by omega)).trans hm1
                      replace hm38 : w15 38 = some (eN dA 510 G) := (frw15 _ (by omega)).trans hm38
                      replace hm39 : w15 39 = some (eN dA 170 GS) := (frw15 _ (by omega)).trans hm39
                      replace hm40 : w15 40 = some (eZ dA 2 Zt) := (frw15 _ (by omega)).trans hm40
                      replace hm42 : w15 42 = some (eN dA 120 D0) := (frw15 _ (by omega)).trans hm42
                      replace hm43 : w15 43 = some (eN dA 120 M0) := (frw15 _ (by omega)).trans hm43
                      replace hm44 : w15 44 = some (eN dA 3 TD) := (frw15 _ (by omega)).trans hm44
                      replace hm41 : w15 41 = some (eN dA 80 (va_up B.2 B.1 59)) := by rw [ew15]; exact up_eq
                      refine lv_aload_n hx hb dX7_write_168 rfl (lv_at hl 4 rfl) ?_
                      refine lv_dup hx hb dX7_write_169 rfl ?_
                      refine q_get hx hb hts hinX7 hown hG hW hm0 rfl 6 (by decide) (hts (.fieldLink RX7 117 "FoleyMixerModel" "length" "I") (List.mem_of_getElem? (i := 2) rfl)) rfl rfl dX7_write_170 ?_
                      refine lv_iconst (v := nI 1) hx hb dX7_write_173 (by decide) ?_
                      refine lv_iadd hx hb dX7_write_174 ?_
                      refine q_top (y := nI (B.1 + 1)) (nI_add _ _) ?_
                      refine q_put hx hb hts hinX7 tyX7_ok nmX7 hown hG hW hS hm0 rfl 6 (by decide) (hts (.fieldLink RX7 117 "FoleyMixerModel" "length" "I") (List.mem_of_getElem? (i := 2) rfl)) rfl rfl rfl rfl (Nat.le_of_ble_eq_true rfl) dX7_write_175 (fun H locs hW hS hz175 => ?_)
                      obtain ⟨w16, ew16⟩ : ∃ wq__ : Wd, wq__ = va_up w15 36 (some (modO b (nI (n)) (nI (B.1 + 1)) (nI (0)) (pl) (lt) (dn))) := ⟨_, rfl⟩
                      replace hW : WP D b w16 H := by rw [ew16]; exact hW
                      have frw16 : ∀ id : Nat, id ≠ 36 → w16 id = w15 id := fun id h9 => by rw [ew16, up_ne h9]
                      replace hm1 : w16 37 = some (eN dA 85 F) := (frw16 _ (by omega)).trans hm1
                      replace hm38 : w16 38 = some (eN dA 510 G) := (frw16 _ (by omega)).trans hm38
                      replace hm39 : w16 39 = some (eN dA 170 GS) := (frw16 _ (by omega)).trans hm39
                      replace hm40 : w16 40 = some (eZ dA 2 Zt) := (frw16 _ (by omega)).trans hm40
                      replace hm41 : w16 41 = some (eN dA 80 (va_up B.2 B.1 59)) := (frw16 _ (by omega)).trans hm41
                      replace hm42 : w16 42 = some (eN dA 120 D0) := (frw16 _ (by omega)).trans hm42
                      replace hm43 : w16 43 = some (eN dA 120 M0) := (frw16 _ (by omega)).trans hm43
                      replace hm44 : w16 44 = some (eN dA 3 TD) := (frw16 _ (by omega)).trans hm44
                      replace hm0 : w16 36 = some (modO b (nI (n)) (nI (B.1 + 1)) (nI (0)) (pl) (lt) (dn)) := by rw [ew16]; exact up_eq
                      obtain ⟨B1, hB1⟩ : ∃ B1 : Bf, B1 = ap B 59 := ⟨_, rfl⟩
                      have hl1 : B1.1 = B.1 + 1 := by rw [hB1]; rfl
                      have hk1 : okB B1 := by rw [hB1]; exact okB_ap hk0 (by omega)
                      replace hm0 : w16 36 = some (modO b (nI (n)) (nI (B1.1)) (nI (0)) (pl) (lt) (dn)) := by rw [hB1]; exact hm0
                      replace hm41 : w16 41 = some (eN dA 80 B1.2) := by rw [hB1]; exact hm41
                      refine lv_aload_n hx hb dX7_write_178 rfl (lv_at hl 4 rfl) ?_
                      refine q_get hx hb hts hinX7 hown hG hW hm0 rfl 5 (by decide) (hts (.fieldLink RX7 23 "FoleyMixerModel" "text" "[I") (List.mem_of_getElem? (i := 4) rfl)) rfl rfl dX7_write_179 ?_
                      refine lv_aload_n hx hb dX7_write_182 rfl (lv_at hl 4 rfl) ?_
                      refine q_get hx hb hts hinX7 hown hG hW hm0 rfl 6 (by decide) (hts (.fieldLink RX7 117 "FoleyMixerModel" "length" "I") (List.mem_of_getElem? (i := 2) rfl)) rfl rfl dX7_write_183 ?_
                      refine lv_iload hx hb dX7_write_186 (lv_at hl 3 rfl) ?_
                      refine lv_if_eq (tgt := 196) hx hb dX7_write_188 (by decide) (fun c_188 => ?_) (fun c_188 => ?_)
                      · skip
                        have c_188 : 0 = 0 := (nI_eq0 (i := 0) (by omega)).mp c_188
                        refine lv_aload_n hx hb dX7_write_196 rfl (lv_at hl 4 rfl) ?_
                        refine q_get hx hb hts hinX7 hown hG hW hm0 rfl 0 (by decide) (hts (.fieldLink RX7 7 "FoleyMixerModel" "s" "[I") (List.mem_of_getElem? (i := 3) rfl)) rfl rfl dX7_write_197 ?_
                        refine lv_iload hx hb dX7_write_200 (lv_at hl 2 rfl) ?_
                        refine lv_iconst (v := nI 3) hx hb dX7_write_202 (by decide) ?_
                        refine lv_iadd hx hb dX7_write_203 ?_
                        refine q_top (y := nI ((37 + 4 * (j - P.w)) + 3)) (nI_add _ _) ?_
                        refine q_iald hx hb hG hW hm1 (by omega) (by omega) dX7_write_204 ?_
                        refine q_top (y := nI (P.N (j - P.w) 3)) (by exact congrArg nI (hRp.2.2.2.2 _ hj8 3 (by decide))) ?_
                        refine lv_iconst (v := nI 1) hx hb dX7_write_205 (by decide) ?_
                        refine lv_icmp_ne (tgt := 214) hx hb dX7_write_206 (by decide) (fun c_206 => ?_) (fun c_206 => ?_)
                        · skip
                          have c_206 : ¬ (P.N (j - P.w) 3 = 1) := fun h__ => c_206 ((nI_eq (a := P.N (j - P.w) 3) (b := 1) (by omega) (by omega)).mpr h__)
                          refine lv_bipush (v := nI 110) hx hb dX7_write_214 (by decide) ?_
                          refine q_top (y := nI (sgN P.N (j - P.w))) (by first | rfl | (refine congrArg nI ?_; unfold sgN; first | (rw [if_pos c_206]; done) | (rw [if_neg c_206]; done))) ?_
                          refine q_nast hx hb hG hW hS hm41 (by omega) (by omega) dX7_write_216 (fun H locs hW hS hz216 => ?_)
                          obtain ⟨w17, ew17⟩ : ∃ wq__ : Wd, wq__ = va_up w16 41 (some (eN dA 80 (va_up B1.2 B1.1 (sgN P.N (j - P.w))))) := ⟨_, rfl⟩
                          replace hW : WP D b w17 H := by rw [ew17]; exact hW
                          have frw17 : ∀ id : Nat, id ≠ 41 → w17 id = w16 id := fun id h9 => by rw [ew17, up_ne h9]
                          replace hm0 : w17 36 = some (modO b (nI (n)) (nI (B1.1)) (nI (0)) (pl) (lt) (dn)) := (frw17 _ (by omega)).trans hm0
                          replace hm1 : w17 37 = some (eN dA 85 F) := (frw17 _ (by omega)).trans hm1
                          replace hm38 : w17 38 = some (eN dA 510 G) := (frw17 _ (by omega)).trans hm38
                          replace hm39 : w17 39 = some (eN dA 170 GS) := (frw17 _ (by omega)).trans hm39
                          replace hm40 : w17 40 = some (eZ dA 2 Zt) := (frw17 _ (by omega)).trans hm40
                          replace hm42 : w17 42 = some (eN dA 120 D0) := (frw17 _ (by omega)).trans hm42
                          replace hm43 : w17 43 = some (eN dA 120 M0) := (frw17 _ (by omega)).trans hm43
                          replace hm44 : w17 44 = some (eN dA 3 TD) := (frw17 _ (by omega)).trans hm44
                          replace hm41 : w17 41 = some (eN dA 80 (va_up B1.2 B1.1 (sgN P.N (j - P.w)))) := by rw [ew17]; exact up_eq
                          refine lv_aload_n hx hb dX7_write_217 rfl (lv_at hl 4 rfl) ?_
                          refine lv_dup hx hb dX7_write_218 rfl ?_
                          refine q_get hx hb hts hinX7 hown hG hW hm0 rfl 6 (by decide) (hts (.fieldLink RX7 117 "FoleyMixerModel" "length" "I") (List.mem_of_getElem? (i := 2) rfl)) rfl rfl dX7_write_219 ?_
                          refine lv_iconst (v := nI 1) hx hb dX7_write_222 (by decide) ?_
                          refine lv_iadd hx hb dX7_write_223 ?_
                          refine q_top (y := nI (B1.1 + 1)) (nI_add _ _) ?_
                          refine q_put hx hb hts hinX7 tyX7_ok nmX7 hown hG hW hS hm0 rfl 6 (by decide) (hts (.fieldLink RX7 117 "FoleyMixerModel" "length" "I") (List.mem_of_getElem? (i := 2) rfl)) rfl rfl rfl rfl (Nat.le_of_ble_eq_true rfl) dX7_write_224 (fun H locs hW hS hz224 => ?_)
                          obtain ⟨w18, ew18⟩ : ∃ wq__ : Wd, wq__ = va_up w17 36 (some (modO b (nI (n)) (nI (B1.1 + 1)) (nI (0)) (pl) (lt) (dn))) := ⟨_, rfl⟩
                          replace hW : WP D b w18 H := by rw [ew18]; exact hW
                          have frw18 : ∀ id : Nat, id ≠ 36 → w18 id = w17 id := fun id h9 => by rw [ew18, up_ne h9]
                          replace hm1 : w18 37 = some (eN dA 85 F) := (frw18 _ (by omega)).trans hm1
                          replace hm38 : w18 38 = some (eN dA 510 G) := (frw18 _ (by omega)).trans hm38
                          replace hm39 : w18 39 = some (eN dA 170 GS) := (frw18 _ (by omega)).trans hm39
                          replace hm40 : w18 40 = some (eZ dA 2 Zt) := (frw18 _ (by omega)).trans hm40
                          replace hm41 : w18 41 = some (eN dA 80 (va_up B1.2 B1.1 (sgN P.N (j - P.w)))) := (frw18 _ (by omega)).trans hm41
                          replace hm42 : w18 42 = some (eN dA 120 D0) := (frw18 _ (by omega)).trans hm42
                          replace hm43 : w18 43 = some (eN dA 120 M0) := (frw18 _ (by omega)).trans hm43
                          replace hm44 : w18 44 = some (eN dA 3 TD) := (frw18 _ (by omega)).trans hm44
                          replace hm0 : w18 36 = some (modO b (nI (n)) (nI (B1.1 + 1)) (nI (0)) (pl) (lt) (dn)) := by rw [ew18]; exact up_eq
                          obtain ⟨B2, hB2⟩ : ∃ B2 : Bf, B2 = ap B1 (sgN P.N (j - P.w)) := ⟨_, rfl⟩
                          have hl2 : B2.1 = B1.1 + 1 := by rw [hB2]; rfl
                          have hk2 : okB B2 := by rw [hB2]; exact okB_ap hk1 (by exact sgN_lt _ _)
                          replace hm0 : w18 36 = some (modO b (nI (n)) (nI (B2.1)) (nI (0)) (pl) (lt) (dn)) := by rw [hB2]; exact hm0
                          replace hm41 : w18 41 = some (eN dA 80 B2.2) := by rw [hB2]; exact hm41
                          refine lv_aload_n hx hb dX7_write_227 rfl (lv_at hl 4 rfl) ?_
                          refine lv_aload_n hx hb dX7_write_228 rfl (lv_at hl 4 rfl) ?_
                          refine q_get hx hb hts hinX7 hown hG hW hm0 rfl 0 (by decide) (hts (.fieldLink RX7 7 "FoleyMixerModel" "s" "[I") (List.mem_of_getElem? (i := 3) rfl)) rfl rfl dX7_write_229 ?_
                          refine lv_iload hx hb dX7_write_232 (lv_at hl 2 rfl) ?_
                          refine lv_iconst (v := nI 0) hx hb dX7_write_234 (by decide) ?_
                          refine lv_iadd hx hb dX7_write_235 ?_
                          refine q_top (y := nI ((37 + 4 * (j - P.w)) + 0)) (nI_add _ _) ?_
                          refine q_iald hx hb hG hW hm1 (by omega) (by omega) dX7_write_236 ?_
                          refine q_top (y := nI (P.N (j - P.w) 0)) (by exact congrArg nI (hRp.2.2.2.2 _ hj8 0 (by decide))) ?_
                          refine q_W0 (va_runV (As := [.int (nI (P.N (j - P.w) 0))]) (rest := []) ⟨hx, hb, hml, hown, hts⟩ (c_X7_writeNumber l (B := B2) hm0 hm41 (P.N (j - P.w) 0) (by omega) (by omega)) (cwV 1 hts gX7_write_X7_writeNumber rfl rfl rfl (by decide +kernel) ⟨Nat.le_of_ble_eq_true rfl, Nat.le_of_ble_eq_true rfl⟩) (q_preV hG hW hS hm0 rfl) rfl rfl hl.1 rfl (lv_room (Nat.le_of_ble_eq_true rfl)) dX7_write_237 ⟨Nat.le_of_ble_eq_true rfl, Nat.le_of_ble_eq_true rfl⟩) hS (fun w_237 H locs hp237 hW hS => ?_)
                          obtain ⟨hm0, hm41, fr237⟩ := hp237
                          replace hm1 : w_237 37 = some (eN dA 85 F) := (fr237 _ (by omega)).trans hm1
                          replace hm38 : w_237 38 = some (eN dA 510 G) := (fr237 _ (by omega)).trans hm38
                          replace hm39 : w_237 39 = some (eN dA 170 GS) := (fr237 _ (by omega)).trans hm39
                          replace hm40 : w_237 40 = some (eZ dA 2 Zt) := (fr237 _ (by omega)).trans hm40
                          replace hm42 : w_237 42 = some (eN dA 120 D0) := (fr237 _ (by omega)).trans hm42
                          replace hm43 : w_237 43 = some (eN dA 120 M0) := (fr237 _ (by omega)).trans hm43
                          replace hm44 : w_237 44 = some (eN dA 3 TD) := (fr237 _ (by omega)).trans hm44
                          obtain ⟨B3, hB3⟩ : ∃ B3 : Bf, B3 = apN B2 (P.N (j - P.w) 0) := ⟨_, rfl⟩
                          have hl3 : B3.1 = B2.1 + dl (P.N (j - P.w) 0) := by rw [hB3]; exact apN_len _ _
                          have hk3 : okB B3 := by rw [hB3]; exact okB_apN hk2 (by omega)
                          replace hm0 : w_237 36 = some (modO b (nI (n)) (nI (B3.1)) (nI (0)) (pl) (lt) (dn)) := by rw [hB3]; exact hm0
                          replace hm41 : w_237 41 = some (eN dA 80 B3.2) := by rw [hB3]; exact hm41
                          refine lv_aload_n hx hb dX7_write_240 rfl (lv_at hl 4 rfl) ?_
                          refine q_get hx hb hts hinX7 hown hG hW hm0 rfl 5 (by decide) (hts (.fieldLink RX7 23 "FoleyMixerModel" "text" "[I") (List.mem_of_getElem? (i := 4) rfl)) rfl rfl dX7_write_241 ?_
                          refine lv_aload_n hx hb dX7_write_244 rfl (lv_at hl 4 rfl) ?_
                          refine q_get hx hb hts hinX7 hown hG hW hm0 rfl 6 (by decide) (hts (.fieldLink RX7 117 "FoleyMixerModel" "length" "I") (List.mem_of_getElem? (i := 2) rfl)) rfl rfl dX7_write_245 ?_
                          refine lv_bipush (v := nI 43) hx hb dX7_write_248 (by decide) ?_
                          refine q_nast hx hb hG hW hS hm41 (by omega) (by omega) dX7_write_250 (fun H locs hW hS hz250 => ?_)
                          obtain ⟨w19, ew19⟩ : ∃ wq__ : Wd, wq__ = va_up w_237 41 (some (eN dA 80 (va_up B3.2 B3.1 43))) := ⟨_, rfl⟩
                          replace hW : WP D b w19 H := by rw [ew19]; exact hW
                          have frw19 : ∀ id : Nat, id ≠ 41 → w19 id = w_237 id := fun id h9 => by rw [ew19, up_ne h9]
                          replace hm1 : w19 37 = some (eN dA 85 F) := (frw19 _ (by omega)).trans hm1
                          replace hm38 : w19 38 = some (eN dA 510 G) := (frw19 _ (by omega)).trans hm38
                          replace hm39 : w19 39 = some (eN dA 170 GS) := (frw19 _ (by omega)).trans hm39
                          replace hm40 : w19 40 = some (eZ dA 2 Zt) := (frw19 _ (by omega)).trans hm40
                          replace hm42 : w19 42 = some (eN dA 120 D0) := (frw19 _ (by omega)).trans hm42
                          replace hm43 : w19 43 = some (eN dA 120 M0) := (frw19 _ (by omega)).trans hm43
                          replace hm44 : w19 44 = some (eN dA 3 TD) := (frw19 _ (by omega)).trans hm44
                          replace hm0 : w19 36 = some (modO b (nI (n)) (nI (B3.1)) (nI (0)) (pl) (lt) (dn)) := (frw19 _ (by omega)).trans hm0
                          replace hm41 : w19 41 = some (eN dA 80 (va_up B3.2 B3.1 43)) := by rw [ew19]; exact up_eq
                          refine lv_aload_n hx hb dX7_write_251 rfl (lv_at hl 4 rfl) ?_
                          refine lv_dup hx hb dX7_write_252 rfl ?_
                          refine q_get hx hb hts hinX7 hown hG hW hm0 rfl 6 (by decide) (hts (.fieldLink RX7 117 "FoleyMixerModel" "length" "I") (List.mem_of_getElem? (i := 2) rfl)) rfl rfl dX7_write_253 ?_
                          refine lv_iconst (v := nI 1) hx hb dX7_write_256 (by decide) ?_
                          refine lv_iadd hx hb dX7_write_257 ?_
                          refine q_top (y := nI (B3.1 + 1)) (nI_add _ _) ?_
                          refine q_put hx hb hts hinX7 tyX7_ok nmX7 hown hG hW hS hm0 rfl 6 (by decide) (hts (.fieldLink RX7 117 "FoleyMixerModel" "length" "I") (List.mem_of_getElem? (i := 2) rfl)) rfl rfl rfl rfl (Nat.le_of_ble_eq_true rfl) dX7_write_258 (fun H locs hW hS hz258 => ?_)
                          obtain ⟨w20, ew20⟩ : ∃ wq__ : Wd, wq__ = va_up w19 36 (some (modO b (nI (n)) (nI (B3.1 + 1)) (nI (0)) (pl) (lt) (dn))) := ⟨_, rfl⟩
                          replace hW : WP D b w20 H := by rw [ew20]; exact hW
                          have frw20 : ∀ id : Nat, id ≠ 36 → w20 id = w19 id := fun id h9 => by rw [ew20, up_ne h9]
                          replace hm1 : w20 37 = some (eN dA 85 F) := (frw20 _ (by omega)).trans hm1
                          replace hm38 : w20 38 = some (eN dA 510 G) := (frw20 _ (by omega)).trans hm38
                          replace hm39 : w20 39 = some (eN dA 170 GS) := (frw20 _ (by omega)).trans hm39
                          replace hm40 : w20 40 = some (eZ dA 2 Zt) := (frw20 _ (by omega)).trans hm40
                          replace hm42 : w20 42 = some (eN dA 120 D0) := (frw20 _ (by omega)).trans hm42
                          replace hm43 : w20 43 = some (eN dA 120 M0) := (frw20 _ (by omega)).trans hm43
                          replace hm44 : w20 44 = some (eN dA 3 TD) := (frw20 _ (by omega)).trans hm44
                          replace hm41 : w20 41 = some (eN dA 80 (va_up B3.2 B3.1 43)) := (frw20 _ (by omega)).trans hm41
                          replace hm0 : w20 36 = some (modO b (nI (n)) (nI (B3.1 + 1)) (nI (0)) (pl) (lt) (dn)) := by rw [ew20]; exact up_eq
                          obtain ⟨B4, hB4⟩ : ∃ B4 : Bf, B4 = ap B3 43 := ⟨_, rfl⟩
                          have hl4 : B4.1 = B3.1 + 1 := by rw [hB4]; rfl
                          have hk4 : okB B4 := by rw [hB4]; exact okB_ap hk3 (by omega)
                          replace hm0 : w20 36 = some (modO b (nI (n)) (nI (B4.1)) (nI (0)) (pl) (lt) (dn)) := by rw [hB4]; exact hm0
                          replace hm41 : w20 41 = some (eN dA 80 B4.2) := by rw [hB4]; exact hm41
                          refine lv_aload_n hx hb dX7_write_261 rfl (lv_at hl 4 rfl) ?_
                          refine lv_aload_n hx hb dX7_write_262 rfl (lv_at hl 4 rfl) ?_
                          refine q_get hx hb hts hinX7 hown hG hW hm0 rfl 0 (by decide) (hts (.fieldLink RX7 7 "FoleyMixerModel" "s" "[I") (List.mem_of_getElem? (i := 3) rfl)) rfl rfl dX7_write_263 ?_
                          refine lv_iload hx hb dX7_write_266 (lv_at hl 2 rfl) ?_
                          refine lv_iconst (v := nI 1) hx hb dX7_write_268 (by decide) ?_
                          refine lv_iadd hx hb dX7_write_269 ?_
                          refine q_top (y := nI ((37 + 4 * (j - P.w)) + 1)) (nI_add _ _) ?_
                          refine q_iald hx hb hG hW hm1 (by omega) (by omega) dX7_write_270 ?_
                          refine q_top (y := nI (P.N (j - P.w) 1)) (by exact congrArg nI (hRp.2.2.2.2 _ hj8 1 (by decide))) ?_
                          refine q_W0 (va_runV (As := [.int (nI (P.N (j - P.w) 1))]) (rest := []) ⟨hx, hb, hml, hown, hts⟩ (c_X7_writeNumber l (B := B4) hm0 hm41 (P.N (j - P.w) 1) (by omega) (by omega)) (cwV 1 hts gX7_write_X7_writeNumber rfl rfl rfl (by decide +kernel) ⟨Nat.le_of_ble_eq_true rfl, Nat.le_of_ble_eq_true rfl⟩) (q_preV hG hW hS hm0 rfl) rfl rfl hl.1 rfl (lv_room (Nat.le_of_ble_eq_true rfl)) dX7_write_271 ⟨Nat.le_of_ble_eq_true rfl, Nat.le_of_ble_eq_true rfl⟩) hS (fun w_271 H locs hp271 hW hS => ?_)
                          obtain ⟨hm0, hm41, fr271⟩ := hp271
                          replace hm1 : w_271 37 = some (eN dA 85 F) := (fr271 _ (by omega)).trans hm1
                          replace hm38 : w_271 38 = some (eN dA 510 G) := (fr271 _ (by omega)).trans hm38
                          replace hm39 : w_271 39 = some (eN dA 170 GS) := (fr271 _ (by omega)).trans hm39
                          replace hm40 : w_271 40 = some (eZ dA 2 Zt) := (fr271 _ (by omega)).trans hm40
                          replace hm42 : w_271 42 = some (eN dA 120 D0) := (fr271 _ (by omega)).trans hm42
                          replace hm43 : w_271 43 = some (eN dA 120 M0) := (fr271 _ (by omega)).trans hm43
                          replace hm44 : w_271 44 = some (eN dA 3 TD) := (fr271 _ (by omega)).trans hm44
                          obtain ⟨B5, hB5⟩ : ∃ B5 : Bf, B5 = apN B4 (P.N (j - P.w) 1) := ⟨_, rfl⟩
                          have hl5 : B5.1 = B4.1 + dl (P.N (j - P.w) 1) := by rw [hB5]; exact apN_len _ _
                          have hk5 : okB B5 := by rw [hB5]; exact okB_apN hk4 (by omega)
                          replace hm0 : w_271 36 = some (modO b (nI (n)) (nI (B5.1)) (nI (0)) (pl) (lt) (dn)) := by rw [hB5]; exact hm0
                          replace hm41 : w_271 41 = some (eN dA 80 B5.2) := by rw [hB5]; exact hm41
                          refine lv_aload_n hx hb dX7_write_274 rfl (lv_at hl 4 rfl) ?_
                          refine q_get hx hb hts hinX7 hown hG hW hm0 rfl 5 (by decide) (hts (.fieldLink RX7 23 "FoleyMixerModel" "text" "[I") (List.mem_of_getElem? (i := 4) rfl)) rfl rfl dX7_write_275 ?_
                          refine lv_aload_n hx hb dX7_write_278 rfl (lv_at hl 4 rfl) ?_
                          refine q_get hx hb hts hinX7 hown hG hW hm0 rfl 6 (by decide) (hts (.fieldLink RX7 117 "FoleyMixerModel" "length" "I") (List.mem_of_getElem? (i := 2) rfl)) rfl rfl dX7_write_279 ?_
                          refine lv_bipush (v := nI 64) hx hb dX7_write_282 (by decide) ?_
                          refine q_nast hx hb hG hW hS hm41 (by omega) (by omega) dX7_write_284 (fun H locs hW hS hz284 => ?_)
                          obtain ⟨w21, ew21⟩ : ∃ wq__ : Wd, wq__ = va_up w_271 41 (some (eN dA 80 (va_up B5.2 B5.1 64))) := ⟨_, rfl⟩
                          replace hW : WP D b w21 H := by rw [ew21]; exact hW
                          have frw21 : ∀ id : Nat, id ≠ 41 → w21 id = w_271 id := fun id h9 => by rw [ew21, up_ne h9]
                          replace hm1 : w21 37 = some (eN dA 85 F) := (frw21 _ (by omega)).trans hm1
                          replace hm38 : w21 38 = some (eN dA 510 G) := (frw21 _ (by omega)).trans hm38
                          replace hm39 : w21 39 = some (eN dA 170 GS) := (frw21 _ (by omega)).trans hm39
                          replace hm40 : w21 40 = some (eZ dA 2 Zt) := (frw21 _ (by omega)).trans hm40
                          replace hm42 : w21 42 = some (eN dA 120 D0) := (frw21 _ (by omega)).trans hm42
                          replace hm43 : w21 43 = some (eN dA 120 M0) := (frw21 _ (by omega)).trans hm43
                          replace hm44 : w21 44 = some (eN dA 3 TD) := (frw21 _ (by omega)).trans hm44
                          replace hm0 : w21 36 = some (modO b (nI (n)) (nI (B5.1)) (nI (0)) (pl) (lt) (dn)) := (frw21 _ (by omega)).trans hm0
                          replace hm41 : w21 41 = some (eN dA 80 (va_up B5.2 B5.1 64)) := by rw [ew21]; exact up_eq
                          refine lv_aload_n hx hb dX7_write_285 rfl (lv_at hl 4 rfl) ?_
                          refine lv_dup hx hb dX7_write_286 rfl ?_
                          refine q_get hx hb hts hinX7 hown hG hW hm0 rfl 6 (by decide) (hts (.fieldLink RX7 117 "FoleyMixerModel" "length" "I") (List.mem_of_getElem? (i := 2) rfl)) rfl rfl dX7_write_287 ?_
                          refine lv_iconst (v := nI 1) hx hb dX7_write_290 (by decide) ?_
                          refine lv_iadd hx hb dX7_write_291 ?_
                          refine q_top (y := nI (B5.1 + 1)) (nI_add _ _) ?_
                          refine q_put hx hb hts hinX7 tyX7_ok nmX7 hown hG hW hS hm0 rfl 6 (by decide) (hts (.fieldLink RX7 117 "FoleyMixerModel" "length" "I") (List.mem_of_getElem? (i := 2) rfl)) rfl rfl rfl rfl (Nat.le_of_ble_eq_true rfl) dX7_write_292 (fun H locs hW hS hz292 => ?_)
                          obtain ⟨w22, ew22⟩ : ∃ wq__ : Wd, wq__ = va_up w21 36 (some (modO b (nI (n)) (nI (B5.1 + 1)) (nI (0)) (pl) (lt) (dn))) := ⟨_, rfl⟩
                          replace hW : WP D b w22 H := by rw [ew22]; exact hW
                          have frw22 : ∀ id : Nat, id ≠ 36 → w22 id = w21 id := fun id h9 => by rw [ew22, up_ne h9]
                          replace hm1 : w22 37 = some (eN dA 85 F) := (frw22 _ (by omega)).trans hm1
                          replace hm38 : w22 38 = some (eN dA 510 G) := (frw22 _ (by omega)).trans hm38
                          replace hm39 : w22 39 = some (eN dA 170 GS) := (frw22 _ (by omega)).trans hm39
                          replace hm40 : w22 40 = some (eZ dA 2 Zt) := (frw22 _ (by omega)).trans hm40
                          replace hm42 : w22 42 = some (eN dA 120 D0) := (frw22 _ (by omega)).trans hm42
                          replace hm43 : w22 43 = some (eN dA 120 M0) := (frw22 _ (by omega)).trans hm43
                          replace hm44 : w22 44 = some (eN dA 3 TD) := (frw22 _ (by omega)).trans hm44
                          replace hm41 : w22 41 = some (eN dA 80 (va_up B5.2 B5.1 64)) := (frw22 _ (by omega)).trans hm41
                          replace hm0 : w22 36 = some (modO b (nI (n)) (nI (B5.1 + 1)) (nI (0)) (pl) (lt) (dn)) := by rw [ew22]; exact up_eq
                          obtain ⟨B6, hB6⟩ : ∃ B6 : Bf, B6 = ap B5 64 := ⟨_, rfl⟩
                          have hl6 : B6.1 = B5.1 + 1 := by rw [hB6]; rfl
                          have hk6 : okB B6 := by rw [hB6]; exact okB_ap hk5 (by omega)
                          replace hm0 : w22 36 = some (modO b (nI (n)) (nI (B6.1)) (nI (0)) (pl) (lt) (dn)) := by rw [hB6]; exact hm0
                          replace hm41 : w22 41 = some (eN dA 80 B6.2) := by rw [hB6]; exact hm41
                          refine lv_aload_n hx hb dX7_write_295 rfl (lv_at hl 4 rfl) ?_
                          refine lv_aload_n hx hb dX7_write_296 rfl (lv_at hl 4 rfl) ?_
                          refine q_get hx hb hts hinX7 hown hG hW hm0 rfl 0 (by decide) (hts (.fieldLink RX7 7 "FoleyMixerModel" "s" "[I") (List.mem_of_getElem? (i := 3) rfl)) rfl rfl dX7_write_297 ?_
                          refine lv_iload hx hb dX7_write_300 (lv_at hl 2 rfl) ?_
                          refine lv_iconst (v := nI 2) hx hb dX7_write_302 (by decide) ?_
                          refine lv_iadd hx hb dX7_write_303 ?_
                          refine q_top (y := nI ((37 + 4 * (j - P.w)) + 2)) (nI_add _ _) ?_
                          refine q_iald hx hb hG hW hm1 (by omega) (by omega) dX7_write_304 ?_
                          refine q_top (y := nI (P.N (j - P.w) 2)) (by exact congrArg nI (hRp.2.2.2.2 _ hj8 2 (by decide))) ?_
                          refine q_W0 (va_runV (As := [.int (nI (P.N (j - P.w) 2))]) (rest := []) ⟨hx, hb, hml, hown, hts⟩ (c_X7_writeNumber l (B := B6) hm0 hm41 (P.N (j - P.w) 2) (by omega) (by omega)) (cwV 1 hts gX7_write_X7_writeNumber rfl rfl rfl (by decide +kernel) ⟨Nat.le_of_ble_eq_true rfl, Nat.le_of_ble_eq_true rfl⟩) (q_preV hG hW hS hm0 rfl) rfl rfl hl.1 rfl (lv_room (Nat.le_of_ble_eq_true rfl)) dX7_write_305 ⟨Nat.le_of_ble_eq_true rfl, Nat.le_of_ble_eq_true rfl⟩) hS (fun w_305 H locs hp305 hW hS => ?_)
                          obtain ⟨hm0, hm41, fr305⟩ := hp305
                          replace hm1 : w_305 37 = some (eN dA 85 F) := (fr305 _ (by omega)).trans hm1
                          replace hm38 : w_305 38 = some (eN dA 510 G) := (fr305 _ (by omega)).trans hm38
                          replace hm39 : w_305 39 = some (eN dA 170 GS) := (fr305 _ (by omega)).trans hm39
                          replace hm40 : w_305 40 = some (eZ dA 2 Zt) := (fr305 _ (by omega)).trans hm40
                          replace hm42 : w_305 42 = some (eN dA 120 D0) := (fr305 _ (by omega)).trans hm42
                          replace hm43 : w_305 43 = some (eN dA 120 M0) := (fr305 _ (by omega)).trans hm43
                          replace hm44 : w_305 44 = some (eN dA 3 TD) := (fr305 _ (by omega)).trans hm44
                          obtain ⟨B7, hB7⟩ : ∃ B7 : Bf, B7 = apN B6 (P.N (j - P.w) 2) := ⟨_, rfl⟩
                          have hl7 : B7.1 = B6.1 + dl (P.N (j - P.w) 2) := by rw [hB7]; exact apN_len _ _
                          have hk7 : okB B7 := by rw [hB7]; exact okB_apN hk6 (by omega)
                          replace hm0 : w_305 36 = some (modO b (nI (n)) (nI (B7.1)) (nI (0)) (pl) (lt) (dn)) := by rw [hB7]; exact hm0
                          replace hm41 : w_305 41 = some (eN dA 80 B7.2) := by rw [hB7]; exact hm41
                          have hB9 : B7 = apC B (sgN P.N (j - P.w)) (P.N (j - P.w) 0) (P.N (j - P.w) 1) (P.N (j - P.w) 2) := apC_one (by rw [if_neg (by omega)]; exact hB1) hB2 hB3 hB4 hB5 hB6 hB7
                          rw [← hB9] at hwf
                          refine lv_iinc (v := nI (j + 1)) (lv' := [(1, .int (nI (j + 1))), (3, .int (nI 1)), (6, .int (nI (((4 + (dl (P.N (j - P.w) 0))) + (dl (P.N (j - P.w) 1))) + (dl (P.N (j - P.w) 2))))), (5, .int (nI (37 + 4 * (j - P.w)))), (4, .int (nI 0)), (0, .ref (b + 36)), (2, .int (nI (P.w + P.n)))]) hx hb dX7_write_308 hl (k := 5) rfl (nI_add _ 1) (by decide) rfl (fun ls hl => ?_)
                          refine lv_goto (tgt := 29) hx hb dX7_write_311 (by decide) ?_
                          exact ih29 (j + 1) 1 B7 (by omega) (by omega) (by exact Or.inl ⟨rfl, hwf.symm.trans (hres.resolve_right (fun h => c_35 h.1)).2⟩) (by omega) (by exact hk7) (by omega) (by omega) _ _ (by first | rfl | (congr 1; omega)) (by first | rfl | (congr 1; omega)) _ _ _ (by exact hm0) (by exact hm41) (by intro id h9; rw [fr305 id (by omega)]; rw [frw22 id (by omega)]; rw [frw21 id (by omega)]; rw [fr271 id (by omega)]; rw [frw20 id (by omega)]; rw [frw19 id (by omega)]; rw [fr237 id (by omega)]; rw [frw18 id (by omega)]; rw [frw17 id (by omega)]; rw [frw16 id (by omega)]; rw [frw15 id (by omega)]; exact fr id h9) hW hS _ (lv_sub hl [5, 0, 6, 1] rfl)
                        · skip
                          have c_206 : P.N (j - P.w) 3 = 1 := (nI_eq (a := P.N (j - P.w) 3) (b := 1) (by omega) (by omega)).mp c_206
                          refine lv_bipush (v := nI 78) hx hb dX7_write_209 (by decide) ?_
                          refine lv_goto (tgt := 216) hx hb dX7_write_211 (by decide) ?_
                          refine q_top (y := nI (sgN P.N (j - P.w))) (by first | rfl | (refine congrArg nI ?_; unfold sgN; first | (rw [if_pos c_206]; done) | (rw [if_neg c_206]; done))) ?_
                          refine q_nast hx hb hG hW hS hm41 (by omega) (by omega) dX7_write_216 (fun H locs hW hS hz216 => ?_)
                          obtain ⟨w23, ew23⟩ : ∃ wq__ : Wd, wq__ = va_up w16 41 (some (eN dA 80 (va_up B1.2 B1.1 (sgN P.N (j - P.w))))) := ⟨_, rfl⟩
                          replace hW : WP D b w23 H := by rw [ew23]; exact hW
                          have frw23 : ∀ id : Nat, id ≠ 41 → w23 id = w16 id := fun id h9 => by rw [ew23, up_ne h9]
                          replace hm0 : w23 36 = some (modO b (nI (n)) (nI (B1.1)) (nI (0)) (pl) (lt) (dn)) := (frw23 _ (by omega)).trans hm0
                          replace hm1 : w23 37 = some (eN dA 85 F) := (frw23 _ (by omega)).trans hm1
                          replace hm38 : w23 38 = some (eN dA 510 G) := (frw23 _ (by omega)).trans hm38
                          replace hm39 : w23 39 = some (eN dA 170 GS) := (frw23 _ (by omega)).trans hm39
                          replace hm40 : w23 40 = some (eZ dA 2 Zt) := (frw23 _ (by omega)).trans hm40
                          replace hm42 : w23 42 = some (eN dA 120 D0) := (frw23 _ (by omega)).trans hm42
                          replace hm43 : w23 43 = some (eN dA 120 M0) := (frw23 _ (by omega)).trans hm43
                          replace hm44 : w23 44 = some (eN dA 3 TD) := (frw23 _ (by omega)).trans hm44
                          replace hm41 : w23 41 = some (eN dA 80 (va_up B1.2 B1.1 (sgN P.N (j - P.w)))) := by rw [ew23]; exact up_eq
                          refine lv_aload_n hx hb dX7_write_217 rfl (lv_at hl 4 rfl) ?_
                          refine lv_dup hx hb dX7_write_218 rfl ?_
                          refine q_get hx hb hts hinX7 hown hG hW hm0 rfl 6 (by decide) (hts (.fieldLink RX7 117 "FoleyMixerModel" "length" "I") (List.mem_of_getElem? (i := 2) rfl)) rfl rfl dX7_write_219 ?_
                          refine lv_iconst (v := nI 1) hx hb dX7_write_222 (by decide) ?_
                          refine lv_iadd hx hb dX7_write_223 ?_
                          refine q_top (y := nI (B1.1 + 1)) (nI_add _ _) ?_
                          refine q_put hx hb hts hinX7 tyX7_ok nmX7 hown hG hW hS hm0 rfl 6 (by decide) (hts (.fieldLink RX7 117 "FoleyMixerModel" "length" "I") (List.mem_of_getElem? (i := 2) rfl)) rfl rfl rfl rfl (Nat.le_of_ble_eq_true rfl) dX7_write_224 (fun H locs hW hS hz224 => ?_)
                          obtain ⟨w24, ew24⟩ : ∃ wq__ : Wd, wq__ = va_up w23 36 (some (modO b (nI (n)) (nI (B1.1 + 1)) (nI (0)) (pl) (lt) (dn))) := ⟨_, rfl⟩
                          replace hW : WP D b w24 H := by rw [ew24]; exact hW
                          have frw24 : ∀ id : Nat, id ≠ 36 → w24 id = w23 id := fun id h9 => by rw [ew24, up_ne h9]
                          replace hm1 : w24 37 = some (eN dA 85 F) := (frw24 _ (by omega)).trans hm1
                          replace hm38 : w24 38 = some (eN dA 510 G) := (frw24 _ (by omega)).trans hm38
                          replace hm39 : w24 39 = some (eN dA 170 GS) := (frw24 _ (by omega)).trans hm39
                          replace hm40 : w24 40 = some (eZ dA 2 Zt) := (frw24 _ (by omega)).trans hm40
                          replace hm41 : w24 41 = some (eN dA 80 (va_up B1.2 B1.1 (sgN P.N (j - P.w)))) := (frw24 _ (by omega)).trans hm41
                          replace hm42 : w24 42 = some (eN dA 120 D0) := (frw24 _ (by omega)).trans hm42
                          replace hm43 : w24 43 = some (eN dA 120 M0) := (frw24 _ (by omega)).trans hm43
                          replace hm44 : w24 44 = some (eN dA 3 TD) := (frw24 _ (by omega)).trans hm44
                          replace hm0 : w24 36 = some (modO b (nI (n)) (nI (B1.1 + 1)) (nI (0)) (pl) (lt) (dn)) := by rw [ew24]; exact up_eq
                          obtain ⟨B2, hB2⟩ : ∃ B2 : Bf, B2 = ap B1 (sgN P.N (j - P.w)) := ⟨_, rfl⟩
                          have hl2 : B2.1 = B1.1 + 1 := by rw [hB2]; rfl
                          have hk2 : okB B2 := by rw [hB2]; exact okB_ap hk1 (by exact sgN_lt _ _)
                          replace hm0 : w24 36 = some (modO b (nI (n)) (nI (B2.1)) (nI (0)) (pl) (lt) (dn)) := by rw [hB2]; exact hm0
                          replace hm41 : w24 41 = some (eN dA 80 B2.2) := by rw [hB2]; exact hm41
                          refine lv_aload_n hx hb dX7_write_227 rfl (lv_at hl 4 rfl) ?_
                          refine lv_aload_n hx hb dX7_write_228 rfl (lv_at hl 4 rfl) ?_
                          refine q_get hx hb hts hinX7 hown hG hW hm0 rfl 0 (by decide) (hts (.fieldLink RX7 7 "FoleyMixerModel" "s" "[I") (List.mem_of_getElem? (i := 3) rfl)) rfl rfl dX7_write_229 ?_
                          refine lv_iload hx hb dX7_write_232 (lv_at hl 2 rfl) ?_
                          refine lv_iconst (v := nI 0) hx hb dX7_write_234 (by decide) ?_
                          refine lv_iadd hx hb dX7_write_235 ?_
                          refine q_top (y := nI ((37 + 4 * (j - P.w)) + 0)) (nI_add _ _) ?_
                          refine q_iald hx hb hG hW hm1 (by omega) (by omega) dX7_write_236 ?_
                          refine q_top (y := nI (P.N (j - P.w) 0)) (by exact congrArg nI (hRp.2.2.2.2 _ hj8 0 (by decide))) ?_
                          refine q_W0 (va_runV (As := [.int (nI (P.N (j - P.w) 0))]) (rest := []) ⟨hx, hb, hml, hown, hts⟩ (c_X7_writeNumber l (B := B2) hm0 hm41 (P.N (j - P.w) 0) (by omega) (by omega)) (cwV 1 hts gX7_write_X7_writeNumber rfl rfl rfl (by decide +kernel) ⟨Nat.le_of_ble_eq_true rfl, Nat.le_of_ble_eq_true rfl⟩) (q_preV hG hW hS hm0 rfl) rfl rfl hl.1 rfl (lv_room (Nat.le_of_ble_eq_true rfl)) dX7_write_237 ⟨Nat.le_of_ble_eq_true rfl, Nat.le_of_ble_eq_true rfl⟩) hS (fun w_237 H locs hp237 hW hS => ?_)
                          obtain ⟨hm0, hm41, fr237⟩ := hp237
                          replace hm1 : w_237 37 = some (eN dA 85 F) := (fr237 _ (by omega)).trans hm1
                          replace hm38 : w_237 38 = some (eN dA 510 G) := (fr237 _ (by omega)).trans hm38
                          replace hm39 : w_237 39 = some (eN dA 170 GS) := (fr237 _ (by omega)).trans hm39
                          replace hm40 : w_237 40 = some (eZ dA 2 Zt) := (fr237 _ (by omega)).trans hm40
                          replace hm42 : w_237 42 = some (eN dA 120 D0) := (fr237 _ (by omega)).trans hm42
                          replace hm43 : w_237 43 = some (eN dA 120 M0) := (fr237 _ (by omega)).trans hm43
                          replace hm44 : w_237 44 = some (eN dA 3 TD) := (fr237 _ (by omega)).trans hm44
                          obtain ⟨B3, hB3⟩ : ∃ B3 : Bf, B3 = apN B2 (P.N (j - P.w) 0) := ⟨_, rfl⟩
                          have hl3 : B3.1 = B2.1 + dl (P.N (j - P.w) 0) := by rw [hB3]; exact apN_len _ _
                          have hk3 : okB B3 := by rw [hB3]; exact okB_apN hk2 (by omega)
                          replace hm0 : w_237 36 = some (modO b (nI (n)) (nI (B3.1)) (nI (0)) (pl) (lt) (dn)) := by rw [hB3]; exact hm0
                          replace hm41 : w_237 41 = some (eN dA 80 B3.2) := by rw [hB3]; exact hm41
                          refine lv_aload_n hx hb dX7_write_240 rfl (lv_at hl 4 rfl) ?_
                          refine q_get hx hb hts hinX7 hown hG hW hm0 rfl 5 (by decide) (hts (.fieldLink RX7 23 "FoleyMixerModel" "text" "[I") (List.mem_of_getElem? (i := 4) rfl)) rfl rfl dX7_write_241 ?_
                          refine lv_aload_n hx hb dX7_write_244 rfl (lv_at hl 4 rfl) ?_
                          refine q_get hx hb hts hinX7 hown hG hW hm0 rfl 6 (by decide) (hts (.fieldLink RX7 117 "FoleyMixerModel" "length" "I") (List.mem_of_getElem? (i := 2) rfl)) rfl rfl dX7_write_245 ?_
                          refine lv_bipush (v := nI 43) hx hb dX7_write_248 (by decide) ?_
                          refine q_nast hx hb hG hW hS hm41 (by omega) (by omega) dX7_write_250 (fun H locs hW hS hz250 => ?_)
                          obtain ⟨w25, ew25⟩ : ∃ wq__ : Wd, wq__ = va_up w_237 41 (some (eN dA 80 (va_up B3.2 B3.1 43))) := ⟨_, rfl⟩
                          replace hW : WP D b w25 H := by rw [ew25]; exact hW
                          have frw25 : ∀ id : Nat, id ≠ 41 → w25 id = w_237 id := fun id h9 => by rw [ew25, up_ne h9]
                          replace hm1 : w25 37 = some (eN dA 85 F) := (frw25 _ (by omega)).trans hm1
                          replace hm38 : w25 38 = some (eN dA 510 G) := (frw25 _ (by omega)).trans hm38
                          replace hm39 : w25 39 = some (eN dA 170 GS) := (frw25 _ (by omega)).trans hm39
                          replace hm40 : w25 40 = some (eZ dA 2 Zt) := (frw25 _ (by omega)).trans hm40
                          replace hm42 : w25 42 = some (eN dA 120 D0) := (frw25 _ (by omega)).trans hm42
                          replace hm43 : w25 43 = some (eN dA 120 M0) := (frw25 _ (by omega)).trans hm43
                          replace hm44 : w25 44 = some (eN dA 3 TD) := (frw25 _ (by omega)).trans hm44
                          replace hm0 : w25 36 = some (modO b (nI (n)) (nI (B3.1)) (nI (0)) (pl) (lt) (dn)) := (frw25 _ (by omega)).trans hm0
                          replace hm41 : w25 41 = some (eN dA 80 (va_up B3.2 B3.1 43)) := by rw [ew25]; exact up_eq
                          refine lv_aload_n hx hb dX7_write_251 rfl (lv_at hl 4 rfl) ?_
                          refine lv_dup hx hb dX7_write_252 rfl ?_
                          refine q_get hx hb hts hinX7 hown hG hW hm0 rfl 6 (by decide) (hts (.fieldLink RX7 117 "FoleyMixerModel" "length" "I") (List.mem_of_getElem? (i := 2) rfl)) rfl rfl dX7_write_253 ?_
                          refine lv_iconst (v := nI 1) hx hb dX7_write_256 (by decide) ?_
                          refine lv_iadd hx hb dX7_write_257 ?_
                          refine q_top (y := nI (B3.1 + 1)) (nI_add _ _) ?_
                          refine q_put hx hb hts hinX7 tyX7_ok nmX7 hown hG hW hS hm0 rfl 6 (by decide) (hts (.fieldLink RX7 117 "FoleyMixerModel" "length" "I") (List.mem_of_getElem? (i := 2) rfl)) rfl rfl rfl rfl (Nat.le_of_ble_eq_true rfl) dX7_write_258 (fun H locs hW hS hz258 => ?_)
                          obtain ⟨w26, ew26⟩ : ∃ wq__ : Wd, wq__ = va_up w25 36 (some (modO b (nI (n)) (nI (B3.1 + 1)) (nI (0)) (pl) (lt) (dn))) := ⟨_, rfl⟩
                          replace hW : WP D b w26 H := by rw [ew26]; exact hW
                          have frw26 : ∀ id : Nat, id ≠ 36 → w26 id = w25 id := fun id h9 => by rw [ew26, up_ne h9]
                          replace hm1 : w26 37 = some (eN dA 85 F) := (frw26 _ (by omega)).trans hm1
                          replace hm38 : w26 38 = some (eN dA 510 G) := (frw26 _ (by omega)).trans hm38
                          replace hm39 : w26 39 = some (eN dA 170 GS) := (frw26 _ (by omega)).trans hm39
                          replace hm40 : w26 40 = some (eZ dA 2 Zt) := (frw26 _ (by omega)).trans hm40
                          replace hm42 : w26 42 = some (eN dA 120 D0) := (frw26 _ (by omega)).trans hm42
                          replace hm43 : w26 43 = some (eN dA 120 M0) := (frw26 _ (by omega)).trans hm43
                          replace hm44 : w26 44 = some (eN dA 3 TD) := (frw26 _ (by omega)).trans hm44
                          replace hm41 : w26 41 = some (eN dA 80 (va_up B3.2 B3.1 43)) := (frw26 _ (by omega)).trans hm41
                          replace hm0 : w26 36 = some (modO b (nI (n)) (nI (B3.1 + 1)) (nI (0)) (pl) (lt) (dn)) := by rw [ew26]; exact up_eq
                          obtain ⟨B4, hB4⟩ : ∃ B4 : Bf, B4 = ap B3 43 := ⟨_, rfl⟩
                          have hl4 : B4.1 = B3.1 + 1 := by rw [hB4]; rfl
                          have hk4 : okB B4 := by rw [hB4]; exact okB_ap hk3 (by omega)
                          replace hm0 : w26 36 = some (modO b (nI (n)) (nI (B4.1)) (nI (0)) (pl) (lt) (dn)) := by rw [hB4]; exact hm0
                          replace hm41 : w26 41 = some (eN dA 80 B4.2) := by rw [hB4]; exact hm41
                          refine lv_aload_n hx hb dX7_write_261 rfl (lv_at hl 4 rfl) ?_
                          refine lv_aload_n hx hb dX7_write_262 rfl (lv_at hl 4 rfl) ?_
                          refine q_get hx hb hts hinX7 hown hG hW hm0 rfl 0 (by decide) (hts (.fieldLink RX7 7 "FoleyMixerModel" "s" "[I") (List.mem_of_getElem? (i := 3) rfl)) rfl rfl dX7_write_263 ?_
                          refine lv_iload hx hb dX7_write_266 (lv_at hl 2 rfl) ?_
                          refine lv_iconst (v := nI 1) hx hb dX7_write_268 (by decide) ?_
                          refine lv_iadd hx hb dX7_write_269 ?_
                          refine q_top (y := nI ((37 + 4 * (j - P.w)) + 1)) (nI_add _ _) ?_
                          refine q_iald hx hb hG hW hm1 (by omega) (by omega) dX7_write_270 ?_
                          refine q_top (y := nI (P.N (j - P.w) 1)) (by exact congrArg nI (hRp.2.2.2.2 _ hj8 1 (by decide))) ?_
                          refine q_W0 (va_runV (As := [.int (nI (P.N (j - P.w) 1))]) (rest := []) ⟨hx, hb, hml, hown, hts⟩ (c_X7_writeNumber l (B := B4) hm0 hm41 (P.N (j - P.w) 1) (by omega) (by omega)) (cwV 1 hts gX7_write_X7_writeNumber rfl rfl rfl (by decide +kernel) ⟨Nat.le_of_ble_eq_true rfl, Nat.le_of_ble_eq_true rfl⟩) (q_preV hG hW hS hm0 rfl) rfl rfl hl.1 rfl (lv_room (Nat.le_of_ble_eq_true rfl)) dX7_write_271 ⟨Nat.le_of_ble_eq_true rfl, Nat.le_of_ble_eq_true rfl⟩) hS (fun w_271 H locs hp271 hW hS => ?_)
                          obtain ⟨hm0, hm41, fr271⟩ := hp271
                          replace hm1 : w_271 37 = some (eN dA 85 F) := (fr271 _ (by omega)).trans hm1
                          replace hm38 : w_271 38 = some (eN dA 510 G) := (fr271 _ (by omega)).trans hm38
                          replace hm39 : w_271 39 = some (eN dA 170 GS) := (fr271 _ (by omega)).trans hm39
                          replace hm40 : w_271 40 = some (eZ dA 2 Zt) := (fr271 _ (by omega)).trans hm40
                          replace hm42 : w_271 42 = some (eN dA 120 D0) := (fr271 _ (by omega)).trans hm42
                          replace hm43 : w_271 43 = some (eN dA 120 M0) := (fr271 _ (by omega)).trans hm43
                          replace hm44 : w_271 44 = some (eN dA 3 TD) := (fr271 _ (by omega)).trans hm44
                          obtain ⟨B5, hB5⟩ : ∃ B5 : Bf, B5 = apN B4 (P.N (j - P.w) 1) := ⟨_, rfl⟩
                          have hl5 : B5.1 = B4.1 + dl (P.N (j - P.w) 1) := by rw [hB5]; exact apN_len _ _
                          have hk5 : okB B5 := by rw [hB5]; exact okB_apN hk4 (by omega)
                          replace hm0 : w_271 36 = some (modO b (nI (n)) (nI (B5.1)) (nI (0)) (pl) (lt) (dn)) := by rw [hB5]; exact hm0
                          replace hm41 : w_271 41 = some (eN dA 80 B5.2) := by rw [hB5]; exact hm41
                          refine lv_aload_n hx hb dX7_write_274 rfl (lv_at hl 4 rfl) ?_
                          refine q_get hx hb hts hinX7 hown hG hW hm0 rfl 5 (by decide) (hts (.fieldLink RX7 23 "FoleyMixerModel" "text" "[I") (List.mem_of_getElem? (i := 4) rfl)) rfl rfl dX7_write_275 ?_
                          refine lv_aload_n hx hb dX7_write_278 rfl (lv_at hl 4 rfl) ?_
                          refine q_get hx hb hts hinX7 hown hG hW hm0 rfl 6 (by decide) (hts (.fieldLink RX7 117 "FoleyMixerModel" "length" "I") (List.mem_of_getElem? (i := 2) rfl)) rfl rfl dX7_write_279 ?_
                          refine lv_bipush (v := nI 64) hx hb dX7_write_282 (by decide) ?_
                          refine q_nast hx hb hG hW hS hm41 (by omega) (by omega) dX7_write_284 (fun H locs hW hS hz284 => ?_)
                          obtain ⟨w27, ew27⟩ : ∃ wq__ : Wd, wq__ = va_up w_271 41 (some (eN dA 80 (va_up B5.2 B5.1 64))) := ⟨_, rfl⟩
                          replace hW : WP D b w27 H := by rw [ew27]; exact hW
                          have frw27 : ∀ id : Nat, id ≠ 41 → w27 id = w_271 id := fun id h9 => by rw [ew27, up_ne h9]
                          replace hm1 : w27 37 = some (eN dA 85 F) := (frw27 _ (by omega)).trans hm1
                          replace hm38 : w27 38 = some (eN dA 510 G) := (frw27 _ (by omega)).trans hm38
                          replace hm39 : w27 39 = some (eN dA 170 GS) := (frw27 _ (by omega)).trans hm39
                          replace hm40 : w27 40 = some (eZ dA 2 Zt) := (frw27 _ (by omega)).trans hm40
                          replace hm42 : w27 42 = some (eN dA 120 D0) := (frw27 _ (by omega)).trans hm42
                          replace hm43 : w27 43 = some (eN dA 120 M0) := (frw27 _ (by omega)).trans hm43
                          replace hm44 : w27 44 = some (eN dA 3 TD) := (frw27 _ (by omega)).trans hm44
                          replace hm0 : w27 36 = some (modO b (nI (n)) (nI (B5.1)) (nI (0)) (pl) (lt) (dn)) := (frw27 _ (by omega)).trans hm0
                          replace hm41 : w27 41 = some (eN dA 80 (va_up B5.2 B5.1 64)) := by rw [ew27]; exact up_eq
                          refine lv_aload_n hx hb dX7_write_285 rfl (lv_at hl 4 rfl) ?_
                          refine lv_dup hx hb dX7_write_286 rfl ?_
                          refine q_get hx hb hts hinX7 hown hG hW hm0 rfl 6 (by decide) (hts (.fieldLink RX7 117 "FoleyMixerModel" "length" "I") (List.mem_of_getElem? (i := 2) rfl)) rfl rfl dX7_write_287 ?_
                          refine lv_iconst (v := nI 1) hx hb dX7_write_290 (by decide) ?_
                          refine lv_iadd hx hb dX7_write_291 ?_
                          refine q_top (y := nI (B5.1 + 1)) (nI_add _ _) ?_
                          refine q_put hx hb hts hinX7 tyX7_ok nmX7 hown hG hW hS hm0 rfl 6 (by decide) (hts (.fieldLink RX7 117 "FoleyMixerModel" "length" "I") (List.mem_of_getElem? (i := 2) rfl)) rfl rfl rfl rfl (Nat.le_of_ble_eq_true rfl) dX7_write_292 (fun H locs hW hS hz292 => ?_)
                          obtain ⟨w28, ew28⟩ : ∃ wq__ : Wd, wq__ = va_up w27 36 (some (modO b (nI (n)) (nI (B5.1 + 1)) (nI (0)) (pl) (lt) (dn))) := ⟨_, rfl⟩
                          replace hW : WP D b w28 H := by rw [ew28]; exact hW
                          have frw28 : ∀ id : Nat, id ≠ 36 → w28 id = w27 id := fun id h9 => by rw [ew28, up_ne h9]
                          replace hm1 : w28 37 = some (eN dA 85 F) := (frw28 _ (by omega)).trans hm1
                          replace hm38 : w28 38 = some (eN dA 510 G) := (frw28 _ (by omega)).trans hm38
                          replace hm39 : w28 39 = some (eN dA 170 GS) := (frw28 _ (by omega)).trans hm39
                          replace hm40 : w28 40 = some (eZ dA 2 Zt) := (frw28 _ (by omega)).trans hm40
                          replace hm42 : w28 42 = some (eN dA 120 D0) := (frw28 _ (by omega)).trans hm42
                          replace hm43 : w28 43 = some (eN dA 120 M0) := (frw28 _ (by omega)).trans hm43
                          replace hm44 : w28 44 = some (eN dA 3 TD) := (frw28 _ (by omega)).trans hm44
                          replace hm41 : w28 41 = some (eN dA 80 (va_up B5.2 B5.1 64)) := (frw28 _ (by omega)).trans hm41
                          replace hm0 : w28 36 = some (modO b (nI (n)) (nI (B5.1 + 1)) (nI (0)) (pl) (lt) (dn)) := by rw [ew28]; exact up_eq
                          obtain ⟨B6, hB6⟩ : ∃ B6 : Bf, B6 = ap B5 64 := ⟨_, rfl⟩
                          have hl6 : B6.1 = B5.1 + 1 := by rw [hB6]; rfl
                          have hk6 : okB B6 := by rw [hB6]; exact okB_ap hk5 (by omega)
                          replace hm0 : w28 36 = some (modO b (nI (n)) (nI (B6.1)) (nI (0)) (pl) (lt) (dn)) := by rw [hB6]; exact hm0
                          replace hm41 : w28 41 = some (eN dA 80 B6.2) := by rw [hB6]; exact hm41
                          refine lv_aload_n hx hb dX7_write_295 rfl (lv_at hl 4 rfl) ?_
                          refine lv_aload_n hx hb dX7_write_296 rfl (lv_at hl 4 rfl) ?_
                          refine q_get hx hb hts hinX7 hown hG hW hm0 rfl 0 (by decide) (hts (.fieldLink RX7 7 "FoleyMixerModel" "s" "[I") (List.mem_of_getElem? (i := 3) rfl)) rfl rfl dX7_write_297 ?_
                          refine lv_iload hx hb dX7_write_300 (lv_at hl 2 rfl) ?_
                          refine lv_iconst (v := nI 2) hx hb dX7_write_302 (by decide) ?_
                          refine lv_iadd hx hb dX7_write_303 ?_
                          refine q_top (y := nI ((37 + 4 * (j - P.w)) + 2)) (nI_add _ _) ?_
                          refine q_iald hx hb hG hW hm1 (by omega) (by omega) dX7_write_304 ?_
                          refine q_top (y := nI (P.N (j - P.w) 2)) (by exact congrArg nI (hRp.2.2.2.2 _ hj8 2 (by decide))) ?_
                          refine q_W0 (va_runV (As := [.int (nI (P.N (j - P.w) 2))]) (rest := []) ⟨hx, hb, hml, hown, hts⟩ (c_X7_writeNumber l (B := B6) hm0 hm41 (P.N (j - P.w) 2) (by omega) (by omega)) (cwV 1 hts gX7_write_X7_writeNumber rfl rfl rfl (by decide +kernel) ⟨Nat.le_of_ble_eq_true rfl, Nat.le_of_ble_eq_true rfl⟩) (q_preV hG hW hS hm0 rfl) rfl rfl hl.1 rfl (lv_room (Nat.le_of_ble_eq_true rfl)) dX7_write_305 ⟨Nat.le_of_ble_eq_true rfl, Nat.le_of_ble_eq_true rfl⟩) hS (fun w_305 H locs hp305 hW hS => ?_)
                          obtain ⟨hm0, hm41, fr305⟩ := hp305
                          replace hm1 : w_305 37 = some (eN dA 85 F) := (fr305 _ (by omega)).trans hm1
                          replace hm38 : w_305 38 = some (eN dA 510 G) := (fr305 _ (by omega)).trans hm38
                          replace hm39 : w_305 39 = some (eN dA 170 GS) := (fr305 _ (by omega)).trans hm39
                          replace hm40 : w_305 40 = some (eZ dA 2 Zt) := (fr305 _ (by omega)).trans hm40
                          replace hm42 : w_305 42 = some (eN dA 120 D0) := (fr305 _ (by omega)).trans hm42
                          replace hm43 : w_305 43 = some (eN dA 120 M0) := (fr305 _ (by omega)).trans hm43
                          replace hm44 : w_305 44 = some (eN dA 3 TD) := (fr305 _ (by omega)).trans hm44
                          obtain ⟨B7, hB7⟩ : ∃ B7 : Bf, B7 = apN B6 (P.N (j - P.w) 2) := ⟨_, rfl⟩
                          have hl7 : B7.1 = B6.1 + dl (P.N (j - P.w) 2) := by rw [hB7]; exact apN_len _ _
                          have hk7 : okB B7 := by rw [hB7]; exact okB_apN hk6 (by omega)
                          replace hm0 : w_305 36 = some (modO b (nI (n)) (nI (B7.1)) (nI (0)) (pl) (lt) (dn)) := by rw [hB7]; exact hm0
                          replace hm41 : w_305 41 = some (eN dA 80 B7.2) := by rw [hB7]; exact hm41
                          have hB9 : B7 = apC B (sgN P.N (j - P.w)) (P.N (j - P.w) 0) (P.N (j - P.w) 1) (P.N (j - P.w) 2) := apC_one (by rw [if_neg (by omega)]; exact hB1) hB2 hB3 hB4 hB5 hB6 hB7
                          rw [← hB9] at hwf
                          refine lv_iinc (v := nI (j + 1)) (lv' := [(1, .int (nI (j + 1))), (3, .int (nI 1)), (6, .int (nI (((4 + (dl (P.N (j - P.w) 0))) + (dl (P.N (j - P.w) 1))) + (dl (P.N (j - P.w) 2))))), (5, .int (nI (37 + 4 * (j - P.w)))), (4, .int (nI 0)), (0, .ref (b + 36)), (2, .int (nI (P.w + P.n)))]) hx hb dX7_write_308 hl (k := 5) rfl (nI_add _ 1) (by decide) rfl (fun ls hl => ?_)
                          refine lv_goto (tgt := 29) hx hb dX7_write_311 (by decide) ?_
                          exact ih29 (j + 1) 1 B7 (by omega) (by omega) (by exact Or.inl ⟨rfl, hwf.symm.trans (hres.resolve_right (fun h => c_35 h.1)).2⟩) (by omega) (by exact hk7) (by omega) (by omega) _ _ (by first | rfl | (congr 1; omega)) (by first | rfl | (congr 1; omega)) _ _ _ (by exact hm0) (by exact hm41) (by intro id h9; rw [fr305 id (by omega)]; rw [frw28 id (by omega)]; rw [frw27 id (by omega)]; rw [fr271 id (by omega)]; rw [frw26 id (by omega)]; rw [frw25 id (by omega)]; rw [fr237 id (by omega)]; rw [frw24 id (by omega)]; rw [frw23 id (by omega)]; rw [frw16 id (by omega)]; rw [frw15 id (by omega)]; exact fr id h9) hW hS _ (lv_sub hl [5, 0, 6, 1] rfl)
                      · skip
                        have c_188 : ¬ (0 = 0) := fun h__ => c_188 ((nI_eq0 (i := 0) (by omega)).mpr h__)
                        exact absurd c_188 (by omega)
            · skip
              have c_59 : ¬ (0 = 0) := fun h__ => c_59 ((nI_eq0 (i := 0) (by omega)).mpr h__)
              exact absurd c_59 (by omega)
          · skip
            have c_45 : ¬ (P.w ≤ j) := fun h__ => c_45 ((nI_leI (a := P.w) (b := j) (by omega) (by omega)).mpr h__)
            have hj9 : j < P.w := by omega
            have hWj := hPW j hj9
            refine lv_iconst (v := nI 1) hx hb dX7_write_48 (by decide) ?_
            refine lv_goto (tgt := 53) hx hb dX7_write_49 (by decide) ?_
            refine lv_istore (lv' := [(4, .int (nI 1)), (0, .ref (b + 36)), (1, .int (nI j)), (2, .int (nI (P.w + P.n))), (3, .int (nI f8))]) hx hb dX7_write_53 hl (by decide) rfl (fun ls hl => ?_)
            refine lv_iload hx hb dX7_write_55 (lv_at hl 0 rfl) ?_
            refine lv_iload hx hb dX7_write_57 (lv_at hl 0 rfl) ?_
            refine lv_if_eq (tgt := 66) hx hb dX7_write_59 (by decide) (fun c_59 => ?_) (fun c_59 => ?_)
            · skip
              have c_59 : 1 = 0 := (nI_eq0 (i := 1) (by omega)).mp c_59
              exact absurd c_59 (by omega)
            · skip
              have c_59 : ¬ (1 = 0) := fun h__ => c_59 ((nI_eq0 (i := 1) (by omega)).mpr h__)
              refine lv_iload_n hx hb dX7_write_62 rfl (lv_at hl 2 rfl) ?_
              refine lv_goto (tgt := 74) hx hb dX7_write_63 (by decide) ?_
              refine q_R1 (va_runS (As := [.int (nI 1), .int (nI j)]) (rest := []) ⟨hx, hb, hml, hown, hts⟩ (c_X7_whereIs_t l (j)) (va_cwS 2 hts gX7_write_X7_whereIs rfl rfl rfl (by decide +kernel) ⟨Nat.le_of_ble_eq_true rfl, Nat.le_of_ble_eq_true rfl⟩) (q_preS hG hW hS) rfl rfl hl.1 rfl (lv_room (Nat.le_of_ble_eq_true rfl)) dX7_write_74 ⟨Nat.le_of_ble_eq_true rfl, Nat.le_of_ble_eq_true rfl⟩) ?_
              refine lv_istore (lv' := [(5, .int (nI (7 + 3 * j))), (4, .int (nI 1)), (0, .ref (b + 36)), (1, .int (nI j)), (2, .int (nI (P.w + P.n))), (3, .int (nI f8))]) hx hb dX7_write_77 hl (by decide) rfl (fun ls hl => ?_)
              refine lv_iload_n hx hb dX7_write_79 rfl (lv_at hl 3 rfl) ?_
              refine lv_if_le (tgt := 87) hx hb dX7_write_80 (by decide) (fun c_80 => ?_) (fun c_80 => ?_)
              · skip
                have c_80 : j ≤ 0 := (nI_le0 (i := j) (by omega)).mp c_80
                refine lv_iconst (v := nI 0) hx hb dX7_write_87 (by decide) ?_
                refine lv_iconst (v := nI 3) hx hb dX7_write_88 (by decide) ?_
                refine lv_iadd hx hb dX7_write_89 ?_
                refine q_top (y := nI (3)) (nI_add _ _) ?_
                refine lv_aload_n hx hb dX7_write_90 rfl (lv_at hl 2 rfl) ?_
                refine q_get hx hb hts hinX7 hown hG hW hm0 rfl 0 (by decide) (hts (.fieldLink RX7 7 "FoleyMixerModel" "s" "[I") (List.mem_of_getElem? (i := 3) rfl)) rfl rfl dX7_write_91 ?_
                refine lv_iload hx hb dX7_write_94 (lv_at hl 0 rfl) ?_
                refine lv_iconst (v := nI 0) hx hb dX7_write_96 (by decide) ?_
                refine lv_iadd hx hb dX7_write_97 ?_
                refine q_top (y := nI ((7 + 3 * j) + 0)) (nI_add _ _) ?_
                refine q_iald hx hb hG hW hm1 (by omega) (by omega) dX7_write_98 ?_
                refine q_top (y := nI (P.W j 0)) (by exact congrArg nI (hRp.2.2.2.1 _ hj9 0 (by decide))) ?_
                refine q_R1 (va_runS (As := [.int (nI (P.W j 0))]) (rest := [.int (nI 3)]) ⟨hx, hb, hml, hown, hts⟩ (c_X7_size l (P.W j 0) (by omega)) (va_cwS 1 hts gX7_write_X7_size rfl rfl rfl (by decide +kernel) ⟨Nat.le_of_ble_eq_true rfl, Nat.le_of_ble_eq_true rfl⟩) (q_preS hG hW hS) rfl rfl hl.1 rfl (lv_room (Nat.le_of_ble_eq_true rfl)) dX7_write_99 ⟨Nat.le_of_ble_eq_true rfl, Nat.le_of_ble_eq_true rfl⟩) ?_
                have hdl99 := dl_rng (P.W j 0)
                refine lv_iadd hx hb dX7_write_102 ?_
                refine q_top (y := nI (3 + (dl (P.W j 0)))) (nI_add _ _) ?_
                refine lv_aload_n hx hb dX7_write_103 rfl (lv_at hl 2 rfl) ?_
                refine q_get hx hb hts hinX7 hown hG hW hm0 rfl 0 (by decide) (hts (.fieldLink RX7 7 "FoleyMixerModel" "s" "[I") (List.mem_of_getElem? (i := 3) rfl)) rfl rfl dX7_write_104 ?_
                refine lv_iload hx hb dX7_write_107 (lv_at hl 0 rfl) ?_
                refine lv_iconst (v := nI 1) hx hb dX7_write_109 (by decide) ?_
                refine lv_iadd hx hb dX7_write_110 ?_
                refine q_top (y := nI ((7 + 3 * j) + 1)) (nI_add _ _) ?_
                refine q_iald hx hb hG hW hm1 (by omega) (by omega) dX7_write_111 ?_
                refine q_top (y := nI (P.W j 1)) (by exact congrArg nI (hRp.2.2.2.1 _ hj9 1 (by decide))) ?_
                refine q_R1 (va_runS (As := [.int (nI (P.W j 1))]) (rest := [.int (nI (3 + (dl (P.W j 0))))]) ⟨hx, hb, hml, hown, hts⟩ (c_X7_size l (P.W j 1) (by omega)) (va_cwS 1 hts gX7_write_X7_size rfl rfl rfl (by decide +kernel) ⟨Nat.le_of_ble_eq_true rfl, Nat.le_of_ble_eq_true rfl⟩) (q_preS hG hW hS) rfl rfl hl.1 rfl (lv_room (Nat.le_of_ble_eq_true rfl)) dX7_write_112 ⟨Nat.le_of_ble_eq_true rfl, Nat.le_of_ble_eq_true rfl⟩) ?_
                have hdl112 := dl_rng (P.W j 1)
                refine lv_iadd hx hb dX7_write_115 ?_
                refine q_top (y := nI ((3 + (dl (P.W j 0))) + (dl (P.W j 1)))) (nI_add _ _) ?_
                refine lv_aload_n hx hb dX7_write_116 rfl (lv_at hl 2 rfl) ?_
                refine q_get hx hb hts hinX7 hown hG hW hm0 rfl 0 (by decide) (hts (.fieldLink RX7 7 "FoleyMixerModel" "s" "[I") (List.mem_of_getElem? (i := 3) rfl)) rfl rfl dX7_write_117 ?_
                refine lv_iload hx hb dX7_write_120 (lv_at hl 0 rfl) ?_
                refine lv_iconst (v := nI 2) hx hb dX7_write_122 (by decide) ?_
                refine lv_iadd hx hb dX7_write_123 ?_
                refine q_top (y := nI ((7 + 3 * j) + 2)) (nI_add _ _) ?_
                refine q_iald hx hb hG hW hm1 (by omega) (by omega) dX7_write_124 ?_
                refine q_top (y := nI (P.W j 2)) (by exact congrArg nI (hRp.2.2.2.1 _ hj9 2 (by decide))) ?_
                refine q_R1 (va_runS (As := [.int (nI (P.W j 2))]) (rest := [.int (nI ((3 + (dl (P.W j 0))) + (dl (P.W j 1))))]) ⟨hx, hb, hml, hown, hts⟩ (c_X7_size l (P.W j 2) (by omega)) (va_cwS 1 hts gX7_write_X7_size rfl rfl rfl (by decide +kernel) ⟨Nat.le_of_ble_eq_true rfl, Nat.le_of_ble_eq_true rfl⟩) (q_preS hG hW hS) rfl rfl hl.1 rfl (lv_room (Nat.le_of_ble_eq_true rfl)) dX7_write_125 ⟨Nat.le_of_ble_eq_true rfl, Nat.le_of_ble_eq_true rfl⟩) ?_
                have hdl125 := dl_rng (P.W j 2)
                refine lv_iadd hx hb dX7_write_128 ?_
                refine q_top (y := nI (((3 + (dl (P.W j 0))) + (dl (P.W j 1))) + (dl (P.W j 2)))) (nI_add _ _) ?_
                refine lv_istore (lv' := [(6, .int (nI (((3 + (dl (P.W j 0))) + (dl (P.W j 1))) + (dl (P.W j 2))))), (5, .int (nI (7 + 3 * j))), (4, .int (nI 1)), (0, .ref (b + 36)), (1, .int (nI j)), (2, .int (nI (P.w + P.n))), (3, .int (nI f8))]) hx hb dX7_write_129 hl (by decide) rfl (fun ls hl => ?_)
                refine lv_aload_n hx hb dX7_write_131 rfl (lv_at hl 3 rfl) ?_
                refine q_get hx hb hts hinX7 hown hG hW hm0 rfl 6 (by decide) (hts (.fieldLink RX7 117 "FoleyMixerModel" "length" "I") (List.mem_of_getElem? (i := 2) rfl)) rfl rfl dX7_write_132 ?_
                refine lv_iload hx hb dX7_write_135 (lv_at hl 0 rfl) ?_
                refine lv_iadd hx hb dX7_write_137 ?_
                refine q_top (y := nI (B.1 + (((3 + (dl (P.W j 0))) + (dl (P.W j 1))) + (dl (P.W j 2))))) (nI_add _ _) ?_
                refine lv_bipush (v := nI 80) hx hb dX7_write_138 (by decide) ?_
                refine lv_icmp_gt (tgt := 147) hx hb dX7_write_140 (by decide) (fun c_140 => ?_) (fun c_140 => ?_)
                · skip
                  have c_140 : 80 < B.1 + (((3 + (dl (P.W j 0))) + (dl (P.W j 1))) + (dl (P.W j 2))) := (nI_ltI (a := 80) (b := B.1 + (((3 + (dl (P.W j 0))) + (dl (P.W j 1))) + (dl (P.W j 2)))) (by omega) (by omega)).mp c_140
                  have hnd : needC B.1 (P.W j 0) (P.W j 1) (P.W j 2) = 3 + dl (P.W j 0) + dl (P.W j 1) + dl (P.W j 2) := by unfold needC; rw [if_pos (by omega)]
                  have hwf : wfin P j B = (B, j) := wfin_Wno hj9 (by rw [hnd]; omega)
                  refine lv_iconst (v := nI 0) hx hb dX7_write_147 (by decide) ?_
                  refine lv_istore_n (lv' := [(3, .int (nI 0)), (6, .int (nI (((3 + (dl (P.W j 0))) + (dl (P.W j 1))) + (dl (P.W j 2))))), (5, .int (nI (7 + 3 * j))), (4, .int (nI 1)), (0, .ref (b + 36)), (1, .int (nI j)), (2, .int (nI (P.w + P.n)))]) hx hb dX7_write_148 rfl hl (by decide) rfl (fun ls hl => ?_)
                  refine lv_iload_n hx hb dX7_write_149 rfl (lv_at hl 0 rfl) ?_
                  refine lv_if_eq (tgt := 311) hx hb dX7_write_150 (by decide) (fun c_150 => ?_) (fun c_150 => ?_)
                  · skip
                    have c_150 : 0 = 0 := (nI_eq0 (i := 0) (by omega)).mp c_150
                    refine lv_goto (tgt := 29) hx hb dX7_write_311 (by decide) ?_
                    exact ih29 j 0 B (by omega) (by omega) (by exact Or.inr ⟨rfl, hwf.symm.trans (hres.resolve_right (fun h => c_35 h.1)).2⟩) (by omega) (by exact hk0) (by omega) (by omega) _ _ (by first | rfl | (congr 1; omega)) (by first | rfl | (congr 1; omega)) _ _ _ (by exact hm0) (by exact hm41) (by intro id h9; exact fr id h9) hW hS _ (lv_sub hl [4, 5, 6, 0] rfl)
                  · skip
                    have c_150 : ¬ (0 = 0) := fun h__ => c_150 ((nI_eq0 (i := 0) (by omega)).mpr h__)
                    exact absurd c_150 (by omega)
                · skip
                  have c_140 : ¬ (80 < B.1 + (((3 + (dl (P.W j 0))) + (dl (P.W j 1))) + (dl (P.W j 2)))) := fun h__ => c_140 ((nI_ltI (a := 80) (b := B.1 + (((3 + (dl (P.W j 0))) + (dl (P.W j 1))) + (dl (P.W j 2)))) (by omega) (by omega)).mpr h__)
                  have hnd : needC B.1 (P.W j 0) (P.W j 1) (P.W j 2) = 3 + dl (P.W j 0) + dl (P.W j 1) + dl (P.W j 2) := by unfold needC; rw [if_pos (by omega)]
                  have hwf := wfin_W (P := P) hj9 (B := B) (by rw [hnd]; omega)
                  refine lv_iconst (v := nI 1) hx hb dX7_write_143 (by decide) ?_
                  refine lv_goto (tgt := 148) hx hb dX7_write_144 (by decide) ?_
                  refine lv_istore_n (lv' := [(3, .int (nI 1)), (6, .int (nI (((3 + (dl (P.W j 0))) + (dl (P.W j 1))) + (dl (P.W j 2))))), (5, .int (nI (7 + 3 * j))), (4, .int (nI 1)), (0, .ref (b + 36)), (1, .int (nI j)), (2, .int (nI (P.w + P.n)))]) hx hb dX7_write_148 rfl hl (by decide) rfl (fun ls hl => ?_)
                  refine lv_iload_n hx hb dX7_write_149 rfl (lv_at hl 0 rfl) ?_
                  refine lv_if_eq (tgt := 311) hx hb dX7_write_150 (by decide) (fun c_150 => ?_) (fun c_150 => ?_)
                  · skip
                    have c_150 : 1 = 0 := (nI_eq0 (i := 1) (by omega)).mp c_150
                    exact absurd c_150 (by omega)
                  · skip
                    have c_150 : ¬ (1 = 0) := fun h__ => c_150 ((nI_eq0 (i := 1) (by omega)).mpr h__)
                    refine lv_iload_n hx hb dX7_write_153 rfl (lv_at hl 5 rfl) ?_
                    refine lv_if_le (tgt := 178) hx hb dX7_write_154 (by decide) (fun c_154 => ?_) (fun c_154 => ?_)
                    · skip
                      have c_154 : j ≤ 0 := (nI_le0 (i := j) (by omega)).mp c_154
                      obtain ⟨B1, hB1⟩ : ∃ B1 : Bf, B1 = B := ⟨_, rfl⟩
                      have hl1 : B1.1 = B.1 := by rw [hB1]; try rfl
                      have hk1 : okB B1 := by rw [hB1]; exact hk0
                      replace hm0 : wa 36 = some (modO b (nI (n)) (nI (B1.1)) (nI (0)) (pl) (lt) (dn)) := by rw [hB1]; exact hm0
                      replace hm41 : wa 41 = some (eN dA 80 B1.2) := by rw [hB1]; exact hm41
                      refine lv_aload_n hx hb dX7_write_178 rfl (lv_at hl 4 rfl) ?_
                      refine q_get hx hb hts hinX7 hown hG hW hm0 rfl 5 (by decide) (hts (.fieldLink RX7 23 "FoleyMixerModel" "text" "[I") (List.mem_of_getElem? (i := 4) rfl)) rfl rfl dX7_write_179 ?_
                      refine lv_aload_n hx hb dX7_write_182 rfl (lv_at hl 4 rfl) ?_
                      refine q_get hx hb hts hinX7 hown hG hW hm0 rfl 6 (by decide) (hts (.fieldLink RX7 117 "FoleyMixerModel" "length" "I") (List.mem_of_getElem? (i := 2) rfl)) rfl rfl dX7_write_183 ?_
                      refine lv_iload hx hb dX7_write_186 (lv_at hl 3 rfl) ?_
                      refine lv_if_eq (tgt := 196) hx hb dX7_write_188 (by decide) (fun c_188 => ?_) (fun c_188 => ?_)
                      · skip
                        have c_188 : 1 = 0 := (nI_eq0 (i := 1) (by omega)).mp c_188
                        exact absurd c_188 (by omega)
                      · skip
                        have c_188 : ¬ (1 = 0) := fun h__ => c_188 ((nI_eq0 (i := 1) (by omega)).mpr h__)
                        refine lv_bipush (v := nI 119) hx hb dX7_write_191 (by decide) ?_
                        refine lv_goto (tgt := 216) hx hb dX7_write_193 (by decide) ?_
                        refine q_top (y := nI (sgW j)) (by first | rfl | (refine congrArg nI ?_; unfold sgN; first | (rw [if_pos c_206]; done) | (rw [if_neg c_206]; done))) ?_
                        refine q_nast hx hb hG hW hS hm41 (by omega) (by omega) dX7_write_216 (fun H locs hW hS hz216 => ?_)
                        obtain ⟨w29, ew29⟩ : ∃ wq__ : Wd, wq__ = va_up wa 41 (some (eN dA 80 (va_up B1.2 B1.1 (sgW j)))) := ⟨_, rfl⟩
                        replace hW : WP D b w29 H := by rw [ew29]; exact hW
                        have frw29 : ∀ id : Nat, id ≠ 41 → w29 id = wa id := fun id h9 => by rw [ew29, up_ne h9]
                        replace hm0 : w29 36 = some (modO b (nI (n)) (nI (B1.1)) (nI (0)) (pl) (lt) (dn)) := (frw29 _ (by omega)).trans hm0
                        replace hm1 : w29 37 = some (eN dA 85 F) := (frw29 _ (by omega)).trans hm1
                        replace hm38 : w29 38 = some (eN dA 510 G) := (frw29 _ (by omega)).trans hm38
                        replace hm39 : w29 39 = some (eN dA 170 GS) := (frw29 _ (by omega)).trans hm39
                        replace hm40 : w29 40 = some (eZ dA 2 Zt) := (frw29 _ (by omega)).trans hm40
                        replace hm42 : w29 42 = some (eN dA 120 D0) := (frw29 _ (by omega)).trans hm42
                        replace hm43 : w29 43 = some (eN dA 120 M0) := (frw29 _ (by omega)).trans hm43
                        replace hm44 : w29 44 = some (eN dA 3 TD) := (frw29 _ (by omega)).trans hm44
                        replace hm41 : w29 41 = some (eN dA 80 (va_up B1.2 B1.1 (sgW j))) := by rw [ew29]; exact up_eq
                        refine lv_aload_n hx hb dX7_write_217 rfl (lv_at hl 4 rfl) ?_
                        refine lv_dup hx hb dX7_write_218 rfl ?_
                        refine q_get hx hb hts hinX7 hown hG hW hm0 rfl 6 (by decide) (hts (.fieldLink RX7 117 "FoleyMixerModel" "length" "I") (List.mem_of_getElem? (i := 2) rfl)) rfl rfl dX7_write_219 ?_
                        refine lv_iconst (v := nI 1) hx hb dX7_write_222 (by decide) ?_
                        refine lv_iadd hx hb dX7_write_223 ?_
                        refine q_top (y := nI (B1.1 + 1)) (nI_add _ _) ?_
                        refine q_put hx hb hts hinX7 tyX7_ok nmX7 hown hG hW hS hm0 rfl 6 (by decide) (hts (.fieldLink RX7 117 "FoleyMixerModel" "length" "I") (List.mem_of_getElem? (i := 2) rfl)) rfl rfl rfl rfl (Nat.le_of_ble_eq_true rfl) dX7_write_224 (fun H locs hW hS hz224 => ?_)
                        obtain ⟨w30, ew30⟩ : ∃ wq__ : Wd, wq__ = va_up w29 36 (some (modO b (nI (n)) (nI (B1.1 + 1)) (nI (0)) (pl) (lt) (dn))) := ⟨_, rfl⟩
                        replace hW : WP D b w30 H := by rw [ew30]; exact hW
                        have frw30 : ∀ id : Nat, id ≠ 36 → w30 id = w29 id := fun id h9 => by rw [ew30, up_ne h9]
                        replace hm1 : w30 37 = some (eN dA 85 F) := (frw30 _ (by omega)).trans hm1
                        replace hm38 : w30 38 = some (eN dA 510 G) := (frw30 _ (by omega)).trans hm38
                        replace hm39 : w30 39 = some (eN dA 170 GS) := (frw30 _ (by omega)).trans hm39
                        replace hm40 : w30 40 = some (eZ dA 2 Zt) := (frw30 _ (by omega)).trans hm40
                        replace hm41 : w30 41 = some (eN dA 80 (va_up B1.2 B1.1 (sgW j))) := (frw30 _ (by omega)).trans hm41
                        replace hm42 : w30 42 = some (eN dA 120 D0) := (frw30 _ (by omega)).trans hm42
                        replace hm43 : w30 43 = some (eN dA 120 M0) := (frw30 _ (by omega)).trans hm43
                        replace hm44 : w30 44 = some (eN dA 3 TD) := (frw30 _ (by omega)).trans hm44
                        replace hm0 : w30 36 = some (modO b (nI (n)) (nI (B1.1 + 1)) (nI (0)) (pl) (lt) (dn)) := by rw [ew30]; exact up_eq
                        obtain ⟨B2, hB2⟩ : ∃ B2 : Bf, B2 = ap B1 (sgW j) := ⟨_, rfl⟩
                        have hl2 : B2.1 = B1.1 + 1 := by rw [hB2]; rfl
                        have hk2 : okB B2 := by rw [hB2]; exact okB_ap hk1 (by show 119 < 128; decide)
                        replace hm0 : w30 36 = some (modO b (nI (n)) (nI (B2.1)) (nI (0)) (pl) (lt) (dn)) := by rw [hB2]; exact hm0
                        replace hm41 : w30 41 = some (eN dA 80 B2.2) := by rw [hB2]; exact hm41
                        refine lv_aload_n hx hb dX7_write_227 rfl (lv_at hl 4 rfl) ?_
                        refine lv_aload_n hx hb dX7_write_228 rfl (lv_at hl 4 rfl) ?_
                        refine q_get hx hb hts hinX7 hown hG hW hm0 rfl 0 (by decide) (hts (.fieldLink RX7 7 "FoleyMixerModel" "s" "[I") (List.mem_of_getElem? (i := 3) rfl)) rfl rfl dX7_write_229 ?_
                        refine lv_iload hx hb dX7_write_232 (lv_at hl 2 rfl) ?_
                        refine lv_iconst (v := nI 0) hx hb dX7_write_234 (by decide) ?_
                        refine lv_iadd hx hb dX7_write_235 ?_
                        refine q_top (y := nI ((7 + 3 * j) + 0)) (nI_add _ _) ?_
                        refine q_iald hx hb hG hW hm1 (by omega) (by omega) dX7_write_236 ?_
                        refine q_top (y := nI (P.W j 0)) (by exact congrArg nI (hRp.2.2.2.1 _ hj9 0 (by decide))) ?_
                        refine q_W0 (va_runV (As := [.int (nI (P.W j 0))]) (rest := []) ⟨hx, hb, hml, hown, hts⟩ (c_X7_writeNumber l (B := B2) hm0 hm41 (P.W j 0) (by omega) (by omega)) (cwV 1 hts gX7_write_X7_writeNumber rfl rfl rfl (by decide +kernel) ⟨Nat.le_of_ble_eq_true rfl, Nat.le_of_ble_eq_true rfl⟩) (q_preV hG hW hS hm0 rfl) rfl rfl hl.1 rfl (lv_room (Nat.le_of_ble_eq_true rfl)) dX7_write_237 ⟨Nat.le_of_ble_eq_true rfl, Nat.le_of_ble_eq_true rfl⟩) hS (fun w_237 H locs hp237 hW hS => ?_)
                        obtain ⟨hm0, hm41, fr237⟩ := hp237
                        replace hm1 : w_237 37 = some (eN dA 85 F) := (fr237 _ (by omega)).trans hm1
                        replace hm38 : w_237 38 = some (eN dA 510 G) := (fr237 _ (by omega)).trans hm38
                        replace hm39 : w_237 39 = some (eN dA 170 GS) := (fr237 _ (by omega)).trans hm39
                        replace hm40 : w_237 40 = some (eZ dA 2 Zt) := (fr237 _ (by omega)).trans hm40
                        replace hm42 : w_237 42 = some (eN dA 120 D0) := (fr237 _ (by omega)).trans hm42
                        replace hm43 : w_237 43 = some (eN dA 120 M0) := (fr237 _ (by omega)).trans hm43
                        replace hm44 : w_237 44 = some (eN dA 3 TD) := (fr237 _ (by omega)).trans hm44
                        obtain ⟨B3, hB3⟩ : ∃ B3 : Bf, B3 = apN B2 (P.W j 0) := ⟨_, rfl⟩
                        have hl3 : B3.1 = B2.1 + dl (P.W j 0) := by rw [hB3]; exact apN_len _ _
                        have hk3 : okB B3 := by rw [hB3]; exact okB_apN hk2 (by omega)
                        replace hm0 : w_237 36 = some (modO b (nI (n)) (nI (B3.1)) (nI (0)) (pl) (lt) (dn)) := by rw [hB3]; exact hm0
                        replace hm41 : w_237 41 = some (eN dA 80 B3.2) := by rw [hB3]; exact hm41
                        refine lv_aload_n hx hb dX7_write_240 rfl (lv_at hl 4 rfl) ?_
                        refine q_get hx hb hts hinX7 hown hG hW hm0 rfl 5 (by decide) (hts (.fieldLink RX7 23 "FoleyMixerModel" "text" "[I") (List.mem_of_getElem? (i := 4) rfl)) rfl rfl dX7_write_241 ?_
                        refine lv_aload_n hx hb dX7_write_244 rfl (lv_at hl 4 rfl) ?_
                        refine q_get hx hb hts hinX7 hown hG hW hm0 rfl 6 (by decide) (hts (.fieldLink RX7 117 "FoleyMixerModel" "length" "I") (List.mem_of_getElem? (i := 2) rfl)) rfl rfl dX7_write_245 ?_
                        refine lv_bipush (v := nI 43) hx hb dX7_write_248 (by decide) ?_
                        refine q_nast hx hb hG hW hS hm41 (by omega) (by omega) dX7_write_250 (fun H locs hW hS hz250 => ?_)
                        obtain ⟨w31, ew31⟩ : ∃ wq__ : Wd, wq__ = va_up w_237 41 (some (eN dA 80 (va_up B3.2 B3.1 43))) := ⟨_, rfl⟩
                        replace hW : WP D b w31 H := by rw [ew31]; exact hW
                        have frw31 : ∀ id : Nat, id ≠ 41 → w31 id = w_237 id := fun id h9 => by rw [ew31, up_ne h9]
                        replace hm1 : w31 37 = some (eN dA 85 F) := (frw31 _ (by omega)).trans hm1
                        replace hm38 : w31 38 = some (eN dA 510 G) := (frw31 _ (by omega)).trans hm38
                        replace hm39 : w31 39 = some (eN dA 170 GS) := (frw31 _ (by omega)).trans hm39
                        replace hm40 : w31 40 = some (eZ dA 2 Zt) := (frw31 _ (by omega)).trans hm40
                        replace hm42 : w31 42 = some (eN dA 120 D0) := (frw31 _ (by omega)).trans hm42
                        replace hm43 : w31 43 = some (eN dA 120 M0) := (frw31 _ (by omega)).trans hm43
                        replace hm44 : w31 44 = some (eN dA 3 TD) := (frw31 _ (by omega)).trans hm44
                        replace hm0 : w31 36 = some (modO b (nI (n)) (nI (B3.1)) (nI (0)) (pl) (lt) (dn)) := (frw31 _ (by omega)).trans hm0
                        replace hm41 : w31 41 = some (eN dA 80 (va_up B3.2 B3.1 43)) := by rw [ew31]; exact up_eq
                        refine lv_aload_n hx hb dX7_write_251 rfl (lv_at hl 4 rfl) ?_
                        refine lv_dup hx hb dX7_write_252 rfl ?_
                        refine q_get hx hb hts hinX7 hown hG hW hm0 rfl 6 (by decide) (hts (.fieldLink RX7 117 "FoleyMixerModel" "length" "I") (List.mem_of_getElem? (i := 2) rfl)) rfl rfl dX7_write_253 ?_
                        refine lv_iconst (v := nI 1) hx hb dX7_write_256 (by decide) ?_
                        refine lv_iadd hx hb dX7_write_257 ?_
                        refine q_top (y := nI (B3.1 + 1)) (nI_add _ _) ?_
                        refine q_put hx hb hts hinX7 tyX7_ok nmX7 hown hG hW hS hm0 rfl 6 (by decide) (hts (.fieldLink RX7 117 "FoleyMixerModel" "length" "I") (List.mem_of_getElem? (i := 2) rfl)) rfl rfl rfl rfl (Nat.le_of_ble_eq_true rfl) dX7_write_258 (fun H locs hW hS hz258 => ?_)
                        obtain ⟨w32, ew32⟩ : ∃ wq__ : Wd, wq__ = va_up w31 36 (some (modO b (nI (n)) (nI (B3.1 + 1)) (nI (0)) (pl) (lt) (dn))) := ⟨_, rfl⟩
                        replace hW : WP D b w32 H := by rw [ew32]; exact hW
                        have frw32 : ∀ id : Nat, id ≠ 36 → w32 id = w31 id := fun id h9 => by rw [ew32, up_ne h9]
                        replace hm1 : w32 37 = some (eN dA 85 F) := (frw32 _ (by omega)).trans hm1
                        replace hm38 : w32 38 = some (eN dA 510 G) := (frw32 _ (by omega)).trans hm38
                        replace hm39 : w32 39 = some (eN dA 170 GS) := (frw32 _ (by omega)).trans hm39
                        replace hm40 : w32 40 = some (eZ dA 2 Zt) := (frw32 _ (by omega)).trans hm40
                        replace hm42 : w32 42 = some (eN dA 120 D0) := (frw32 _ (by omega)).trans hm42
                        replace hm43 : w32 43 = some (eN dA 120 M0) := (frw32 _ (by omega)).trans hm43
                        replace hm44 : w32 44 = some (eN dA 3 TD) := (frw32 _ (by omega)).trans hm44
                        replace hm41 : w32 41 = some (eN dA 80 (va_up B3.2 B3.1 43)) := (frw32 _ (by omega)).trans hm41
                        replace hm0 : w32 36 = some (modO b (nI (n)) (nI (B3.1 + 1)) (nI (0)) (pl) (lt) (dn)) := by rw [ew32]; exact up_eq
                        obtain ⟨B4, hB4⟩ : ∃ B4 : Bf, B4 = ap B3 43 := ⟨_, rfl⟩
                        have hl4 : B4.1 = B3.1 + 1 := by rw [hB4]; rfl
                        have hk4 : okB B4 := by rw [hB4]; exact okB_ap hk3 (by omega)
                        replace hm0 : w32 36 = some (modO b (nI (n)) (nI (B4.1)) (nI (0)) (pl) (lt) (dn)) := by rw [hB4]; exact hm0
                        replace hm41 : w32 41 = some (eN dA 80 B4.2) := by rw [hB4]; exact hm41
                        refine lv_aload_n hx hb dX7_write_261 rfl (lv_at hl 4 rfl) ?_
                        refine lv_aload_n hx hb dX7_write_262 rfl (lv_at hl 4 rfl) ?_
                        refine q_get hx hb hts hinX7 hown hG hW hm0 rfl 0 (by decide) (hts (.fieldLink RX7 7 "FoleyMixerModel" "s" "[I") (List.mem_of_getElem? (i := 3) rfl)) rfl rfl dX7_write_263 ?_
                        refine lv_iload hx hb dX7_write_266 (lv_at hl 2 rfl) ?_
                        refine lv_iconst (v := nI 1) hx hb dX7_write_268 (by decide) ?_
                        refine lv_iadd hx hb dX7_write_269 ?_
                        refine q_top (y := nI ((7 + 3 * j) + 1)) (nI_add _ _) ?_
                        refine q_iald hx hb hG hW hm1 (by omega) (by omega) dX7_write_270 ?_
                        refine q_top (y := nI (P.W j 1)) (by exact congrArg nI (hRp.2.2.2.1 _ hj9 1 (by decide))) ?_
                        refine q_W0 (va_runV (As := [.int (nI (P.W j 1))]) (rest := []) ⟨hx, hb, hml, hown, hts⟩ (c_X7_writeNumber l (B := B4) hm0 hm41 (P.W j 1) (by omega) (by omega)) (cwV 1 hts gX7_write_X7_writeNumber rfl rfl rfl (by decide +kernel) ⟨Nat.le_of_ble_eq_true rfl, Nat.le_of_ble_eq_true rfl⟩) (q_preV hG hW hS hm0 rfl) rfl rfl hl.1 rfl (lv_room (Nat.le_of_ble_eq_true rfl)) dX7_write_271 ⟨Nat.le_of_ble_eq_true rfl, Nat.le_of_ble_eq_true rfl⟩) hS (fun w_271 H locs hp271 hW hS => ?_)
                        obtain ⟨hm0, hm41, fr271⟩ := hp271
                        replace hm1 : w_271 37 = some (eN dA 85 F) := (fr271 _ (by omega)).trans hm1
                        replace hm38 : w_271 38 = some (eN dA 510 G) := (fr271 _ (by omega)).trans hm38
                        replace hm39 : w_271 39 = some (eN dA 170 GS) := (fr271 _ (by omega)).trans hm39
                        replace hm40 : w_271 40 = some (eZ dA 2 Zt) := (fr271 _ (by omega)).trans hm40
                        replace hm42 : w_271 42 = some (eN dA 120 D0) := (fr271 _ (by omega)).trans hm42
                        replace hm43 : w_271 43 = some (eN dA 120 M0) := (fr271 _ (by omega)).trans hm43
                        replace hm44 : w_271 44 = some (eN dA 3 TD) := (fr271 _ (by omega)).trans hm44
                        obtain ⟨B5, hB5⟩ : ∃ B5 : Bf, B5 = apN B4 (P.W j 1) := ⟨_, rfl⟩
                        have hl5 : B5.1 = B4.1 + dl (P.W j 1) := by rw [hB5]; exact apN_len _ _
                        have hk5 : okB B5 := by rw [hB5]; exact okB_apN hk4 (by omega)
                        replace hm0 : w_271 36 = some (modO b (nI (n)) (nI (B5.1)) (nI (0)) (pl) (lt) (dn)) := by rw [hB5]; exact hm0
                        replace hm41 : w_271 41 = some (eN dA 80 B5.2) := by rw [hB5]; exact hm41
                        refine lv_aload_n hx hb dX7_write_274 rfl (lv_at hl 4 rfl) ?_
                        refine q_get hx hb hts hinX7 hown hG hW hm0 rfl 5 (by decide) (hts (.fieldLink RX7 23 "FoleyMixerModel" "text" "[I") (List.mem_of_getElem? (i := 4) rfl)) rfl rfl dX7_write_275 ?_
                        refine lv_aload_n hx hb dX7_write_278 rfl (lv_at hl 4 rfl) ?_
                        refine q_get hx hb hts hinX7 hown hG hW hm0 rfl 6 (by decide) (hts (.fieldLink RX7 117 "FoleyMixerModel" "length" "I") (List.mem_of_getElem? (i := 2) rfl)) rfl rfl dX7_write_279 ?_
                        refine lv_bipush (v := nI 64) hx hb dX7_write_282 (by decide) ?_
                        refine q_nast hx hb hG hW hS hm41 (by omega) (by omega) dX7_write_284 (fun H locs hW hS hz284 => ?_)
                        obtain ⟨w33, ew33⟩ : ∃ wq__ : Wd, wq__ = va_up w_271 41 (some (eN dA 80 (va_up B5.2 B5.1 64))) := ⟨_, rfl⟩
                        replace hW : WP D b w33 H := by rw [ew33]; exact hW
                        have frw33 : ∀ id : Nat, id ≠ 41 → w33 id = w_271 id := fun id h9 => by rw [ew33, up_ne h9]
                        replace hm1 : w33 37 = some (eN dA 85 F) := (frw33 _ (by omega)).trans hm1
                        replace hm38 : w33 38 = some (eN dA 510 G) := (frw33 _ (by omega)).trans hm38
                        replace hm39 : w33 39 = some (eN dA 170 GS) := (frw33 _ (by omega)).trans hm39
                        replace hm40 : w33 40 = some (eZ dA 2 Zt) := (frw33 _ (by omega)).trans hm40
                        replace hm42 : w33 42 = some (eN dA 120 D0) := (frw33 _ (by omega)).trans hm42
                        replace hm43 : w33 43 = some (eN dA 120 M0) := (frw33 _ (by omega)).trans hm43
                        replace hm44 : w33 44 = some (eN dA 3 TD) := (frw33 _ (by omega)).trans hm44
                        replace hm0 : w33 36 = some (modO b (nI (n)) (nI (B5.1)) (nI (0)) (pl) (lt) (dn)) := (frw33 _ (by omega)).trans hm0
                        replace hm41 : w33 41 = some (eN dA 80 (va_up B5.2 B5.1 64)) := by rw [ew33]; exact up_eq
                        refine lv_aload_n hx hb dX7_write_285 rfl (lv_at hl 4 rfl) ?_
                        refine lv_dup hx hb dX7_write_286 rfl ?_
                        refine q_get hx hb hts hinX7 hown hG hW hm0 rfl 6 (by decide) (hts (.fieldLink RX7 117 "FoleyMixerModel" "length" "I") (List.mem_of_getElem? (i := 2) rfl)) rfl rfl dX7_write_287 ?_
                        refine lv_iconst (v := nI 1) hx hb dX7_write_290 (by decide) ?_
                        refine lv_iadd hx hb dX7_write_291 ?_
                        refine q_top (y := nI (B5.1 + 1)) (nI_add _ _) ?_
                        refine q_put hx hb hts hinX7 tyX7_ok nmX7 hown hG hW hS hm0 rfl 6 (by decide) (hts (.fieldLink RX7 117 "FoleyMixerModel" "length" "I") (List.mem_of_getElem? (i := 2) rfl)) rfl rfl rfl rfl (Nat.le_of_ble_eq_true rfl) dX7_write_292 (fun H locs hW hS hz292 => ?_)
                        obtain ⟨w34, ew34⟩ : ∃ wq__ : Wd, wq__ = va_up w33 36 (some (modO b (nI (n)) (nI (B5.1 + 1)) (nI (0)) (pl) (lt) (dn))) := ⟨_, rfl⟩
                        replace hW : WP D b w34 H := by rw [ew34]; exact hW
                        have frw34 : ∀ id : Nat, id ≠ 36 → w34 id = w33 id := fun id h9 => by rw [ew34, up_ne h9]
                        replace hm1 : w34 37 = some (eN dA 85 F) := (frw34 _ (by omega)).trans hm1
                        replace hm38 : w34 38 = some (eN dA 510 G) := (frw34 _ (by omega)).trans hm38
                        replace hm39 : w34 39 = some (eN dA 170 GS) := (frw34 _ (by omega)).trans hm39
                        replace hm40 : w34 40 = some (eZ dA 2 Zt) := (frw34 _ (by omega)).trans hm40
                        replace hm42 : w34 42 = some (eN dA 120 D0) := (frw34 _ (by omega)).trans hm42
                        replace hm43 : w34 43 = some (eN dA 120 M0) := (frw34 _ (by omega)).trans hm43
                        replace hm44 : w34 44 = some (eN dA 3 TD) := (frw34 _ (by omega)).trans hm44
                        replace hm41 : w34 41 = some (eN dA 80 (va_up B5.2 B5.1 64)) := (frw34 _ (by omega)).trans hm41
                        replace hm0 : w34 36 = some (modO b (nI (n)) (nI (B5.1 + 1)) (nI (0)) (pl) (lt) (dn)) := by rw [ew34]; exact up_eq
                        obtain ⟨B6, hB6⟩ : ∃ B6 : Bf, B6 = ap B5 64 := ⟨_, rfl⟩
                        have hl6 : B6.1 = B5.1 + 1 := by rw [hB6]; rfl
                        have hk6 : okB B6 := by rw [hB6]; exact okB_ap hk5 (by omega)
                        replace hm0 : w34 36 = some (modO b (nI (n)) (nI (B6.1)) (nI (0)) (pl) (lt) (dn)) := by rw [hB6]; exact hm0
                        replace hm41 : w34 41 = some (eN dA 80 B6.2) := by rw [hB6]; exact hm41
                        refine lv_aload_n hx hb dX7_write_295 rfl (lv_at hl 4 rfl) ?_
                        refine lv_aload_n hx hb dX7_write_296 rfl (lv_at hl 4 rfl) ?_
                        refine q_get hx hb hts hinX7 hown hG hW hm0 rfl 0 (by decide) (hts (.fieldLink RX7 7 "FoleyMixerModel" "s" "[I") (List.mem_of_getElem? (i := 3) rfl)) rfl rfl dX7_write_297 ?_
                        refine lv_iload hx hb dX7_write_300 (lv_at hl 2 rfl) ?_
                        refine lv_iconst (v := nI 2) hx hb dX7_write_302 (by decide) ?_
                        refine lv_iadd hx hb dX7_write_303 ?_
                        refine q_top (y := nI ((7 + 3 * j) + 2)) (nI_add _ _) ?_
                        refine q_iald hx hb hG hW hm1 (by omega) (by omega) dX7_write_304 ?_
                        refine q_top (y := nI (P.W j 2)) (by exact congrArg nI (hRp.2.2.2.1 _ hj9 2 (by decide))) ?_
                        refine q_W0 (va_runV (As := [.int (nI (P.W j 2))]) (rest := []) ⟨hx, hb, hml, hown, hts⟩ (c_X7_writeNumber l (B := B6) hm0 hm41 (P.W j 2) (by omega) (by omega)) (cwV 1 hts gX7_write_X7_writeNumber rfl rfl rfl (by decide +kernel) ⟨Nat.le_of_ble_eq_true rfl, Nat.le_of_ble_eq_true rfl⟩) (q_preV hG hW hS hm0 rfl) rfl rfl hl.1 rfl (lv_room (Nat.le_of_ble_eq_true rfl)) dX7_write_305 ⟨Nat.le_of_ble_eq_true rfl, Nat.le_of_ble_eq_true rfl⟩) hS (fun w_305 H locs hp305 hW hS => ?_)
                        obtain ⟨hm0, hm41, fr305⟩ := hp305
                        replace hm1 : w_305 37 = some (eN dA 85 F) := (fr305 _ (by omega)).trans hm1
                        replace hm38 : w_305 38 = some (eN dA 510 G) := (fr305 _ (by omega)).trans hm38
                        replace hm39 : w_305 39 = some (eN dA 170 GS) := (fr305 _ (by omega)).trans hm39
                        replace hm40 : w_305 40 = some (eZ dA 2 Zt) := (fr305 _ (by omega)).trans hm40
                        replace hm42 : w_305 42 = some (eN dA 120 D0) := (fr305 _ (by omega)).trans hm42
                        replace hm43 : w_305 43 = some (eN dA 120 M0) := (fr305 _ (by omega)).trans hm43
                        replace hm44 : w_305 44 = some (eN dA 3 TD) := (fr305 _ (by omega)).trans hm44
                        obtain ⟨B7, hB7⟩ : ∃ B7 : Bf, B7 = apN B6 (P.W j 2) := ⟨_, rfl⟩
                        have hl7 : B7.1 = B6.1 + dl (P.W j 2) := by rw [hB7]; exact apN_len _ _
                        have hk7 : okB B7 := by rw [hB7]; exact okB_apN hk6 (by omega)
                        replace hm0 : w_305 36 = some (modO b (nI (n)) (nI (B7.1)) (nI (0)) (pl) (lt) (dn)) := by rw [hB7]; exact hm0
                        replace hm41 : w_305 41 = some (eN dA 80 B7.2) := by rw [hB7]; exact hm41
                        have hB9 : B7 = apC B (sgW j) (P.W j 0) (P.W j 1) (P.W j 2) := apC_one (by rw [if_pos (by omega)]; exact hB1) hB2 hB3 hB4 hB5 hB6 hB7
                        rw [← hB9] at hwf
                        refine lv_iinc (v := nI (j + 1)) (lv' := [(1, .int (nI (j + 1))), (3, .int (nI 1)), (6, .int (nI (((3 + (dl (P.W j 0))) + (dl (P.W j 1))) + (dl (P.W j 2))))), (5, .int (nI (7 + 3 * j))), (4, .int (nI 1)), (0, .ref (b + 36)), (2, .int (nI (P.w + P.n)))]) hx hb dX7_write_308 hl (k := 5) rfl (nI_add _ 1) (by decide) rfl (fun ls hl => ?_)
                        refine lv_goto (tgt := 29) hx hb dX7_write_311 (by decide) ?_
                        exact ih29 (j + 1) 1 B7 (by omega) (by omega) (by exact Or.inl ⟨rfl, hwf.symm.trans (hres.resolve_right (fun h => c_35 h.1)).2⟩) (by omega) (by exact hk7) (by omega) (by omega) _ _ (by first | rfl | (congr 1; omega)) (by first | rfl | (congr 1; omega)) _ _ _ (by exact hm0) (by exact hm41) (by intro id h9; rw [fr305 id (by omega)]; rw [frw34 id (by omega)]; rw [frw33 id (by omega)]; rw [fr271 id (by omega)]; rw [frw32 id (by omega)]; rw [frw31 id (by omega)]; rw [fr237 id (by omega)]; rw [frw30 id (by omega)]; rw [frw29 id (by omega)]; exact fr id h9) hW hS _ (lv_sub hl [5, 0, 6, 1] rfl)
                    · skip
                      have c_154 : ¬ (j ≤ 0) := fun h__ => c_154 ((nI_le0 (i := j) (by omega)).mpr h__)
                      exact absurd c_154 (by omega)
              · skip
                have c_80 : ¬ (j ≤ 0) := fun h__ => c_80 ((nI_le0 (i := j) (by omega)).mpr h__)
                refine lv_iconst (v := nI 1) hx hb dX7_write_83 (by decide) ?_
                refine lv_goto (tgt := 88) hx hb dX7_write_84 (by decide) ?_
                refine lv_iconst (v := nI 3) hx hb dX7_write_88 (by decide) ?_
                refine lv_iadd hx hb dX7_write_89 ?_
                refine q_top (y := nI (4)) (nI_add _ _) ?_
                refine lv_aload_n hx hb dX7_write_90 rfl (lv_at hl 2 rfl) ?_
                refine q_get hx hb hts hinX7 hown hG hW hm0 rfl 0 (by decide) (hts (.fieldLink RX7 7 "FoleyMixerModel" "s" "[I") (List.mem_of_getElem? (i := 3) rfl)) rfl rfl dX7_write_91 ?_
                refine lv_iload hx hb dX7_write_94 (lv_at hl 0 rfl) ?_
                refine lv_iconst (v := nI 0) hx hb dX7_write_96 (by decide) ?_
                refine lv_iadd hx hb dX7_write_97 ?_
                refine q_top (y := nI ((7 + 3 * j) + 0)) (nI_add _ _) ?_
                refine q_iald hx hb hG hW hm1 (by omega) (by omega) dX7_write_98 ?_
                refine q_top (y := nI (P.W j 0)) (by exact congrArg nI (hRp.2.2.2.1 _ hj9 0 (by decide))) ?_
                refine q_R1 (va_runS (As := [.int (nI (P.W j 0))]) (rest := [.int (nI 4)]) ⟨hx, hb, hml, hown, hts⟩ (c_X7_size l (P.W j 0) (by omega)) (va_cwS 1 hts gX7_write_X7_size rfl rfl rfl (by decide +kernel) ⟨Nat.le_of_ble_eq_true rfl, Nat.le_of_ble_eq_true rfl⟩) (q_preS hG hW hS) rfl rfl hl.1 rfl (lv_room (Nat.le_of_ble_eq_true rfl)) dX7_write_99 ⟨Nat.le_of_ble_eq_true rfl, Nat.le_of_ble_eq_true rfl⟩) ?_
                have hdl99 := dl_rng (P.W j 0)
                refine lv_iadd hx hb dX7_write_102 ?_
                refine q_top (y := nI (4 + (dl (P.W j 0)))) (nI_add _ _) ?_
                refine lv_aload_n hx hb dX7_write_103 rfl (lv_at hl 2 rfl) ?_
                refine q_get hx hb hts hinX7 hown hG hW hm0 rfl 0 (by decide) (hts (.fieldLink RX7 7 "FoleyMixerModel" "s" "[I") (List.mem_of_getElem? (i := 3) rfl)) rfl rfl dX7_write_104 ?_
                refine lv_iload hx hb dX7_write_107 (lv_at hl 0 rfl) ?_
                refine lv_iconst (v := nI 1) hx hb dX7_write_109 (by decide) ?_
                refine lv_iadd hx hb dX7_write_110 ?_
                refine q_top (y := nI ((7 + 3 * j) + 1)) (nI_add _ _) ?_
                refine q_iald hx hb hG hW hm1 (by omega) (by omega) dX7_write_111 ?_
                refine q_top (y := nI (P.W j 1)) (by exact congrArg nI (hRp.2.2.2.1 _ hj9 1 (by decide))) ?_
                refine q_R1 (va_runS (As := [.int (nI (P.W j 1))]) (rest := [.int (nI (4 + (dl (P.W j 0))))]) ⟨hx, hb, hml, hown, hts⟩ (c_X7_size l (P.W j 1) (by omega)) (va_cwS 1 hts gX7_write_X7_size rfl rfl rfl (by decide +kernel) ⟨Nat.le_of_ble_eq_true rfl, Nat.le_of_ble_eq_true rfl⟩) (q_preS hG hW hS) rfl rfl hl.1 rfl (lv_room (Nat.le_of_ble_eq_true rfl)) dX7_write_112 ⟨Nat.le_of_ble_eq_true rfl, Nat.le_of_ble_eq_true rfl⟩) ?_
                have hdl112 := dl_rng (P.W j 1)
                refine lv_iadd hx hb dX7_write_115 ?_
                refine q_top (y := nI ((4 + (dl (P.W j 0))) + (dl (P.W j 1)))) (nI_add _ _) ?_
                refine lv_aload_n hx hb dX7_write_116 rfl (lv_at hl 2 rfl) ?_
                refine q_get hx hb hts hinX7 hown hG hW hm0 rfl 0 (by decide) (hts (.fieldLink RX7 7 "FoleyMixerModel" "s" "[I") (List.mem_of_getElem? (i := 3) rfl)) rfl rfl dX7_write_117 ?_
                refine lv_iload hx hb dX7_write_120 (lv_at hl 0 rfl) ?_
                refine lv_iconst (v := nI 2) hx hb dX7_write_122 (by decide) ?_
                refine lv_iadd hx hb dX7_write_123 ?_
                refine q_top (y := nI ((7 + 3 * j) + 2)) (nI_add _ _) ?_
                refine q_iald hx hb hG hW hm1 (by omega) (by omega) dX7_write_124 ?_
                refine q_top (y := nI (P.W j 2)) (by exact congrArg nI (hRp.2.2.2.1 _ hj9 2 (by decide))) ?_
                refine q_R1 (va_runS (As := [.int (nI (P.W j 2))]) (rest := [.int (nI ((4 + (dl (P.W j 0))) + (dl (P.W j 1))))]) ⟨hx, hb, hml, hown, hts⟩ (c_X7_size l (P.W j 2) (by omega)) (va_cwS 1 hts gX7_write_X7_size rfl rfl rfl (by decide +kernel) ⟨Nat.le_of_ble_eq_true rfl, Nat.le_of_ble_eq_true rfl⟩) (q_preS hG hW hS) rfl rfl hl.1 rfl (lv_room (Nat.le_of_ble_eq_true rfl)) dX7_write_125 ⟨Nat.le_of_ble_eq_true rfl, Nat.le_of_ble_eq_true rfl⟩) ?_
                have hdl125 := dl_rng (P.W j 2)
                refine lv_iadd hx hb dX7_write_128 ?_
                refine q_top (y := nI (((4 + (dl (P.W j 0))) + (dl (P.W j 1))) + (dl (P.W j 2)))) (nI_add _ _) ?_
                refine lv_istore (lv' := [(6, .int (nI (((4 + (dl (P.W j 0))) + (dl (P.W j 1))) + (dl (P.W j 2))))), (5, .int (nI (7 + 3 * j))), (4, .int (nI 1)), (0, .ref (b + 36)), (1, .int (nI j)), (2, .int (nI (P.w + P.n))), (3, .int (nI f8))]) hx hb dX7_write_129 hl (by decide) rfl (fun ls hl => ?_)
                refine lv_aload_n hx hb dX7_write_131 rfl (lv_at hl 3 rfl) ?_
                refine q_get hx hb hts hinX7 hown hG hW hm0 rfl 6 (by decide) (hts (.fieldLink RX7 117 "FoleyMixerModel" "length" "I") (List.mem_of_getElem? (i := 2) rfl)) rfl rfl dX7_write_132 ?_
                refine lv_iload hx hb dX7_write_135 (lv_at hl 0 rfl) ?_
                refine lv_iadd hx hb dX7_write_137 ?_
                refine q_top (y := nI (B.1 + (((4 + (dl (P.W j 0))) + (dl (P.W j 1))) + (dl (P.W j 2))))) (nI_add _ _) ?_
                refine lv_bipush (v := nI 80) hx hb dX7_write_138 (by decide) ?_
                refine lv_icmp_gt (tgt := 147) hx hb dX7_write_140 (by decide) (fun c_140 => ?_) (fun c_140 => ?_)
                · skip
                  have c_140 : 80 < B.1 + (((4 + (dl (P.W j 0))) + (dl (P.W j 1))) + (dl (P.W j 2))) := (nI_ltI (a := 80) (b := B.1 + (((4 + (dl (P.W j 0))) + (dl (P.W j 1))) + (dl (P.W j 2)))) (by omega) (by omega)).mp c_140
                  have hnd : needC B.1 (P.W j 0) (P.W j 1) (P.W j 2) = 4 + dl (P.W j 0) + dl (P.W j 1) + dl (P.W j 2) := by unfold needC; rw [if_neg (by omega)]
                  have hwf : wfin P j B = (B, j) := wfin_Wno hj9 (by rw [hnd]; omega)
                  refine lv_iconst (v := nI 0) hx hb dX7_write_147 (by decide) ?_
                  refine lv_istore_n (lv' := [(3, .int (nI 0)), (6, .int (nI (((4 + (dl (P.W j 0))) + (dl (P.W j 1))) + (dl (P.W j 2))))), (5, .int (nI (7 + 3 * j))), (4, .int (nI 1)), (0, .ref (b + 36)), (1, .int (nI j)), (2, .int (nI (P.w + P.n)))]) hx hb dX7_write_148 rfl hl (by decide) rfl (fun ls hl => ?_)
                  refine lv_iload_n hx hb dX7_write_149 rfl (lv_at hl 0 rfl) ?_
                  refine lv_if_eq (tgt := 311) hx hb dX7_write_150 (by decide) (fun c_150 => ?_) (fun c_150 => ?_)
                  · skip
                    have c_150 : 0 = 0 := (nI_eq0 (i := 0) (by omega)).mp c_150
                    refine lv_goto (tgt := 29) hx hb dX7_write_311 (by decide) ?_
                    exact ih29 j 0 B (by omega) (by omega) (by exact Or.inr ⟨rfl, hwf.symm.trans (hres.resolve_right (fun h => c_35 h.1)).2⟩) (by omega) (by exact hk0) (by omega) (by omega) _ _ (by first | rfl | (congr 1; omega)) (by first | rfl | (congr 1; omega)) _ _ _ (by exact hm0) (by exact hm41) (by intro id h9; exact fr id h9) hW hS _ (lv_sub hl [4, 5, 6, 0] rfl)
                  · skip
                    have c_150 : ¬ (0 = 0) := fun h__ => c_150 ((nI_eq0 (i := 0) (by omega)).mpr h__)
                    exact absurd c_150 (by omega)
                · skip
                  have c_140 : ¬ (80 < B.1 + (((4 + (dl (P.W j 0))) + (dl (P.W j 1))) + (dl (P.W j 2)))) := fun h__ => c_140 ((nI_ltI (a := 80) (b := B.1 + (((4 + (dl (P.W j 0))) + (dl (P.W j 1))) + (dl (P.W j 2)))) (by omega) (by omega)).mpr h__)
                  have hnd : needC B.1 (P.W j 0) (P.W j 1) (P.W j 2) = 4 + dl (P.W j 0) + dl (P.W j 1) + dl (P.W j 2) := by unfold needC; rw [if_neg (by omega)]
                  have hwf := wfin_W (P := P) hj9 (B := B) (by rw [hnd]; omega)
                  refine lv_iconst (v := nI 1) hx hb dX7_write_143 (by decide) ?_
                  refine lv_goto (tgt := 148) hx hb dX7_write_144 (by decide) ?_
                  refine lv_istore_n (lv' := [(3, .int (nI 1)), (6, .int (nI (((4 + (dl (P.W j 0))) + (dl (P.W j 1))) + (dl (P.W j 2))))), (5, .int (nI (7 + 3 * j))), (4, .int (nI 1)), (0, .ref (b + 36)), (1, .int (nI j)), (2, .int (nI (P.w + P.n)))]) hx hb dX7_write_148 rfl hl (by decide) rfl (fun ls hl => ?_)
                  refine lv_iload_n hx hb dX7_write_149 rfl (lv_at hl 0 rfl) ?_
                  refine lv_if_eq (tgt := 311) hx hb dX7_write_150 (by decide) (fun c_150 => ?_) (fun c_150 => ?_)
                  · skip
                    have c_150 : 1 = 0 := (nI_eq0 (i := 1) (by omega)).mp c_150
                    exact absurd c_150 (by omega)
                  · skip
                    have c_150 : ¬ (1 = 0) := fun h__ => c_150 ((nI_eq0 (i := 1) (by omega)).mpr h__)
                    refine lv_iload_n hx hb dX7_write_153 rfl (lv_at hl 5 rfl) ?_
                    refine lv_if_le (tgt := 178) hx hb dX7_write_154 (by decide) (fun c_154 => ?_) (fun c_154 => ?_)
                    · skip
                      have c_154 : j ≤ 0 := (nI_le0 (i := j) (by omega)).mp c_154
                      exact absurd c_154 (by omega)
                    · skip
                      have c_154 : ¬ (j ≤ 0) := fun h__ => c_154 ((nI_le0 (i := j) (by omega)).mpr h__)
                      refine lv_aload_n hx hb dX7_write_157 rfl (lv_at hl 4 rfl) ?_
                      refine q_get hx hb hts hinX7 hown hG hW hm0 rfl 5 (by decide) (hts (.fieldLink RX7 23 "FoleyMixerModel" "text" "[I") (List.mem_of_getElem? (i := 4) rfl)) rfl rfl dX7_write_158 ?_
                      refine lv_aload_n hx hb dX7_write_161 rfl (lv_at hl 4 rfl) ?_
                      refine q_get hx hb hts hinX7 hown hG hW hm0 rfl 6 (by decide) (hts (.fieldLink RX7 117 "FoleyMixerModel" "length" "I") (List.mem_of_getElem? (i := 2) rfl)) rfl rfl dX7_write_162 ?_
                      refine lv_bipush (v := nI 59) hx hb dX7_write_165 (by decide) ?_
                      refine q_nast hx hb hG hW hS hm41 (by omega) (by omega) dX7_write_167 (fun H locs hW hS hz167 => ?_)
                      obtain ⟨w35, ew35⟩ : ∃ wq__ : Wd, wq__ = va_up wa 41 (some (eN dA 80 (va_up B.2 B.1 59))) := ⟨_, rfl⟩
                      replace hW : WP D b w35 H := by rw [ew35]; exact hW
                      have frw35 : ∀ id : Nat, id ≠ 41 → w35 id = wa id := fun id h9 => by rw [ew35, up_ne h9]
                      replace hm0 : w35 36 = some (modO b (nI (n)) (nI (B.1)) (nI (0)) (pl) (lt) (dn)) := (frw35 _ (by omega)).trans hm0
                      replace hm1 : w35 37 = some (eN dA 85 F) := (frw35 _ (by omega)).trans hm1
                      replace hm38 : w35 38 = some (eN dA 510 G) := (frw35 _ (by omega)).trans hm38
                      replace hm39 : w35 39 = some (eN dA 170 GS) := (frw35 _ (by omega)).trans hm39
                      replace hm40 : w35 40 = some (eZ dA 2 Zt) := (frw35 _ (by omega)).trans hm40
                      replace hm42 : w35 42 = some (eN dA 120 D0) := (frw35 _ (by omega)).trans hm42
                      replace hm43 : w35 43 = some (eN dA 120 M0) := (frw35 _ (by omega)).trans hm43
                      replace hm44 : w35 44 = some (eN dA 3 TD) := (frw35 _ (by omega)).trans hm44
                      replace hm41 : w35 41 = some (eN dA 80 (va_up B.2 B.1 59)) := by rw [ew35]; exact up_eq
                      refine lv_aload_n hx hb dX7_write_168 rfl (lv_at hl 4 rfl) ?_
                      refine lv_dup hx hb dX7_write_169 rfl ?_
                      refine q_get hx hb hts hinX7 hown hG hW hm0 rfl 6 (by decide) (hts (.fieldLink RX7 117 "FoleyMixerModel" "length" "I") (List.mem_of_getElem? (i := 2) rfl)) rfl rfl dX7_write_170 ?_
                      refine lv_iconst (v := nI 1) hx hb dX7_write_173 (by decide) ?_
                      refine lv_iadd hx hb dX7_write_174 ?_
                      refine q_top (y := nI (B.1 + 1)) (nI_add _ _) ?_
                      refine q_put hx hb hts hinX7 tyX7_ok nmX7 hown hG hW hS hm0 rfl 6 (by decide) (hts (.fieldLink RX7 117 "FoleyMixerModel" "length" "I") (List.mem_of_getElem? (i := 2) rfl)) rfl rfl rfl rfl (Nat.le_of_ble_eq_true rfl) dX7_write_175 (fun H locs hW hS hz175 => ?_)
                      obtain ⟨w36, ew36⟩ : ∃ wq__ : Wd, wq__ = va_up w35 36 (some (modO b (nI (n)) (nI (B.1 + 1)) (nI (0)) (pl) (lt) (dn))) := ⟨_, rfl⟩
                      replace hW : WP D b w36 H := by rw [ew36]; exact hW
                      have frw36 : ∀ id : Nat, id ≠ 36 → w36 id = w35 id := fun id h9 => by rw [ew36, up_ne h9]
                      replace hm1 : w36 37 = some (eN dA 85 F) := (frw36 _ (by omega)).trans hm1
                      replace hm38 : w36 38 = some (eN dA 510 G) := (frw36 _ (by omega)).trans hm38
                      replace hm39 : w36 39 = some (eN dA 170 GS) := (frw36 _ (by omega)).trans hm39
                      replace hm40 : w36 40 = some (eZ dA 2 Zt) := (frw36 _ (by omega)).trans hm40
                      replace hm41 : w36 41 = some (eN dA 80 (va_up B.2 B.1 59)) := (frw36 _ (by omega)).trans hm41
                      replace hm42 : w36 42 = some (eN dA 120 D0) := (frw36 _ (by omega)).trans hm42
                      replace hm43 : w36 43 = some (eN dA 120 M0) := (frw36 _ (by omega)).trans hm43
                      replace hm44 : w36 44 = some (eN dA 3 TD) := (frw36 _ (by omega)).trans hm44
                      replace hm0 : w36 36 = some (modO b (nI (n)) (nI (B.1 + 1)) (nI (0)) (pl) (lt) (dn)) := by rw [ew36]; exact up_eq
                      obtain ⟨B1, hB1⟩ : ∃ B1 : Bf, B1 = ap B 59 := ⟨_, rfl⟩
                      have hl1 : B1.1 = B.1 + 1 := by rw [hB1]; rfl
                      have hk1 : okB B1 := by rw [hB1]; exact okB_ap hk0 (by omega)
                      replace hm0 : w36 36 = some (modO b (nI (n)) (nI (B1.1)) (nI (0)) (pl) (lt) (dn)) := by rw [hB1]; exact hm0
                      replace hm41 : w36 41 = some (eN dA 80 B1.2) := by rw [hB1]; exact hm41
                      refine lv_aload_n hx hb dX7_write_178 rfl (lv_at hl 4 rfl) ?_
                      refine q_get hx hb hts hinX7 hown hG hW hm0 rfl 5 (by decide) (hts (.fieldLink RX7 23 "FoleyMixerModel" "text" "[I") (List.mem_of_getElem? (i := 4) rfl)) rfl rfl dX7_write_179 ?_
                      refine lv_aload_n hx hb dX7_write_182 rfl (lv_at hl 4 rfl) ?_
                      refine q_get hx hb hts hinX7 hown hG hW hm0 rfl 6 (by decide) (hts (.fieldLink RX7 117 "FoleyMixerModel" "length" "I") (List.mem_of_getElem? (i := 2) rfl)) rfl rfl dX7_write_183 ?_
                      refine lv_iload hx hb dX7_write_186 (lv_at hl 3 rfl) ?_
                      refine lv_if_eq (tgt := 196) hx hb dX7_write_188 (by decide) (fun c_188 => ?_) (fun c_188 => ?_)
                      · skip
                        have c_188 : 1 = 0 := (nI_eq0 (i := 1) (by omega)).mp c_188
                        exact absurd c_188 (by omega)
                      · skip
                        have c_188 : ¬ (1 = 0) := fun h__ => c_188 ((nI_eq0 (i := 1) (by omega)).mpr h__)
                        refine lv_bipush (v := nI 119) hx hb dX7_write_191 (by decide) ?_
                        refine lv_goto (tgt := 216) hx hb dX7_write_193 (by decide) ?_
                        refine q_top (y := nI (sgW j)) (by first | rfl | (refine congrArg nI ?_; unfold sgN; first | (rw [if_pos c_206]; done) | (rw [if_neg c_206]; done))) ?_
                        refine q_nast hx hb hG hW hS hm41 (by omega) (by omega) dX7_write_216 (fun H locs hW hS hz216 => ?_)
                        obtain ⟨w37, ew37⟩ : ∃ wq__ : Wd, wq__ = va_up w36 41 (some (eN dA 80 (va_up B1.2 B1.1 (sgW j)))) := ⟨_, rfl⟩
                        replace hW : WP D b w37 H := by rw [ew37]; exact hW
                        have frw37 : ∀ id : Nat, id ≠ 41 → w37 id = w36 id := fun id h9 => by rw [ew37, up_ne h9]
                        replace hm0 : w37 36 = some (modO b (nI (n)) (nI (B1.1)) (nI (0)) (pl) (lt) (dn)) := (frw37 _ (by omega)).trans hm0
                        replace hm1 : w37 37 = some (eN dA 85 F) := (frw37 _ (by omega)).trans hm1
                        replace hm38 : w37 38 = some (eN dA 510 G) := (frw37 _ (by omega)).trans hm38
                        replace hm39 : w37 39 = some (eN dA 170 GS) := (frw37 _ (by omega)).trans hm39
                        replace hm40 : w37 40 = some (eZ dA 2 Zt) := (frw37 _ (by omega)).trans hm40
                        replace hm42 : w37 42 = some (eN dA 120 D0) := (frw37 _ (by omega)).trans hm42
                        replace hm43 : w37 43 = some (eN dA 120 M0) := (frw37 _ (by omega)).trans hm43
                        replace hm44 : w37 44 = some (eN dA 3 TD) := (frw37 _ (by omega)).trans hm44
                        replace hm41 : w37 41 = some (eN dA 80 (va_up B1.2 B1.1 (sgW j))) := by rw [ew37]; exact up_eq
                        refine lv_aload_n hx hb dX7_write_217 rfl (lv_at hl 4 rfl) ?_
                        refine lv_dup hx hb dX7_write_218 rfl ?_
                        refine q_get hx hb hts hinX7 hown hG hW hm0 rfl 6 (by decide) (hts (.fieldLink RX7 117 "FoleyMixerModel" "length" "I") (List.mem_of_getElem? (i := 2) rfl)) rfl rfl dX7_write_219 ?_
                        refine lv_iconst (v := nI 1) hx hb dX7_write_222 (by decide) ?_
                        refine lv_iadd hx hb dX7_write_223 ?_
                        refine q_top (y := nI (B1.1 + 1)) (nI_add _ _) ?_
                        refine q_put hx hb hts hinX7 tyX7_ok nmX7 hown hG hW hS hm0 rfl 6 (by decide) (hts (.fieldLink RX7 117 "FoleyMixerModel" "length" "I") (List.mem_of_getElem? (i := 2) rfl)) rfl rfl rfl rfl (Nat.le_of_ble_eq_true rfl) dX7_write_224 (fun H locs hW hS hz224 => ?_)
                        obtain ⟨w38, ew38⟩ : ∃ wq__ : Wd, wq__ = va_up w37 36 (some (modO b (nI (n)) (nI (B1.1 + 1)) (nI (0)) (pl) (lt) (dn))) := ⟨_, rfl⟩
                        replace hW : WP D b w38 H := by rw [ew38]; exact hW
                        have frw38 : ∀ id : Nat, id ≠ 36 → w38 id = w37 id := fun id h9 => by rw [ew38, up_ne h9]
                        replace hm1 : w38 37 = some (eN dA 85 F) := (frw38 _ (by omega)).trans hm1
                        replace hm38 : w38 38 = some (eN dA 510 G) := (frw38 _ (by omega)).trans hm38
                        replace hm39 : w38 39 = some (eN dA 170 GS) := (frw38 _ (by omega)).trans hm39
                        replace hm40 : w38 40 = some (eZ dA 2 Zt) := (frw38 _ (by omega)).trans hm40
                        replace hm41 : w38 41 = some (eN dA 80 (va_up B1.2 B1.1 (sgW j))) := (frw38 _ (by omega)).trans hm41
                        replace hm42 : w38 42 = some (eN dA 120 D0) := (frw38 _ (by omega)).trans hm42
                        replace hm43 : w38 43 = some (eN dA 120 M0) := (frw38 _ (by omega)).trans hm43
                        replace hm44 : w38 44 = some (eN dA 3 TD) := (frw38 _ (by omega)).trans hm44
                        replace hm0 : w38 36 = some (modO b (nI (n)) (nI (B1.1 + 1)) (nI (0)) (pl) (lt) (dn)) := by rw [ew38]; exact up_eq
                        obtain ⟨B2, hB2⟩ : ∃ B2 : Bf, B2 = ap B1 (sgW j) := ⟨_, rfl⟩
                        have hl2 : B2.1 = B1.1 + 1 := by rw [hB2]; rfl
                        have hk2 : okB B2 := by rw [hB2]; exact okB_ap hk1 (by show 119 < 128; decide)
                        replace hm0 : w38 36 = some (modO b (nI (n)) (nI (B2.1)) (nI (0)) (pl) (lt) (dn)) := by rw [hB2]; exact hm0
                        replace hm41 : w38 41 = some (eN dA 80 B2.2) := by rw [hB2]; exact hm41
                        refine lv_aload_n hx hb dX7_write_227 rfl (lv_at hl 4 rfl) ?_
                        refine lv_aload_n hx hb dX7_write_228 rfl (lv_at hl 4 rfl) ?_
                        refine q_get hx hb hts hinX7 hown hG hW hm0 rfl 0 (by decide) (hts (.fieldLink RX7 7 "FoleyMixerModel" "s" "[I") (List.mem_of_getElem? (i := 3) rfl)) rfl rfl dX7_write_229 ?_
                        refine lv_iload hx hb dX7_write_232 (lv_at hl 2 rfl) ?_
                        refine lv_iconst (v := nI 0) hx hb dX7_write_234 (by decide) ?_
                        refine lv_iadd hx hb dX7_write_235 ?_
                        refine q_top (y := nI ((7 + 3 * j) + 0)) (nI_add _ _) ?_
                        refine q_iald hx hb hG hW hm1 (by omega) (by omega) dX7_write_236 ?_
                        refine q_top (y := nI (P.W j 0)) (by exact congrArg nI (hRp.2.2.2.1 _ hj9 0 (by decide))) ?_
                        refine q_W0 (va_runV (As := [.int (nI (P.W j 0))]) (rest := []) ⟨hx, hb, hml, hown, hts⟩ (c_X7_writeNumber l (B := B2) hm0 hm41 (P.W j 0) (by omega) (by omega)) (cwV 1 hts gX7_write_X7_writeNumber rfl rfl rfl (by decide +kernel) ⟨Nat.le_of_ble_eq_true rfl, Nat.le_of_ble_eq_true rfl⟩) (q_preV hG hW hS hm0 rfl) rfl rfl hl.1 rfl (lv_room (Nat.le_of_ble_eq_true rfl)) dX7_write_237 ⟨Nat.le_of_ble_eq_true rfl, Nat.le_of_ble_eq_true rfl⟩) hS (fun w_237 H locs hp237 hW hS => ?_)
                        obtain ⟨hm0, hm41, fr237⟩ := hp237
                        replace hm1 : w_237 37 = some (eN dA 85 F) := (fr237 _ (by omega)).trans hm1
                        replace hm38 : w_237 38 = some (eN dA 510 G) := (fr237 _ (by omega)).trans hm38
                        replace hm39 : w_237 39 = some (eN dA 170 GS) := (fr237 _ (by omega)).trans hm39
                        replace hm40 : w_237 40 = some (eZ dA 2 Zt) := (fr237 _ (by omega)).trans hm40
                        replace hm42 : w_237 42 = some (eN dA 120 D0) := (fr237 _ (by omega)).trans hm42
                        replace hm43 : w_237 43 = some (eN dA 120 M0) := (fr237 _ (by omega)).trans hm43
                        replace hm44 : w_237 44 = some (eN dA 3 TD) := (fr237 _ (by omega)).trans hm44
                        obtain ⟨B3, hB3⟩ : ∃ B3 : Bf, B3 = apN B2 (P.W j 0) := ⟨_, rfl⟩
                        have hl3 : B3.1 = B2.1 + dl (P.W j 0) := by rw [hB3]; exact apN_len _ _
                        have hk3 : okB B3 := by rw [hB3]; exact okB_apN hk2 (by omega)
                        replace hm0 : w_237 36 = some (modO b (nI (n)) (nI (B3.1)) (nI (0)) (pl) (lt) (dn)) := by rw [hB3]; exact hm0
                        replace hm41 : w_237 41 = some (eN dA 80 B3.2) := by rw [hB3]; exact hm41
                        refine lv_aload_n hx hb dX7_write_240 rfl (lv_at hl 4 rfl) ?_
                        refine q_get hx hb hts hinX7 hown hG hW hm0 rfl 5 (by decide) (hts (.fieldLink RX7 23 "FoleyMixerModel" "text" "[I") (List.mem_of_getElem? (i := 4) rfl)) rfl rfl dX7_write_241 ?_
                        refine lv_aload_n hx hb dX7_write_244 rfl (lv_at hl 4 rfl) ?_
                        refine q_get hx hb hts hinX7 hown hG hW hm0 rfl 6 (by decide) (hts (.fieldLink RX7 117 "FoleyMixerModel" "length" "I") (List.mem_of_getElem? (i := 2) rfl)) rfl rfl dX7_write_245 ?_
                        refine lv_bipush (v := nI 43) hx hb dX7_write_248 (by decide) ?_
                        refine q_nast hx hb hG hW hS hm41 (by omega) (by omega) dX7_write_250 (fun H locs hW hS hz250 => ?_)
                        obtain ⟨w39, ew39⟩ : ∃ wq__ : Wd, wq__ = va_up w_237 41 (some (eN dA 80 (va_up B3.2 B3.1 43))) := ⟨_, rfl⟩
                        replace hW : WP D b w39 H := by rw [ew39]; exact hW
                        have frw39 : ∀ id : Nat, id ≠ 41 → w39 id = w_237 id := fun id h9 => by rw [ew39, up_ne h9]
                        replace hm1 : w39 37 = some (eN dA 85 F) := (frw39 _ (by omega)).trans hm1
                        replace hm38 : w39 38 = some (eN dA 510 G) := (frw39 _ (by omega)).trans hm38
                        replace hm39 : w39 39 = some (eN dA 170 GS) := (frw39 _ (by omega)).trans hm39
                        replace hm40 : w39 40 = some (eZ dA 2 Zt) := (frw39 _ (by omega)).trans hm40
                        replace hm42 : w39 42 = some (eN dA 120 D0) := (frw39 _ (by omega)).trans hm42
                        replace hm43 : w39 43 = some (eN dA 120 M0) := (frw39 _ (by omega)).trans hm43
                        replace hm44 : w39 44 = some (eN dA 3 TD) := (frw39 _ (by omega)).trans hm44
                        replace hm0 : w39 36 = some (modO b (nI (n)) (nI (B3.1)) (nI (0)) (pl) (lt) (dn)) := (frw39 _ (by omega)).trans hm0
                        replace hm41 : w39 41 = some (eN dA 80 (va_up B3.2 B3.1 43)) := by rw [ew39]; exact up_eq
                        refine lv_aload_n hx hb dX7_write_251 rfl (lv_at hl 4 rfl) ?_
                        refine lv_dup hx hb dX7_write_252 rfl ?_
                        refine q_get hx hb hts hinX7 hown hG hW hm0 rfl 6 (by decide) (hts (.fieldLink RX7 117 "FoleyMixerModel" "length" "I") (List.mem_of_getElem? (i := 2) rfl)) rfl rfl dX7_write_253 ?_
                        refine lv_iconst (v := nI 1) hx hb dX7_write_256 (by decide) ?_
                        refine lv_iadd hx hb dX7_write_257 ?_
                        refine q_top (y := nI (B3.1 + 1)) (nI_add _ _) ?_
                        refine q_put hx hb hts hinX7 tyX7_ok nmX7 hown hG hW hS hm0 rfl 6 (by decide) (hts (.fieldLink RX7 117 "FoleyMixerModel" "length" "I") (List.mem_of_getElem? (i := 2) rfl)) rfl rfl rfl rfl (Nat.le_of_ble_eq_true rfl) dX7_write_258 (fun H locs hW hS hz258 => ?_)
                        obtain ⟨w40, ew40⟩ : ∃ wq__ : Wd, wq__ = va_up w39 36 (some (modO b (nI (n)) (nI (B3.1 + 1)) (nI (0)) (pl) (lt) (dn))) := ⟨_, rfl⟩
                        replace hW : WP D b w40 H := by rw [ew40]; exact hW
                        have frw40 : ∀ id : Nat, id ≠ 36 → w40 id = w39 id := fun id h9 => by rw [ew40, up_ne h9]
                        replace hm1 : w40 37 = some (eN dA 85 F) := (frw40 _ (by omega)).trans hm1
                        replace hm38 : w40 38 = some (eN dA 510 G) := (frw40 _ (by omega)).trans hm38
                        replace hm39 : w40 39 = some (eN dA 170 GS) := (frw40 _ (by omega)).trans hm39
                        replace hm40 : w40 40 = some (eZ dA 2 Zt) := (frw40 _ (by omega)).trans hm40
                        replace hm42 : w40 42 = some (eN dA 120 D0) := (frw40 _ (by omega)).trans hm42
                        replace hm43 : w40 43 = some (eN dA 120 M0) := (frw40 _ (by omega)).trans hm43
                        replace hm44 : w40 44 = some (eN dA 3 TD) := (frw40 _ (by omega)).trans hm44
                        replace hm41 : w40 41 = some (eN dA 80 (va_up B3.2 B3.1 43)) := (frw40 _ (by omega)).trans hm41
                        replace hm0 : w40 36 = some (modO b (nI (n)) (nI (B3.1 + 1)) (nI (0)) (pl) (lt) (dn)) := by rw [ew40]; exact up_eq
                        obtain ⟨B4, hB4⟩ : ∃ B4 : Bf, B4 = ap B3 43 := ⟨_, rfl⟩
                        have hl4 : B4.1 = B3.1 + 1 := by rw [hB4]; rfl
                        have hk4 : okB B4 := by rw [hB4]; exact okB_ap hk3 (by omega)
                        replace hm0 : w40 36 = some (modO b (nI (n)) (nI (B4.1)) (nI (0)) (pl) (lt) (dn)) := by rw [hB4]; exact hm0
                        replace hm41 : w40 41 = some (eN dA 80 B4.2) := by rw [hB4]; exact hm41
                        refine lv_aload_n hx hb dX7_write_261 rfl (lv_at hl 4 rfl) ?_
                        refine lv_aload_n hx hb dX7_write_262 rfl (lv_at hl 4 rfl) ?_
                        refine q_get hx hb hts hinX7 hown hG hW hm0 rfl 0 (by decide) (hts (.fieldLink RX7 7 "FoleyMixerModel" "s" "[I") (List.mem_of_getElem? (i := 3) rfl)) rfl rfl dX7_write_263 ?_
                        refine lv_iload hx hb dX7_write_266 (lv_at hl 2 rfl) ?_
                        refine lv_iconst (v := nI 1) hx hb dX7_write_268 (by decide) ?_
                        refine lv_iadd hx hb dX7_write_269 ?_
                        refine q_top (y := nI ((7 + 3 * j) + 1)) (nI_add _ _) ?_
                        refine q_iald hx hb hG hW hm1 (by omega) (by omega) dX7_write_270 ?_
                        refine q_top (y := nI (P.W j 1)) (by exact congrArg nI (hRp.2.2.2.1 _ hj9 1 (by decide))) ?_
                        refine q_W0 (va_runV (As := [.int (nI (P.W j 1))]) (rest := []) ⟨hx, hb, hml, hown, hts⟩ (c_X7_writeNumber l (B := B4) hm0 hm41 (P.W j 1) (by omega) (by omega)) (cwV 1 hts gX7_write_X7_writeNumber rfl rfl rfl (by decide +kernel) ⟨Nat.le_of_ble_eq_true rfl, Nat.le_of_ble_eq_true rfl⟩) (q_preV hG hW hS hm0 rfl) rfl rfl hl.1 rfl (lv_room (Nat.le_of_ble_eq_true rfl)) dX7_write_271 ⟨Nat.le_of_ble_eq_true rfl, Nat.le_of_ble_eq_true rfl⟩) hS (fun w_271 H locs hp271 hW hS => ?_)
                        obtain ⟨hm0, hm41, fr271⟩ := hp271
                        replace hm1 : w_271 37 = some (eN dA 85 F) := (fr271 _ (by omega)).trans hm1
                        replace hm38 : w_271 38 = some (eN dA 510 G) := (fr271 _ (by omega)).trans hm38
                        replace hm39 : w_271 39 = some (eN dA 170 GS) := (fr271 _ (by omega)).trans hm39
                        replace hm40 : w_271 40 = some (eZ dA 2 Zt) := (fr271 _ (by omega)).trans hm40
                        replace hm42 : w_271 42 = some (eN dA 120 D0) := (fr271 _ (by omega)).trans hm42
                        replace hm43 : w_271 43 = some (eN dA 120 M0) := (fr271 _ (by omega)).trans hm43
                        replace hm44 : w_271 44 = some (eN dA 3 TD) := (fr271 _ (by omega)).trans hm44
                        obtain ⟨B5, hB5⟩ : ∃ B5 : Bf, B5 = apN B4 (P.W j 1) := ⟨_, rfl⟩
                        have hl5 : B5.1 = B4.1 + dl (P.W j 1) := by rw [hB5]; exact apN_len _ _
                        have hk5 : okB B5 := by rw [hB5]; exact okB_apN hk4 (by omega)
                        replace hm0 : w_271 36 = some (modO b (nI (n)) (nI (B5.1)) (nI (0)) (pl) (lt) (dn)) := by rw [hB5]; exact hm0
                        replace hm41 : w_271 41 = some (eN dA 80 B5.2) := by rw [hB5]; exact hm41
                        refine lv_aload_n hx hb dX7_write_274 rfl (lv_at hl 4 rfl) ?_
                        refine q_get hx hb hts hinX7 hown hG hW hm0 rfl 5 (by decide) (hts (.fieldLink RX7 23 "FoleyMixerModel" "text" "[I") (List.mem_of_getElem? (i := 4) rfl)) rfl rfl dX7_write_275 ?_
                        refine lv_aload_n hx hb dX7_write_278 rfl (lv_at hl 4 rfl) ?_
                        refine q_get hx hb hts hinX7 hown hG hW hm0 rfl 6 (by decide) (hts (.fieldLink RX7 117 "FoleyMixerModel" "length" "I") (List.mem_of_getElem? (i := 2) rfl)) rfl rfl dX7_write_279 ?_
                        refine lv_bipush (v := nI 64) hx hb dX7_write_282 (by decide) ?_
                        refine q_nast hx hb hG hW hS hm41 (by omega) (by omega) dX7_write_284 (fun H locs hW hS hz284 => ?_)
                        obtain ⟨w41, ew41⟩ : ∃ wq__ : Wd, wq__ = va_up w_271 41 (some (eN dA 80 (va_up B5.2 B5.1 64))) := ⟨_, rfl⟩
                        replace hW : WP D b w41 H := by rw [ew41]; exact hW
                        have frw41 : ∀ id : Nat, id ≠ 41 → w41 id = w_271 id := fun id h9 => by rw [ew41, up_ne h9]
                        replace hm1 : w41 37 = some (eN dA 85 F) := (frw41 _ (by omega)).trans hm1
                        replace hm38 : w41 38 = some (eN dA 510 G) := (frw41 _ (by omega)).trans hm38
                        replace hm39 : w41 39 = some (eN dA 170 GS) := (frw41 _ (by omega)).trans hm39
                        replace hm40 : w41 40 = some (eZ dA 2 Zt) := (frw41 _ (by omega)).trans hm40
                        replace hm42 : w41 42 = some (eN dA 120 D0) := (frw41 _ (by omega)).trans hm42
                        replace hm43 : w41 43 = some (eN dA 120 M0) := (frw41 _ (by omega)).trans hm43
                        replace hm44 : w41 44 = some (eN dA 3 TD) := (frw41 _ (by omega)).trans hm44
                        replace hm0 : w41 36 = some (modO b (nI (n)) (nI (B5.1)) (nI (0)) (pl) (lt) (dn)) := (frw41 _ (by omega)).trans hm0
                        replace hm41 : w41 41 = some (eN dA 80 (va_up B5.2 B5.1 64)) := by rw [ew41]; exact up_eq
                        refine lv_aload_n hx hb dX7_write_285 rfl (lv_at hl 4 rfl) ?_
                        refine lv_dup hx hb dX7_write_286 rfl ?_
                        refine q_get hx hb hts hinX7 hown hG hW hm0 rfl 6 (by decide) (hts (.fieldLink RX7 117 "FoleyMixerModel" "length" "I") (List.mem_of_getElem? (i := 2) rfl)) rfl rfl dX7_write_287 ?_
                        refine lv_iconst (v := nI 1) hx hb dX7_write_290 (by decide) ?_
                        refine lv_iadd hx hb dX7_write_291 ?_
                        refine q_top (y := nI (B5.1 + 1)) (nI_add _ _) ?_
                        refine q_put hx hb hts hinX7 tyX7_ok nmX7 hown hG hW hS hm0 rfl 6 (by decide) (hts (.fieldLink RX7 117 "FoleyMixerModel" "length" "I") (List.mem_of_getElem? (i := 2) rfl)) rfl rfl rfl rfl (Nat.le_of_ble_eq_true rfl) dX7_write_292 (fun H locs hW hS hz292 => ?_)
                        obtain ⟨w42, ew42⟩ : ∃ wq__ : Wd, wq__ = va_up w41 36 (some (modO b (nI (n)) (nI (B5.1 + 1)) (nI (0)) (pl) (lt) (dn))) := ⟨_, rfl⟩
                        replace hW : WP D b w42 H := by rw [ew42]; exact hW
                        have frw42 : ∀ id : Nat, id ≠ 36 → w42 id = w41 id := fun id h9 => by rw [ew42, up_ne h9]
                        replace hm1 : w42 37 = some (eN dA 85 F) := (frw42 _ (by omega)).trans hm1
                        replace hm38 : w42 38 = some (eN dA 510 G) := (frw42 _ (by omega)).trans hm38
                        replace hm39 : w42 39 = some (eN dA 170 GS) := (frw42 _ (by omega)).trans hm39
                        replace hm40 : w42 40 = some (eZ dA 2 Zt) := (frw42 _ (by omega)).trans hm40
                        replace hm42 : w42 42 = some (eN dA 120 D0) := (frw42 _ (by omega)).trans hm42
                        replace hm43 : w42 43 = some (eN dA 120 M0) := (frw42 _ (by omega)).trans hm43
                        replace hm44 : w42 44 = some (eN dA 3 TD) := (frw42 _ (by omega)).trans hm44
                        replace hm41 : w42 41 = some (eN dA 80 (va_up B5.2 B5.1 64)) := (frw42 _ (by omega)).trans hm41
                        replace hm0 : w42 36 = some (modO b (nI (n)) (nI (B5.1 + 1)) (nI (0)) (pl) (lt) (dn)) := by rw [ew42]; exact up_eq
                        obtain ⟨B6, hB6⟩ : ∃ B6 : Bf, B6 = ap B5 64 := ⟨_, rfl⟩
                        have hl6 : B6.1 = B5.1 + 1 := by rw [hB6]; rfl
                        have hk6 : okB B6 := by rw [hB6]; exact okB_ap hk5 (by omega)
                        replace hm0 : w42 36 = some (modO b (nI (n)) (nI (B6.1)) (nI (0)) (pl) (lt) (dn)) := by rw [hB6]; exact hm0
                        replace hm41 : w42 41 = some (eN dA 80 B6.2) := by rw [hB6]; exact hm41
                        refine lv_aload_n hx hb dX7_write_295 rfl (lv_at hl 4 rfl) ?_
                        refine lv_aload_n hx hb dX7_write_296 rfl (lv_at hl 4 rfl) ?_
                        refine q_get hx hb hts hinX7 hown hG hW hm0 rfl 0 (by decide) (hts (.fieldLink RX7 7 "FoleyMixerModel" "s" "[I") (List.mem_of_getElem? (i := 3) rfl)) rfl rfl dX7_write_297 ?_
                        refine lv_iload hx hb dX7_write_300 (lv_at hl 2 rfl) ?_
                        refine lv_iconst (v := nI 2) hx hb dX7_write_302 (by decide) ?_
                        refine lv_iadd hx hb dX7_write_303 ?_
                        refine q_top (y := nI ((7 + 3 * j) + 2)) (nI_add _ _) ?_
                        refine q_iald hx hb hG hW hm1 (by omega) (by omega) dX7_write_304 ?_
                        refine q_top (y := nI (P.W j 2)) (by exact congrArg nI (hRp.2.2.2.1 _ hj9 2 (by decide))) ?_
                        refine q_W0 (va_runV (As := [.int (nI (P.W j 2))]) (rest := []) ⟨hx, hb, hml, hown, hts⟩ (c_X7_writeNumber l (B := B6) hm0 hm41 (P.W j 2) (by omega) (by omega)) (cwV 1 hts gX7_write_X7_writeNumber rfl rfl rfl (by decide +kernel) ⟨Nat.le_of_ble_eq_true rfl, Nat.le_of_ble_eq_true rfl⟩) (q_preV hG hW hS hm0 rfl) rfl rfl hl.1 rfl (lv_room (Nat.le_of_ble_eq_true rfl)) dX7_write_305 ⟨Nat.le_of_ble_eq_true rfl, Nat.le_of_ble_eq_true rfl⟩) hS (fun w_305 H locs hp305 hW hS => ?_)
                        obtain ⟨hm0, hm41, fr305⟩ := hp305
                        replace hm1 : w_305 37 = some (eN dA 85 F) := (fr305 _ (by omega)).trans hm1
                        replace hm38 : w_305 38 = some (eN dA 510 G) := (fr305 _ (by omega)).trans hm38
                        replace hm39 : w_305 39 = some (eN dA 170 GS) := (fr305 _ (by omega)).trans hm39
                        replace hm40 : w_305 40 = some (eZ dA 2 Zt) := (fr305 _ (by omega)).trans hm40
                        replace hm42 : w_305 42 = some (eN dA 120 D0) := (fr305 _ (by omega)).trans hm42
                        replace hm43 : w_305 43 = some (eN dA 120 M0) := (fr305 _ (by omega)).trans hm43
                        replace hm44 : w_305 44 = some (eN dA 3 TD) := (fr305 _ (by omega)).trans hm44
                        obtain ⟨B7, hB7⟩ : ∃ B7 : Bf, B7 = apN B6 (P.W j 2) := ⟨_, rfl⟩
                        have hl7 : B7.1 = B6.1 + dl (P.W j 2) := by rw [hB7]; exact apN_len _ _
                        have hk7 : okB B7 := by rw [hB7]; exact okB_apN hk6 (by omega)
                        replace hm0 : w_305 36 = some (modO b (nI (n)) (nI (B7.1)) (nI (0)) (pl) (lt) (dn)) := by rw [hB7]; exact hm0
                        replace hm41 : w_305 41 = some (eN dA 80 B7.2) := by rw [hB7]; exact hm41
                        have hB9 : B7 = apC B (sgW j) (P.W j 0) (P.W j 1) (P.W j 2) := apC_one (by rw [if_neg (by omega)]; exact hB1) hB2 hB3 hB4 hB5 hB6 hB7
                        rw [← hB9] at hwf
                        refine lv_iinc (v := nI (j + 1)) (lv' := [(1, .int (nI (j + 1))), (3, .int (nI 1)), (6, .int (nI (((4 + (dl (P.W j 0))) + (dl (P.W j 1))) + (dl (P.W j 2))))), (5, .int (nI (7 + 3 * j))), (4, .int (nI 1)), (0, .ref (b + 36)), (2, .int (nI (P.w + P.n)))]) hx hb dX7_write_308 hl (k := 5) rfl (nI_add _ 1) (by decide) rfl (fun ls hl => ?_)
                        refine lv_goto (tgt := 29) hx hb dX7_write_311 (by decide) ?_
                        exact ih29 (j + 1) 1 B7 (by omega) (by omega) (by exact Or.inl ⟨rfl, hwf.symm.trans (hres.resolve_right (fun h => c_35 h.1)).2⟩) (by omega) (by exact hk7) (by omega) (by omega) _ _ (by first | rfl | (congr 1; omega)) (by first | rfl | (congr 1; omega)) _ _ _ (by exact hm0) (by exact hm41) (by intro id h9; rw [fr305 id (by omega)]; rw [frw42 id (by omega)]; rw [frw41 id (by omega)]; rw [fr271 id (by omega)]; rw [frw40 id (by omega)]; rw [frw39 id (by omega)]; rw [fr237 id (by omega)]; rw [frw38 id (by omega)]; rw [frw37 id (by omega)]; rw [frw36 id (by omega)]; rw [frw35 id (by omega)]; exact fr id h9) hW hS _ (lv_sub hl [5, 0, 6, 1] rfl)
  exact L29 ((2 * (P.w + P.n - 0) + 1) + 1) 0 1 (0, C) (by omega) (by omega) (by exact Or.inl ⟨rfl, wfin_0 P C⟩) (by exact Nat.zero_le _) (by exact fun i hi => absurd hi (Nat.not_lt_zero i)) (by exact ⟨fun _ => rfl, fun h => absurd h (Nat.lt_irrefl 0)⟩) (Nat.lt_succ_self _) _ _ (by first | rfl | (congr 1; omega)) (by first | rfl | (congr 1; omega)) _ _ _ (by exact hm0) (by exact hm41) (by intro id h9; rw [frw2 id (by omega)]; rw [frw1 id (by omega)]; try rfl) hW hS _ (lv_sub hl [3, 2, 1, 0] rfl)

set_option maxHeartbeats 300000 in
set_option maxRecDepth 100000 in
/-- FoleyMixerModel() -/
theorem c_X7_init (l : Launch) {D : va_G} {dA : Nat → Nat} {b : Nat} {w : Wd} (hk0 : w 36 = some (.inr (7, [.null, .null, .int (nI 0), .null, .null, .null, .int (nI 0), .int (nI 0), .null, .null, .int (nI 0), .int (nI 0), .null, .int (nI 0)]))) : Met l yX7_init wsX7_init ({ frames := 1, cells := 8, slots := 1090, locals := 12 } : Room) (PZ D dA b w 37 [.ref (b + 36)]) (QZ D b none (45) (fun w' => isMod dA b w' (P0, (0, fun _ => P0), (fun _ => none), (0, fun _ => 0)) 0 ∧ ∀ id : Nat, (id < 36 ∨ 45 ≤ id) → w' id = w id)) 8 1090 (Fb b) := by
  refine q_ofZ (cc := cX7_init) (maxL := 1) (ret := none) (by decide) rfl rfl ?_
  intro p e s m args below meth c ls hx hb hr hml hts hown hlocks hin0 hG hW hS hz hl
  have hown : s.vm.findClass RX7 = some m.cls := hown
  have hinX7 : ∀ w ∈ u_ws RX7 TX7 14, w ∈ wsX7_init := fun w h => (goodIn_r (big := wsX7_init) (u_ws RX7 TX7 14) [14, 15, 16, 17, 18, 19, 20, 21, 22, 23, 24, 25, 26, 27] (by decide +kernel) (by decide +kernel) w h).1
  have hl : lv_has ls 1 [(0, .ref (b + 36))] := hl
  refine lv_aload_n hx hb dX7_init_0 rfl (lv_at hl 0 rfl) ?_
  refine W.objInit hx hb hown (hts (.methodLink RX7 1 objectInit) (List.mem_of_getElem? (i := 1) rfl)) (hts (.instanceMethod objectInit) (List.mem_of_getElem? (i := 2) rfl)) (hts _ (List.mem_of_getElem? (i := 3) rfl)) rfl (by rw [hml]; exact hl.1) rfl dX7_init_1 (Nat.le_of_ble_eq_true rfl) (Nat.le_of_ble_eq_true rfl) ?_
  refine W.eq (g2 := F0 m 4 ls []) rfl ?_
  refine lv_aload_n hx hb dX7_init_4 rfl (lv_at hl 0 rfl) ?_
  refine lv_bipush (v := nI 85) hx hb dX7_init_5 (by decide) ?_
  refine q_newI hx hb (hts (.arrayClass .int) (List.mem_of_getElem? (i := 4) rfl)) hG hW hS hz (by decide) (Nat.le_of_ble_eq_true rfl) (Nat.le_of_ble_eq_true rfl) dX7_init_7 (fun H hW hS hz => ?_)
  obtain ⟨w1, ew1⟩ : ∃ wq__ : Wd, wq__ = va_up w 37 (some (eN dA 85 (fun _ => 0))) := ⟨_, rfl⟩
  rw [← ew1] at hW
  have frw1 : ∀ id : Nat, id ≠ 37 → w1 id = w id := fun id h9 => by rw [ew1, up_ne h9]
  replace hk0 : w1 36 = some (.inr (7, [.null, .null, .int (nI 0), .null, .null, .null, .int (nI 0), .int (nI 0), .null, .null, .int (nI 0), .int (nI 0), .null, .int (nI 0)])) := (frw1 _ (by omega)).trans hk0
  have hn7_1 : w1 37 = some (eN dA 85 (fun _ => 0)) := by rw [ew1]; exact up_eq
  refine q_putF hx hb hts hinX7 tyX7_ok nmX7 hown hG hW hS hk0 rfl 0 (by decide) (hts (.fieldLink RX7 7 "FoleyMixerModel" "s" "[I") (List.mem_of_getElem? (i := 5) rfl)) rfl rfl hin0 rfl rfl rfl (Nat.le_of_ble_eq_true rfl) dX7_init_9 (fun H locs hW hS hz9 => ?_)
  replace hz := hz9.trans hz
  obtain ⟨w2, ew2⟩ : ∃ wq__ : Wd, wq__ = va_up w1 36 (some (.inr (7, [.ref (b + 37), .null, .int (nI 0), .null, .null, .null, .int (nI 0), .int (nI 0), .null, .null, .int (nI 0), .int (nI 0), .null, .int (nI 0)]))) := ⟨_, rfl⟩
  replace hW : WP D b w2 H := by rw [ew2]; exact hW
  have frw2 : ∀ id : Nat, id ≠ 36 → w2 id = w1 id := fun id h9 => by rw [ew2, up_ne h9]
  replace hn7_1 : w2 37 = some (eN dA 85 (fun _ => 0)) := (frw2 _ (by omega)).trans hn7_1
  replace hk0 : w2 36 = some (.inr (7, [.ref (b + 37), .null, .int (nI 0), .null, .null, .null, .int (nI 0), .int (nI 0), .null, .null, .int (nI 0), .int (nI 0), .null, .int (nI 0)])) := by rw [ew2]; exact up_eq
  refine lv_aload_n hx hb dX7_init_12 rfl (lv_at hl 0 rfl) ?_
  refine lv_sipush (v := nI 510) hx hb dX7_init_13 (by decide) ?_
  refine q_newI hx hb (hts (.arrayClass .int) (List.mem_of_getElem? (i := 4) rfl)) hG hW hS hz (by decide) (Nat.le_of_ble_eq_true rfl) (Nat.le_of_ble_eq_true rfl) dX7_init_16 (fun H hW hS hz => ?_)
  obtain ⟨w3, ew3⟩ : ∃ wq__ : Wd, wq__ = va_up w2 38 (some (eN dA 510 (fun _ => 0))) := ⟨_, rfl⟩
  rw [← ew3] at hW
  have frw3 : ∀ id : Nat, id ≠ 38 → w3 id = w2 id := fun id h9 => by rw [ew3, up_ne h9]
  replace hk0 : w3 36 = some (.inr (7, [.ref (b + 37), .null, .int (nI 0), .null, .null, .null, .int (nI 0), .int (nI 0), .null, .null, .int (nI 0), .int (nI 0), .null, .int (nI 0)])) := (frw3 _ (by omega)).trans hk0
  replace hn7_1 : w3 37 = some (eN dA 85 (fun _ => 0)) := (frw3 _ (by omega)).trans hn7_1
  have hn16_3 : w3 38 = some (eN dA 510 (fun _ => 0)) := by rw [ew3]; exact up_eq
  refine q_putF hx hb hts hinX7 tyX7_ok nmX7 hown hG hW hS hk0 rfl 1 (by decide) (hts (.fieldLink RX7 13 "FoleyMixerModel" "saved" "[I") (List.mem_of_getElem? (i := 6) rfl)) rfl rfl hin0 rfl rfl rfl (Nat.le_of_ble_eq_true rfl) dX7_init_18 (fun H locs hW hS hz18 => ?_)
  replace hz := hz18.trans hz
  obtain ⟨w4, ew4⟩ : ∃ wq__ : Wd, wq__ = va_up w3 36 (some (.inr (7, [.ref (b + 37), .ref (b + 38), .int (nI 0), .null, .null, .null, .int (nI 0), .int (nI 0), .null, .null, .int (nI 0), .int (nI 0), .null, .int (nI 0)]))) := ⟨_, rfl⟩
  replace hW : WP D b w4 H := by rw [ew4]; exact hW
  have frw4 : ∀ id : Nat, id ≠ 36 → w4 id = w3 id := fun id h9 => by rw [ew4, up_ne h9]
  replace hn7_1 : w4 37 = some (eN dA 85 (fun _ => 0)) := (frw4 _ (by omega)).trans hn7_1
  replace hn16_3 : w4 38 = some (eN dA 510 (fun _ => 0)) := (frw4 _ (by omega)).trans hn16_3
  replace hk0 : w4 36 = some (.inr (7, [.ref (b + 37), .ref (b + 38), .int (nI 0), .null, .null, .null, .int (nI 0), .int (nI 0), .null, .null, .int (nI 0), .int (nI 0), .null, .int (nI 0)])) := by rw [ew4]; exact up_eq
  refine lv_aload_n hx hb dX7_init_21 rfl (lv_at hl 0 rfl) ?_
  refine lv_sipush (v := nI 170) hx hb dX7_init_22 (by decide) ?_
  refine q_newI hx hb (hts (.arrayClass .int) (List.mem_of_getElem? (i := 4) rfl)) hG hW hS hz (by decide) (Nat.le_of_ble_eq_true rfl) (Nat.le_of_ble_eq_true rfl) dX7_init_25 (fun H hW hS hz => ?_)
  obtain ⟨w5, ew5⟩ : ∃ wq__ : Wd, wq__ = va_up w4 39 (some (eN dA 170 (fun _ => 0))) := ⟨_, rfl⟩
  rw [← ew5] at hW
  have frw5 : ∀ id : Nat, id ≠ 39 → w5 id = w4 id := fun id h9 => by rw [ew5, up_ne h9]
  replace hk0 : w5 36 = some (.inr (7, [.ref (b + 37), .ref (b + 38), .int (nI 0), .null, .null, .null, .int (nI 0), .int (nI 0), .null, .null, .int (nI 0), .int (nI 0), .null, .int (nI 0)])) := (frw5 _ (by omega)).trans hk0
  replace hn7_1 : w5 37 = some (eN dA 85 (fun _ => 0)) := (frw5 _ (by omega)).trans hn7_1
  replace hn16_3 : w5 38 = some (eN dA 510 (fun _ => 0)) := (frw5 _ (by omega)).trans hn16_3
  have hn25_5 : w5 39 = some (eN dA 170 (fun _ => 0)) := by rw [ew5]; exact up_eq
  refine q_putF hx hb hts hinX7 tyX7_ok nmX7 hown hG hW hS hk0 rfl 3 (by decide) (hts (.fieldLink RX7 16 "FoleyMixerModel" "slots" "[I") (List.mem_of_getElem? (i := 7) rfl)) rfl rfl hin0 rfl rfl rfl (Nat.le_of_ble_eq_true rfl) dX7_init_27 (fun H locs hW hS hz27 => ?_)
  replace hz := hz27.trans hz
  obtain ⟨w6, ew6⟩ : ∃ wq__ : Wd, wq__ = va_up w5 36 (some (.inr (7, [.ref (b + 37), .ref (b + 38), .int (nI 0), .ref (b + 39), .null, .null, .int (nI 0), .int (nI 0), .null, .null, .int (nI 0), .int (nI 0), .null, .int (nI 0)]))) := ⟨_, rfl⟩
  replace hW : WP D b w6 H := by rw [ew6]; exact hW
  have frw6 : ∀ id : Nat, id ≠ 36 → w6 id = w5 id := fun id h9 => by rw [ew6, up_ne h9]
  replace hn7_1 : w6 37 = some (eN dA 85 (fun _ => 0)) := (frw6 _ (by omega)).trans hn7_1
  replace hn16_3 : w6 38 = some (eN dA 510 (fun _ => 0)) := (frw6 _ (by omega)).trans hn16_3
  replace hn25_5 : w6 39 = some (eN dA 170 (fun _ => 0)) := (frw6 _ (by omega)).trans hn25_5
  replace hk0 : w6 36 = some (.inr (7, [.ref (b + 37), .ref (b + 38), .int (nI 0), .ref (b + 39), .null, .null, .int (nI 0), .int (nI 0), .null, .null, .int (nI 0), .int (nI 0), .null, .int (nI 0)])) := by rw [ew6]; exact up_eq
  refine lv_aload_n hx hb dX7_init_30 rfl (lv_at hl 0 rfl) ?_
  refine lv_iconst (v := nI 2) hx hb dX7_init_31 (by decide) ?_
  refine q_newZ hx hb (hts (.arrayClass .boolean) (List.mem_of_getElem? (i := 8) rfl)) hG hW hS hz (by decide) (Nat.le_of_ble_eq_true rfl) (Nat.le_of_ble_eq_true rfl) dX7_init_32 (fun H hW hS hz => ?_)
  obtain ⟨w7, ew7⟩ : ∃ wq__ : Wd, wq__ = va_up w6 40 (some (eZ dA 2 (fun _ => 0))) := ⟨_, rfl⟩
  rw [← ew7] at hW
  have frw7 : ∀ id : Nat, id ≠ 40 → w7 id = w6 id := fun id h9 => by rw [ew7, up_ne h9]
  replace hk0 : w7 36 = some (.inr (7, [.ref (b + 37), .ref (b + 38), .int (nI 0), .ref (b + 39), .null, .null, .int (nI 0), .int (nI 0), .null, .null, .int (nI 0), .int (nI 0), .null, .int (nI 0)])) := (frw7 _ (by omega)).trans hk0
  replace hn7_1 : w7 37 = some (eN dA 85 (fun _ => 0)) := (frw7 _ (by omega)).trans hn7_1
  replace hn16_3 : w7 38 = some (eN dA 510 (fun _ => 0)) := (frw7 _ (by omega)).trans hn16_3
  replace hn25_5 : w7 39 = some (eN dA 170 (fun _ => 0)) := (frw7 _ (by omega)).trans hn25_5
  have hn32_7 : w7 40 = some (eZ dA 2 (fun _ => 0)) := by rw [ew7]; exact up_eq
  refine q_putF hx hb hts hinX7 tyX7_ok nmX7 hown hG hW hS hk0 rfl 4 (by decide) (hts (.fieldLink RX7 19 "FoleyMixerModel" "isTaken" "[Z") (List.mem_of_getElem? (i := 9) rfl)) rfl rfl hin0 rfl rfl rfl (Nat.le_of_ble_eq_true rfl) dX7_init_34 (fun H locs hW hS hz34 => ?_)
  replace hz := hz34.trans hz
  obtain ⟨w8, ew8⟩ : ∃ wq__ : Wd, wq__ = va_up w7 36 (some (.inr (7, [.ref (b + 37), .ref (b + 38), .int (nI 0), .ref (b + 39), .ref (b + 40), .null, .int (nI 0), .int (nI 0), .null, .null, .int (nI 0), .int (nI 0), .null, .int (nI 0)]))) := ⟨_, rfl⟩
  replace hW : WP D b w8 H := by rw [ew8]; exact hW
  have frw8 : ∀ id : Nat, id ≠ 36 → w8 id = w7 id := fun id h9 => by rw [ew8, up_ne h9]
  replace hn7_1 : w8 37 = some (eN dA 85 (fun _ => 0)) := (frw8 _ (by omega)).trans hn7_1
  replace hn16_3 : w8 38 = some (eN dA 510 (fun _ => 0)) := (frw8 _ (by omega)).trans hn16_3
  replace hn25_5 : w8 39 = some (eN dA 170 (fun _ => 0)) := (frw8 _ (by omega)).trans hn25_5
  replace hn32_7 : w8 40 = some (eZ dA 2 (fun _ => 0)) := (frw8 _ (by omega)).trans hn32_7
  replace hk0 : w8 36 = some (.inr (7, [.ref (b + 37), .ref (b + 38), .int (nI 0), .ref (b + 39), .ref (b + 40), .null, .int (nI 0), .int (nI 0), .null, .null, .int (nI 0), .int (nI 0), .null, .int (nI 0)])) := by rw [ew8]; exact up_eq
  refine lv_aload_n hx hb dX7_init_37 rfl (lv_at hl 0 rfl) ?_
  refine lv_bipush (v := nI 80) hx hb dX7_init_38 (by decide) ?_
  refine q_newI hx hb (hts (.arrayClass .int) (List.mem_of_getElem? (i := 4) rfl)) hG hW hS hz (by decide) (Nat.le_of_ble_eq_true rfl) (Nat.le_of_ble_eq_true rfl) dX7_init_40 (fun H hW hS hz => ?_)
  obtain ⟨w9, ew9⟩ : ∃ wq__ : Wd, wq__ = va_up w8 41 (some (eN dA 80 (fun _ => 0))) := ⟨_, rfl⟩
  rw [← ew9] at hW
  have frw9 : ∀ id : Nat, id ≠ 41 → w9 id = w8 id := fun id h9 => by rw [ew9, up_ne h9]
  replace hk0 : w9 36 = some (.inr (7, [.ref (b + 37), .ref (b + 38), .int (nI 0), .ref (b + 39), .ref (b + 40), .null, .int (nI 0), .int (nI 0), .null, .null, .int (nI 0), .int (nI 0), .null, .int (nI 0)])) := (frw9 _ (by omega)).trans hk0
  replace hn7_1 : w9 37 = some (eN dA 85 (fun _ => 0)) := (frw9 _ (by omega)).trans hn7_1
  replace hn16_3 : w9 38 = some (eN dA 510 (fun _ => 0)) := (frw9 _ (by omega)).trans hn16_3
  replace hn25_5 : w9 39 = some (eN dA 170 (fun _ => 0)) := (frw9 _ (by omega)).trans hn25_5
  replace hn32_7 : w9 40 = some (eZ dA 2 (fun _ => 0)) := (frw9 _ (by omega)).trans hn32_7
  have hn40_9 : w9 41 = some (eN dA 80 (fun _ => 0)) := by rw [ew9]; exact up_eq
  refine q_putF hx hb hts hinX7 tyX7_ok nmX7 hown hG hW hS hk0 rfl 5 (by decide) (hts (.fieldLink RX7 23 "FoleyMixerModel" "text" "[I") (List.mem_of_getElem? (i := 10) rfl)) rfl rfl hin0 rfl rfl rfl (Nat.le_of_ble_eq_true rfl) dX7_init_42 (fun H locs hW hS hz42 => ?_)
  replace hz := hz42.trans hz
  obtain ⟨w10, ew10⟩ : ∃ wq__ : Wd, wq__ = va_up w9 36 (some (.inr (7, [.ref (b + 37), .ref (b + 38), .int (nI 0), .ref (b + 39), .ref (b + 40), .ref (b + 41), .int (nI 0), .int (nI 0), .null, .null, .int (nI 0), .int (nI 0), .null, .int (nI 0)]))) := ⟨_, rfl⟩
  replace hW : WP D b w10 H := by rw [ew10]; exact hW
  have frw10 : ∀ id : Nat, id ≠ 36 → w10 id = w9 id := fun id h9 => by rw [ew10, up_ne h9]
  replace hn7_1 : w10 37 = some (eN dA 85 (fun _ => 0)) := (frw10 _ (by omega)).trans hn7_1
  replace hn16_3 : w10 38 = some (eN dA 510 (fun _ => 0)) := (frw10 _ (by omega)).trans hn16_3
  replace hn25_5 : w10 39 = some (eN dA 170 (fun _ => 0)) := (frw10 _ (by omega)).trans hn25_5
  replace hn32_7 : w10 40 = some (eZ dA 2 (fun _ => 0)) := (frw10 _ (by omega)).trans hn32_7
  replace hn40_9 : w10 41 = some (eN dA 80 (fun _ => 0)) := (frw10 _ (by omega)).trans hn40_9
  replace hk0 : w10 36 = some (.inr (7, [.ref (b + 37), .ref (b + 38), .int (nI 0), .ref (b + 39), .ref (b + 40), .ref (b + 41), .int (nI 0), .int (nI 0), .null, .null, .int (nI 0), .int (nI 0), .null, .int (nI 0)])) := by rw [ew10]; exact up_eq
  refine lv_aload_n hx hb dX7_init_45 rfl (lv_at hl 0 rfl) ?_
  refine lv_bipush (v := nI 120) hx hb dX7_init_46 (by decide) ?_
  refine q_newI hx hb (hts (.arrayClass .int) (List.mem_of_getElem? (i := 4) rfl)) hG hW hS hz (by decide) (Nat.le_of_ble_eq_true rfl) (Nat.le_of_ble_eq_true rfl) dX7_init_48 (fun H hW hS hz => ?_)
  obtain ⟨w11, ew11⟩ : ∃ wq__ : Wd, wq__ = va_up w10 42 (some (eN dA 120 (fun _ => 0))) := ⟨_, rfl⟩
  rw [← ew11] at hW
  have frw11 : ∀ id : Nat, id ≠ 42 → w11 id = w10 id := fun id h9 => by rw [ew11, up_ne h9]
  replace hk0 : w11 36 = some (.inr (7, [.ref (b + 37), .ref (b + 38), .int (nI 0), .ref (b + 39), .ref (b + 40), .ref (b + 41), .int (nI 0), .int (nI 0), .null, .null, .int (nI 0), .int (nI 0), .null, .int (nI 0)])) := (frw11 _ (by omega)).trans hk0
  replace hn7_1 : w11 37 = some (eN dA 85 (fun _ => 0)) := (frw11 _ (by omega)).trans hn7_1
  replace hn16_3 : w11 38 = some (eN dA 510 (fun _ => 0)) := (frw11 _ (by omega)).trans hn16_3
  replace hn25_5 : w11 39 = some (eN dA 170 (fun _ => 0)) := (frw11 _ (by omega)).trans hn25_5
  replace hn32_7 : w11 40 = some (eZ dA 2 (fun _ => 0)) := (frw11 _ (by omega)).trans hn32_7
  replace hn40_9 : w11 41 = some (eN dA 80 (fun _ => 0)) := (frw11 _ (by omega)).trans hn40_9
  have hn48_11 : w11 42 = some (eN dA 120 (fun _ => 0)) := by rw [ew11]; exact up_eq
  refine q_putF hx hb hts hinX7 tyX7_ok nmX7 hown hG hW hS hk0 rfl 8 (by decide) (hts (.fieldLink RX7 26 "FoleyMixerModel" "ducking" "[I") (List.mem_of_getElem? (i := 11) rfl)) rfl rfl hin0 rfl rfl rfl (Nat.le_of_ble_eq_true rfl) dX7_init_50 (fun H locs hW hS hz50 => ?_)
  replace hz := hz50.trans hz
  obtain ⟨w12, ew12⟩ : ∃ wq__ : Wd, wq__ = va_up w11 36 (some (.inr (7, [.ref (b + 37), .ref (b + 38), .int (nI 0), .ref (b + 39), .ref (b + 40), .ref (b + 41), .int (nI 0), .int (nI 0), .ref (b + 42), .null, .int (nI 0), .int (nI 0), .null, .int (nI 0)]))) := ⟨_, rfl⟩
  replace hW : WP D b w12 H := by rw [ew12]; exact hW
  have frw12 : ∀ id : Nat, id ≠ 36 → w12 id = w11 id := fun id h9 => by rw [ew12, up_ne h9]
  replace hn7_1 : w12 37 = some (eN dA 85 (fun _ => 0)) := (frw12 _ (by omega)).trans hn7_1
  replace hn16_3 : w12 38 = some (eN dA 510 (fun _ => 0)) := (frw12 _ (by omega)).trans hn16_3
  replace hn25_5 : w12 39 = some (eN dA 170 (fun _ => 0)) := (frw12 _ (by omega)).trans hn25_5
  replace hn32_7 : w12 40 = some (eZ dA 2 (fun _ => 0)) := (frw12 _ (by omega)).trans hn32_7
  replace hn40_9 : w12 41 = some (eN dA 80 (fun _ => 0)) := (frw12 _ (by omega)).trans hn40_9
  replace hn48_11 : w12 42 = some (eN dA 120 (fun _ => 0)) := (frw12 _ (by omega)).trans hn48_11
  replace hk0 : w12 36 = some (.inr (7, [.ref (b + 37), .ref (b + 38), .int (nI 0), .ref (b + 39), .ref (b + 40), .ref (b + 41), .int (nI 0), .int (nI 0), .ref (b + 42), .null, .int (nI 0), .int (nI 0), .null, .int (nI 0)])) := by rw [ew12]; exact up_eq
  refine lv_aload_n hx hb dX7_init_53 rfl (lv_at hl 0 rfl) ?_
  refine lv_bipush (v := nI 120) hx hb dX7_init_54 (by decide) ?_
  refine q_newI hx hb (hts (.arrayClass .int) (List.mem_of_getElem? (i := 4) rfl)) hG hW hS hz (by decide) (Nat.le_of_ble_eq_true rfl) (Nat.le_of_ble_eq_true rfl) dX7_init_56 (fun H hW hS hz => ?_)
  obtain ⟨w13, ew13⟩ : ∃ wq__ : Wd, wq__ = va_up w12 43 (some (eN dA 120 (fun _ => 0))) := ⟨_, rfl⟩
  rw [← ew13] at hW
  have frw13 : ∀ id : Nat, id ≠ 43 → w13 id = w12 id := fun id h9 => by rw [ew13, up_ne h9]
  replace hk0 : w13 36 = some (.inr (7, [.ref (b + 37), .ref (b + 38), .int (nI 0), .ref (b + 39), .ref (b + 40), .ref (b + 41), .int (nI 0), .int (nI 0), .ref (b + 42), .null, .int (nI 0), .int (nI 0), .null, .int (nI 0)])) := (frw13 _ (by omega)).trans hk0
  replace hn7_1 : w13 37 = some (eN dA 85 (fun _ => 0)) := (frw13 _ (by omega)).trans hn7_1
  replace hn16_3 : w13 38 = some (eN dA 510 (fun _ => 0)) := (frw13 _ (by omega)).trans hn16_3
  replace hn25_5 : w13 39 = some (eN dA 170 (fun _ => 0)) := (frw13 _ (by omega)).trans hn25_5
  replace hn32_7 : w13 40 = some (eZ dA 2 (fun _ => 0)) := (frw13 _ (by omega)).trans hn32_7
  replace hn40_9 : w13 41 = some (eN dA 80 (fun _ => 0)) := (frw13 _ (by omega)).trans hn40_9
  replace hn48_11 : w13 42 = some (eN dA 120 (fun _ => 0)) := (frw13 _ (by omega)).trans hn48_11
  have hn56_13 : w13 43 = some (eN dA 120 (fun _ => 0)) := by rw [ew13]; exact up_eq
  refine q_putF hx hb hts hinX7 tyX7_ok nmX7 hown hG hW hS hk0 rfl 9 (by decide) (hts (.fieldLink RX7 29 "FoleyMixerModel" "masked" "[I") (List.mem_of_getElem? (i := 12) rfl)) rfl rfl hin0 rfl rfl rfl (Nat.le_of_ble_eq_true rfl) dX7_init_58 (fun H locs hW hS hz58 => ?_)
  replace hz := hz58.trans hz
  obtain ⟨w14, ew14⟩ : ∃ wq__ : Wd, wq__ = va_up w13 36 (some (.inr (7, [.ref (b + 37), .ref (b + 38), .int (nI 0), .ref (b + 39), .ref (b + 40), .ref (b + 41), .int (nI 0), .int (nI 0), .ref (b + 42), .ref (b + 43), .int (nI 0), .int (nI 0), .null, .int (nI 0)]))) := ⟨_, rfl⟩
  replace hW : WP D b w14 H := by rw [ew14]; exact hW
  have frw14 : ∀ id : Nat, id ≠ 36 → w14 id = w13 id := fun id h9 => by rw [ew14, up_ne h9]
  replace hn7_1 : w14 37 = some (eN dA 85 (fun _ => 0)) := (frw14 _ (by omega)).trans hn7_1
  replace hn16_3 : w14 38 = some (eN dA 510 (fun _ => 0)) := (frw14 _ (by omega)).trans hn16_3
  replace hn25_5 : w14 39 = some (eN dA 170 (fun _ => 0)) := (frw14 _ (by omega)).trans hn25_5
  replace hn32_7 : w14 40 = some (eZ dA 2 (fun _ => 0)) := (frw14 _ (by omega)).trans hn32_7
  replace hn40_9 : w14 41 = some (eN dA 80 (fun _ => 0)) := (frw14 _ (by omega)).trans hn40_9
  replace hn48_11 : w14 42 = some (eN dA 120 (fun _ => 0)) := (frw14 _ (by omega)).trans hn48_11
  replace hn56_13 : w14 43 = some (eN dA 120 (fun _ => 0)) := (frw14 _ (by omega)).trans hn56_13
  replace hk0 : w14 36 = some (.inr (7, [.ref (b + 37), .ref (b + 38), .int (nI 0), .ref (b + 39), .ref (b + 40), .ref (b + 41), .int (nI 0), .int (nI 0), .ref (b + 42), .ref (b + 43), .int (nI 0), .int (nI 0), .null, .int (nI 0)])) := by rw [ew14]; exact up_eq
  refine lv_aload_n hx hb dX7_init_61 rfl (lv_at hl 0 rfl) ?_
  refine lv_iconst (v := nI 3) hx hb dX7_init_62 (by decide) ?_
  refine q_newI hx hb (hts (.arrayClass .int) (List.mem_of_getElem? (i := 4) rfl)) hG hW hS hz (by decide) (Nat.le_of_ble_eq_true rfl) (Nat.le_of_ble_eq_true rfl) dX7_init_63 (fun H hW hS hz => ?_)
  obtain ⟨w15, ew15⟩ : ∃ wq__ : Wd, wq__ = va_up w14 44 (some (eN dA 3 (fun _ => 0))) := ⟨_, rfl⟩
  rw [← ew15] at hW
  have frw15 : ∀ id : Nat, id ≠ 44 → w15 id = w14 id := fun id h9 => by rw [ew15, up_ne h9]
  replace hk0 : w15 36 = some (.inr (7, [.ref (b + 37), .ref (b + 38), .int (nI 0), .ref (b + 39), .ref (b + 40), .ref (b + 41), .int (nI 0), .int (nI 0), .ref (b + 42), .ref (b + 43), .int (nI 0), .int (nI 0), .null, .int (nI 0)])) := (frw15 _ (by omega)).trans hk0
  replace hn7_1 : w15 37 = some (eN dA 85 (fun _ => 0)) := (frw15 _ (by omega)).trans hn7_1
  replace hn16_3 : w15 38 = some (eN dA 510 (fun _ => 0)) := (frw15 _ (by omega)).trans hn16_3
  replace hn25_5 : w15 39 = some (eN dA 170 (fun _ => 0)) := (frw15 _ (by omega)).trans hn25_5
  replace hn32_7 : w15 40 = some (eZ dA 2 (fun _ => 0)) := (frw15 _ (by omega)).trans hn32_7
  replace hn40_9 : w15 41 = some (eN dA 80 (fun _ => 0)) := (frw15 _ (by omega)).trans hn40_9
  replace hn48_11 : w15 42 = some (eN dA 120 (fun _ => 0)) := (frw15 _ (by omega)).trans hn48_11
  replace hn56_13 : w15 43 = some (eN dA 120 (fun _ => 0)) := (frw15 _ (by omega)).trans hn56_13
  have hn63_15 : w15 44 = some (eN dA 3 (fun _ => 0)) := by rw [ew15]; exact up_eq
  refine q_putF hx hb hts hinX7 tyX7_ok nmX7 hown hG hW hS hk0 rfl 12 (by decide) (hts (.fieldLink RX7 32 "FoleyMixerModel" "told" "[I") (List.mem_of_getElem? (i := 13) rfl)) rfl rfl hin0 rfl rfl rfl (Nat.le_of_ble_eq_true rfl) dX7_init_65 (fun H locs hW hS hz65 => ?_)
  replace hz := hz65.trans hz
  obtain ⟨w16, ew16⟩ : ∃ wq__ : Wd, wq__ = va_up w15 36 (some (.inr (7, [.ref (b + 37), .ref (b + 38), .int (nI 0), .ref (b + 39), .ref (b + 40), .ref (b + 41), .int (nI 0), .int (nI 0), .ref (b + 42), .ref (b + 43), .int (nI 0), .int (nI 0), .ref (b + 44), .int (nI 0)]))) := ⟨_, rfl⟩
  replace hW : WP D b w16 H := by rw [ew16]; exact hW
  have frw16 : ∀ id : Nat, id ≠ 36 → w16 id = w15 id := fun id h9 => by rw [ew16, up_ne h9]
  replace hn7_1 : w16 37 = some (eN dA 85 (fun _ => 0)) := (frw16 _ (by omega)).trans hn7_1
  replace hn16_3 : w16 38 = some (eN dA 510 (fun _ => 0)) := (frw16 _ (by omega)).trans hn16_3
  replace hn25_5 : w16 39 = some (eN dA 170 (fun _ => 0)) := (frw16 _ (by omega)).trans hn25_5
  replace hn32_7 : w16 40 = some (eZ dA 2 (fun _ => 0)) := (frw16 _ (by omega)).trans hn32_7
  replace hn40_9 : w16 41 = some (eN dA 80 (fun _ => 0)) := (frw16 _ (by omega)).trans hn40_9
  replace hn48_11 : w16 42 = some (eN dA 120 (fun _ => 0)) := (frw16 _ (by omega)).trans hn48_11
  replace hn56_13 : w16 43 = some (eN dA 120 (fun _ => 0)) := (frw16 _ (by omega)).trans hn56_13
  replace hn63_15 : w16 44 = some (eN dA 3 (fun _ => 0)) := (frw16 _ (by omega)).trans hn63_15
  replace hk0 : w16 36 = some (.inr (7, [.ref (b + 37), .ref (b + 38), .int (nI 0), .ref (b + 39), .ref (b + 40), .ref (b + 41), .int (nI 0), .int (nI 0), .ref (b + 42), .ref (b + 43), .int (nI 0), .int (nI 0), .ref (b + 44), .int (nI 0)])) := by rw [ew16]; exact up_eq
  refine lv_aload_n hx hb dX7_init_68 rfl (lv_at hl 0 rfl) ?_
  refine q_get hx hb hts hinX7 hown hG hW hk0 rfl 0 (by decide) (hts (.fieldLink RX7 7 "FoleyMixerModel" "s" "[I") (List.mem_of_getElem? (i := 5) rfl)) rfl rfl dX7_init_69 ?_
  refine lv_iconst (v := nI 0) hx hb dX7_init_72 (by decide) ?_
  refine lv_bipush (v := nI 6) hx hb dX7_init_73 (by decide) ?_
  refine q_nast hx hb hG hW hS hn7_1 (by omega) (by omega) dX7_init_75 (fun H locs hW hS hz75 => ?_)
  replace hz := hz75.trans hz
  obtain ⟨w17, ew17⟩ : ∃ wq__ : Wd, wq__ = va_up w16 37 (some (eN dA 85 (va_up (fun _ => 0) 0 6))) := ⟨_, rfl⟩
  replace hW : WP D b w17 H := by rw [ew17]; exact hW
  have frw17 : ∀ id : Nat, id ≠ 37 → w17 id = w16 id := fun id h9 => by rw [ew17, up_ne h9]
  replace hk0 : w17 36 = some (.inr (7, [.ref (b + 37), .ref (b + 38), .int (nI 0), .ref (b + 39), .ref (b + 40), .ref (b + 41), .int (nI 0), .int (nI 0), .ref (b + 42), .ref (b + 43), .int (nI 0), .int (nI 0), .ref (b + 44), .int (nI 0)])) := (frw17 _ (by omega)).trans hk0
  replace hn16_3 : w17 38 = some (eN dA 510 (fun _ => 0)) := (frw17 _ (by omega)).trans hn16_3
  replace hn25_5 : w17 39 = some (eN dA 170 (fun _ => 0)) := (frw17 _ (by omega)).trans hn25_5
  replace hn32_7 : w17 40 = some (eZ dA 2 (fun _ => 0)) := (frw17 _ (by omega)).trans hn32_7
  replace hn40_9 : w17 41 = some (eN dA 80 (fun _ => 0)) := (frw17 _ (by omega)).trans hn40_9
  replace hn48_11 : w17 42 = some (eN dA 120 (fun _ => 0)) := (frw17 _ (by omega)).trans hn48_11
  replace hn56_13 : w17 43 = some (eN dA 120 (fun _ => 0)) := (frw17 _ (by omega)).trans hn56_13
  replace hn63_15 : w17 44 = some (eN dA 3 (fun _ => 0)) := (frw17 _ (by omega)).trans hn63_15
  replace hn7_1 : w17 37 = some (eN dA 85 (va_up (fun _ => 0) 0 6)) := by rw [ew17]; exact up_eq
  refine lv_aload_n hx hb dX7_init_76 rfl (lv_at hl 0 rfl) ?_
  refine q_get hx hb hts hinX7 hown hG hW hk0 rfl 0 (by decide) (hts (.fieldLink RX7 7 "FoleyMixerModel" "s" "[I") (List.mem_of_getElem? (i := 5) rfl)) rfl rfl dX7_init_77 ?_
  refine lv_iconst (v := nI 1) hx hb dX7_init_80 (by decide) ?_
  refine lv_iconst (v := nI 2) hx hb dX7_init_81 (by decide) ?_
  refine q_nast hx hb hG hW hS hn7_1 (by omega) (by omega) dX7_init_82 (fun H locs hW hS hz82 => ?_)
  replace hz := hz82.trans hz
  obtain ⟨w18, ew18⟩ : ∃ wq__ : Wd, wq__ = va_up w17 37 (some (eN dA 85 (va_up (va_up (fun _ => 0) 0 6) 1 2))) := ⟨_, rfl⟩
  replace hW : WP D b w18 H := by rw [ew18]; exact hW
  have frw18 : ∀ id : Nat, id ≠ 37 → w18 id = w17 id := fun id h9 => by rw [ew18, up_ne h9]
  replace hk0 : w18 36 = some (.inr (7, [.ref (b + 37), .ref (b + 38), .int (nI 0), .ref (b + 39), .ref (b + 40), .ref (b + 41), .int (nI 0), .int (nI 0), .ref (b + 42), .ref (b + 43), .int (nI 0), .int (nI 0), .ref (b + 44), .int (nI 0)])) := (frw18 _ (by omega)).trans hk0
  replace hn16_3 : w18 38 = some (eN dA 510 (fun _ => 0)) := (frw18 _ (by omega)).trans hn16_3
  replace hn25_5 : w18 39 = some (eN dA 170 (fun _ => 0)) := (frw18 _ (by omega)).trans hn25_5
  replace hn32_7 : w18 40 = some (eZ dA 2 (fun _ => 0)) := (frw18 _ (by omega)).trans hn32_7
  replace hn40_9 : w18 41 = some (eN dA 80 (fun _ => 0)) := (frw18 _ (by omega)).trans hn40_9
  replace hn48_11 : w18 42 = some (eN dA 120 (fun _ => 0)) := (frw18 _ (by omega)).trans hn48_11
  replace hn56_13 : w18 43 = some (eN dA 120 (fun _ => 0)) := (frw18 _ (by omega)).trans hn56_13
  replace hn63_15 : w18 44 = some (eN dA 3 (fun _ => 0)) := (frw18 _ (by omega)).trans hn63_15
  replace hn7_1 : w18 37 = some (eN dA 85 (va_up (va_up (fun _ => 0) 0 6) 1 2)) := by rw [ew18]; exact up_eq
  refine lv_aload_n hx hb dX7_init_83 rfl (lv_at hl 0 rfl) ?_
  refine q_get hx hb hts hinX7 hown hG hW hk0 rfl 0 (by decide) (hts (.fieldLink RX7 7 "FoleyMixerModel" "s" "[I") (List.mem_of_getElem? (i := 5) rfl)) rfl rfl dX7_init_84 ?_
  refine lv_iconst (v := nI 2) hx hb dX7_init_87 (by decide) ?_
  refine lv_iconst (v := nI 1) hx hb dX7_init_88 (by decide) ?_
  refine q_nast hx hb hG hW hS hn7_1 (by omega) (by omega) dX7_init_89 (fun H locs hW hS hz89 => ?_)
  replace hz := hz89.trans hz
  obtain ⟨w19, ew19⟩ : ∃ wq__ : Wd, wq__ = va_up w18 37 (some (eN dA 85 (va_up (va_up (va_up (fun _ => 0) 0 6) 1 2) 2 1))) := ⟨_, rfl⟩
  replace hW : WP D b w19 H := by rw [ew19]; exact hW
  have frw19 : ∀ id : Nat, id ≠ 37 → w19 id = w18 id := fun id h9 => by rw [ew19, up_ne h9]
  replace hk0 : w19 36 = some (.inr (7, [.ref (b + 37), .ref (b + 38), .int (nI 0), .ref (b + 39), .ref (b + 40), .ref (b + 41), .int (nI 0), .int (nI 0), .ref (b + 42), .ref (b + 43), .int (nI 0), .int (nI 0), .ref (b + 44), .int (nI 0)])) := (frw19 _ (by omega)).trans hk0
  replace hn16_3 : w19 38 = some (eN dA 510 (fun _ => 0)) := (frw19 _ (by omega)).trans hn16_3
  replace hn25_5 : w19 39 = some (eN dA 170 (fun _ => 0)) := (frw19 _ (by omega)).trans hn25_5
  replace hn32_7 : w19 40 = some (eZ dA 2 (fun _ => 0)) := (frw19 _ (by omega)).trans hn32_7
  replace hn40_9 : w19 41 = some (eN dA 80 (fun _ => 0)) := (frw19 _ (by omega)).trans hn40_9
  replace hn48_11 : w19 42 = some (eN dA 120 (fun _ => 0)) := (frw19 _ (by omega)).trans hn48_11
  replace hn56_13 : w19 43 = some (eN dA 120 (fun _ => 0)) := (frw19 _ (by omega)).trans hn56_13
  replace hn63_15 : w19 44 = some (eN dA 3 (fun _ => 0)) := (frw19 _ (by omega)).trans hn63_15
  replace hn7_1 : w19 37 = some (eN dA 85 (va_up (va_up (va_up (fun _ => 0) 0 6) 1 2) 2 1)) := by rw [ew19]; exact up_eq
  refine lv_aload_n hx hb dX7_init_90 rfl (lv_at hl 0 rfl) ?_
  refine q_get hx hb hts hinX7 hown hG hW hk0 rfl 0 (by decide) (hts (.fieldLink RX7 7 "FoleyMixerModel" "s" "[I") (List.mem_of_getElem? (i := 5) rfl)) rfl rfl dX7_init_91 ?_
  refine lv_iconst (v := nI 3) hx hb dX7_init_94 (by decide) ?_
  refine lv_iconst (v := nI 2) hx hb dX7_init_95 (by decide) ?_
  refine q_nast hx hb hG hW hS hn7_1 (by omega) (by omega) dX7_init_96 (fun H locs hW hS hz96 => ?_)
  replace hz := hz96.trans hz
  obtain ⟨w20, ew20⟩ : ∃ wq__ : Wd, wq__ = va_up w19 37 (some (eN dA 85 (va_up (va_up (va_up (va_up (fun _ => 0) 0 6) 1 2) 2 1) 3 2))) := ⟨_, rfl⟩
  replace hW : WP D b w20 H := by rw [ew20]; exact hW
  have frw20 : ∀ id : Nat, id ≠ 37 → w20 id = w19 id := fun id h9 => by rw [ew20, up_ne h9]
  replace hk0 : w20 36 = some (.inr (7, [.ref (b + 37), .ref (b + 38), .int (nI 0), .ref (b + 39), .ref (b + 40), .ref (b + 41), .int (nI 0), .int (nI 0), .ref (b + 42), .ref (b + 43), .int (nI 0), .int (nI 0), .ref (b + 44), .int (nI 0)])) := (frw20 _ (by omega)).trans hk0
  replace hn16_3 : w20 38 = some (eN dA 510 (fun _ => 0)) := (frw20 _ (by omega)).trans hn16_3
  replace hn25_5 : w20 39 = some (eN dA 170 (fun _ => 0)) := (frw20 _ (by omega)).trans hn25_5
  replace hn32_7 : w20 40 = some (eZ dA 2 (fun _ => 0)) := (frw20 _ (by omega)).trans hn32_7
  replace hn40_9 : w20 41 = some (eN dA 80 (fun _ => 0)) := (frw20 _ (by omega)).trans hn40_9
  replace hn48_11 : w20 42 = some (eN dA 120 (fun _ => 0)) := (frw20 _ (by omega)).trans hn48_11
  replace hn56_13 : w20 43 = some (eN dA 120 (fun _ => 0)) := (frw20 _ (by omega)).trans hn56_13
  replace hn63_15 : w20 44 = some (eN dA 3 (fun _ => 0)) := (frw20 _ (by omega)).trans hn63_15
  replace hn7_1 : w20 37 = some (eN dA 85 (va_up (va_up (va_up (va_up (fun _ => 0) 0 6) 1 2) 2 1) 3 2)) := by rw [ew20]; exact up_eq
  exact q_zv hx hb hr hlocks hW hS (by omega) dX7_init_97 (by exact ⟨⟨0, 0, 0, _, _, _, _, _, _, _, hk0, hn7_1, ⟨rep_P0, P0_ok⟩, hn16_3, ⟨Nat.zero_le _, fun i hi => absurd hi (Nat.not_lt_zero i)⟩, hn25_5, hn32_7, fun j hj => Or.inl ⟨rfl, rfl⟩, hn40_9, ⟨Nat.zero_le _, fun i hi => absurd hi (Nat.not_lt_zero i)⟩, hn48_11, hn56_13, hn63_15⟩, by intro id h9; rw [frw20 id (by omega)]; rw [frw19 id (by omega)]; rw [frw18 id (by omega)]; rw [frw17 id (by omega)]; rw [frw16 id (by omega)]; rw [frw15 id (by omega)]; rw [frw14 id (by omega)]; rw [frw13 id (by omega)]; rw [frw12 id (by omega)]; rw [frw11 id (by omega)]; rw [frw10 id (by omega)]; rw [frw9 id (by omega)]; rw [frw8 id (by omega)]; rw [frw7 id (by omega)]; rw [frw6 id (by omega)]; rw [frw5 id (by omega)]; rw [frw4 id (by omega)]; rw [frw3 id (by omega)]; rw [frw2 id (by omega)]; rw [frw1 id (by omega)]; try rfl⟩) (by decide) (by decide)

