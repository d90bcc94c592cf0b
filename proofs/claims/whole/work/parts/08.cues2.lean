/-- V with one number set -/
def setV (V : Nat → Nat → Nat) (i j x : Nat) : Nat → Nat → Nat := fun a c => if a = i ∧ c = j then x else V a c
/-- V with a cue behind -/
def addV (V : Nat → Nat → Nat) (n s l d h : Nat) : Nat → Nat → Nat := fun a c => if a = n then (if c = 0 then s else if c = 1 then l else if c = 2 then d else h) else V a c
/-- V without a cue -/
def delV (V : Nat → Nat → Nat) (i : Nat) : Nat → Nat → Nat := fun a => if a < i then V a else V (a + 1)
theorem okW_add {n : Nat} {V : Nat → Nat → Nat} (h : okW n V) {s l d g : Nat} (h0 : s ≤ 99) (h1 : 1 ≤ l) (h2 : l ≤ 20) (h3 : d ≤ 30) (h4 : g ≤ 1) : okW (n + 1) (addV V n s l d g) := by
  intro i hi
  by_cases e : i = n
  · subst e; simp [addV]; omega
  · have := h i (by omega)
    simp only [addV, if_neg e]; exact this
theorem okW_del {n : Nat} {V : Nat → Nat → Nat} (h : okW n V) {i : Nat} (hi : i < n) : okW (n - 1) (delV V i) := by
  intro a ha
  by_cases e : a < i
  · simp only [delV, if_pos e]; exact h a (by omega)
  · simp only [delV, if_neg e]; exact h (a + 1) (by omega)
theorem okW_set {n : Nat} {V : Nat → Nat → Nat} (h : okW n V) {i j x : Nat} (hx : (j = 0 → x ≤ 99) ∧ (j = 1 → 1 ≤ x ∧ x ≤ 20) ∧ (j = 2 → x ≤ 30) ∧ (j = 3 → x ≤ 1)) : okW n (setV V i j x) := by
  intro a ha
  have := h a ha
  unfold setV
  refine ⟨?_, ?_, ?_, ?_, ?_⟩ <;> (split <;> omega)
theorem add_row {n : Nat} {V : Nat → Nat → Nat} {f : Nat → Nat} (hf : ∀ i, i < n → ∀ j, j < 4 → f (i * 4 + j) = V i j) {s l d g : Nat} : ∀ i, i < n + 1 → ∀ j, j < 4 → va_up (va_up (va_up (va_up f (n * 4 + 0) s) (n * 4 + 1) l) (n * 4 + 2) d) (n * 4 + 3) g (i * 4 + j) = addV V n s l d g i j := by
  intro i hi j hj
  unfold va_up addV
  by_cases e : i = n
  · subst e
    rcases (show j = 0 ∨ j = 1 ∨ j = 2 ∨ j = 3 by omega) with rfl | rfl | rfl | rfl <;> simp <;> omega
  · rw [if_neg (by omega), if_neg (by omega), if_neg (by omega), if_neg (by omega), if_neg e]
    exact hf i (by omega) j hj
theorem set_row {n : Nat} {V : Nat → Nat → Nat} {f : Nat → Nat} (hf : ∀ i, i < n → ∀ j, j < 4 → f (i * 4 + j) = V i j) {a c x : Nat} (hc : c < 4) : ∀ i, i < n → ∀ j, j < 4 → va_up f (a * 4 + c) x (i * 4 + j) = setV V a c x i j := by
  intro i hi j hj
  unfold va_up setV
  by_cases e : i = a ∧ j = c
  · rw [if_pos (by omega), if_pos e]
  · rw [if_neg (by omega), if_neg e]; exact hf i hi j hj
theorem del_row {n : Nat} {V : Nat → Nat → Nat} {f : Nat → Nat} (hn : n ≤ 12) (hf : ∀ i, i < n → ∀ j, j < 4 → f (i * 4 + j) = V i j) {a : Nat} : ∀ i, i < n - 1 → ∀ j, j < 4 → (fun q => if a * 4 ≤ q ∧ q < 44 then f (q + 4) else f q) (i * 4 + j) = delV V a i j := by
  intro i hi j hj
  unfold delV
  by_cases e : i < a
  · rw [if_pos e]
    show (if a * 4 ≤ i * 4 + j ∧ i * 4 + j < 44 then _ else _) = _
    rw [if_neg (by omega)]; exact hf i (by omega) j hj
  · rw [if_neg e]
    show (if a * 4 ≤ i * 4 + j ∧ i * 4 + j < 44 then _ else _) = _
    rw [if_pos (by omega), show i * 4 + j + 4 = (i + 1) * 4 + j by omega]; exact hf (i + 1) (by omega) j hj

set_option maxHeartbeats 300000 in
set_option maxRecDepth 100000 in
/-- Cues.change(number, field, value) -/
theorem c_X1_change (l : Launch) {D : va_G} {dA : Nat → Nat} {b : Nat} {w : Wd} {k lim n : Nat} {f : Nat → Nat} (hk0 : w k = some (.inr (1, [.int (nI lim), .ref (b + (k + 1)), .int (nI n)]))) (hk1 : w (k + 1) = some (eN dA 48 f)) (i j x : Nat) (hij : i * 4 + j < 48) : Met l yX1_change wsX1_change ({ frames := 1, cells := 0, slots := 0, locals := 22 } : Room) (PC D dA b w [.ref (b + k), .int (nI i), .int (nI j), .int (nI x)]) (QW D b (none) (fun w' => w' (k + 1) = some (eN dA 48 (va_up f (i * 4 + j) x)) ∧ ∀ id : Nat, id ≠ k + 1 → w' id = w id)) 0 0 (Fb b) := by
  refine q_of (cc := cX1_change) (maxL := 4) (ret := none) (by decide) rfl rfl ?_
  intro p e s m args below meth c ls hx hb hr hml hts hown hlocks hG hW hS hl
  have hown : s.vm.findClass RX1 = some m.cls := hown
  have hinX1 : ∀ w ∈ u_ws RX1 TX1 3, w ∈ wsX1_change := fun w h => (goodIn_r (big := wsX1_change) (u_ws RX1 TX1 3) [5, 6, 7] (by decide +kernel) (by decide +kernel) w h).1
  have hl : lv_has ls 4 [(0, .ref (b + k)), (1, .int (nI i)), (2, .int (nI j)), (3, .int (nI x))] := hl
  refine lv_aload_n hx hb dX1_change_0 rfl (lv_at hl 0 rfl) ?_
  refine q_get hx hb hts hinX1 hown hG hW hk0 rfl 1 (by decide) (hts (.fieldLink RX1 9 "FoleyMixer$Cues" "numbers" "[I") (List.mem_of_getElem? (i := 1) rfl)) rfl rfl dX1_change_1 ?_
  refine lv_iload_n hx hb dX1_change_4 rfl (lv_at hl 1 rfl) ?_
  refine lv_iconst (v := nI 4) hx hb dX1_change_5 (by decide) ?_
  refine lv_imul hx hb dX1_change_6 ?_
  refine q_top (y := nI (i * 4)) (nI_mul _ _) ?_
  refine lv_iload_n hx hb dX1_change_7 rfl (lv_at hl 2 rfl) ?_
  refine lv_iadd hx hb dX1_change_8 ?_
  refine q_top (y := nI ((i * 4) + j)) (nI_add _ _) ?_
  refine lv_iload_n hx hb dX1_change_9 rfl (lv_at hl 3 rfl) ?_
  refine q_W0 (va_runSN (As := [.ref (b + (k + 1)), .int (nI ((i * 4) + j)), .int (nI x)]) (rest := []) ⟨hx, hb, hml, hown, hts⟩ (c_put_n l hk1 (by decide) ((i * 4) + j) (by omega) (x)) ⟨(va_cnB 3 hts gX1_change_X6_put_n30 rfl rfl rfl (hG.nest 48 rfl) (hts (.initialized RX6) (List.mem_of_getElem? (i := 3) rfl)) (by decide +kernel) ⟨Nat.le_of_ble_eq_true rfl, Nat.le_of_ble_eq_true rfl⟩), (hts (.static yX6_put) (List.mem_of_getElem? (i := 2) rfl)), trivial⟩ (q_preS hG hW hS) rfl rfl hl.1 rfl (lv_room (Nat.le_of_ble_eq_true rfl)) dX1_change_10 ⟨Nat.le_of_ble_eq_true rfl, Nat.le_of_ble_eq_true rfl⟩) hS (fun w_10 H locs hp10 hW hS => ?_)
  obtain ⟨hk1, fr10⟩ := hp10
  replace hk0 : w_10 k = some (.inr (1, [.int (nI lim), .ref (b + (k + 1)), .int (nI n)])) := (fr10 _ (by omega)).trans hk0
  exact q_wv hx hb hr hlocks hW hS dX1_change_13 (by exact ⟨hk1, by intro id h9; rw [fr10 id (by omega)]; try rfl⟩) (by decide) (by decide)

theorem c_change_V (l : Launch) {D : va_G} {dA : Nat → Nat} {b : Nat} {w : Wd} {k lim n : Nat} {V : Nat → Nat → Nat} (hc : isCues dA b w k lim n V) (i j x : Nat) (hi : i < n) (hj : j < 4) (hx : (j = 0 → x ≤ 99) ∧ (j = 1 → 1 ≤ x ∧ x ≤ 20) ∧ (j = 2 → x ≤ 30) ∧ (j = 3 → x ≤ 1)) : Met l yX1_change wsX1_change ({ frames := 1, cells := 0, slots := 0, locals := 22 } : Room) (PC D dA b w [.ref (b + k), .int (nI i), .int (nI j), .int (nI x)]) (QW D b none (fun w' => isCues dA b w' k lim n (setV V i j x) ∧ ∀ id : Nat, id ≠ k + 1 → w' id = w id)) 0 0 (Fb b) := by
  obtain ⟨hk0, hnl, hl12, hok, f, hk1, hf⟩ := hc
  refine Met.post (c_X1_change l hk0 hk1 i j x (by omega)) (QW.mono ?_)
  rintro w' ⟨h1, h2⟩
  exact ⟨⟨(h2 _ (by omega)).trans hk0, hnl, hl12, okW_set hok hx, _, h1, set_row hf hj⟩, h2⟩
set_option maxHeartbeats 300000 in
set_option maxRecDepth 100000 in
/-- Cues.add(start, length, loud, hard) -/
theorem c_X1_add (l : Launch) {D : va_G} {dA : Nat → Nat} {b : Nat} {w : Wd} {k lim n : Nat} {V : Nat → Nat → Nat} (hc : isCues dA b w k lim n V) (s9 l9 d9 g9 : Nat) (hn : n < lim) (h0 : s9 ≤ 99) (h1 : 1 ≤ l9) (h2 : l9 ≤ 20) (h3 : d9 ≤ 30) (h4 : g9 ≤ 1) : Met l yX1_add wsX1_add ({ frames := 2, cells := 0, slots := 0, locals := 45 } : Room) (PC D dA b w [.ref (b + k), .int (nI s9), .int (nI l9), .int (nI d9), .int (nI g9)]) (QW D b (none) (fun w' => isCues dA b w' k lim (n + 1) (addV V n s9 l9 d9 g9) ∧ ∀ id : Nat, id ≠ k → id ≠ k + 1 → w' id = w id)) 0 0 (Fb b) := by
  refine q_of (cc := cX1_add) (maxL := 5) (ret := none) (by decide) rfl rfl ?_
  intro p e s m args below meth c ls hx hb hr hml hts hown hlocks hG hW hS hl
  have hown : s.vm.findClass RX1 = some m.cls := hown
  have hinX1 : ∀ w ∈ u_ws RX1 TX1 3, w ∈ wsX1_add := fun w h => (goodIn_r (big := wsX1_add) (u_ws RX1 TX1 3) [11, 12, 13] (by decide +kernel) (by decide +kernel) w h).1
  have hl : lv_has ls 5 [(0, .ref (b + k)), (1, .int (nI s9)), (2, .int (nI l9)), (3, .int (nI d9)), (4, .int (nI g9))] := hl
  obtain ⟨hk0, hnl, hl12, hok, f, hk1, hf⟩ := id hc
  refine lv_aload_n hx hb dX1_add_0 rfl (lv_at hl 0 rfl) ?_
  refine lv_aload_n hx hb dX1_add_1 rfl (lv_at hl 0 rfl) ?_
  refine q_get hx hb hts hinX1 hown hG hW hk0 rfl 2 (by decide) (hts (.fieldLink RX1 15 "FoleyMixer$Cues" "size" "I") (List.mem_of_getElem? (i := 1) rfl)) rfl rfl dX1_add_2 ?_
  refine lv_iconst (v := nI 0) hx hb dX1_add_5 (by decide) ?_
  refine lv_iload_n hx hb dX1_add_6 rfl (lv_at hl 1 rfl) ?_
  refine q_W0 (va_runV (As := [.int (nI n), .int (nI 0), .int (nI s9)]) (rest := []) ⟨hx, hb, hml, hown, hts⟩ (c_X1_change l hk0 hk1 (n) (0) (s9) (by omega)) (cwV 3 hts gX1_add_X1_change rfl rfl rfl (by decide +kernel) ⟨Nat.le_of_ble_eq_true rfl, Nat.le_of_ble_eq_true rfl⟩) (q_preV hG hW hS hk0 rfl) rfl rfl hl.1 rfl (lv_room (Nat.le_of_ble_eq_true rfl)) dX1_add_7 ⟨Nat.le_of_ble_eq_true rfl, Nat.le_of_ble_eq_true rfl⟩) hS (fun w_7 H locs hp7 hW hS => ?_)
  obtain ⟨hk1, fr7⟩ := hp7
  replace hk0 : w_7 k = some (.inr (1, [.int (nI lim), .ref (b + (k + 1)), .int (nI n)])) := (fr7 _ (by omega)).trans hk0
  refine lv_aload_n hx hb dX1_add_10 rfl (lv_at hl 0 rfl) ?_
  refine lv_aload_n hx hb dX1_add_11 rfl (lv_at hl 0 rfl) ?_
  refine q_get hx hb hts hinX1 hown hG hW hk0 rfl 2 (by decide) (hts (.fieldLink RX1 15 "FoleyMixer$Cues" "size" "I") (List.mem_of_getElem? (i := 1) rfl)) rfl rfl dX1_add_12 ?_
  refine lv_iconst (v := nI 1) hx hb dX1_add_15 (by decide) ?_
  refine lv_iload_n hx hb dX1_add_16 rfl (lv_at hl 2 rfl) ?_
  refine q_W0 (va_runV (As := [.int (nI n), .int (nI 1), .int (nI l9)]) (rest := []) ⟨hx, hb, hml, hown, hts⟩ (c_X1_change l hk0 hk1 (n) (1) (l9) (by omega)) (cwV 3 hts gX1_add_X1_change rfl rfl rfl (by decide +kernel) ⟨Nat.le_of_ble_eq_true rfl, Nat.le_of_ble_eq_true rfl⟩) (q_preV hG hW hS hk0 rfl) rfl rfl hl.1 rfl (lv_room (Nat.le_of_ble_eq_true rfl)) dX1_add_17 ⟨Nat.le_of_ble_eq_true rfl, Nat.le_of_ble_eq_true rfl⟩) hS (fun w_17 H locs hp17 hW hS => ?_)
  obtain ⟨hk1, fr17⟩ := hp17
  replace hk0 : w_17 k = some (.inr (1, [.int (nI lim), .ref (b + (k + 1)), .int (nI n)])) := (fr17 _ (by omega)).trans hk0
  refine lv_aload_n hx hb dX1_add_20 rfl (lv_at hl 0 rfl) ?_
  refine lv_aload_n hx hb dX1_add_21 rfl (lv_at hl 0 rfl) ?_
  refine q_get hx hb hts hinX1 hown hG hW hk0 rfl 2 (by decide) (hts (.fieldLink RX1 15 "FoleyMixer$Cues" "size" "I") (List.mem_of_getElem? (i := 1) rfl)) rfl rfl dX1_add_22 ?_
  refine lv_iconst (v := nI 2) hx hb dX1_add_25 (by decide) ?_
  refine lv_iload_n hx hb dX1_add_26 rfl (lv_at hl 3 rfl) ?_
  refine q_W0 (va_runV (As := [.int (nI n), .int (nI 2), .int (nI d9)]) (rest := []) ⟨hx, hb, hml, hown, hts⟩ (c_X1_change l hk0 hk1 (n) (2) (d9) (by omega)) (cwV 3 hts gX1_add_X1_change rfl rfl rfl (by decide +kernel) ⟨Nat.le_of_ble_eq_true rfl, Nat.le_of_ble_eq_true rfl⟩) (q_preV hG hW hS hk0 rfl) rfl rfl hl.1 rfl (lv_room (Nat.le_of_ble_eq_true rfl)) dX1_add_27 ⟨Nat.le_of_ble_eq_true rfl, Nat.le_of_ble_eq_true rfl⟩) hS (fun w_27 H locs hp27 hW hS => ?_)
  obtain ⟨hk1, fr27⟩ := hp27
  replace hk0 : w_27 k = some (.inr (1, [.int (nI lim), .ref (b + (k + 1)), .int (nI n)])) := (fr27 _ (by omega)).trans hk0
  refine lv_aload_n hx hb dX1_add_30 rfl (lv_at hl 0 rfl) ?_
  refine lv_aload_n hx hb dX1_add_31 rfl (lv_at hl 0 rfl) ?_
  refine q_get hx hb hts hinX1 hown hG hW hk0 rfl 2 (by decide) (hts (.fieldLink RX1 15 "FoleyMixer$Cues" "size" "I") (List.mem_of_getElem? (i := 1) rfl)) rfl rfl dX1_add_32 ?_
  refine lv_iconst (v := nI 3) hx hb dX1_add_35 (by decide) ?_
  refine lv_iload hx hb dX1_add_36 (lv_at hl 4 rfl) ?_
  refine q_W0 (va_runV (As := [.int (nI n), .int (nI 3), .int (nI g9)]) (rest := []) ⟨hx, hb, hml, hown, hts⟩ (c_X1_change l hk0 hk1 (n) (3) (g9) (by omega)) (cwV 3 hts gX1_add_X1_change rfl rfl rfl (by decide +kernel) ⟨Nat.le_of_ble_eq_true rfl, Nat.le_of_ble_eq_true rfl⟩) (q_preV hG hW hS hk0 rfl) rfl rfl hl.1 rfl (lv_room (Nat.le_of_ble_eq_true rfl)) dX1_add_38 ⟨Nat.le_of_ble_eq_true rfl, Nat.le_of_ble_eq_true rfl⟩) hS (fun w_38 H locs hp38 hW hS => ?_)
  obtain ⟨hk1, fr38⟩ := hp38
  replace hk0 : w_38 k = some (.inr (1, [.int (nI lim), .ref (b + (k + 1)), .int (nI n)])) := (fr38 _ (by omega)).trans hk0
  refine lv_aload_n hx hb dX1_add_41 rfl (lv_at hl 0 rfl) ?_
  refine lv_dup hx hb dX1_add_42 rfl ?_
  refine q_get hx hb hts hinX1 hown hG hW hk0 rfl 2 (by decide) (hts (.fieldLink RX1 15 "FoleyMixer$Cues" "size" "I") (List.mem_of_getElem? (i := 1) rfl)) rfl rfl dX1_add_43 ?_
  refine lv_iconst (v := nI 1) hx hb dX1_add_46 (by decide) ?_
  refine lv_iadd hx hb dX1_add_47 ?_
  refine q_top (y := nI (n + 1)) (nI_add _ _) ?_
  refine q_put hx hb hts hinX1 tyX1_ok nmX1 hown hG hW hS hk0 rfl 2 (by decide) (hts (.fieldLink RX1 15 "FoleyMixer$Cues" "size" "I") (List.mem_of_getElem? (i := 1) rfl)) rfl rfl rfl rfl (Nat.le_of_ble_eq_true rfl) dX1_add_48 (fun H locs hW hS hz48 => ?_)
  obtain ⟨w1, ew1⟩ : ∃ wq__ : Wd, wq__ = va_up w_38 k (some (.inr (1, [.int (nI lim), .ref (b + (k + 1)), .int (nI (n + 1))]))) := ⟨_, rfl⟩
  replace hW : WP D b w1 H := by rw [ew1]; exact hW
  have frw1 : ∀ id : Nat, id ≠ k → w1 id = w_38 id := fun id h9 => by rw [ew1, up_ne h9]
  replace hk1 : w1 (k + 1) = some (eN dA 48 (va_up (va_up (va_up (va_up f (n * 4 + 0) s9) (n * 4 + 1) l9) (n * 4 + 2) d9) (n * 4 + 3) g9)) := (frw1 _ (by omega)).trans hk1
  replace hk0 : w1 k = some (.inr (1, [.int (nI lim), .ref (b + (k + 1)), .int (nI (n + 1))])) := by rw [ew1]; exact up_eq
  exact q_wv hx hb hr hlocks hW hS dX1_add_51 (by exact ⟨⟨hk0, by omega, hl12, okW_add hok h0 h1 h2 h3 h4, _, hk1, add_row hf⟩, by intro id h9 h8; rw [frw1 id (by omega)]; rw [fr38 id (by omega)]; rw [fr27 id (by omega)]; rw [fr17 id (by omega)]; rw [fr7 id (by omega)]; try rfl⟩) (by decide) (by decide)

set_option maxHeartbeats 300000 in
set_option maxRecDepth 100000 in
/-- Cues.drop(number) -/
theorem c_X1_drop (l : Launch) {D : va_G} {dA : Nat → Nat} {b : Nat} {w : Wd} {k lim n : Nat} {V : Nat → Nat → Nat} (hc : isCues dA b w k lim n V) (i : Nat) (hi : i < n) : Met l yX1_drop wsX1_drop ({ frames := 1, cells := 0, slots := 0, locals := 22 } : Room) (PC D dA b w [.ref (b + k), .int (nI i)]) (QW D b (none) (fun w' => isCues dA b w' k lim (n - 1) (delV V i) ∧ ∀ id : Nat, id ≠ k → id ≠ k + 1 → w' id = w id)) 0 0 (Fb b) := by
  refine q_of (cc := cX1_drop) (maxL := 3) (ret := none) (by decide) rfl rfl ?_
  intro p e s m args below meth c ls hx hb hr hml hts hown hlocks hG hW hS hl
  have hown : s.vm.findClass RX1 = some m.cls := hown
  have hinX1 : ∀ w ∈ u_ws RX1 TX1 3, w ∈ wsX1_drop := fun w h => (goodIn_r (big := wsX1_drop) (u_ws RX1 TX1 3) [13, 14, 15] (by decide +kernel) (by decide +kernel) w h).1
  have hl : lv_has ls 3 [(0, .ref (b + k)), (1, .int (nI i))] := hl
  obtain ⟨hk0, hnl, hl12, hok, f, hk1, hf⟩ := id hc
  refine lv_aload_n hx hb dX1_drop_0 rfl (lv_at hl 0 rfl) ?_
  refine lv_iload_n hx hb dX1_drop_1 rfl (lv_at hl 1 rfl) ?_
  refine q_R1 (va_runV (As := [.int (nI i)]) (rest := []) ⟨hx, hb, hml, hown, hts⟩ (c_X1_has l hc (nI i)) (cwV 1 hts gX1_drop_X1_has rfl rfl rfl (by decide +kernel) ⟨Nat.le_of_ble_eq_true rfl, Nat.le_of_ble_eq_true rfl⟩) (q_preV hG hW hS hk0 rfl) rfl rfl hl.1 rfl (lv_room (Nat.le_of_ble_eq_true rfl)) dX1_drop_2 ⟨Nat.le_of_ble_eq_true rfl, Nat.le_of_ble_eq_true rfl⟩) ?_
  refine lv_if_ne (tgt := 9) hx hb dX1_drop_5 (by decide) (fun c_5 => ?_) (fun c_5 => ?_)
  · skip
    have c_5 : 0 ≤ nI i ∧ nI i < nI n := Decidable.byContradiction (fun h__ => c_5 (pI_eq0.mpr h__))
    refine lv_iload_n hx hb dX1_drop_9 rfl (lv_at hl 1 rfl) ?_
    refine lv_iconst (v := nI 4) hx hb dX1_drop_10 (by decide) ?_
    refine lv_imul hx hb dX1_drop_11 ?_
    refine q_top (y := nI (i * 4)) (nI_mul _ _) ?_
    refine lv_istore_n (lv' := [(2, .int (nI (i * 4))), (0, .ref (b + k)), (1, .int (nI i))]) hx hb dX1_drop_12 rfl hl (by decide) rfl (fun ls hl => ?_)
    have L13 : ∀ (n13 : Nat) (q : Nat), i * 4 ≤ q → q ≤ 44 → 44 - q < n13 → ∀ (x13_2 : Int32), x13_2 = nI (q) → ∀ (w8 : Wd) (H : Heap) (locs : List Loc), (∀ id : Nat, id ≠ k + 1 → w8 id = w id) → (w8 (k + 1) = some (eN dA 48 (fun j => if i * 4 ≤ j ∧ j < q then f (j + 4) else f j))) → WP D b w8 H → va_S (Fb b) s.heap H locs → ∀ (ls : Array Slot), lv_has ls 3 [(0, .ref (b + k)), (1, .int (nI i)), (2, .int x13_2)] → W p l e ({ frames := 1, cells := 0, slots := 0, locals := 22 } : Room) s m args below meth c H locs 0 0 (MQ below (QW D b (none) (fun w' => isCues dA b w' k lim (n - 1) (delV V i) ∧ ∀ id : Nat, id ≠ k → id ≠ k + 1 → w' id = w id)) args s 0 0 (Fb b)) (F0 m 13 ls []) := by
      intro n13
      induction n13 with
      | zero =>
        intro q hq0 hq1 hn13 x13_2 ex13_2 w8 H locs fr hk1 hW hS ls hl
        exact absurd hn13 (Nat.not_lt_zero _)
      | succ n13 ih13 =>
        intro q hq0 hq1 hn13 x13_2 ex13_2 w8 H locs fr hk1 hW hS ls hl
        subst ex13_2
        replace hk0 := (fr k (by omega)).trans hk0
        refine lv_iload_n hx hb dX1_drop_13 rfl (lv_at hl 2 rfl) ?_
        refine lv_iconst (v := nI 4) hx hb dX1_drop_14 (by decide) ?_
        refine lv_iadd hx hb dX1_drop_15 ?_
        refine q_top (y := nI (q + 4)) (nI_add _ _) ?_
        refine lv_aload_n hx hb dX1_drop_16 rfl (lv_at hl 0 rfl) ?_
        refine q_get hx hb hts hinX1 hown hG hW hk0 rfl 1 (by decide) (hts (.fieldLink RX1 9 "FoleyMixer$Cues" "numbers" "[I") (List.mem_of_getElem? (i := 1) rfl)) rfl rfl dX1_drop_17 ?_
        refine q_alen hx hb (hW.ar hG hk1 (by omega)) dX1_drop_20 ?_
        refine lv_icmp_ge (tgt := 48) hx hb dX1_drop_21 (by decide) (fun c_21 => ?_) (fun c_21 => ?_)
        · skip
          have c_21 : 48 ≤ q + 4 := (nI_leI (a := 48) (b := q + 4) (by omega) (by omega)).mp c_21
          refine lv_aload_n hx hb dX1_drop_48 rfl (lv_at hl 0 rfl) ?_
          refine lv_dup hx hb dX1_drop_49 rfl ?_
          refine q_get hx hb hts hinX1 hown hG hW hk0 rfl 2 (by decide) (hts (.fieldLink RX1 15 "FoleyMixer$Cues" "size" "I") (List.mem_of_getElem? (i := 2) rfl)) rfl rfl dX1_drop_50 ?_
          refine lv_iconst (v := nI 1) hx hb dX1_drop_53 (by decide) ?_
          refine lv_isub hx hb dX1_drop_54 ?_
          refine q_top (y := nI (n - 1)) (nI_sub (by omega)) ?_
          refine q_put hx hb hts hinX1 tyX1_ok nmX1 hown hG hW hS hk0 rfl 2 (by decide) (hts (.fieldLink RX1 15 "FoleyMixer$Cues" "size" "I") (List.mem_of_getElem? (i := 2) rfl)) rfl rfl rfl rfl (Nat.le_of_ble_eq_true rfl) dX1_drop_55 (fun H locs hW hS hz55 => ?_)
          obtain ⟨w1, ew1⟩ : ∃ wq__ : Wd, wq__ = va_up w8 k (some (.inr (1, [.int (nI lim), .ref (b + (k + 1)), .int (nI (n - 1))]))) := ⟨_, rfl⟩
          replace hW : WP D b w1 H := by rw [ew1]; exact hW
          have frw1 : ∀ id : Nat, id ≠ k → w1 id = w8 id := fun id h9 => by rw [ew1, up_ne h9]
          replace hk1 : w1 (k + 1) = some (eN dA 48 (fun j => if i * 4 ≤ j ∧ j < q then f (j + 4) else f j)) := (frw1 _ (by omega)).trans hk1
          replace hk0 : w1 k = some (.inr (1, [.int (nI lim), .ref (b + (k + 1)), .int (nI (n - 1))])) := by rw [ew1]; exact up_eq
          exact q_wv hx hb hr hlocks hW hS dX1_drop_58 (by exact ⟨⟨hk0, by omega, hl12, okW_del hok hi, _, hk1, (by have e9 : q = 44 := (by omega); subst e9; exact del_row (by omega) hf)⟩, by intro id h9 h8; rw [frw1 id h9, fr id h8]⟩) (by decide) (by decide)
        · skip
          have c_21 : ¬ (48 ≤ q + 4) := fun h__ => c_21 ((nI_leI (a := 48) (b := q + 4) (by omega) (by omega)).mpr h__)
          refine lv_aload_n hx hb dX1_drop_24 rfl (lv_at hl 0 rfl) ?_
          refine q_get hx hb hts hinX1 hown hG hW hk0 rfl 1 (by decide) (hts (.fieldLink RX1 9 "FoleyMixer$Cues" "numbers" "[I") (List.mem_of_getElem? (i := 1) rfl)) rfl rfl dX1_drop_25 ?_
          refine lv_iload_n hx hb dX1_drop_28 rfl (lv_at hl 2 rfl) ?_
          refine lv_aload_n hx hb dX1_drop_29 rfl (lv_at hl 0 rfl) ?_
          refine q_get hx hb hts hinX1 hown hG hW hk0 rfl 1 (by decide) (hts (.fieldLink RX1 9 "FoleyMixer$Cues" "numbers" "[I") (List.mem_of_getElem? (i := 1) rfl)) rfl rfl dX1_drop_30 ?_
          refine lv_iload_n hx hb dX1_drop_33 rfl (lv_at hl 2 rfl) ?_
          refine lv_iconst (v := nI 4) hx hb dX1_drop_34 (by decide) ?_
          refine lv_iadd hx hb dX1_drop_35 ?_
          refine q_top (y := nI (q + 4)) (nI_add _ _) ?_
          refine q_R1 (va_runSN (As := [.ref (b + (k + 1)), .int (nI (q + 4))]) (rest := [.int (nI q), .ref (b + (k + 1))]) ⟨hx, hb, hml, hown, hts⟩ (c_entry_in l (RD.own hk1 (by decide)) (by decide) (q + 4) (by omega)) ⟨(va_cnB 2 hts gX1_drop_X6_entry_n42 rfl rfl rfl (hG.nest 47 rfl) (hts (.initialized RX6) (List.mem_of_getElem? (i := 9) rfl)) (by decide +kernel) ⟨Nat.le_of_ble_eq_true rfl, Nat.le_of_ble_eq_true rfl⟩), (hts (.static yX6_entry) (List.mem_of_getElem? (i := 8) rfl)), trivial⟩ (q_preS hG hW hS) rfl rfl hl.1 rfl (lv_room (Nat.le_of_ble_eq_true rfl)) dX1_drop_36 ⟨Nat.le_of_ble_eq_true rfl, Nat.le_of_ble_eq_true rfl⟩) ?_
          refine q_W0 (va_runSN (As := [.ref (b + (k + 1)), .int (nI q), .int (nI ((fun j => if i * 4 ≤ j ∧ j < q then f (j + 4) else f j) (q + 4)))]) (rest := []) ⟨hx, hb, hml, hown, hts⟩ (c_put_n l hk1 (by decide) (q) (by omega) ((fun j => if i * 4 ≤ j ∧ j < q then f (j + 4) else f j) (q + 4))) ⟨(va_cnB 3 hts gX1_drop_X6_put_n30 rfl rfl rfl (hG.nest 48 rfl) (hts (.initialized RX6) (List.mem_of_getElem? (i := 9) rfl)) (by decide +kernel) ⟨Nat.le_of_ble_eq_true rfl, Nat.le_of_ble_eq_true rfl⟩), (hts (.static yX6_put) (List.mem_of_getElem? (i := 11) rfl)), trivial⟩ (q_preS hG hW hS) rfl rfl hl.1 rfl (lv_room (Nat.le_of_ble_eq_true rfl)) dX1_drop_39 ⟨Nat.le_of_ble_eq_true rfl, Nat.le_of_ble_eq_true rfl⟩) hS (fun w_39 H locs hp39 hW hS => ?_)
          obtain ⟨hk1, fr39⟩ := hp39
          replace hk0 : w_39 k = some (.inr (1, [.int (nI lim), .ref (b + (k + 1)), .int (nI n)])) := (fr39 _ (by omega)).trans hk0
          refine lv_iinc (v := nI (q + 1)) (lv' := [(2, .int (nI (q + 1))), (0, .ref (b + k)), (1, .int (nI i))]) hx hb dX1_drop_42 hl (k := 2) rfl (nI_add _ 1) (by decide) rfl (fun ls hl => ?_)
          refine lv_goto (tgt := 13) hx hb dX1_drop_45 (by decide) ?_
          exact ih13 (q + 1) (by omega) (by omega) (by omega) _ (by first | rfl | (congr 1; omega)) _ _ _ (by intro id h9; rw [fr39 id h9, fr id h9]) (by exact hk1.trans (eN_congr (range_step (f := fun z => f (z + 4)) hq0 (if_neg (by omega))))) hW hS _ (lv_sub hl [1, 2, 0] rfl)
    exact L13 ((44 - i * 4) + 1) (i * 4) (by omega) (by omega) (Nat.lt_succ_self _) _ (by first | rfl | (congr 1; omega)) _ _ _ (by intro id h9; rfl) (by exact hk1.trans (eN_congr (range_0 (f := fun z => f (z + 4))))) hW hS _ (lv_sub hl [1, 2, 0] rfl)
  · skip
    have c_5 : ¬ (0 ≤ nI i ∧ nI i < nI n) := pI_eq0.mp c_5
    exact absurd ⟨nI_pos' (by omega), nI_lt hi (by omega)⟩ c_5

