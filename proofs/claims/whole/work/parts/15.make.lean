set_option maxHeartbeats 300000 in
set_option maxRecDepth 100000 in
/-- copyRow(from, to), the heap counted -/
theorem c_copyRow_z (l : Launch) {D : va_G} {dA : Nat → Nat} {b : Nat} {w : Wd} {z t k n : Nat} {f g : Nat → Nat} (hA0 : ∀ w1 : Wd, (∀ id : Nat, id ≠ k → w1 id = w id) → RD D dA b w1 t n (fun j => nI (f j))) (hk : w k = some (eN dA n g)) (hn : n < 2 ^ 31) : Met l yX6_copyRow wsX6_copyRow ({ frames := 0, cells := 0, slots := 0, locals := 0 } : Room) (PZ D dA b w z [.ref (t), .ref (b + k)]) (QZ D b none (z) (fun w' => w' k = some (eN dA n f) ∧ ∀ id : Nat, id ≠ k → w' id = w id)) 0 0 (Fb b) := by
  refine q_ofZ (cc := cX6_copyRow) (maxL := 3) (ret := none) (by decide) rfl rfl ?_
  intro p e s m args below meth c ls hx hb hr hml hts hown hlocks hin0 hG hW hS hz hl
  have hown : s.vm.findClass RX6 = some m.cls := hown
  have hl : lv_has ls 3 [(0, .ref (t)), (1, .ref (b + k))] := hl
  refine lv_iconst (v := nI 0) hx hb dX6_copyRow_0 (by decide) ?_
  refine lv_istore_n (lv' := [(2, .int (nI 0)), (0, .ref (t)), (1, .ref (b + k))]) hx hb dX6_copyRow_1 rfl hl (by decide) rfl (fun ls hl => ?_)
  have L2 : ∀ (n2 : Nat) (i : Nat), i ≤ n → n - i < n2 → ∀ (x2_2 : Int32), x2_2 = nI (i) → ∀ (w2 : Wd) (H : Heap) (locs : List Loc), (∀ id : Nat, id ≠ k → w2 id = w id) → w2 k = some (eN dA n (fun j => if j < i then f j else g j)) → WP D b w2 H → va_S (Fb b) s.heap H locs → H.size = b + z → ∀ (ls : Array Slot), lv_has ls 3 [(0, .ref (t)), (1, .ref (b + k)), (2, .int x2_2)] → W p l e ({ frames := 0, cells := 0, slots := 0, locals := 0 } : Room) s m args below meth c H locs 0 0 (MQ below (QZ D b none (z) (fun w' => w' k = some (eN dA n f) ∧ ∀ id : Nat, id ≠ k → w' id = w id)) args s 0 0 (Fb b)) (F0 m 2 ls []) := by
    intro n2
    induction n2 with
    | zero =>
      intro i hi0 hn2 x2_2 ex2_2 w2 H locs fr hk hW hS hz ls hl
      exact absurd hn2 (Nat.not_lt_zero _)
    | succ n2 ih2 =>
      intro i hi0 hn2 x2_2 ex2_2 w2 H locs fr hk hW hS hz ls hl
      subst ex2_2
      have hA := hA0 w2 fr s H locs hG hS hW
      refine lv_iload_n hx hb dX6_copyRow_2 rfl (lv_at hl 2 rfl) ?_
      refine lv_aload_n hx hb dX6_copyRow_3 rfl (lv_at hl 0 rfl) ?_
      refine q_alen hx hb hA dX6_copyRow_4 ?_
      refine lv_icmp_ge (tgt := 26) hx hb dX6_copyRow_5 (by decide) (fun c_5 => ?_) (fun c_5 => ?_)
      · skip
        have c_5 : n ≤ i := (nI_leI (a := n) (b := i) (by omega) (by omega)).mp c_5
        have hW := hW.same (g := f) hk (fun j hj => if_pos (by omega))
        exact q_zv hx hb hr hlocks hW hS (by omega) dX6_copyRow_26 (by exact ⟨up_eq, fun id h9 => (up_ne h9).trans (fr id h9)⟩) (by decide) (by decide)
      · skip
        have c_5 : ¬ (n ≤ i) := fun h__ => c_5 ((nI_leI (a := n) (b := i) (by omega) (by omega)).mpr h__)
        refine lv_iload_n hx hb dX6_copyRow_8 rfl (lv_at hl 2 rfl) ?_
        refine lv_aload_n hx hb dX6_copyRow_9 rfl (lv_at hl 1 rfl) ?_
        refine q_alen hx hb (hW.ar hG hk (by omega)) dX6_copyRow_10 ?_
        refine lv_icmp_ge (tgt := 26) hx hb dX6_copyRow_11 (by decide) (fun c_11 => ?_) (fun c_11 => ?_)
        · skip
          have c_11 : n ≤ i := (nI_leI (a := n) (b := i) (by omega) (by omega)).mp c_11
          have hW := hW.same (g := f) hk (fun j hj => if_pos (by omega))
          exact q_zv hx hb hr hlocks hW hS (by omega) dX6_copyRow_26 (by exact ⟨up_eq, fun id h9 => (up_ne h9).trans (fr id h9)⟩) (by decide) (by decide)
        · skip
          have c_11 : ¬ (n ≤ i) := fun h__ => c_11 ((nI_leI (a := n) (b := i) (by omega) (by omega)).mpr h__)
          refine lv_aload_n hx hb dX6_copyRow_14 rfl (lv_at hl 1 rfl) ?_
          refine lv_iload_n hx hb dX6_copyRow_15 rfl (lv_at hl 2 rfl) ?_
          refine lv_aload_n hx hb dX6_copyRow_16 rfl (lv_at hl 0 rfl) ?_
          refine lv_iload_n hx hb dX6_copyRow_17 rfl (lv_at hl 2 rfl) ?_
          refine q_ald hx hb hA (by omega) (by omega) dX6_copyRow_18 ?_
          refine q_nast hx hb hG hW hS hk (by omega) (by omega) dX6_copyRow_19 (fun H locs hW hS hz19 => ?_)
          replace hz := hz19.trans hz
          obtain ⟨w1, ew1⟩ : ∃ wq__ : Wd, wq__ = va_up w2 k (some (eN dA n (va_up (fun j => if j < i then f j else g j) i (f i)))) := ⟨_, rfl⟩
          replace hW : WP D b w1 H := by rw [ew1]; exact hW
          have frw1 : ∀ id : Nat, id ≠ k → w1 id = w2 id := fun id h9 => by rw [ew1, up_ne h9]
          replace hk : w1 k = some (eN dA n (va_up (fun j => if j < i then f j else g j) i (f i))) := by rw [ew1]; exact up_eq
          refine lv_iinc (v := nI (i + 1)) (lv' := [(2, .int (nI (i + 1))), (0, .ref (t)), (1, .ref (b + k))]) hx hb dX6_copyRow_20 hl (k := 2) rfl (nI_add _ 1) (by decide) rfl (fun ls hl => ?_)
          refine lv_goto (tgt := 2) hx hb dX6_copyRow_23 (by decide) ?_
          exact ih2 (i + 1) (by omega) (by omega) _ (by first | rfl | (congr 1; omega)) _ _ _ (by intro id h9; rw [frw1 id h9, fr id h9]) (by exact hk.trans (eN_congr (fill_step (f := f) rfl))) hW hS hz _ (lv_sub hl [1, 2, 0] rfl)
  exact L2 ((n - 0) + 1) 0 (by omega) (Nat.lt_succ_self _) _ (by first | rfl | (congr 1; omega)) _ _ _ (by intro id h9; rfl) (by exact hk.trans (eN_congr (fill_0 (f := f)))) hW hS hz _ (lv_sub hl [1, 2, 0] rfl)

set_option maxHeartbeats 300000 in
set_option maxRecDepth 100000 in
/-- Cues(limit) -/
theorem c_X1_init (l : Launch) {D : va_G} {dA : Nat → Nat} {b : Nat} {w : Wd} {k lim : Nat} (hk0 : w k = some (.inr (1, [.int (nI 0), .null, .int (nI 0)]))) (hlim : lim ≤ 12) : Met l yX1_init wsX1_init ({ frames := 1, cells := 1, slots := 48, locals := 12 } : Room) (PZ D dA b w (k + 1) [.ref (b + k), .int (nI lim)]) (QZ D b none (k + 2) (fun w' => isCues dA b w' k lim 0 (fun _ _ => 0) ∧ ∀ id : Nat, (id < k ∨ k + 2 ≤ id) → w' id = w id)) 1 48 (Fb b) := by
  refine q_ofZ (cc := cX1_init) (maxL := 2) (ret := none) (by decide) rfl rfl ?_
  intro p e s m args below meth c ls hx hb hr hml hts hown hlocks hin0 hG hW hS hz hl
  have hown : s.vm.findClass RX1 = some m.cls := hown
  have hinX1 : ∀ w ∈ u_ws RX1 TX1 3, w ∈ wsX1_init := fun w h => (goodIn_r (big := wsX1_init) (u_ws RX1 TX1 3) [8, 9, 10] (by decide +kernel) (by decide +kernel) w h).1
  have hl : lv_has ls 2 [(0, .ref (b + k)), (1, .int (nI lim))] := hl
  refine lv_aload_n hx hb dX1_init_0 rfl (lv_at hl 0 rfl) ?_
  refine W.objInit hx hb hown (hts (.methodLink RX1 3 objectInit) (List.mem_of_getElem? (i := 1) rfl)) (hts (.instanceMethod objectInit) (List.mem_of_getElem? (i := 2) rfl)) (hts _ (List.mem_of_getElem? (i := 3) rfl)) rfl (by rw [hml]; exact hl.1) rfl dX1_init_1 (Nat.le_of_ble_eq_true rfl) (Nat.le_of_ble_eq_true rfl) ?_
  refine W.eq (g2 := F0 m 4 ls []) rfl ?_
  refine lv_aload_n hx hb dX1_init_4 rfl (lv_at hl 0 rfl) ?_
  refine lv_bipush (v := nI 48) hx hb dX1_init_5 (by decide) ?_
  refine q_newI hx hb (hts (.arrayClass .int) (List.mem_of_getElem? (i := 4) rfl)) hG hW hS hz (by decide) (Nat.le_of_ble_eq_true rfl) (Nat.le_of_ble_eq_true rfl) dX1_init_7 (fun H hW hS hz => ?_)
  obtain ⟨w1, ew1⟩ : ∃ wq__ : Wd, wq__ = va_up w (k + 1) (some (eN dA 48 (fun _ => 0))) := ⟨_, rfl⟩
  rw [← ew1] at hW
  have frw1 : ∀ id : Nat, id ≠ k + 1 → w1 id = w id := fun id h9 => by rw [ew1, up_ne h9]
  replace hk0 : w1 k = some (.inr (1, [.int (nI 0), .null, .int (nI 0)])) := (frw1 _ (by omega)).trans hk0
  have hn7_1 : w1 (k + 1) = some (eN dA 48 (fun _ => 0)) := by rw [ew1]; exact up_eq
  refine q_putF hx hb hts hinX1 tyX1_ok nmX1 hown hG hW hS hk0 rfl 1 (by decide) (hts (.fieldLink RX1 9 "FoleyMixer$Cues" "numbers" "[I") (List.mem_of_getElem? (i := 5) rfl)) rfl rfl hin0 rfl rfl rfl (Nat.le_of_ble_eq_true rfl) dX1_init_9 (fun H locs hW hS hz9 => ?_)
  replace hz := hz9.trans hz
  obtain ⟨w2, ew2⟩ : ∃ wq__ : Wd, wq__ = va_up w1 k (some (.inr (1, [.int (nI 0), .ref (b + (k + 1)), .int (nI 0)]))) := ⟨_, rfl⟩
  replace hW : WP D b w2 H := by rw [ew2]; exact hW
  have frw2 : ∀ id : Nat, id ≠ k → w2 id = w1 id := fun id h9 => by rw [ew2, up_ne h9]
  replace hn7_1 : w2 (k + 1) = some (eN dA 48 (fun _ => 0)) := (frw2 _ (by omega)).trans hn7_1
  replace hk0 : w2 k = some (.inr (1, [.int (nI 0), .ref (b + (k + 1)), .int (nI 0)])) := by rw [ew2]; exact up_eq
  refine lv_aload_n hx hb dX1_init_12 rfl (lv_at hl 0 rfl) ?_
  refine lv_iconst (v := nI 0) hx hb dX1_init_13 (by decide) ?_
  refine q_put hx hb hts hinX1 tyX1_ok nmX1 hown hG hW hS hk0 rfl 2 (by decide) (hts (.fieldLink RX1 15 "FoleyMixer$Cues" "size" "I") (List.mem_of_getElem? (i := 6) rfl)) rfl rfl rfl rfl (Nat.le_of_ble_eq_true rfl) dX1_init_14 (fun H locs hW hS hz14 => ?_)
  replace hz := hz14.trans hz
  obtain ⟨w3, ew3⟩ : ∃ wq__ : Wd, wq__ = va_up w2 k (some (.inr (1, [.int (nI 0), .ref (b + (k + 1)), .int (nI 0)]))) := ⟨_, rfl⟩
  replace hW : WP D b w3 H := by rw [ew3]; exact hW
  have frw3 : ∀ id : Nat, id ≠ k → w3 id = w2 id := fun id h9 => by rw [ew3, up_ne h9]
  replace hn7_1 : w3 (k + 1) = some (eN dA 48 (fun _ => 0)) := (frw3 _ (by omega)).trans hn7_1
  replace hk0 : w3 k = some (.inr (1, [.int (nI 0), .ref (b + (k + 1)), .int (nI 0)])) := by rw [ew3]; exact up_eq
  refine lv_aload_n hx hb dX1_init_17 rfl (lv_at hl 0 rfl) ?_
  refine lv_iload_n hx hb dX1_init_18 rfl (lv_at hl 1 rfl) ?_
  refine q_putF hx hb hts hinX1 tyX1_ok nmX1 hown hG hW hS hk0 rfl 0 (by decide) (hts (.fieldLink RX1 19 "FoleyMixer$Cues" "limit" "I") (List.mem_of_getElem? (i := 7) rfl)) rfl rfl hin0 rfl rfl rfl (Nat.le_of_ble_eq_true rfl) dX1_init_19 (fun H locs hW hS hz19 => ?_)
  replace hz := hz19.trans hz
  obtain ⟨w4, ew4⟩ : ∃ wq__ : Wd, wq__ = va_up w3 k (some (.inr (1, [.int (nI lim), .ref (b + (k + 1)), .int (nI 0)]))) := ⟨_, rfl⟩
  replace hW : WP D b w4 H := by rw [ew4]; exact hW
  have frw4 : ∀ id : Nat, id ≠ k → w4 id = w3 id := fun id h9 => by rw [ew4, up_ne h9]
  replace hn7_1 : w4 (k + 1) = some (eN dA 48 (fun _ => 0)) := (frw4 _ (by omega)).trans hn7_1
  replace hk0 : w4 k = some (.inr (1, [.int (nI lim), .ref (b + (k + 1)), .int (nI 0)])) := by rw [ew4]; exact up_eq
  exact q_zv hx hb hr hlocks hW hS (by omega) dX1_init_22 (by exact ⟨⟨hk0, by omega, hlim, fun i hi => absurd hi (Nat.not_lt_zero i), _, hn7_1, fun i hi => absurd hi (Nat.not_lt_zero i)⟩, by intro id h9; rw [frw4 id (by omega)]; rw [frw3 id (by omega)]; rw [frw2 id (by omega)]; rw [frw1 id (by omega)]; try rfl⟩) (by decide) (by decide)

/-- a new play -/
def P0 : Pl := (0, (fun _ _ => 0), 0, (fun _ _ => 0), (fun j => ([6, 2, 1, 2, 0] : List Nat).getD j 0))
theorem P0_okS : okS P0.S := by unfold okS P0; decide
set_option maxHeartbeats 300000 in
set_option maxRecDepth 100000 in
/-- Play() -/
theorem c_X4_init (l : Launch) {D : va_G} {dA : Nat → Nat} {b : Nat} {w : Wd} {k : Nat} (hk0 : w k = some (.inr (4, [.null, .null, .null]))) : Met l yX4_init wsX4_init ({ frames := 2, cells := 5, slots := 107, locals := 33 } : Room) (PZ D dA b w (k + 1) [.ref (b + k)]) (QZ D b none (k + 6) (fun w' => isPlay dA b w' k P0 ∧ ∀ id : Nat, (id < k ∨ k + 6 ≤ id) → w' id = w id)) 5 107 (Fb b) := by
  refine q_ofZ (cc := cX4_init) (maxL := 1) (ret := none) (by decide) rfl rfl ?_
  intro p e s m args below meth c ls hx hb hr hml hts hown hlocks hin0 hG hW hS hz hl
  have hown : s.vm.findClass RX4 = some m.cls := hown
  have hinX1 : ∀ w ∈ u_ws RX1 TX1 3, w ∈ wsX4_init := fun w h => (goodIn_r (big := wsX4_init) (u_ws RX1 TX1 3) [20, 21, 22] (by decide +kernel) (by decide +kernel) w h).1
  have hinX4 : ∀ w ∈ u_ws RX4 TX4 3, w ∈ wsX4_init := fun w h => (goodIn_r (big := wsX4_init) (u_ws RX4 TX4 3) [23, 24, 25] (by decide +kernel) (by decide +kernel) w h).1
  have hl : lv_has ls 1 [(0, .ref (b + k))] := hl
  refine lv_aload_n hx hb dX4_init_0 rfl (lv_at hl 0 rfl) ?_
  refine W.objInit hx hb hown (hts (.methodLink RX4 3 objectInit) (List.mem_of_getElem? (i := 1) rfl)) (hts (.instanceMethod objectInit) (List.mem_of_getElem? (i := 2) rfl)) (hts _ (List.mem_of_getElem? (i := 3) rfl)) rfl (by rw [hml]; exact hl.1) rfl dX4_init_1 (Nat.le_of_ble_eq_true rfl) (Nat.le_of_ble_eq_true rfl) ?_
  refine W.eq (g2 := F0 m 4 ls []) rfl ?_
  refine lv_aload_n hx hb dX4_init_4 rfl (lv_at hl 0 rfl) ?_
  refine q_new (ci := 1) (fs := [.int (nI 0), .null, .int (nI 0)]) hx hb hts hinX1 tyX1_ok hown (hts (.classLink RX4 9 RX1) (List.mem_of_getElem? (i := 4) rfl)) (hts (.instantiable RX1 3) (List.mem_of_getElem? (i := 5) rfl)) (hts (.initialized RX1) (List.mem_of_getElem? (i := 6) rfl)) hG hW hS hz rfl (fun j hj => by rcases (show j = 0 ∨ j = 1 ∨ j = 2 by omega) with rfl | rfl | rfl <;> rfl) (Nat.le_of_ble_eq_true rfl) (Nat.le_of_ble_eq_true rfl) dX4_init_5 (fun H hW hS hz => ?_)
  obtain ⟨w1, ew1⟩ : ∃ wq__ : Wd, wq__ = va_up w (k + 1) (some (.inr (1, [.int (nI 0), .null, .int (nI 0)]))) := ⟨_, rfl⟩
  rw [← ew1] at hW
  have frw1 : ∀ id : Nat, id ≠ k + 1 → w1 id = w id := fun id h9 => by rw [ew1, up_ne h9]
  replace hk0 : w1 k = some (.inr (4, [.null, .null, .null])) := (frw1 _ (by omega)).trans hk0
  have hn5_1 : w1 (k + 1) = some (.inr (1, [.int (nI 0), .null, .int (nI 0)])) := by rw [ew1]; exact up_eq
  refine lv_dup hx hb dX4_init_8 rfl ?_
  refine lv_bipush (v := nI 10) hx hb dX4_init_9 (by decide) ?_
  refine q_call (va_runIN (As := [.int (nI 10)]) (rest := [.ref (b + (k + 1)), .ref (b + k)]) ⟨hx, hb, hml, hown, hts⟩ (c_X1_init l hn5_1 (by omega)) ⟨(va_cnB 1 hts gX4_init_X1_init_n11 rfl rfl rfl (hG.nest 7 rfl) (hts (.initialized RX1) (List.mem_of_getElem? (i := 6) rfl)) (by decide +kernel) ⟨Nat.le_of_ble_eq_true rfl, Nat.le_of_ble_eq_true rfl⟩), rfl, (hts (.instanceMethod yX1_init) (List.mem_of_getElem? (i := 11) rfl))⟩ (q_preI hG hW hS (by omega)) rfl rfl hl.1 rfl (lv_room (Nat.le_of_ble_eq_true rfl)) dX4_init_11 ⟨Nat.le_of_ble_eq_true rfl, Nat.le_of_ble_eq_true rfl⟩) hS (fun w_11 H locs hp11 hW hS hz => ?_)
  obtain ⟨hcu11, fr11⟩ := hp11
  replace hk0 : w_11 k = some (.inr (4, [.null, .null, .null])) := (fr11 _ (by omega)).trans hk0
  refine q_putF hx hb hts hinX4 tyX4_ok nmX4 hown hG hW hS hk0 rfl 0 (by decide) (hts (.fieldLink RX4 14 "FoleyMixer$Play" "words" "LFoleyMixer$Cues;") (List.mem_of_getElem? (i := 7) rfl)) rfl rfl hin0 rfl rfl rfl (Nat.le_of_ble_eq_true rfl) dX4_init_14 (fun H locs hW hS hz14 => ?_)
  replace hz := hz14.trans hz
  obtain ⟨w2, ew2⟩ : ∃ wq__ : Wd, wq__ = va_up w_11 k (some (.inr (4, [.ref (b + (k + 1)), .null, .null]))) := ⟨_, rfl⟩
  replace hW : WP D b w2 H := by rw [ew2]; exact hW
  have frw2 : ∀ id : Nat, id ≠ k → w2 id = w_11 id := fun id h9 => by rw [ew2, up_ne h9]
  replace hcu11 : isCues dA b w2 (k + 1) 10 0 (fun _ _ => 0) := hcu11.fr (frw2 _ (by omega)) (frw2 _ (by omega))
  replace hk0 : w2 k = some (.inr (4, [.ref (b + (k + 1)), .null, .null])) := by rw [ew2]; exact up_eq
  refine lv_aload_n hx hb dX4_init_17 rfl (lv_at hl 0 rfl) ?_
  refine q_new (ci := 1) (fs := [.int (nI 0), .null, .int (nI 0)]) hx hb hts hinX1 tyX1_ok hown (hts (.classLink RX4 9 RX1) (List.mem_of_getElem? (i := 4) rfl)) (hts (.instantiable RX1 3) (List.mem_of_getElem? (i := 5) rfl)) (hts (.initialized RX1) (List.mem_of_getElem? (i := 6) rfl)) hG hW hS hz rfl (fun j hj => by rcases (show j = 0 ∨ j = 1 ∨ j = 2 by omega) with rfl | rfl | rfl <;> rfl) (Nat.le_of_ble_eq_true rfl) (Nat.le_of_ble_eq_true rfl) dX4_init_18 (fun H hW hS hz => ?_)
  obtain ⟨w3, ew3⟩ : ∃ wq__ : Wd, wq__ = va_up w2 (k + 3) (some (.inr (1, [.int (nI 0), .null, .int (nI 0)]))) := ⟨_, rfl⟩
  rw [← ew3] at hW
  have frw3 : ∀ id : Nat, id ≠ k + 3 → w3 id = w2 id := fun id h9 => by rw [ew3, up_ne h9]
  replace hk0 : w3 k = some (.inr (4, [.ref (b + (k + 1)), .null, .null])) := (frw3 _ (by omega)).trans hk0
  replace hcu11 : isCues dA b w3 (k + 1) 10 0 (fun _ _ => 0) := hcu11.fr (frw3 _ (by omega)) (frw3 _ (by omega))
  have hn18_3 : w3 (k + 3) = some (.inr (1, [.int (nI 0), .null, .int (nI 0)])) := by rw [ew3]; exact up_eq
  refine lv_dup hx hb dX4_init_21 rfl ?_
  refine lv_bipush (v := nI 12) hx hb dX4_init_22 (by decide) ?_
  refine q_call (va_runIN (As := [.int (nI 12)]) (rest := [.ref (b + (k + 3)), .ref (b + k)]) ⟨hx, hb, hml, hown, hts⟩ (c_X1_init l hn18_3 (by omega)) ⟨(va_cnB 1 hts gX4_init_X1_init_n11 rfl rfl rfl (hG.nest 7 rfl) (hts (.initialized RX1) (List.mem_of_getElem? (i := 6) rfl)) (by decide +kernel) ⟨Nat.le_of_ble_eq_true rfl, Nat.le_of_ble_eq_true rfl⟩), rfl, (hts (.instanceMethod yX1_init) (List.mem_of_getElem? (i := 11) rfl))⟩ (q_preI hG hW hS (by omega)) rfl rfl hl.1 rfl (lv_room (Nat.le_of_ble_eq_true rfl)) dX4_init_24 ⟨Nat.le_of_ble_eq_true rfl, Nat.le_of_ble_eq_true rfl⟩) hS (fun w_24 H locs hp24 hW hS hz => ?_)
  obtain ⟨hcu24, fr24⟩ := hp24
  replace hk0 : w_24 k = some (.inr (4, [.ref (b + (k + 1)), .null, .null])) := (fr24 _ (by omega)).trans hk0
  replace hcu11 : isCues dA b w_24 (k + 1) 10 0 (fun _ _ => 0) := hcu11.fr (fr24 _ (by omega)) (fr24 _ (by omega))
  refine q_putF hx hb hts hinX4 tyX4_ok nmX4 hown hG hW hS hk0 rfl 1 (by decide) (hts (.fieldLink RX4 20 "FoleyMixer$Play" "noises" "LFoleyMixer$Cues;") (List.mem_of_getElem? (i := 8) rfl)) rfl rfl hin0 rfl rfl rfl (Nat.le_of_ble_eq_true rfl) dX4_init_27 (fun H locs hW hS hz27 => ?_)
  replace hz := hz27.trans hz
  obtain ⟨w4, ew4⟩ : ∃ wq__ : Wd, wq__ = va_up w_24 k (some (.inr (4, [.ref (b + (k + 1)), .ref (b + (k + 3)), .null]))) := ⟨_, rfl⟩
  replace hW : WP D b w4 H := by rw [ew4]; exact hW
  have frw4 : ∀ id : Nat, id ≠ k → w4 id = w_24 id := fun id h9 => by rw [ew4, up_ne h9]
  replace hcu11 : isCues dA b w4 (k + 1) 10 0 (fun _ _ => 0) := hcu11.fr (frw4 _ (by omega)) (frw4 _ (by omega))
  replace hcu24 : isCues dA b w4 (k + 3) 12 0 (fun _ _ => 0) := hcu24.fr (frw4 _ (by omega)) (frw4 _ (by omega))
  replace hk0 : w4 k = some (.inr (4, [.ref (b + (k + 1)), .ref (b + (k + 3)), .null])) := by rw [ew4]; exact up_eq
  refine lv_aload_n hx hb dX4_init_30 rfl (lv_at hl 0 rfl) ?_
  refine lv_iconst (v := nI 5) hx hb dX4_init_31 (by decide) ?_
  refine q_newI hx hb (hts (.arrayClass .int) (List.mem_of_getElem? (i := 9) rfl)) hG hW hS hz (by decide) (Nat.le_of_ble_eq_true rfl) (Nat.le_of_ble_eq_true rfl) dX4_init_32 (fun H hW hS hz => ?_)
  obtain ⟨w5, ew5⟩ : ∃ wq__ : Wd, wq__ = va_up w4 (k + 5) (some (eN dA 5 (fun _ => 0))) := ⟨_, rfl⟩
  rw [← ew5] at hW
  have frw5 : ∀ id : Nat, id ≠ k + 5 → w5 id = w4 id := fun id h9 => by rw [ew5, up_ne h9]
  replace hk0 : w5 k = some (.inr (4, [.ref (b + (k + 1)), .ref (b + (k + 3)), .null])) := (frw5 _ (by omega)).trans hk0
  replace hcu11 : isCues dA b w5 (k + 1) 10 0 (fun _ _ => 0) := hcu11.fr (frw5 _ (by omega)) (frw5 _ (by omega))
  replace hcu24 : isCues dA b w5 (k + 3) 12 0 (fun _ _ => 0) := hcu24.fr (frw5 _ (by omega)) (frw5 _ (by omega))
  have hn32_5 : w5 (k + 5) = some (eN dA 5 (fun _ => 0)) := by rw [ew5]; exact up_eq
  refine q_putF hx hb hts hinX4 tyX4_ok nmX4 hown hG hW hS hk0 rfl 2 (by decide) (hts (.fieldLink RX4 23 "FoleyMixer$Play" "settings" "[I") (List.mem_of_getElem? (i := 10) rfl)) rfl rfl hin0 rfl rfl rfl (Nat.le_of_ble_eq_true rfl) dX4_init_34 (fun H locs hW hS hz34 => ?_)
  replace hz := hz34.trans hz
  obtain ⟨w6, ew6⟩ : ∃ wq__ : Wd, wq__ = va_up w5 k (some (.inr (4, [.ref (b + (k + 1)), .ref (b + (k + 3)), .ref (b + (k + 5))]))) := ⟨_, rfl⟩
  replace hW : WP D b w6 H := by rw [ew6]; exact hW
  have frw6 : ∀ id : Nat, id ≠ k → w6 id = w5 id := fun id h9 => by rw [ew6, up_ne h9]
  replace hcu11 : isCues dA b w6 (k + 1) 10 0 (fun _ _ => 0) := hcu11.fr (frw6 _ (by omega)) (frw6 _ (by omega))
  replace hcu24 : isCues dA b w6 (k + 3) 12 0 (fun _ _ => 0) := hcu24.fr (frw6 _ (by omega)) (frw6 _ (by omega))
  replace hn32_5 : w6 (k + 5) = some (eN dA 5 (fun _ => 0)) := (frw6 _ (by omega)).trans hn32_5
  replace hk0 : w6 k = some (.inr (4, [.ref (b + (k + 1)), .ref (b + (k + 3)), .ref (b + (k + 5))])) := by rw [ew6]; exact up_eq
  refine va_getsN hx hb (hG.2.2.1 2 _ rfl).1 hS hown (va_Nw.use rfl (hG.nest 8 rfl)) (fun _ h => h) dX4_init_37 ?_
  refine lv_aload_n hx hb dX4_init_40 rfl (lv_at hl 0 rfl) ?_
  refine q_get hx hb hts hinX4 hown hG hW hk0 rfl 2 (by decide) (hts (.fieldLink RX4 23 "FoleyMixer$Play" "settings" "[I") (List.mem_of_getElem? (i := 10) rfl)) rfl rfl dX4_init_41 ?_
  refine q_call (va_runSN (As := [.ref (dA 12), .ref (b + (k + 5))]) (rest := []) ⟨hx, hb, hml, hown, hts⟩ (c_copyRow_z l (f := fun j => ([6, 2, 1, 2, 0] : List Nat).getD j 0) (fun w9 h9 => RD.st 2 rfl) hn32_5 (by decide)) ⟨(va_cnB 2 hts gX4_init_X6_copyRow_n30 rfl rfl rfl (hG.nest 9 rfl) (hts (.initialized RX6) (List.mem_of_getElem? (i := 18) rfl)) (by decide +kernel) ⟨Nat.le_of_ble_eq_true rfl, Nat.le_of_ble_eq_true rfl⟩), (hts (.static yX6_copyRow) (List.mem_of_getElem? (i := 17) rfl)), trivial⟩ (q_preI hG hW hS (by omega)) rfl rfl hl.1 rfl (lv_room (Nat.le_of_ble_eq_true rfl)) dX4_init_44 ⟨Nat.le_of_ble_eq_true rfl, Nat.le_of_ble_eq_true rfl⟩) hS (fun w_44 H locs hp44 hW hS hz => ?_)
  obtain ⟨hn32_5, fr44⟩ := hp44
  replace hk0 : w_44 k = some (.inr (4, [.ref (b + (k + 1)), .ref (b + (k + 3)), .ref (b + (k + 5))])) := (fr44 _ (by omega)).trans hk0
  replace hcu11 : isCues dA b w_44 (k + 1) 10 0 (fun _ _ => 0) := hcu11.fr (fr44 _ (by omega)) (fr44 _ (by omega))
  replace hcu24 : isCues dA b w_44 (k + 3) 12 0 (fun _ _ => 0) := hcu24.fr (fr44 _ (by omega)) (fr44 _ (by omega))
  exact q_zv hx hb hr hlocks hW hS (by omega) dX4_init_47 (by exact ⟨⟨hk0, hcu11, hcu24, P0_okS, hn32_5⟩, by intro id h9; rw [fr44 id (by omega)]; rw [frw6 id (by omega)]; rw [frw5 id (by omega)]; rw [frw4 id (by omega)]; rw [fr24 id (by omega)]; rw [frw3 id (by omega)]; rw [frw2 id (by omega)]; rw [fr11 id (by omega)]; rw [frw1 id (by omega)]; try rfl⟩) (by decide) (by decide)

set_option maxHeartbeats 300000 in
set_option maxRecDepth 100000 in
/-- Mix(play) -/
theorem c_X3_init (l : Launch) {D : va_G} {dA : Nat → Nat} {b : Nat} {w : Wd} {k q : Nat} (hk0 : w k = some (.inr (3, [.null, .null, .null, .null, .null, .null, .null, .null]))) : Met l yX3_init wsX3_init ({ frames := 1, cells := 7, slots := 840, locals := 12 } : Room) (PZ D dA b w (k + 1) [.ref (b + k), .ref (b + q)]) (QZ D b none (k + 8) (fun w' => anyMix dA b w' k q ∧ ∀ id : Nat, (id < k ∨ k + 8 ≤ id) → w' id = w id)) 7 840 (Fb b) := by
  refine q_ofZ (cc := cX3_init) (maxL := 2) (ret := none) (by decide) rfl rfl ?_
  intro p e s m args below meth c ls hx hb hr hml hts hown hlocks hin0 hG hW hS hz hl
  have hown : s.vm.findClass RX3 = some m.cls := hown
  have hinX3 : ∀ w ∈ u_ws RX3 TX3 8, w ∈ wsX3_init := fun w h => (goodIn_r (big := wsX3_init) (u_ws RX3 TX3 8) [13, 14, 15, 16, 17, 18, 19, 20] (by decide +kernel) (by decide +kernel) w h).1
  have hl : lv_has ls 2 [(0, .ref (b + k)), (1, .ref (b + q))] := hl
  refine lv_aload_n hx hb dX3_init_0 rfl (lv_at hl 0 rfl) ?_
  refine W.objInit hx hb hown (hts (.methodLink RX3 3 objectInit) (List.mem_of_getElem? (i := 1) rfl)) (hts (.instanceMethod objectInit) (List.mem_of_getElem? (i := 2) rfl)) (hts _ (List.mem_of_getElem? (i := 3) rfl)) rfl (by rw [hml]; exact hl.1) rfl dX3_init_1 (Nat.le_of_ble_eq_true rfl) (Nat.le_of_ble_eq_true rfl) ?_
  refine W.eq (g2 := F0 m 4 ls []) rfl ?_
  refine lv_aload_n hx hb dX3_init_4 rfl (lv_at hl 0 rfl) ?_
  refine lv_bipush (v := nI 120) hx hb dX3_init_5 (by decide) ?_
  refine q_newI hx hb (hts (.arrayClass .int) (List.mem_of_getElem? (i := 4) rfl)) hG hW hS hz (by decide) (Nat.le_of_ble_eq_true rfl) (Nat.le_of_ble_eq_true rfl) dX3_init_7 (fun H hW hS hz => ?_)
  obtain ⟨w1, ew1⟩ : ∃ wq__ : Wd, wq__ = va_up w (k + 1) (some (eN dA 120 (fun _ => 0))) := ⟨_, rfl⟩
  rw [← ew1] at hW
  have frw1 : ∀ id : Nat, id ≠ k + 1 → w1 id = w id := fun id h9 => by rw [ew1, up_ne h9]
  replace hk0 : w1 k = some (.inr (3, [.null, .null, .null, .null, .null, .null, .null, .null])) := (frw1 _ (by omega)).trans hk0
  have hn7_1 : w1 (k + 1) = some (eN dA 120 (fun _ => 0)) := by rw [ew1]; exact up_eq
  refine q_putF hx hb hts hinX3 tyX3_ok nmX3 hown hG hW hS hk0 rfl 1 (by decide) (hts (.fieldLink RX3 9 "FoleyMixer$Mix" "words" "[I") (List.mem_of_getElem? (i := 5) rfl)) rfl rfl hin0 rfl rfl rfl (Nat.le_of_ble_eq_true rfl) dX3_init_9 (fun H locs hW hS hz9 => ?_)
  replace hz := hz9.trans hz
  obtain ⟨w2, ew2⟩ : ∃ wq__ : Wd, wq__ = va_up w1 k (some (.inr (3, [.null, .ref (b + (k + 1)), .null, .null, .null, .null, .null, .null]))) := ⟨_, rfl⟩
  replace hW : WP D b w2 H := by rw [ew2]; exact hW
  have frw2 : ∀ id : Nat, id ≠ k → w2 id = w1 id := fun id h9 => by rw [ew2, up_ne h9]
  replace hn7_1 : w2 (k + 1) = some (eN dA 120 (fun _ => 0)) := (frw2 _ (by omega)).trans hn7_1
  replace hk0 : w2 k = some (.inr (3, [.null, .ref (b + (k + 1)), .null, .null, .null, .null, .null, .null])) := by rw [ew2]; exact up_eq
  refine lv_aload_n hx hb dX3_init_12 rfl (lv_at hl 0 rfl) ?_
  refine lv_bipush (v := nI 120) hx hb dX3_init_13 (by decide) ?_
  refine q_newI hx hb (hts (.arrayClass .int) (List.mem_of_getElem? (i := 4) rfl)) hG hW hS hz (by decide) (Nat.le_of_ble_eq_true rfl) (Nat.le_of_ble_eq_true rfl) dX3_init_15 (fun H hW hS hz => ?_)
  obtain ⟨w3, ew3⟩ : ∃ wq__ : Wd, wq__ = va_up w2 (k + 2) (some (eN dA 120 (fun _ => 0))) := ⟨_, rfl⟩
  rw [← ew3] at hW
  have frw3 : ∀ id : Nat, id ≠ k + 2 → w3 id = w2 id := fun id h9 => by rw [ew3, up_ne h9]
  replace hk0 : w3 k = some (.inr (3, [.null, .ref (b + (k + 1)), .null, .null, .null, .null, .null, .null])) := (frw3 _ (by omega)).trans hk0
  replace hn7_1 : w3 (k + 1) = some (eN dA 120 (fun _ => 0)) := (frw3 _ (by omega)).trans hn7_1
  have hn15_3 : w3 (k + 2) = some (eN dA 120 (fun _ => 0)) := by rw [ew3]; exact up_eq
  refine q_putF hx hb hts hinX3 tyX3_ok nmX3 hown hG hW hS hk0 rfl 2 (by decide) (hts (.fieldLink RX3 15 "FoleyMixer$Mix" "noises" "[I") (List.mem_of_getElem? (i := 6) rfl)) rfl rfl hin0 rfl rfl rfl (Nat.le_of_ble_eq_true rfl) dX3_init_17 (fun H locs hW hS hz17 => ?_)
  replace hz := hz17.trans hz
  obtain ⟨w4, ew4⟩ : ∃ wq__ : Wd, wq__ = va_up w3 k (some (.inr (3, [.null, .ref (b + (k + 1)), .ref (b + (k + 2)), .null, .null, .null, .null, .null]))) := ⟨_, rfl⟩
  replace hW : WP D b w4 H := by rw [ew4]; exact hW
  have frw4 : ∀ id : Nat, id ≠ k → w4 id = w3 id := fun id h9 => by rw [ew4, up_ne h9]
  replace hn7_1 : w4 (k + 1) = some (eN dA 120 (fun _ => 0)) := (frw4 _ (by omega)).trans hn7_1
  replace hn15_3 : w4 (k + 2) = some (eN dA 120 (fun _ => 0)) := (frw4 _ (by omega)).trans hn15_3
  replace hk0 : w4 k = some (.inr (3, [.null, .ref (b + (k + 1)), .ref (b + (k + 2)), .null, .null, .null, .null, .null])) := by rw [ew4]; exact up_eq
  refine lv_aload_n hx hb dX3_init_20 rfl (lv_at hl 0 rfl) ?_
  refine lv_bipush (v := nI 120) hx hb dX3_init_21 (by decide) ?_
  refine q_newI hx hb (hts (.arrayClass .int) (List.mem_of_getElem? (i := 4) rfl)) hG hW hS hz (by decide) (Nat.le_of_ble_eq_true rfl) (Nat.le_of_ble_eq_true rfl) dX3_init_23 (fun H hW hS hz => ?_)
  obtain ⟨w5, ew5⟩ : ∃ wq__ : Wd, wq__ = va_up w4 (k + 3) (some (eN dA 120 (fun _ => 0))) := ⟨_, rfl⟩
  rw [← ew5] at hW
  have frw5 : ∀ id : Nat, id ≠ k + 3 → w5 id = w4 id := fun id h9 => by rw [ew5, up_ne h9]
  replace hk0 : w5 k = some (.inr (3, [.null, .ref (b + (k + 1)), .ref (b + (k + 2)), .null, .null, .null, .null, .null])) := (frw5 _ (by omega)).trans hk0
  replace hn7_1 : w5 (k + 1) = some (eN dA 120 (fun _ => 0)) := (frw5 _ (by omega)).trans hn7_1
  replace hn15_3 : w5 (k + 2) = some (eN dA 120 (fun _ => 0)) := (frw5 _ (by omega)).trans hn15_3
  have hn23_5 : w5 (k + 3) = some (eN dA 120 (fun _ => 0)) := by rw [ew5]; exact up_eq
  refine q_putF hx hb hts hinX3 tyX3_ok nmX3 hown hG hW hS hk0 rfl 3 (by decide) (hts (.fieldLink RX3 18 "FoleyMixer$Mix" "ducking" "[I") (List.mem_of_getElem? (i := 7) rfl)) rfl rfl hin0 rfl rfl rfl (Nat.le_of_ble_eq_true rfl) dX3_init_25 (fun H locs hW hS hz25 => ?_)
  replace hz := hz25.trans hz
  obtain ⟨w6, ew6⟩ : ∃ wq__ : Wd, wq__ = va_up w5 k (some (.inr (3, [.null, .ref (b + (k + 1)), .ref (b + (k + 2)), .ref (b + (k + 3)), .null, .null, .null, .null]))) := ⟨_, rfl⟩
  replace hW : WP D b w6 H := by rw [ew6]; exact hW
  have frw6 : ∀ id : Nat, id ≠ k → w6 id = w5 id := fun id h9 => by rw [ew6, up_ne h9]
  replace hn7_1 : w6 (k + 1) = some (eN dA 120 (fun _ => 0)) := (frw6 _ (by omega)).trans hn7_1
  replace hn15_3 : w6 (k + 2) = some (eN dA 120 (fun _ => 0)) := (frw6 _ (by omega)).trans hn15_3
  replace hn23_5 : w6 (k + 3) = some (eN dA 120 (fun _ => 0)) := (frw6 _ (by omega)).trans hn23_5
  replace hk0 : w6 k = some (.inr (3, [.null, .ref (b + (k + 1)), .ref (b + (k + 2)), .ref (b + (k + 3)), .null, .null, .null, .null])) := by rw [ew6]; exact up_eq
  refine lv_aload_n hx hb dX3_init_28 rfl (lv_at hl 0 rfl) ?_
  refine lv_bipush (v := nI 120) hx hb dX3_init_29 (by decide) ?_
  refine q_newI hx hb (hts (.arrayClass .int) (List.mem_of_getElem? (i := 4) rfl)) hG hW hS hz (by decide) (Nat.le_of_ble_eq_true rfl) (Nat.le_of_ble_eq_true rfl) dX3_init_31 (fun H hW hS hz => ?_)
  obtain ⟨w7, ew7⟩ : ∃ wq__ : Wd, wq__ = va_up w6 (k + 4) (some (eN dA 120 (fun _ => 0))) := ⟨_, rfl⟩
  rw [← ew7] at hW
  have frw7 : ∀ id : Nat, id ≠ k + 4 → w7 id = w6 id := fun id h9 => by rw [ew7, up_ne h9]
  replace hk0 : w7 k = some (.inr (3, [.null, .ref (b + (k + 1)), .ref (b + (k + 2)), .ref (b + (k + 3)), .null, .null, .null, .null])) := (frw7 _ (by omega)).trans hk0
  replace hn7_1 : w7 (k + 1) = some (eN dA 120 (fun _ => 0)) := (frw7 _ (by omega)).trans hn7_1
  replace hn15_3 : w7 (k + 2) = some (eN dA 120 (fun _ => 0)) := (frw7 _ (by omega)).trans hn15_3
  replace hn23_5 : w7 (k + 3) = some (eN dA 120 (fun _ => 0)) := (frw7 _ (by omega)).trans hn23_5
  have hn31_7 : w7 (k + 4) = some (eN dA 120 (fun _ => 0)) := by rw [ew7]; exact up_eq
  refine q_putF hx hb hts hinX3 tyX3_ok nmX3 hown hG hW hS hk0 rfl 4 (by decide) (hts (.fieldLink RX3 21 "FoleyMixer$Mix" "strongest" "[I") (List.mem_of_getElem? (i := 8) rfl)) rfl rfl hin0 rfl rfl rfl (Nat.le_of_ble_eq_true rfl) dX3_init_33 (fun H locs hW hS hz33 => ?_)
  replace hz := hz33.trans hz
  obtain ⟨w8, ew8⟩ : ∃ wq__ : Wd, wq__ = va_up w7 k (some (.inr (3, [.null, .ref (b + (k + 1)), .ref (b + (k + 2)), .ref (b + (k + 3)), .ref (b + (k + 4)), .null, .null, .null]))) := ⟨_, rfl⟩
  replace hW : WP D b w8 H := by rw [ew8]; exact hW
  have frw8 : ∀ id : Nat, id ≠ k → w8 id = w7 id := fun id h9 => by rw [ew8, up_ne h9]
  replace hn7_1 : w8 (k + 1) = some (eN dA 120 (fun _ => 0)) := (frw8 _ (by omega)).trans hn7_1
  replace hn15_3 : w8 (k + 2) = some (eN dA 120 (fun _ => 0)) := (frw8 _ (by omega)).trans hn15_3
  replace hn23_5 : w8 (k + 3) = some (eN dA 120 (fun _ => 0)) := (frw8 _ (by omega)).trans hn23_5
  replace hn31_7 : w8 (k + 4) = some (eN dA 120 (fun _ => 0)) := (frw8 _ (by omega)).trans hn31_7
  replace hk0 : w8 k = some (.inr (3, [.null, .ref (b + (k + 1)), .ref (b + (k + 2)), .ref (b + (k + 3)), .ref (b + (k + 4)), .null, .null, .null])) := by rw [ew8]; exact up_eq
  refine lv_aload_n hx hb dX3_init_36 rfl (lv_at hl 0 rfl) ?_
  refine lv_bipush (v := nI 120) hx hb dX3_init_37 (by decide) ?_
  refine q_newI hx hb (hts (.arrayClass .int) (List.mem_of_getElem? (i := 4) rfl)) hG hW hS hz (by decide) (Nat.le_of_ble_eq_true rfl) (Nat.le_of_ble_eq_true rfl) dX3_init_39 (fun H hW hS hz => ?_)
  obtain ⟨w9, ew9⟩ : ∃ wq__ : Wd, wq__ = va_up w8 (k + 5) (some (eN dA 120 (fun _ => 0))) := ⟨_, rfl⟩
  rw [← ew9] at hW
  have frw9 : ∀ id : Nat, id ≠ k + 5 → w9 id = w8 id := fun id h9 => by rw [ew9, up_ne h9]
  replace hk0 : w9 k = some (.inr (3, [.null, .ref (b + (k + 1)), .ref (b + (k + 2)), .ref (b + (k + 3)), .ref (b + (k + 4)), .null, .null, .null])) := (frw9 _ (by omega)).trans hk0
  replace hn7_1 : w9 (k + 1) = some (eN dA 120 (fun _ => 0)) := (frw9 _ (by omega)).trans hn7_1
  replace hn15_3 : w9 (k + 2) = some (eN dA 120 (fun _ => 0)) := (frw9 _ (by omega)).trans hn15_3
  replace hn23_5 : w9 (k + 3) = some (eN dA 120 (fun _ => 0)) := (frw9 _ (by omega)).trans hn23_5
  replace hn31_7 : w9 (k + 4) = some (eN dA 120 (fun _ => 0)) := (frw9 _ (by omega)).trans hn31_7
  have hn39_9 : w9 (k + 5) = some (eN dA 120 (fun _ => 0)) := by rw [ew9]; exact up_eq
  refine q_putF hx hb hts hinX3 tyX3_ok nmX3 hown hG hW hS hk0 rfl 5 (by decide) (hts (.fieldLink RX3 24 "FoleyMixer$Mix" "greatestStrength" "[I") (List.mem_of_getElem? (i := 9) rfl)) rfl rfl hin0 rfl rfl rfl (Nat.le_of_ble_eq_true rfl) dX3_init_41 (fun H locs hW hS hz41 => ?_)
  replace hz := hz41.trans hz
  obtain ⟨w10, ew10⟩ : ∃ wq__ : Wd, wq__ = va_up w9 k (some (.inr (3, [.null, .ref (b + (k + 1)), .ref (b + (k + 2)), .ref (b + (k + 3)), .ref (b + (k + 4)), .ref (b + (k + 5)), .null, .null]))) := ⟨_, rfl⟩
  replace hW : WP D b w10 H := by rw [ew10]; exact hW
  have frw10 : ∀ id : Nat, id ≠ k → w10 id = w9 id := fun id h9 => by rw [ew10, up_ne h9]
  replace hn7_1 : w10 (k + 1) = some (eN dA 120 (fun _ => 0)) := (frw10 _ (by omega)).trans hn7_1
  replace hn15_3 : w10 (k + 2) = some (eN dA 120 (fun _ => 0)) := (frw10 _ (by omega)).trans hn15_3
  replace hn23_5 : w10 (k + 3) = some (eN dA 120 (fun _ => 0)) := (frw10 _ (by omega)).trans hn23_5
  replace hn31_7 : w10 (k + 4) = some (eN dA 120 (fun _ => 0)) := (frw10 _ (by omega)).trans hn31_7
  replace hn39_9 : w10 (k + 5) = some (eN dA 120 (fun _ => 0)) := (frw10 _ (by omega)).trans hn39_9
  replace hk0 : w10 k = some (.inr (3, [.null, .ref (b + (k + 1)), .ref (b + (k + 2)), .ref (b + (k + 3)), .ref (b + (k + 4)), .ref (b + (k + 5)), .null, .null])) := by rw [ew10]; exact up_eq
  refine lv_aload_n hx hb dX3_init_44 rfl (lv_at hl 0 rfl) ?_
  refine lv_bipush (v := nI 120) hx hb dX3_init_45 (by decide) ?_
  refine q_newI hx hb (hts (.arrayClass .int) (List.mem_of_getElem? (i := 4) rfl)) hG hW hS hz (by decide) (Nat.le_of_ble_eq_true rfl) (Nat.le_of_ble_eq_true rfl) dX3_init_47 (fun H hW hS hz => ?_)
  obtain ⟨w11, ew11⟩ : ∃ wq__ : Wd, wq__ = va_up w10 (k + 6) (some (eN dA 120 (fun _ => 0))) := ⟨_, rfl⟩
  rw [← ew11] at hW
  have frw11 : ∀ id : Nat, id ≠ k + 6 → w11 id = w10 id := fun id h9 => by rw [ew11, up_ne h9]
  replace hk0 : w11 k = some (.inr (3, [.null, .ref (b + (k + 1)), .ref (b + (k + 2)), .ref (b + (k + 3)), .ref (b + (k + 4)), .ref (b + (k + 5)), .null, .null])) := (frw11 _ (by omega)).trans hk0
  replace hn7_1 : w11 (k + 1) = some (eN dA 120 (fun _ => 0)) := (frw11 _ (by omega)).trans hn7_1
  replace hn15_3 : w11 (k + 2) = some (eN dA 120 (fun _ => 0)) := (frw11 _ (by omega)).trans hn15_3
  replace hn23_5 : w11 (k + 3) = some (eN dA 120 (fun _ => 0)) := (frw11 _ (by omega)).trans hn23_5
  replace hn31_7 : w11 (k + 4) = some (eN dA 120 (fun _ => 0)) := (frw11 _ (by omega)).trans hn31_7
  replace hn39_9 : w11 (k + 5) = some (eN dA 120 (fun _ => 0)) := (frw11 _ (by omega)).trans hn39_9
  have hn47_11 : w11 (k + 6) = some (eN dA 120 (fun _ => 0)) := by rw [ew11]; exact up_eq
  refine q_putF hx hb hts hinX3 tyX3_ok nmX3 hown hG hW hS hk0 rfl 6 (by decide) (hts (.fieldLink RX3 27 "FoleyMixer$Mix" "strengthCount" "[I") (List.mem_of_getElem? (i := 10) rfl)) rfl rfl hin0 rfl rfl rfl (Nat.le_of_ble_eq_true rfl) dX3_init_49 (fun H locs hW hS hz49 => ?_)
  replace hz := hz49.trans hz
  obtain ⟨w12, ew12⟩ : ∃ wq__ : Wd, wq__ = va_up w11 k (some (.inr (3, [.null, .ref (b + (k + 1)), .ref (b + (k + 2)), .ref (b + (k + 3)), .ref (b + (k + 4)), .ref (b + (k + 5)), .ref (b + (k + 6)), .null]))) := ⟨_, rfl⟩
  replace hW : WP D b w12 H := by rw [ew12]; exact hW
  have frw12 : ∀ id : Nat, id ≠ k → w12 id = w11 id := fun id h9 => by rw [ew12, up_ne h9]
  replace hn7_1 : w12 (k + 1) = some (eN dA 120 (fun _ => 0)) := (frw12 _ (by omega)).trans hn7_1
  replace hn15_3 : w12 (k + 2) = some (eN dA 120 (fun _ => 0)) := (frw12 _ (by omega)).trans hn15_3
  replace hn23_5 : w12 (k + 3) = some (eN dA 120 (fun _ => 0)) := (frw12 _ (by omega)).trans hn23_5
  replace hn31_7 : w12 (k + 4) = some (eN dA 120 (fun _ => 0)) := (frw12 _ (by omega)).trans hn31_7
  replace hn39_9 : w12 (k + 5) = some (eN dA 120 (fun _ => 0)) := (frw12 _ (by omega)).trans hn39_9
  replace hn47_11 : w12 (k + 6) = some (eN dA 120 (fun _ => 0)) := (frw12 _ (by omega)).trans hn47_11
  replace hk0 : w12 k = some (.inr (3, [.null, .ref (b + (k + 1)), .ref (b + (k + 2)), .ref (b + (k + 3)), .ref (b + (k + 4)), .ref (b + (k + 5)), .ref (b + (k + 6)), .null])) := by rw [ew12]; exact up_eq
  refine lv_aload_n hx hb dX3_init_52 rfl (lv_at hl 0 rfl) ?_
  refine lv_bipush (v := nI 120) hx hb dX3_init_53 (by decide) ?_
  refine q_newI hx hb (hts (.arrayClass .int) (List.mem_of_getElem? (i := 4) rfl)) hG hW hS hz (by decide) (Nat.le_of_ble_eq_true rfl) (Nat.le_of_ble_eq_true rfl) dX3_init_55 (fun H hW hS hz => ?_)
  obtain ⟨w13, ew13⟩ : ∃ wq__ : Wd, wq__ = va_up w12 (k + 7) (some (eN dA 120 (fun _ => 0))) := ⟨_, rfl⟩
  rw [← ew13] at hW
  have frw13 : ∀ id : Nat, id ≠ k + 7 → w13 id = w12 id := fun id h9 => by rw [ew13, up_ne h9]
  replace hk0 : w13 k = some (.inr (3, [.null, .ref (b + (k + 1)), .ref (b + (k + 2)), .ref (b + (k + 3)), .ref (b + (k + 4)), .ref (b + (k + 5)), .ref (b + (k + 6)), .null])) := (frw13 _ (by omega)).trans hk0
  replace hn7_1 : w13 (k + 1) = some (eN dA 120 (fun _ => 0)) := (frw13 _ (by omega)).trans hn7_1
  replace hn15_3 : w13 (k + 2) = some (eN dA 120 (fun _ => 0)) := (frw13 _ (by omega)).trans hn15_3
  replace hn23_5 : w13 (k + 3) = some (eN dA 120 (fun _ => 0)) := (frw13 _ (by omega)).trans hn23_5
  replace hn31_7 : w13 (k + 4) = some (eN dA 120 (fun _ => 0)) := (frw13 _ (by omega)).trans hn31_7
  replace hn39_9 : w13 (k + 5) = some (eN dA 120 (fun _ => 0)) := (frw13 _ (by omega)).trans hn39_9
  replace hn47_11 : w13 (k + 6) = some (eN dA 120 (fun _ => 0)) := (frw13 _ (by omega)).trans hn47_11
  have hn55_13 : w13 (k + 7) = some (eN dA 120 (fun _ => 0)) := by rw [ew13]; exact up_eq
  refine q_putF hx hb hts hinX3 tyX3_ok nmX3 hown hG hW hS hk0 rfl 7 (by decide) (hts (.fieldLink RX3 30 "FoleyMixer$Mix" "masked" "[I") (List.mem_of_getElem? (i := 11) rfl)) rfl rfl hin0 rfl rfl rfl (Nat.le_of_ble_eq_true rfl) dX3_init_57 (fun H locs hW hS hz57 => ?_)
  replace hz := hz57.trans hz
  obtain ⟨w14, ew14⟩ : ∃ wq__ : Wd, wq__ = va_up w13 k (some (.inr (3, [.null, .ref (b + (k + 1)), .ref (b + (k + 2)), .ref (b + (k + 3)), .ref (b + (k + 4)), .ref (b + (k + 5)), .ref (b + (k + 6)), .ref (b + (k + 7))]))) := ⟨_, rfl⟩
  replace hW : WP D b w14 H := by rw [ew14]; exact hW
  have frw14 : ∀ id : Nat, id ≠ k → w14 id = w13 id := fun id h9 => by rw [ew14, up_ne h9]
  replace hn7_1 : w14 (k + 1) = some (eN dA 120 (fun _ => 0)) := (frw14 _ (by omega)).trans hn7_1
  replace hn15_3 : w14 (k + 2) = some (eN dA 120 (fun _ => 0)) := (frw14 _ (by omega)).trans hn15_3
  replace hn23_5 : w14 (k + 3) = some (eN dA 120 (fun _ => 0)) := (frw14 _ (by omega)).trans hn23_5
  replace hn31_7 : w14 (k + 4) = some (eN dA 120 (fun _ => 0)) := (frw14 _ (by omega)).trans hn31_7
  replace hn39_9 : w14 (k + 5) = some (eN dA 120 (fun _ => 0)) := (frw14 _ (by omega)).trans hn39_9
  replace hn47_11 : w14 (k + 6) = some (eN dA 120 (fun _ => 0)) := (frw14 _ (by omega)).trans hn47_11
  replace hn55_13 : w14 (k + 7) = some (eN dA 120 (fun _ => 0)) := (frw14 _ (by omega)).trans hn55_13
  replace hk0 : w14 k = some (.inr (3, [.null, .ref (b + (k + 1)), .ref (b + (k + 2)), .ref (b + (k + 3)), .ref (b + (k + 4)), .ref (b + (k + 5)), .ref (b + (k + 6)), .ref (b + (k + 7))])) := by rw [ew14]; exact up_eq
  refine lv_aload_n hx hb dX3_init_60 rfl (lv_at hl 0 rfl) ?_
  refine lv_aload_n hx hb dX3_init_61 rfl (lv_at hl 1 rfl) ?_
  refine q_putF hx hb hts hinX3 tyX3_ok nmX3 hown hG hW hS hk0 rfl 0 (by decide) (hts (.fieldLink RX3 33 "FoleyMixer$Mix" "play" "LFoleyMixer$Play;") (List.mem_of_getElem? (i := 12) rfl)) rfl rfl hin0 rfl rfl rfl (Nat.le_of_ble_eq_true rfl) dX3_init_62 (fun H locs hW hS hz62 => ?_)
  replace hz := hz62.trans hz
  obtain ⟨w15, ew15⟩ : ∃ wq__ : Wd, wq__ = va_up w14 k (some (.inr (3, [.ref (b + q), .ref (b + (k + 1)), .ref (b + (k + 2)), .ref (b + (k + 3)), .ref (b + (k + 4)), .ref (b + (k + 5)), .ref (b + (k + 6)), .ref (b + (k + 7))]))) := ⟨_, rfl⟩
  replace hW : WP D b w15 H := by rw [ew15]; exact hW
  have frw15 : ∀ id : Nat, id ≠ k → w15 id = w14 id := fun id h9 => by rw [ew15, up_ne h9]
  replace hn7_1 : w15 (k + 1) = some (eN dA 120 (fun _ => 0)) := (frw15 _ (by omega)).trans hn7_1
  replace hn15_3 : w15 (k + 2) = some (eN dA 120 (fun _ => 0)) := (frw15 _ (by omega)).trans hn15_3
  replace hn23_5 : w15 (k + 3) = some (eN dA 120 (fun _ => 0)) := (frw15 _ (by omega)).trans hn23_5
  replace hn31_7 : w15 (k + 4) = some (eN dA 120 (fun _ => 0)) := (frw15 _ (by omega)).trans hn31_7
  replace hn39_9 : w15 (k + 5) = some (eN dA 120 (fun _ => 0)) := (frw15 _ (by omega)).trans hn39_9
  replace hn47_11 : w15 (k + 6) = some (eN dA 120 (fun _ => 0)) := (frw15 _ (by omega)).trans hn47_11
  replace hn55_13 : w15 (k + 7) = some (eN dA 120 (fun _ => 0)) := (frw15 _ (by omega)).trans hn55_13
  replace hk0 : w15 k = some (.inr (3, [.ref (b + q), .ref (b + (k + 1)), .ref (b + (k + 2)), .ref (b + (k + 3)), .ref (b + (k + 4)), .ref (b + (k + 5)), .ref (b + (k + 6)), .ref (b + (k + 7))])) := by rw [ew15]; exact up_eq
  exact q_zv hx hb hr hlocks hW hS (by omega) dX3_init_65 (by exact ⟨⟨hk0, _, _, _, _, _, _, _, hn7_1, hn15_3, hn23_5, hn31_7, hn39_9, hn47_11, hn55_13⟩, by intro id h9; rw [frw15 id (by omega)]; rw [frw14 id (by omega)]; rw [frw13 id (by omega)]; rw [frw12 id (by omega)]; rw [frw11 id (by omega)]; rw [frw10 id (by omega)]; rw [frw9 id (by omega)]; rw [frw8 id (by omega)]; rw [frw7 id (by omega)]; rw [frw6 id (by omega)]; rw [frw5 id (by omega)]; rw [frw4 id (by omega)]; rw [frw3 id (by omega)]; rw [frw2 id (by omega)]; rw [frw1 id (by omega)]; try rfl⟩) (by decide) (by decide)

set_option maxHeartbeats 300000 in
set_option maxRecDepth 100000 in
/-- History() -/
theorem c_X2_init (l : Launch) {D : va_G} {dA : Nat → Nat} {b : Nat} {w : Wd} {k : Nat} (hk0 : w k = some (.inr (2, [.null, .int (nI 0)]))) : Met l yX2_init wsX2_init ({ frames := 1, cells := 1, slots := 6, locals := 12 } : Room) (PZ D dA b w (k + 1) [.ref (b + k)]) (QZ D b none (k + 2) (fun w' => w' k = some (.inr (2, [.ref (b + (k + 1)), .int (nI 0)])) ∧ w' (k + 1) = some (eQ dA 6 (fun _ => none)) ∧ ∀ id : Nat, (id < k ∨ k + 2 ≤ id) → w' id = w id)) 1 6 (Fb b) := by
  refine q_ofZ (cc := cX2_init) (maxL := 1) (ret := none) (by decide) rfl rfl ?_
  intro p e s m args below meth c ls hx hb hr hml hts hown hlocks hin0 hG hW hS hz hl
  have hown : s.vm.findClass RX2 = some m.cls := hown
  have hinX2 : ∀ w ∈ u_ws RX2 TX2 2, w ∈ wsX2_init := fun w h => (goodIn_r (big := wsX2_init) (u_ws RX2 TX2 2) [7, 8] (by decide +kernel) (by decide +kernel) w h).1
  have hl : lv_has ls 1 [(0, .ref (b + k))] := hl
  refine lv_aload_n hx hb dX2_init_0 rfl (lv_at hl 0 rfl) ?_
  refine W.objInit hx hb hown (hts (.methodLink RX2 3 objectInit) (List.mem_of_getElem? (i := 1) rfl)) (hts (.instanceMethod objectInit) (List.mem_of_getElem? (i := 2) rfl)) (hts _ (List.mem_of_getElem? (i := 3) rfl)) rfl (by rw [hml]; exact hl.1) rfl dX2_init_1 (Nat.le_of_ble_eq_true rfl) (Nat.le_of_ble_eq_true rfl) ?_
  refine W.eq (g2 := F0 m 4 ls []) rfl ?_
  refine lv_aload_n hx hb dX2_init_4 rfl (lv_at hl 0 rfl) ?_
  refine lv_bipush (v := nI 6) hx hb dX2_init_5 (by decide) ?_
  refine q_newQ hx hb hown (hts (.classLink RX2 9 RX4) (List.mem_of_getElem? (i := 4) rfl)) hG hW hS hz (by decide) (Nat.le_of_ble_eq_true rfl) (Nat.le_of_ble_eq_true rfl) dX2_init_7 (fun H hW hS hz => ?_)
  obtain ⟨w1, ew1⟩ : ∃ wq__ : Wd, wq__ = va_up w (k + 1) (some (eQ dA 6 (fun _ => none))) := ⟨_, rfl⟩
  rw [← ew1] at hW
  have frw1 : ∀ id : Nat, id ≠ k + 1 → w1 id = w id := fun id h9 => by rw [ew1, up_ne h9]
  replace hk0 : w1 k = some (.inr (2, [.null, .int (nI 0)])) := (frw1 _ (by omega)).trans hk0
  have hn7_1 : w1 (k + 1) = some (eQ dA 6 (fun _ => none)) := by rw [ew1]; exact up_eq
  refine q_putF hx hb hts hinX2 tyX2_ok nmX2 hown hG hW hS hk0 rfl 0 (by decide) (hts (.fieldLink RX2 11 "FoleyMixer$History" "plays" "[LFoleyMixer$Play;") (List.mem_of_getElem? (i := 5) rfl)) rfl rfl hin0 rfl rfl rfl (Nat.le_of_ble_eq_true rfl) dX2_init_10 (fun H locs hW hS hz10 => ?_)
  replace hz := hz10.trans hz
  obtain ⟨w2, ew2⟩ : ∃ wq__ : Wd, wq__ = va_up w1 k (some (.inr (2, [.ref (b + (k + 1)), .int (nI 0)]))) := ⟨_, rfl⟩
  replace hW : WP D b w2 H := by rw [ew2]; exact hW
  have frw2 : ∀ id : Nat, id ≠ k → w2 id = w1 id := fun id h9 => by rw [ew2, up_ne h9]
  replace hn7_1 : w2 (k + 1) = some (eQ dA 6 (fun _ => none)) := (frw2 _ (by omega)).trans hn7_1
  replace hk0 : w2 k = some (.inr (2, [.ref (b + (k + 1)), .int (nI 0)])) := by rw [ew2]; exact up_eq
  refine lv_aload_n hx hb dX2_init_13 rfl (lv_at hl 0 rfl) ?_
  refine lv_iconst (v := nI 0) hx hb dX2_init_14 (by decide) ?_
  refine q_put hx hb hts hinX2 tyX2_ok nmX2 hown hG hW hS hk0 rfl 1 (by decide) (hts (.fieldLink RX2 17 "FoleyMixer$History" "size" "I") (List.mem_of_getElem? (i := 6) rfl)) rfl rfl rfl rfl (Nat.le_of_ble_eq_true rfl) dX2_init_15 (fun H locs hW hS hz15 => ?_)
  replace hz := hz15.trans hz
  obtain ⟨w3, ew3⟩ : ∃ wq__ : Wd, wq__ = va_up w2 k (some (.inr (2, [.ref (b + (k + 1)), .int (nI 0)]))) := ⟨_, rfl⟩
  replace hW : WP D b w3 H := by rw [ew3]; exact hW
  have frw3 : ∀ id : Nat, id ≠ k → w3 id = w2 id := fun id h9 => by rw [ew3, up_ne h9]
  replace hn7_1 : w3 (k + 1) = some (eQ dA 6 (fun _ => none)) := (frw3 _ (by omega)).trans hn7_1
  replace hk0 : w3 k = some (.inr (2, [.ref (b + (k + 1)), .int (nI 0)])) := by rw [ew3]; exact up_eq
  exact q_zv hx hb hr hlocks hW hS (by omega) dX2_init_18 (by exact ⟨hk0, hn7_1, by intro id h9; rw [frw3 id (by omega)]; rw [frw2 id (by omega)]; rw [frw1 id (by omega)]; try rfl⟩) (by decide) (by decide)

set_option maxHeartbeats 300000 in
set_option maxRecDepth 100000 in
/-- Script() -/
theorem c_X5_init (l : Launch) {D : va_G} {dA : Nat → Nat} {b : Nat} {w : Wd} {k : Nat} (hk0 : w k = some (.inr (5, [.null, .int (nI 0)]))) : Met l yX5_init wsX5_init ({ frames := 1, cells := 1, slots := 80, locals := 12 } : Room) (PZ D dA b w (k + 1) [.ref (b + k)]) (QZ D b none (k + 2) (fun w' => isScr dA b w' k 0 (fun _ => 0) ∧ ∀ id : Nat, (id < k ∨ k + 2 ≤ id) → w' id = w id)) 1 80 (Fb b) := by
  refine q_ofZ (cc := cX5_init) (maxL := 1) (ret := none) (by decide) rfl rfl ?_
  intro p e s m args below meth c ls hx hb hr hml hts hown hlocks hin0 hG hW hS hz hl
  have hown : s.vm.findClass RX5 = some m.cls := hown
  have hinX5 : ∀ w ∈ u_ws RX5 TX5 2, w ∈ wsX5_init := fun w h => (goodIn_r (big := wsX5_init) (u_ws RX5 TX5 2) [7, 8] (by decide +kernel) (by decide +kernel) w h).1
  have hl : lv_has ls 1 [(0, .ref (b + k))] := hl
  refine lv_aload_n hx hb dX5_init_0 rfl (lv_at hl 0 rfl) ?_
  refine W.objInit hx hb hown (hts (.methodLink RX5 3 objectInit) (List.mem_of_getElem? (i := 1) rfl)) (hts (.instanceMethod objectInit) (List.mem_of_getElem? (i := 2) rfl)) (hts _ (List.mem_of_getElem? (i := 3) rfl)) rfl (by rw [hml]; exact hl.1) rfl dX5_init_1 (Nat.le_of_ble_eq_true rfl) (Nat.le_of_ble_eq_true rfl) ?_
  refine W.eq (g2 := F0 m 4 ls []) rfl ?_
  refine lv_aload_n hx hb dX5_init_4 rfl (lv_at hl 0 rfl) ?_
  refine lv_bipush (v := nI 80) hx hb dX5_init_5 (by decide) ?_
  refine q_newI hx hb (hts (.arrayClass .int) (List.mem_of_getElem? (i := 4) rfl)) hG hW hS hz (by decide) (Nat.le_of_ble_eq_true rfl) (Nat.le_of_ble_eq_true rfl) dX5_init_7 (fun H hW hS hz => ?_)
  obtain ⟨w1, ew1⟩ : ∃ wq__ : Wd, wq__ = va_up w (k + 1) (some (eN dA 80 (fun _ => 0))) := ⟨_, rfl⟩
  rw [← ew1] at hW
  have frw1 : ∀ id : Nat, id ≠ k + 1 → w1 id = w id := fun id h9 => by rw [ew1, up_ne h9]
  replace hk0 : w1 k = some (.inr (5, [.null, .int (nI 0)])) := (frw1 _ (by omega)).trans hk0
  have hn7_1 : w1 (k + 1) = some (eN dA 80 (fun _ => 0)) := by rw [ew1]; exact up_eq
  refine q_putF hx hb hts hinX5 tyX5_ok nmX5 hown hG hW hS hk0 rfl 0 (by decide) (hts (.fieldLink RX5 9 "FoleyMixer$Script" "codes" "[I") (List.mem_of_getElem? (i := 5) rfl)) rfl rfl hin0 rfl rfl rfl (Nat.le_of_ble_eq_true rfl) dX5_init_9 (fun H locs hW hS hz9 => ?_)
  replace hz := hz9.trans hz
  obtain ⟨w2, ew2⟩ : ∃ wq__ : Wd, wq__ = va_up w1 k (some (.inr (5, [.ref (b + (k + 1)), .int (nI 0)]))) := ⟨_, rfl⟩
  replace hW : WP D b w2 H := by rw [ew2]; exact hW
  have frw2 : ∀ id : Nat, id ≠ k → w2 id = w1 id := fun id h9 => by rw [ew2, up_ne h9]
  replace hn7_1 : w2 (k + 1) = some (eN dA 80 (fun _ => 0)) := (frw2 _ (by omega)).trans hn7_1
  replace hk0 : w2 k = some (.inr (5, [.ref (b + (k + 1)), .int (nI 0)])) := by rw [ew2]; exact up_eq
  refine lv_aload_n hx hb dX5_init_12 rfl (lv_at hl 0 rfl) ?_
  refine lv_iconst (v := nI 0) hx hb dX5_init_13 (by decide) ?_
  refine q_put hx hb hts hinX5 tyX5_ok nmX5 hown hG hW hS hk0 rfl 1 (by decide) (hts (.fieldLink RX5 15 "FoleyMixer$Script" "size" "I") (List.mem_of_getElem? (i := 6) rfl)) rfl rfl rfl rfl (Nat.le_of_ble_eq_true rfl) dX5_init_14 (fun H locs hW hS hz14 => ?_)
  replace hz := hz14.trans hz
  obtain ⟨w3, ew3⟩ : ∃ wq__ : Wd, wq__ = va_up w2 k (some (.inr (5, [.ref (b + (k + 1)), .int (nI 0)]))) := ⟨_, rfl⟩
  replace hW : WP D b w3 H := by rw [ew3]; exact hW
  have frw3 : ∀ id : Nat, id ≠ k → w3 id = w2 id := fun id h9 => by rw [ew3, up_ne h9]
  replace hn7_1 : w3 (k + 1) = some (eN dA 80 (fun _ => 0)) := (frw3 _ (by omega)).trans hn7_1
  replace hk0 : w3 k = some (.inr (5, [.ref (b + (k + 1)), .int (nI 0)])) := by rw [ew3]; exact up_eq
  exact q_zv hx hb hr hlocks hW hS (by omega) dX5_init_17 (by exact ⟨⟨hk0, hn7_1, by decide, fun i hi => absurd hi (Nat.not_lt_zero i)⟩, by intro id h9; rw [frw3 id (by omega)]; rw [frw2 id (by omega)]; rw [frw1 id (by omega)]; try rfl⟩) (by decide) (by decide)

set_option maxHeartbeats 300000 in
set_option maxRecDepth 100000 in
/-- CueReader() -/
theorem c_X0_init (l : Launch) {D : va_G} {dA : Nat → Nat} {b : Nat} {w : Wd} {k : Nat} (hk0 : w k = some (.inr (0, [.null, .int (nI 0), .int (nI 0)]))) : Met l yX0_init wsX0_init ({ frames := 1, cells := 1, slots := 3, locals := 12 } : Room) (PZ D dA b w (k + 1) [.ref (b + k)]) (QZ D b none (k + 2) (fun w' => isRdr dA b w' k (3, -1, fun _ => some 0) ∧ ∀ id : Nat, (id < k ∨ k + 2 ≤ id) → w' id = w id)) 1 3 (Fb b) := by
  refine q_ofZ (cc := cX0_init) (maxL := 1) (ret := none) (by decide) rfl rfl ?_
  intro p e s m args below meth c ls hx hb hr hml hts hown hlocks hin0 hG hW hS hz hl
  have hown : s.vm.findClass RX0 = some m.cls := hown
  have hinX0 : ∀ w ∈ u_ws RX0 TX0 3, w ∈ wsX0_init := fun w h => (goodIn_r (big := wsX0_init) (u_ws RX0 TX0 3) [8, 9, 10] (by decide +kernel) (by decide +kernel) w h).1
  have hl : lv_has ls 1 [(0, .ref (b + k))] := hl
  refine lv_aload_n hx hb dX0_init_0 rfl (lv_at hl 0 rfl) ?_
  refine W.objInit hx hb hown (hts (.methodLink RX0 3 objectInit) (List.mem_of_getElem? (i := 1) rfl)) (hts (.instanceMethod objectInit) (List.mem_of_getElem? (i := 2) rfl)) (hts _ (List.mem_of_getElem? (i := 3) rfl)) rfl (by rw [hml]; exact hl.1) rfl dX0_init_1 (Nat.le_of_ble_eq_true rfl) (Nat.le_of_ble_eq_true rfl) ?_
  refine W.eq (g2 := F0 m 4 ls []) rfl ?_
  refine lv_aload_n hx hb dX0_init_4 rfl (lv_at hl 0 rfl) ?_
  refine lv_iconst (v := nI 3) hx hb dX0_init_5 (by decide) ?_
  refine q_newI hx hb (hts (.arrayClass .int) (List.mem_of_getElem? (i := 4) rfl)) hG hW hS hz (by decide) (Nat.le_of_ble_eq_true rfl) (Nat.le_of_ble_eq_true rfl) dX0_init_6 (fun H hW hS hz => ?_)
  obtain ⟨w1, ew1⟩ : ∃ wq__ : Wd, wq__ = va_up w (k + 1) (some (eN dA 3 (fun _ => 0))) := ⟨_, rfl⟩
  rw [← ew1] at hW
  have frw1 : ∀ id : Nat, id ≠ k + 1 → w1 id = w id := fun id h9 => by rw [ew1, up_ne h9]
  replace hk0 : w1 k = some (.inr (0, [.null, .int (nI 0), .int (nI 0)])) := (frw1 _ (by omega)).trans hk0
  have hn6_1 : w1 (k + 1) = some (eN dA 3 (fun _ => 0)) := by rw [ew1]; exact up_eq
  refine q_putF hx hb hts hinX0 tyX0_ok nmX0 hown hG hW hS hk0 rfl 0 (by decide) (hts (.fieldLink RX0 11 "FoleyMixer$CueReader" "numbers" "[I") (List.mem_of_getElem? (i := 5) rfl)) rfl rfl hin0 rfl rfl rfl (Nat.le_of_ble_eq_true rfl) dX0_init_8 (fun H locs hW hS hz8 => ?_)
  replace hz := hz8.trans hz
  obtain ⟨w2, ew2⟩ : ∃ wq__ : Wd, wq__ = va_up w1 k (some (.inr (0, [.ref (b + (k + 1)), .int (nI 0), .int (nI 0)]))) := ⟨_, rfl⟩
  replace hW : WP D b w2 H := by rw [ew2]; exact hW
  have frw2 : ∀ id : Nat, id ≠ k → w2 id = w1 id := fun id h9 => by rw [ew2, up_ne h9]
  replace hn6_1 : w2 (k + 1) = some (eN dA 3 (fun _ => 0)) := (frw2 _ (by omega)).trans hn6_1
  replace hk0 : w2 k = some (.inr (0, [.ref (b + (k + 1)), .int (nI 0), .int (nI 0)])) := by rw [ew2]; exact up_eq
  refine lv_aload_n hx hb dX0_init_11 rfl (lv_at hl 0 rfl) ?_
  refine lv_iconst (v := nI 3) hx hb dX0_init_12 (by decide) ?_
  refine q_put hx hb hts hinX0 tyX0_ok nmX0 hown hG hW hS hk0 rfl 1 (by decide) (hts (.fieldLink RX0 15 "FoleyMixer$CueReader" "part" "I") (List.mem_of_getElem? (i := 6) rfl)) rfl rfl rfl rfl (Nat.le_of_ble_eq_true rfl) dX0_init_13 (fun H locs hW hS hz13 => ?_)
  replace hz := hz13.trans hz
  obtain ⟨w3, ew3⟩ : ∃ wq__ : Wd, wq__ = va_up w2 k (some (.inr (0, [.ref (b + (k + 1)), .int (nI 3), .int (nI 0)]))) := ⟨_, rfl⟩
  replace hW : WP D b w3 H := by rw [ew3]; exact hW
  have frw3 : ∀ id : Nat, id ≠ k → w3 id = w2 id := fun id h9 => by rw [ew3, up_ne h9]
  replace hn6_1 : w3 (k + 1) = some (eN dA 3 (fun _ => 0)) := (frw3 _ (by omega)).trans hn6_1
  replace hk0 : w3 k = some (.inr (0, [.ref (b + (k + 1)), .int (nI 3), .int (nI 0)])) := by rw [ew3]; exact up_eq
  refine lv_aload_n hx hb dX0_init_16 rfl (lv_at hl 0 rfl) ?_
  refine lv_iconst (v := (-1)) hx hb dX0_init_17 (by decide) ?_
  refine q_put hx hb hts hinX0 tyX0_ok nmX0 hown hG hW hS hk0 rfl 2 (by decide) (hts (.fieldLink RX0 19 "FoleyMixer$CueReader" "kind" "I") (List.mem_of_getElem? (i := 7) rfl)) rfl rfl rfl rfl (Nat.le_of_ble_eq_true rfl) dX0_init_18 (fun H locs hW hS hz18 => ?_)
  replace hz := hz18.trans hz
  obtain ⟨w4, ew4⟩ : ∃ wq__ : Wd, wq__ = va_up w3 k (some (.inr (0, [.ref (b + (k + 1)), .int (nI 3), .int (-1)]))) := ⟨_, rfl⟩
  replace hW : WP D b w4 H := by rw [ew4]; exact hW
  have frw4 : ∀ id : Nat, id ≠ k → w4 id = w3 id := fun id h9 => by rw [ew4, up_ne h9]
  replace hn6_1 : w4 (k + 1) = some (eN dA 3 (fun _ => 0)) := (frw4 _ (by omega)).trans hn6_1
  replace hk0 : w4 k = some (.inr (0, [.ref (b + (k + 1)), .int (nI 3), .int (-1)])) := by rw [ew4]; exact up_eq
  exact q_zv hx hb hr hlocks hW hS (by omega) dX0_init_21 (by exact ⟨⟨hk0, hn6_1, by decide, fun i _ v hv => by cases hv; decide⟩, by intro id h9; rw [frw4 id (by omega)]; rw [frw3 id (by omega)]; rw [frw2 id (by omega)]; rw [frw1 id (by omega)]; try rfl⟩) (by decide) (by decide)

