/-- the saved plays: m places are made, the first n hold saved plays; place i holds the play Hs i at the id a i -/
def isHist (dA : Nat → Nat) (b : Nat) (w : Wd) (k lo n m : Nat) (a : Nat → Nat) (Hs : Nat → Pl) : Prop :=
  w k = some (.inr (2, [.ref (b + (k + 1)), .int (nI n)])) ∧ w (k + 1) = some (eQ dA 6 (fun i => if i < m then some (b + a i) else none)) ∧ n ≤ m ∧ m ≤ 6 ∧ (∀ i, i < m → isPlay dA b w (a i) (Hs i)) ∧ (∀ i, i < m → lo ≤ a i) ∧ ∀ i j, i < m → j < m → i ≠ j → a i + 6 ≤ a j ∨ a j + 6 ≤ a i
theorem isHist.fr {dA : Nat → Nat} {b : Nat} {w w1 : Wd} {k lo n m : Nat} {a : Nat → Nat} {Hs : Nat → Pl} (h : isHist dA b w k lo n m a Hs) (h0 : w1 k = w k) (h1 : w1 (k + 1) = w (k + 1)) (h2 : ∀ i, i < m → ∀ id, a i ≤ id → id < a i + 6 → w1 id = w id) : isHist dA b w1 k lo n m a Hs := by
  obtain ⟨a1, a2, a3, a4, a5, a6, a7⟩ := h
  exact ⟨h0.trans a1, h1.trans a2, a3, a4, fun i hi => (a5 i hi).fr (h2 i hi), a6, a7⟩
/-- the saved plays with one more -/
def psh (n : Nat) (Hs : Nat → Pl) (P : Pl) (i : Nat) : Pl := if n < 6 then (if i < n then Hs i else P) else (if i < 5 then Hs (i + 1) else P)
def pshN (n : Nat) : Nat := if n < 6 then n + 1 else 6
/-- the places moved one to the front, i - 1 of them done -/
def rot (a : Nat → Nat) (i j : Nat) : Nat := if j + 1 < i then a (j + 1) else if j + 1 = i then a 0 else a j
theorem eQ_congr {dA : Nat → Nat} {n : Nat} {f g : Nat → Option Nat} (h : ∀ j, f j = g j) : (some (eQ dA n f) : Option va_E) = some (eQ dA n g) := by rw [show f = g from funext h]
theorem rot_step {b : Nat} {a : Nat → Nat} {i : Nat} (h1 : 1 ≤ i) (h6 : i < 6) (j : Nat) : va_up (va_up (fun j => if j < 6 then some (b + rot a i j) else none) (i - 1) (some (b + a i))) i (some (b + a 0)) j = if j < 6 then some (b + rot a (i + 1) j) else none := by
  unfold va_up rot
  by_cases e1 : j = i
  · subst e1; rw [if_pos rfl, if_pos h6, if_neg (by omega), if_pos (by omega)]
  · rw [if_neg e1]
    by_cases e2 : j = i - 1
    · subst e2; rw [if_pos rfl, if_pos (by omega), if_pos (by omega), show i - 1 + 1 = i by omega]
    · rw [if_neg e2]; dsimp only
      by_cases e3 : j < 6
      · rw [if_pos e3, if_pos e3]
        by_cases e4 : j + 1 < i
        · rw [if_pos e4, if_pos (by omega)]
        · rw [if_neg e4, if_neg (by omega), if_neg (by omega), if_neg (by omega)]
      · rw [if_neg e3, if_neg e3]
theorem rot_one {a : Nat → Nat} (j : Nat) : a j = rot a 1 j := by
  unfold rot
  rw [if_neg (by omega)]
  by_cases h : j + 1 = 1
  · rw [if_pos h, show j = 0 by omega]
  · rw [if_neg h]
theorem rot_end {b : Nat} {a : Nat → Nat} (j : Nat) : (if j < 6 then some (b + rot a 6 j) else none) = if j < 6 then some (b + (if j < 5 then a (j + 1) else a 0)) else none := by
  by_cases h6 : j < 6
  · rw [if_pos h6, if_pos h6]; unfold rot
    by_cases h5 : j < 5
    · rw [if_pos h5, if_pos (by omega)]
    · rw [if_neg h5, if_neg (by omega), if_pos (by omega)]
  · rw [if_neg h6, if_neg h6]
theorem rot_dj {a : Nat → Nat} (h : ∀ i j, i < 6 → j < 6 → i ≠ j → a i + 6 ≤ a j ∨ a j + 6 ≤ a i) : ∀ i j, i < 6 → j < 6 → i ≠ j → (fun i => if i < 5 then a (i + 1) else a 0) i + 6 ≤ (fun i => if i < 5 then a (i + 1) else a 0) j ∨ (fun i => if i < 5 then a (i + 1) else a 0) j + 6 ≤ (fun i => if i < 5 then a (i + 1) else a 0) i := by
  intro i j hi hj hij
  dsimp only
  by_cases e : i < 5 <;> by_cases e2 : j < 5
  · rw [if_pos e, if_pos e2]; exact h _ _ (by omega) (by omega) (by omega)
  · rw [if_pos e, if_neg e2]; exact h _ _ (by omega) (by omega) (by omega)
  · rw [if_neg e, if_pos e2]; exact h _ _ (by omega) (by omega) (by omega)
  · omega
theorem rot_in {a : Nat → Nat} {i : Nat} (hi : i < 6) : ∃ j, j < 6 ∧ (fun i => if i < 5 then a (i + 1) else a 0) i = a j := by
  dsimp only
  by_cases e : i < 5
  · rw [if_pos e]; exact ⟨i + 1, by omega, rfl⟩
  · rw [if_neg e]; exact ⟨0, by omega, rfl⟩
theorem rot_pl {dA : Nat → Nat} {b : Nat} {w w1 : Wd} {a : Nat → Nat} {Hs : Nat → Pl} (h : ∀ i, i < 6 → isPlay dA b w (a i) (Hs i)) (hf : ∀ i, i < 6 → ∀ id, a i ≤ id → id < a i + 6 → w1 id = w id) : ∀ i, i < 6 → isPlay dA b w1 ((fun i => if i < 5 then a (i + 1) else a 0) i) ((fun i => if i < 5 then Hs (i + 1) else Hs 0) i) := by
  intro i hi
  dsimp only
  by_cases e : i < 5
  · rw [if_pos e, if_pos e]; exact (h (i + 1) (by omega)).fr (hf (i + 1) (by omega))
  · rw [if_neg e, if_neg e]; exact (h 0 (by omega)).fr (hf 0 (by omega))
theorem rot_lo {a : Nat → Nat} {lo : Nat} (h : ∀ i, i < 6 → lo ≤ a i) : ∀ i, i < 6 → lo ≤ (fun i => if i < 5 then a (i + 1) else a 0) i := by
  intro i hi
  dsimp only
  by_cases e : i < 5
  · rw [if_pos e]; exact h _ (by omega)
  · rw [if_neg e]; exact h _ (by omega)
theorem rot_ps {Hs : Nat → Pl} {P : Pl} : ∀ i, i < 5 → (fun i => if i < 5 then Hs (i + 1) else Hs 0) i = psh 6 Hs P i := by
  intro i hi
  unfold psh
  dsimp only
  rw [if_pos hi, if_neg (by omega), if_pos hi]

set_option maxHeartbeats 300000 in
set_option maxRecDepth 100000 in
/-- History.size() -/
theorem c_X2_size (l : Launch) {D : va_G} {dA : Nat → Nat} {b : Nat} {w : Wd} {k n : Nat} {v9 : Value} (hh0 : w k = some (.inr (2, [v9, .int (nI n)]))) : Met l yX2_size wsX2_size ({ frames := 0, cells := 0, slots := 0, locals := 0 } : Room) (PC D dA b w [.ref (b + k)]) (QR (some (.int (nI n)))) 0 0 Fno := by
  refine q_of (cc := cX2_size) (maxL := 1) (ret := (some .int)) (by decide) rfl rfl ?_
  intro p e s m args below meth c ls hx hb hr hml hts hown hlocks hG hW hS hl
  have hown : s.vm.findClass RX2 = some m.cls := hown
  have hinX2 : ∀ w ∈ u_ws RX2 TX2 2, w ∈ wsX2_size := fun w h => (goodIn_r (big := wsX2_size) (u_ws RX2 TX2 2) [2, 3] (by decide +kernel) (by decide +kernel) w h).1
  have hl : lv_has ls 1 [(0, .ref (b + k))] := hl
  refine lv_aload_n hx hb dX2_size_0 rfl (lv_at hl 0 rfl) ?_
  refine q_get hx hb hts hinX2 hown hG hW hh0 rfl 1 (by decide) (hts (.fieldLink RX2 17 "FoleyMixer$History" "size" "I") (List.mem_of_getElem? (i := 1) rfl)) rfl rfl dX2_size_1 ?_
  exact q_ri hx hb hr hlocks dX2_size_4 (by rfl)

set_option maxHeartbeats 300000 in
set_option maxRecDepth 100000 in
/-- History.dropOldest() -/
theorem c_X2_dropOldest (l : Launch) {D : va_G} {dA : Nat → Nat} {b : Nat} {w : Wd} {k : Nat} {a : Nat → Nat} (hh0 : w k = some (.inr (2, [.ref (b + (k + 1)), .int (nI 6)]))) (hh1 : w (k + 1) = some (eQ dA 6 (fun i => if i < 6 then some (b + a i) else none))) (hpl : ∀ i, i < 6 → ∃ vs : List Value, w (a i) = some (.inr (4, vs))) (hak : ∀ i, i < 6 → a i ≠ k ∧ a i ≠ k + 1) : Met l yX2_dropOldest wsX2_dropOldest ({ frames := 0, cells := 0, slots := 0, locals := 0 } : Room) (PC D dA b w [.ref (b + k)]) (QW D b (none) (fun w' => w' k = some (.inr (2, [.ref (b + (k + 1)), .int (nI 5)])) ∧ w' (k + 1) = some (eQ dA 6 (fun i => if i < 6 then some (b + (if i < 5 then a (i + 1) else a 0)) else none)) ∧ ∀ id : Nat, id ≠ k → id ≠ k + 1 → w' id = w id)) 0 0 (Fb b) := by
  refine q_of (cc := cX2_dropOldest) (maxL := 3) (ret := none) (by decide) rfl rfl ?_
  intro p e s m args below meth c ls hx hb hr hml hts hown hlocks hG hW hS hl
  have hown : s.vm.findClass RX2 = some m.cls := hown
  have hinX2 : ∀ w ∈ u_ws RX2 TX2 2, w ∈ wsX2_dropOldest := fun w h => (goodIn_r (big := wsX2_dropOldest) (u_ws RX2 TX2 2) [3, 4] (by decide +kernel) (by decide +kernel) w h).1
  have hl : lv_has ls 3 [(0, .ref (b + k))] := hl
  refine lv_iconst (v := nI 1) hx hb dX2_dropOldest_0 (by decide) ?_
  refine lv_istore_n (lv' := [(1, .int (nI 1)), (0, .ref (b + k))]) hx hb dX2_dropOldest_1 rfl hl (by decide) rfl (fun ls hl => ?_)
  have L2 : ∀ (n2 : Nat) (i : Nat), 1 ≤ i → i ≤ 6 → 6 - i < n2 → ∀ (x2_1 : Int32), x2_1 = nI (i) → ∀ (wa : Wd) (H : Heap) (locs : List Loc), (∀ id : Nat, id ≠ k + 1 → wa id = w id) → wa (k + 1) = some (eQ dA 6 (fun j => if j < 6 then some (b + rot a i j) else none)) → WP D b wa H → va_S (Fb b) s.heap H locs → ∀ (ls : Array Slot), lv_has ls 3 [(0, .ref (b + k)), (1, .int x2_1)] → W p l e ({ frames := 0, cells := 0, slots := 0, locals := 0 } : Room) s m args below meth c H locs 0 0 (MQ below (QW D b (none) (fun w' => w' k = some (.inr (2, [.ref (b + (k + 1)), .int (nI 5)])) ∧ w' (k + 1) = some (eQ dA 6 (fun i => if i < 6 then some (b + (if i < 5 then a (i + 1) else a 0)) else none)) ∧ ∀ id : Nat, id ≠ k → id ≠ k + 1 → w' id = w id)) args s 0 0 (Fb b)) (F0 m 2 ls []) := by
    intro n2
    induction n2 with
    | zero =>
      intro i hi0 hi1 hn2 x2_1 ex2_1 wa H locs fr hh1 hW hS ls hl
      exact absurd hn2 (Nat.not_lt_zero _)
    | succ n2 ih2 =>
      intro i hi0 hi1 hn2 x2_1 ex2_1 wa H locs fr hh1 hW hS ls hl
      subst ex2_1
      replace hh0 := (fr k (by omega)).trans hh0
      have hv1 := fun i hi => (hpl i hi).imp fun vs h => (fr (a i) (hak i hi).2).trans h
      refine lv_iload_n hx hb dX2_dropOldest_2 rfl (lv_at hl 1 rfl) ?_
      refine lv_aload_n hx hb dX2_dropOldest_3 rfl (lv_at hl 0 rfl) ?_
      refine q_get hx hb hts hinX2 hown hG hW hh0 rfl 0 (by decide) (hts (.fieldLink RX2 11 "FoleyMixer$History" "plays" "[LFoleyMixer$Play;") (List.mem_of_getElem? (i := 1) rfl)) rfl rfl dX2_dropOldest_4 ?_
      refine q_alenq hx hb hG hW hh1 dX2_dropOldest_7 ?_
      refine lv_icmp_ge (tgt := 47) hx hb dX2_dropOldest_8 (by decide) (fun c_8 => ?_) (fun c_8 => ?_)
      · skip
        have c_8 : 6 ≤ i := (nI_leI (a := 6) (b := i) (by omega) (by omega)).mp c_8
        refine lv_aload_n hx hb dX2_dropOldest_47 rfl (lv_at hl 0 rfl) ?_
        refine lv_dup hx hb dX2_dropOldest_48 rfl ?_
        refine q_get hx hb hts hinX2 hown hG hW hh0 rfl 1 (by decide) (hts (.fieldLink RX2 17 "FoleyMixer$History" "size" "I") (List.mem_of_getElem? (i := 2) rfl)) rfl rfl dX2_dropOldest_49 ?_
        refine lv_iconst (v := nI 1) hx hb dX2_dropOldest_52 (by decide) ?_
        refine lv_isub hx hb dX2_dropOldest_53 ?_
        refine q_top (y := nI (6 - 1)) (nI_sub (by omega)) ?_
        refine q_put hx hb hts hinX2 tyX2_ok nmX2 hown hG hW hS hh0 rfl 1 (by decide) (hts (.fieldLink RX2 17 "FoleyMixer$History" "size" "I") (List.mem_of_getElem? (i := 2) rfl)) rfl rfl rfl rfl (Nat.le_of_ble_eq_true rfl) dX2_dropOldest_54 (fun H locs hW hS hz54 => ?_)
        obtain ⟨w1, ew1⟩ : ∃ wq__ : Wd, wq__ = va_up wa k (some (.inr (2, [.ref (b + (k + 1)), .int (nI (6 - 1))]))) := ⟨_, rfl⟩
        replace hW : WP D b w1 H := by rw [ew1]; exact hW
        have frw1 : ∀ id : Nat, id ≠ k → w1 id = wa id := fun id h9 => by rw [ew1, up_ne h9]
        replace hh1 : w1 (k + 1) = some (eQ dA 6 (fun j => if j < 6 then some (b + rot a i j) else none)) := (frw1 _ (by omega)).trans hh1
        replace hh0 : w1 k = some (.inr (2, [.ref (b + (k + 1)), .int (nI (6 - 1))])) := by rw [ew1]; exact up_eq
        exact q_wv hx hb hr hlocks hW hS dX2_dropOldest_57 (by exact ⟨hh0, hh1.trans (eQ_congr fun j => by rw [show i = 6 by omega]; exact rot_end j), by intro id h9 h8; rw [frw1 id h9, fr id h8]⟩) (by decide) (by decide)
      · skip
        have c_8 : ¬ (6 ≤ i) := fun h__ => c_8 ((nI_leI (a := 6) (b := i) (by omega) (by omega)).mpr h__)
        refine lv_aload_n hx hb dX2_dropOldest_11 rfl (lv_at hl 0 rfl) ?_
        refine q_get hx hb hts hinX2 hown hG hW hh0 rfl 0 (by decide) (hts (.fieldLink RX2 11 "FoleyMixer$History" "plays" "[LFoleyMixer$Play;") (List.mem_of_getElem? (i := 1) rfl)) rfl rfl dX2_dropOldest_12 ?_
        refine lv_iload_n hx hb dX2_dropOldest_15 rfl (lv_at hl 1 rfl) ?_
        refine lv_iconst (v := nI 1) hx hb dX2_dropOldest_16 (by decide) ?_
        refine lv_isub hx hb dX2_dropOldest_17 ?_
        refine q_top (y := nI (i - 1)) (nI_sub (by omega)) ?_
        refine q_aldq hx hb hG hW hh1 (by omega) (by omega) dX2_dropOldest_18 ?_
        refine q_topv (v' := .ref (b + (a 0))) (by show va_rf (if i - 1 < 6 then some (b + rot a i (i - 1)) else none) = _; rw [if_pos (by omega)]; unfold rot; rw [if_neg (by omega), if_pos (by omega)]; rfl) ?_
        refine lv_astore_n (lv' := [(2, .ref (b + (a 0))), (0, .ref (b + k)), (1, .int (nI i))]) hx hb dX2_dropOldest_19 rfl hl (by decide) rfl (fun ls hl => ?_)
        refine lv_aload_n hx hb dX2_dropOldest_20 rfl (lv_at hl 1 rfl) ?_
        refine q_get hx hb hts hinX2 hown hG hW hh0 rfl 0 (by decide) (hts (.fieldLink RX2 11 "FoleyMixer$History" "plays" "[LFoleyMixer$Play;") (List.mem_of_getElem? (i := 1) rfl)) rfl rfl dX2_dropOldest_21 ?_
        refine lv_iload_n hx hb dX2_dropOldest_24 rfl (lv_at hl 2 rfl) ?_
        refine lv_iconst (v := nI 1) hx hb dX2_dropOldest_25 (by decide) ?_
        refine lv_isub hx hb dX2_dropOldest_26 ?_
        refine q_top (y := nI (i - 1)) (nI_sub (by omega)) ?_
        refine lv_aload_n hx hb dX2_dropOldest_27 rfl (lv_at hl 1 rfl) ?_
        refine q_get hx hb hts hinX2 hown hG hW hh0 rfl 0 (by decide) (hts (.fieldLink RX2 11 "FoleyMixer$History" "plays" "[LFoleyMixer$Play;") (List.mem_of_getElem? (i := 1) rfl)) rfl rfl dX2_dropOldest_28 ?_
        refine lv_iload_n hx hb dX2_dropOldest_31 rfl (lv_at hl 2 rfl) ?_
        refine q_aldq hx hb hG hW hh1 (by omega) (by omega) dX2_dropOldest_32 ?_
        refine q_topv (v' := .ref (b + (a i))) (by show va_rf (if i < 6 then some (b + rot a i i) else none) = _; rw [if_pos (by omega)]; unfold rot; rw [if_neg (by omega), if_neg (by omega)]; rfl) ?_
        obtain ⟨vs1, hvs1⟩ := hv1 i (by omega)
        obtain ⟨vs0, hvs0⟩ := hv1 0 (by omega)
        have hne := hak 0 (by omega)
        refine q_astq hx hb hG hW hS hh1 hvs1 (by omega) (by omega) dX2_dropOldest_33 (fun H locs hW hS hz33 => ?_)
        obtain ⟨w2, ew2⟩ : ∃ wq__ : Wd, wq__ = va_up wa (k + 1) (some (eQ dA 6 (va_up (fun j => if j < 6 then some (b + rot a i j) else none) (i - 1) (some (b + (a i)))))) := ⟨_, rfl⟩
        replace hW : WP D b w2 H := by rw [ew2]; exact hW
        have frw2 : ∀ id : Nat, id ≠ k + 1 → w2 id = wa id := fun id h9 => by rw [ew2, up_ne h9]
        replace hh0 : w2 k = some (.inr (2, [.ref (b + (k + 1)), .int (nI 6)])) := (frw2 _ (by omega)).trans hh0
        replace hh1 : w2 (k + 1) = some (eQ dA 6 (va_up (fun j => if j < 6 then some (b + rot a i j) else none) (i - 1) (some (b + (a i))))) := by rw [ew2]; exact up_eq
        replace hvs0 := (frw2 _ hne.2).trans hvs0
        refine lv_aload_n hx hb dX2_dropOldest_34 rfl (lv_at hl 1 rfl) ?_
        refine q_get hx hb hts hinX2 hown hG hW hh0 rfl 0 (by decide) (hts (.fieldLink RX2 11 "FoleyMixer$History" "plays" "[LFoleyMixer$Play;") (List.mem_of_getElem? (i := 1) rfl)) rfl rfl dX2_dropOldest_35 ?_
        refine lv_iload_n hx hb dX2_dropOldest_38 rfl (lv_at hl 2 rfl) ?_
        refine lv_aload_n hx hb dX2_dropOldest_39 rfl (lv_at hl 0 rfl) ?_
        refine q_astq hx hb hG hW hS hh1 hvs0 (by omega) (by omega) dX2_dropOldest_40 (fun H locs hW hS hz40 => ?_)
        obtain ⟨w3, ew3⟩ : ∃ wq__ : Wd, wq__ = va_up w2 (k + 1) (some (eQ dA 6 (va_up (va_up (fun j => if j < 6 then some (b + rot a i j) else none) (i - 1) (some (b + (a i)))) i (some (b + (a 0)))))) := ⟨_, rfl⟩
        replace hW : WP D b w3 H := by rw [ew3]; exact hW
        have frw3 : ∀ id : Nat, id ≠ k + 1 → w3 id = w2 id := fun id h9 => by rw [ew3, up_ne h9]
        replace hh0 : w3 k = some (.inr (2, [.ref (b + (k + 1)), .int (nI 6)])) := (frw3 _ (by omega)).trans hh0
        replace hh1 : w3 (k + 1) = some (eQ dA 6 (va_up (va_up (fun j => if j < 6 then some (b + rot a i j) else none) (i - 1) (some (b + (a i)))) i (some (b + (a 0))))) := by rw [ew3]; exact up_eq
        refine lv_iinc (v := nI (i + 1)) (lv' := [(1, .int (nI (i + 1))), (2, .ref (b + (a 0))), (0, .ref (b + k))]) hx hb dX2_dropOldest_41 hl (k := 2) rfl (nI_add _ 1) (by decide) rfl (fun ls hl => ?_)
        refine lv_goto (tgt := 2) hx hb dX2_dropOldest_44 (by decide) ?_
        exact ih2 (i + 1) (by omega) (by omega) (by omega) _ (by first | rfl | (congr 1; omega)) _ _ _ (by intro id h9; rw [frw3 id h9]; rw [frw2 id h9]; exact fr id h9) (by refine hh1.trans (eQ_congr fun j => ?_); exact rot_step (by omega) (by omega) j) hW hS _ (lv_sub hl [2, 0] rfl)
  exact L2 ((6 - 1) + 1) 1 (by omega) (by omega) (Nat.lt_succ_self _) _ (by first | rfl | (congr 1; omega)) _ _ _ (by intro id h9; rfl) (by exact hh1.trans (eQ_congr fun j => by rw [← rot_one j])) hW hS _ (lv_sub hl [1, 0] rfl)

set_option maxHeartbeats 300000 in
set_option maxRecDepth 100000 in
/-- History.push(play) -/
theorem c_X2_push (l : Launch) {D : va_G} {dA : Nat → Nat} {b : Nat} {w : Wd} {k lo n mh : Nat} {a : Nat → Nat} {Hs : Nat → Pl} (hh : isHist dA b w k lo n mh a Hs) {q : Nat} {P : Pl} (hp : isPlay dA b w q P) (hq : q + 6 ≤ lo) (hk : k + 2 ≤ lo) (hkq : k + 2 ≤ q ∨ q + 6 ≤ k) (hlo0 : ∃ e, w (lo - 1) = some e) (hlo1 : k + 2 ≤ lo - 1) : Met l yX2_push wsX2_push ({ frames := 3, cells := 6, slots := 110, locals := 64 } : Room) (PC D dA b w [.ref (b + k), .ref (b + q)]) (QW D b (none) (fun w' => ∃ (m' : Nat) (a' : Nat → Nat) (Hs' : Nat → Pl), isHist dA b w' k lo (pshN n) m' a' Hs' ∧ (∀ i, i < pshN n → Hs' i = psh n Hs P i) ∧ (∀ i, i < m' → (∃ j, j < mh ∧ a' i = a j) ∨ ∀ (id : Nat) (e : va_E), w id = some e → id < a' i) ∧ ∀ id : Nat, id ≠ k → id ≠ k + 1 → (∀ i, i < m' → id < a' i ∨ a' i + 6 ≤ id) → w' id = w id)) 6 110 (Fb b) := by
  refine q_of (cc := cX2_push) (maxL := 3) (ret := none) (by decide) rfl rfl ?_
  intro p e s m args below meth c ls hx hb hr hml hts hown hlocks hG hW hS hl
  have hown : s.vm.findClass RX2 = some m.cls := hown
  have hinX2 : ∀ w ∈ u_ws RX2 TX2 2, w ∈ wsX2_push := fun w h => (goodIn_r (big := wsX2_push) (u_ws RX2 TX2 2) [44, 45] (by decide +kernel) (by decide +kernel) w h).1
  have hinX4 : ∀ w ∈ u_ws RX4 TX4 3, w ∈ wsX2_push := fun w h => (goodIn_r (big := wsX2_push) (u_ws RX4 TX4 3) [46, 47, 48] (by decide +kernel) (by decide +kernel) w h).1
  have hl : lv_has ls 3 [(0, .ref (b + k)), (1, .ref (b + q))] := hl
  obtain ⟨hh0, hh1, hnm0, hm6, hpl, hlo, hdj⟩ := id hh
  have hp0 := hp
  have L16 : ∀ (n5 m5 : Nat) (a5 : Nat → Nat) (H5 : Nat → Pl), n5 < 6 → n5 ≤ m5 → m5 ≤ 6 → (∀ i, i < m5 → lo ≤ a5 i) → (∀ i j, i < m5 → j < m5 → i ≠ j → a5 i + 6 ≤ a5 j ∨ a5 j + 6 ≤ a5 i) → n5 + 1 = pshN n → (∀ i, i < n5 → H5 i = psh n Hs P i) → (∀ i, i < m5 → ∃ j, j < mh ∧ a5 i = a j) → psh n Hs P n5 = P → ∀ (wa : Wd) (H : Heap) (locs : List Loc), wa k = some (.inr (2, [.ref (b + (k + 1)), .int (nI n5)])) → wa (k + 1) = some (eQ dA 6 (fun i => if i < m5 then some (b + a5 i) else none)) → (∀ i, i < m5 → isPlay dA b wa (a5 i) (H5 i)) → (∀ id : Nat, id ≠ k → id ≠ k + 1 → wa id = w id) → WP D b wa H → va_S (Fb b) s.heap H locs → ∀ (ls : Array Slot), lv_has ls 3 [(0, .ref (b + k)), (1, .ref (b + q))] → W p l e ({ frames := 3, cells := 6, slots := 110, locals := 64 } : Room) s m args below meth c H locs 0 0 (MQ below (QW D b (none) (fun w' => ∃ (m' : Nat) (a' : Nat → Nat) (Hs' : Nat → Pl), isHist dA b w' k lo (pshN n) m' a' Hs' ∧ (∀ i, i < pshN n → Hs' i = psh n Hs P i) ∧ (∀ i, i < m' → (∃ j, j < mh ∧ a' i = a j) ∨ ∀ (id : Nat) (e : va_E), w id = some e → id < a' i) ∧ ∀ id : Nat, id ≠ k → id ≠ k + 1 → (∀ i, i < m' → id < a' i ∨ a' i + 6 ≤ id) → w' id = w id)) args s 6 110 (Fb b)) (F0 m 16 ls []) := by
    intro n5 m5 a5 H5 g1 g2 g3 g4 g5 g6 g7 g8 g9 wa H locs hh0 hh1 hpl fr hW hS ls hl
    replace hp := hp0.fr (fun id9 h7 h8 => fr id9 (by omega) (by omega))
    refine lv_aload_n hx hb dX2_push_16 rfl (lv_at hl 0 rfl) ?_
    refine q_get hx hb hts hinX2 hown hG hW hh0 rfl 1 (by decide) (hts (.fieldLink RX2 17 "FoleyMixer$History" "size" "I") (List.mem_of_getElem? (i := 1) rfl)) rfl rfl dX2_push_17 ?_
    refine lv_if_lt (tgt := 35) hx hb dX2_push_20 (by decide) (fun c_20 => ?_) (fun c_20 => ?_)
    · skip
      have c_20 : n5 < 0 := (nI_lt0 (i := n5) (by omega)).mp c_20
      exact q_wv hx hb hr hlocks hW hS dX2_push_35 (by omega) (by decide) (by decide)
    · skip
      have c_20 : ¬ (n5 < 0) := fun h__ => c_20 ((nI_lt0 (i := n5) (by omega)).mpr h__)
      refine lv_aload_n hx hb dX2_push_23 rfl (lv_at hl 0 rfl) ?_
      refine q_get hx hb hts hinX2 hown hG hW hh0 rfl 1 (by decide) (hts (.fieldLink RX2 17 "FoleyMixer$History" "size" "I") (List.mem_of_getElem? (i := 1) rfl)) rfl rfl dX2_push_24 ?_
      refine lv_aload_n hx hb dX2_push_27 rfl (lv_at hl 0 rfl) ?_
      refine q_get hx hb hts hinX2 hown hG hW hh0 rfl 0 (by decide) (hts (.fieldLink RX2 11 "FoleyMixer$History" "plays" "[LFoleyMixer$Play;") (List.mem_of_getElem? (i := 2) rfl)) rfl rfl dX2_push_28 ?_
      refine q_alenq hx hb hG hW hh1 dX2_push_31 ?_
      refine lv_icmp_lt (tgt := 36) hx hb dX2_push_32 (by decide) (fun c_32 => ?_) (fun c_32 => ?_)
      · skip
        have c_32 : n5 < 6 := (nI_ltI (a := n5) (b := 6) (by omega) (by omega)).mp c_32
        refine lv_aload_n hx hb dX2_push_36 rfl (lv_at hl 0 rfl) ?_
        refine q_get hx hb hts hinX2 hown hG hW hh0 rfl 0 (by decide) (hts (.fieldLink RX2 11 "FoleyMixer$History" "plays" "[LFoleyMixer$Play;") (List.mem_of_getElem? (i := 2) rfl)) rfl rfl dX2_push_37 ?_
        refine lv_aload_n hx hb dX2_push_40 rfl (lv_at hl 0 rfl) ?_
        refine q_get hx hb hts hinX2 hown hG hW hh0 rfl 1 (by decide) (hts (.fieldLink RX2 17 "FoleyMixer$History" "size" "I") (List.mem_of_getElem? (i := 1) rfl)) rfl rfl dX2_push_41 ?_
        refine q_aldq hx hb hG hW hh1 (by omega) (by omega) dX2_push_44 ?_
        by_cases hnm : n5 < m5
        · skip
          refine q_topv (v' := .ref (b + a5 n5)) (by show va_rf (if n5 < m5 then some (b + a5 n5) else none) = _; rw [if_pos hnm]; rfl) ?_
          have hpt := hpl n5 hnm
          have hlt := g4 n5 hnm
          refine lv_astore_n (lv' := [(2, .ref (b + (a5 n5))), (0, .ref (b + k)), (1, .ref (b + q))]) hx hb dX2_push_45 rfl hl (by decide) rfl (fun ls hl => ?_)
          refine lv_aload_n hx hb dX2_push_46 rfl (lv_at hl 0 rfl) ?_
          refine lv_ifnonnull (tgt := 68) hx hb dX2_push_47 (by decide) ?_
          refine lv_aload_n hx hb dX2_push_68 rfl (lv_at hl 0 rfl) ?_
          refine lv_aload_n hx hb dX2_push_69 rfl (lv_at hl 2 rfl) ?_
          refine q_W0 (va_runVN (As := [.ref (b + q)]) (rest := []) ⟨hx, hb, hml, hown, hts⟩ (c_X4_copyFrom l hpt hp (by omega)) ⟨(va_cnB 1 hts gX2_push_X4_copyFrom_n25 rfl rfl rfl (hG.nest 63 rfl) (hts (.initialized RX4) (List.mem_of_getElem? (i := 5) rfl)) (by decide +kernel) ⟨Nat.le_of_ble_eq_true rfl, Nat.le_of_ble_eq_true rfl⟩), (hts (.instanceMethod yX4_copyFrom) (List.mem_of_getElem? (i := 35) rfl)), (hts (.selects RX4 yX4_copyFrom yX4_copyFrom) (List.mem_of_getElem? (i := 36) rfl))⟩ (q_preV hG hW hS (hpt).1 rfl) rfl rfl hl.1 rfl (lv_room (Nat.le_of_ble_eq_true rfl)) dX2_push_70 ⟨Nat.le_of_ble_eq_true rfl, Nat.le_of_ble_eq_true rfl⟩) hS (fun w_70 H locs hp70 hW hS => ?_)
          obtain ⟨hpt, fr70⟩ := hp70
          replace hh0 : w_70 k = some (.inr (2, [.ref (b + (k + 1)), .int (nI n5)])) := (fr70 _ (by omega)).trans hh0
          replace hh1 : w_70 (k + 1) = some (eQ dA 6 (fun i => if i < m5 then some (b + a5 i) else none)) := (fr70 _ (by omega)).trans hh1
          replace hp : isPlay dA b w_70 q P := hp.fr (fun id9 h7 h8 => fr70 id9 (by omega))
          refine lv_aload_n hx hb dX2_push_73 rfl (lv_at hl 1 rfl) ?_
          refine lv_dup hx hb dX2_push_74 rfl ?_
          refine q_get hx hb hts hinX2 hown hG hW hh0 rfl 1 (by decide) (hts (.fieldLink RX2 17 "FoleyMixer$History" "size" "I") (List.mem_of_getElem? (i := 1) rfl)) rfl rfl dX2_push_75 ?_
          refine lv_iconst (v := nI 1) hx hb dX2_push_78 (by decide) ?_
          refine lv_iadd hx hb dX2_push_79 ?_
          refine q_top (y := nI (n5 + 1)) (nI_add _ _) ?_
          refine q_put hx hb hts hinX2 tyX2_ok nmX2 hown hG hW hS hh0 rfl 1 (by decide) (hts (.fieldLink RX2 17 "FoleyMixer$History" "size" "I") (List.mem_of_getElem? (i := 1) rfl)) rfl rfl rfl rfl (Nat.le_of_ble_eq_true rfl) dX2_push_80 (fun H locs hW hS hz80 => ?_)
          obtain ⟨w1, ew1⟩ : ∃ wq__ : Wd, wq__ = va_up w_70 k (some (.inr (2, [.ref (b + (k + 1)), .int (nI (n5 + 1))]))) := ⟨_, rfl⟩
          replace hW : WP D b w1 H := by rw [ew1]; exact hW
          have frw1 : ∀ id : Nat, id ≠ k → w1 id = w_70 id := fun id h9 => by rw [ew1, up_ne h9]
          replace hh1 : w1 (k + 1) = some (eQ dA 6 (fun i => if i < m5 then some (b + a5 i) else none)) := (frw1 _ (by omega)).trans hh1
          replace hp : isPlay dA b w1 q P := hp.fr (fun id9 h7 h8 => frw1 id9 (by omega))
          replace hpt : isPlay dA b w1 (a5 n5) P := hpt.fr (fun id9 h7 h8 => frw1 id9 (by omega))
          replace hh0 : w1 k = some (.inr (2, [.ref (b + (k + 1)), .int (nI (n5 + 1))])) := by rw [ew1]; exact up_eq
          have hfin : (fun w' => ∃ (m' : Nat) (a' : Nat → Nat) (Hs' : Nat → Pl), isHist dA b w' k lo (pshN n) m' a' Hs' ∧ (∀ i, i < pshN n → Hs' i = psh n Hs P i) ∧ (∀ i, i < m' → (∃ j, j < mh ∧ a' i = a j) ∨ ∀ (id : Nat) (e : va_E), w id = some e → id < a' i) ∧ ∀ id : Nat, id ≠ k → id ≠ k + 1 → (∀ i, i < m' → id < a' i ∨ a' i + 6 ≤ id) → w' id = w id) w1 := by
            refine ⟨m5, a5, fun i => if i = n5 then P else H5 i, ⟨g6 ▸ hh0, hh1, by omega, g3, fun i hi => ?_, g4, g5⟩, fun i hi => ?_, fun i hi => Or.inl (g8 i hi), fun id h1 h2 h3 => ?_⟩
            · dsimp only
              by_cases e : i = n5
              · subst e; rw [if_pos rfl]; exact hpt
              · rw [if_neg e]
                have hdj := g5 i n5 hi hnm e
                have hli := g4 i hi
                exact (hpl i hi).fr (fun id h7 h8 => by rw [frw1 id (by omega), fr70 id (by omega)])
            · dsimp only
              by_cases e : i = n5
              · subst e; rw [if_pos rfl]; exact g9.symm
              · rw [if_neg e]; exact g7 i (by omega)
            · have h4 := h3 n5 hnm
              rw [frw1 id h1, fr70 id (by omega), fr id h1 h2]
          exact q_wv hx hb hr hlocks hW hS dX2_push_83 (by exact hfin) (by decide) (by decide)
        · skip
          refine q_topv (v' := .null) (by show va_rf (if n5 < m5 then some (b + a5 n5) else none) = _; rw [if_neg hnm]; rfl) ?_
          have enm : n5 = m5 := by omega
          refine lv_astore_nN (lv' := [(2, .null), (0, .ref (b + k)), (1, .ref (b + q))]) hx hb dX2_push_45 rfl hl (by decide) rfl (fun ls hl => ?_)
          refine lv_aload_nN hx hb dX2_push_46 rfl (lv_at hl 0 rfl) ?_
          refine lv_ifnonnullN hx hb dX2_push_47 ?_
          obtain ⟨z9, hz⟩ : ∃ z9, H.size = b + z9 := ⟨H.size - b, by have := hW.lt hh0; omega⟩
          have hlt : ∀ (id : Nat) (e : va_E), wa id = some e → id < z9 := fun id e h => by have := hW.lt h; omega
          have hl0 := hlt _ _ hh0
          have hl1 := hlt _ _ hh1
          have hlq := hlt _ _ hp.2.2.2.2
          have hwa := fr
          have hlz : lo ≤ z9 := by
            obtain ⟨e9, he9⟩ := hlo0
            have := hlt (lo - 1) e9 ((fr _ (by omega) (by omega)).trans he9)
            omega
          refine q_new (ci := 4) (fs := [.null, .null, .null]) hx hb hts hinX4 tyX4_ok hown (hts (.classLink RX2 9 RX4) (List.mem_of_getElem? (i := 3) rfl)) (hts (.instantiable RX4 3) (List.mem_of_getElem? (i := 4) rfl)) (hts (.initialized RX4) (List.mem_of_getElem? (i := 5) rfl)) hG hW hS hz rfl (fun j hj => by rcases (show j = 0 ∨ j = 1 ∨ j = 2 by omega) with rfl | rfl | rfl <;> rfl) (Nat.le_of_ble_eq_true rfl) (Nat.le_of_ble_eq_true rfl) dX2_push_50 (fun H hW hS hz => ?_)
          obtain ⟨w2, ew2⟩ : ∃ wq__ : Wd, wq__ = va_up wa z9 (some (.inr (4, [.null, .null, .null]))) := ⟨_, rfl⟩
          rw [← ew2] at hW
          have frw2 : ∀ id : Nat, id ≠ z9 → w2 id = wa id := fun id h9 => by rw [ew2, up_ne h9]
          replace hh0 : w2 k = some (.inr (2, [.ref (b + (k + 1)), .int (nI n5)])) := (frw2 _ (by omega)).trans hh0
          replace hh1 : w2 (k + 1) = some (eQ dA 6 (fun i => if i < m5 then some (b + a5 i) else none)) := (frw2 _ (by omega)).trans hh1
          replace hp : isPlay dA b w2 q P := hp.fr (fun id9 h7 h8 => frw2 id9 (by omega))
          have hn50_2 : w2 z9 = some (.inr (4, [.null, .null, .null])) := by rw [ew2]; exact up_eq
          refine lv_dup hx hb dX2_push_53 rfl ?_
          refine q_call (va_runIN (As := []) (rest := [.ref (b + z9)]) ⟨hx, hb, hml, hown, hts⟩ (c_X4_init l hn50_2) ⟨(va_cnB 0 hts gX2_push_X4_init_n24 rfl rfl rfl (hG.nest 62 rfl) (hts (.initialized RX4) (List.mem_of_getElem? (i := 5) rfl)) (by decide +kernel) ⟨Nat.le_of_ble_eq_true rfl, Nat.le_of_ble_eq_true rfl⟩), rfl, (hts (.instanceMethod yX4_init) (List.mem_of_getElem? (i := 11) rfl))⟩ (q_preI hG hW hS (by omega)) rfl rfl hl.1 rfl (lv_room (Nat.le_of_ble_eq_true rfl)) dX2_push_54 ⟨Nat.le_of_ble_eq_true rfl, Nat.le_of_ble_eq_true rfl⟩) hS (fun w_54 H locs hp54 hW hS hz => ?_)
          obtain ⟨hpl54, fr54⟩ := hp54
          replace hh0 : w_54 k = some (.inr (2, [.ref (b + (k + 1)), .int (nI n5)])) := (fr54 _ (by omega)).trans hh0
          replace hh1 : w_54 (k + 1) = some (eQ dA 6 (fun i => if i < m5 then some (b + a5 i) else none)) := (fr54 _ (by omega)).trans hh1
          replace hp : isPlay dA b w_54 q P := hp.fr (fun id9 h7 h8 => fr54 id9 (by omega))
          refine lv_astore_n (lv' := [(2, .ref (b + z9)), (0, .ref (b + k)), (1, .ref (b + q))]) hx hb dX2_push_57 rfl hl (by decide) rfl (fun ls hl => ?_)
          refine lv_aload_n hx hb dX2_push_58 rfl (lv_at hl 1 rfl) ?_
          refine q_get hx hb hts hinX2 hown hG hW hh0 rfl 0 (by decide) (hts (.fieldLink RX2 11 "FoleyMixer$History" "plays" "[LFoleyMixer$Play;") (List.mem_of_getElem? (i := 2) rfl)) rfl rfl dX2_push_59 ?_
          refine lv_aload_n hx hb dX2_push_62 rfl (lv_at hl 1 rfl) ?_
          refine q_get hx hb hts hinX2 hown hG hW hh0 rfl 1 (by decide) (hts (.fieldLink RX2 17 "FoleyMixer$History" "size" "I") (List.mem_of_getElem? (i := 1) rfl)) rfl rfl dX2_push_63 ?_
          refine lv_aload_n hx hb dX2_push_66 rfl (lv_at hl 0 rfl) ?_
          refine q_astq hx hb hG hW hS hh1 hpl54.1 (by omega) (by omega) dX2_push_67 (fun H locs hW hS hz67 => ?_)
          replace hz := hz67.trans hz
          obtain ⟨w3, ew3⟩ : ∃ wq__ : Wd, wq__ = va_up w_54 (k + 1) (some (eQ dA 6 (va_up (fun i => if i < m5 then some (b + a5 i) else none) n5 (some (b + z9))))) := ⟨_, rfl⟩
          replace hW : WP D b w3 H := by rw [ew3]; exact hW
          have frw3 : ∀ id : Nat, id ≠ k + 1 → w3 id = w_54 id := fun id h9 => by rw [ew3, up_ne h9]
          replace hh0 : w3 k = some (.inr (2, [.ref (b + (k + 1)), .int (nI n5)])) := (frw3 _ (by omega)).trans hh0
          replace hp : isPlay dA b w3 q P := hp.fr (fun id9 h7 h8 => frw3 id9 (by omega))
          replace hpl54 : isPlay dA b w3 z9 P0 := hpl54.fr (fun id9 h7 h8 => frw3 id9 (by omega))
          replace hh1 : w3 (k + 1) = some (eQ dA 6 (va_up (fun i => if i < m5 then some (b + a5 i) else none) n5 (some (b + z9)))) := by rw [ew3]; exact up_eq
          refine lv_aload_n hx hb dX2_push_68 rfl (lv_at hl 0 rfl) ?_
          refine lv_aload_n hx hb dX2_push_69 rfl (lv_at hl 2 rfl) ?_
          refine q_W0 (va_runVN (As := [.ref (b + q)]) (rest := []) ⟨hx, hb, hml, hown, hts⟩ (c_X4_copyFrom l hpl54 hp (by omega)) ⟨(va_cnB 1 hts gX2_push_X4_copyFrom_n25 rfl rfl rfl (hG.nest 63 rfl) (hts (.initialized RX4) (List.mem_of_getElem? (i := 5) rfl)) (by decide +kernel) ⟨Nat.le_of_ble_eq_true rfl, Nat.le_of_ble_eq_true rfl⟩), (hts (.instanceMethod yX4_copyFrom) (List.mem_of_getElem? (i := 35) rfl)), (hts (.selects RX4 yX4_copyFrom yX4_copyFrom) (List.mem_of_getElem? (i := 36) rfl))⟩ (q_preV hG hW hS (hpl54).1 rfl) rfl rfl hl.1 rfl (lv_room (Nat.le_of_ble_eq_true rfl)) dX2_push_70 ⟨Nat.le_of_ble_eq_true rfl, Nat.le_of_ble_eq_true rfl⟩) hS (fun w_70 H locs hp70 hW hS => ?_)
          obtain ⟨hpl54, fr70⟩ := hp70
          replace hh0 : w_70 k = some (.inr (2, [.ref (b + (k + 1)), .int (nI n5)])) := (fr70 _ (by omega)).trans hh0
          replace hh1 : w_70 (k + 1) = some (eQ dA 6 (va_up (fun i => if i < m5 then some (b + a5 i) else none) n5 (some (b + z9)))) := (fr70 _ (by omega)).trans hh1
          replace hp : isPlay dA b w_70 q P := hp.fr (fun id9 h7 h8 => fr70 id9 (by omega))
          refine lv_aload_n hx hb dX2_push_73 rfl (lv_at hl 1 rfl) ?_
          refine lv_dup hx hb dX2_push_74 rfl ?_
          refine q_get hx hb hts hinX2 hown hG hW hh0 rfl 1 (by decide) (hts (.fieldLink RX2 17 "FoleyMixer$History" "size" "I") (List.mem_of_getElem? (i := 1) rfl)) rfl rfl dX2_push_75 ?_
          refine lv_iconst (v := nI 1) hx hb dX2_push_78 (by decide) ?_
          refine lv_iadd hx hb dX2_push_79 ?_
          refine q_top (y := nI (n5 + 1)) (nI_add _ _) ?_
          refine q_put hx hb hts hinX2 tyX2_ok nmX2 hown hG hW hS hh0 rfl 1 (by decide) (hts (.fieldLink RX2 17 "FoleyMixer$History" "size" "I") (List.mem_of_getElem? (i := 1) rfl)) rfl rfl rfl rfl (Nat.le_of_ble_eq_true rfl) dX2_push_80 (fun H locs hW hS hz80 => ?_)
          obtain ⟨w4, ew4⟩ : ∃ wq__ : Wd, wq__ = va_up w_70 k (some (.inr (2, [.ref (b + (k + 1)), .int (nI (n5 + 1))]))) := ⟨_, rfl⟩
          replace hW : WP D b w4 H := by rw [ew4]; exact hW
          have frw4 : ∀ id : Nat, id ≠ k → w4 id = w_70 id := fun id h9 => by rw [ew4, up_ne h9]
          replace hh1 : w4 (k + 1) = some (eQ dA 6 (va_up (fun i => if i < m5 then some (b + a5 i) else none) n5 (some (b + z9)))) := (frw4 _ (by omega)).trans hh1
          replace hp : isPlay dA b w4 q P := hp.fr (fun id9 h7 h8 => frw4 id9 (by omega))
          replace hpl54 : isPlay dA b w4 z9 P := hpl54.fr (fun id9 h7 h8 => frw4 id9 (by omega))
          replace hh0 : w4 k = some (.inr (2, [.ref (b + (k + 1)), .int (nI (n5 + 1))])) := by rw [ew4]; exact up_eq
          have hfin : (fun w' => ∃ (m' : Nat) (a' : Nat → Nat) (Hs' : Nat → Pl), isHist dA b w' k lo (pshN n) m' a' Hs' ∧ (∀ i, i < pshN n → Hs' i = psh n Hs P i) ∧ (∀ i, i < m' → (∃ j, j < mh ∧ a' i = a j) ∨ ∀ (id : Nat) (e : va_E), w id = some e → id < a' i) ∧ ∀ id : Nat, id ≠ k → id ≠ k + 1 → (∀ i, i < m' → id < a' i ∨ a' i + 6 ≤ id) → w' id = w id) w4 := by
            refine ⟨m5 + 1, va_up a5 n5 z9, fun i => if i = n5 then P else H5 i, ⟨g6 ▸ hh0, hh1.trans (eQ_congr fun j => ?_), by omega, by omega, fun i hi => ?_, fun i hi => ?_, fun i j hi hj hij => ?_⟩, fun i hi => ?_, fun i hi => ?_, fun id h1 h2 h3 => ?_⟩
            · unfold va_up
              by_cases e : j = n5
              · rw [if_pos e, if_pos (by omega), if_pos e]
              · rw [if_neg e]; dsimp only
                by_cases e2 : j < m5
                · rw [if_pos e2, if_pos (by omega), if_neg e]
                · rw [if_neg e2, if_neg (by omega)]
            · unfold va_up; dsimp only
              by_cases e : i = n5
              · rw [if_pos e, if_pos e]; exact hpl54
              · rw [if_neg e, if_neg e]
                have hli := g4 i (by omega)
                have hlz2 := hlt _ _ (hpl i (by omega)).2.2.2.2
                exact (hpl i (by omega)).fr (fun id h7 h8 => by rw [frw4 id (by omega), fr70 id (by omega), frw3 id (by omega), fr54 id (by omega), frw2 id (by omega)])
            · unfold va_up; by_cases e : i = n5
              · rw [if_pos e]; exact hlz
              · rw [if_neg e]; exact g4 i (by omega)
            · unfold va_up
              by_cases e : i = n5
              · by_cases e2 : j = n5
                · omega
                · rw [if_pos e, if_neg e2]
                  have := hlt _ _ (hpl j (by omega)).2.2.2.2
                  exact Or.inr (by omega)
              · by_cases e2 : j = n5
                · rw [if_neg e, if_pos e2]
                  have := hlt _ _ (hpl i (by omega)).2.2.2.2
                  exact Or.inl (by omega)
                · rw [if_neg e, if_neg e2]; exact g5 i j (by omega) (by omega) hij
            · dsimp only
              by_cases e : i = n5
              · subst e; rw [if_pos rfl]; exact g9.symm
              · rw [if_neg e]; exact g7 i (by omega)
            · unfold va_up
              by_cases e : i = n5
              · rw [if_pos e]; refine Or.inr (fun id e9 h9 => ?_)
                by_cases h1 : id = k
                · omega
                · by_cases h2 : id = k + 1
                  · omega
                  · exact hlt id e9 ((fr id h1 h2).trans h9)
              · rw [if_neg e]; exact Or.inl (g8 i (by omega))
            · have h4 := h3 n5 (by omega)
              unfold va_up at h4; rw [if_pos rfl] at h4
              rw [frw4 id (by omega), fr70 id (by omega), frw3 id (by omega), fr54 id (by omega), frw2 id (by omega), fr id h1 h2]
          exact q_wv hx hb hr hlocks hW hS dX2_push_83 (by exact hfin) (by decide) (by decide)
      · skip
        have c_32 : ¬ (n5 < 6) := fun h__ => c_32 ((nI_ltI (a := n5) (b := 6) (by omega) (by omega)).mpr h__)
        exact q_wv hx hb hr hlocks hW hS dX2_push_35 (by omega) (by decide) (by decide)
  refine lv_aload_n hx hb dX2_push_0 rfl (lv_at hl 0 rfl) ?_
  refine q_get hx hb hts hinX2 hown hG hW hh0 rfl 1 (by decide) (hts (.fieldLink RX2 17 "FoleyMixer$History" "size" "I") (List.mem_of_getElem? (i := 1) rfl)) rfl rfl dX2_push_1 ?_
  refine lv_aload_n hx hb dX2_push_4 rfl (lv_at hl 0 rfl) ?_
  refine q_get hx hb hts hinX2 hown hG hW hh0 rfl 0 (by decide) (hts (.fieldLink RX2 11 "FoleyMixer$History" "plays" "[LFoleyMixer$Play;") (List.mem_of_getElem? (i := 2) rfl)) rfl rfl dX2_push_5 ?_
  refine q_alenq hx hb hG hW hh1 dX2_push_8 ?_
  refine lv_icmp_lt (tgt := 16) hx hb dX2_push_9 (by decide) (fun c_9 => ?_) (fun c_9 => ?_)
  · skip
    have c_9 : n < 6 := (nI_ltI (a := n) (b := 6) (by omega) (by omega)).mp c_9
    exact L16 n mh a Hs (by first | omega | decide) (by first | omega | decide) (by first | omega | decide) (by first | exact hlo | exact rot_lo hlo) (by first | exact hdj | exact rot_dj hdj) (by unfold pshN; first | (rw [if_pos (by omega)]; done) | (rw [if_neg (by omega)]; done)) (by first | (intro i hi; unfold psh; rw [if_pos (by omega), if_pos hi]; done) | exact rot_ps) (by first | exact fun i hi => ⟨i, hi, rfl⟩ | exact fun i hi => rot_in hi) (by unfold psh; first | (rw [if_pos (by omega), if_neg (by omega)]; done) | (rw [if_neg (by omega), if_neg (by omega)]; done)) _ _ _ (by exact hh0) (by exact hh1) (by first | exact hpl | exact rot_pl hpl (fun i hi id h7 h8 => fr13 id (by have := hlo i hi; omega) (by have := hlo i hi; omega))) (by first | exact fr13 | (intro id h9 h8; rfl)) hW hS _ (lv_sub hl [0, 1] rfl)
  · skip
    have c_9 : ¬ (n < 6) := fun h__ => c_9 ((nI_ltI (a := n) (b := 6) (by omega) (by omega)).mpr h__)
    obtain rfl : n = 6 := by omega
    obtain rfl : mh = 6 := by omega
    refine lv_aload_n hx hb dX2_push_12 rfl (lv_at hl 0 rfl) ?_
    refine q_W0 (va_runV (As := []) (rest := []) ⟨hx, hb, hml, hown, hts⟩ (c_X2_dropOldest l hh0 hh1 (fun i hi => ⟨_, (hpl i hi).1⟩) (fun i hi => by have := hlo i hi; omega)) (cwV 0 hts gX2_push_X2_dropOldest rfl rfl rfl (by decide +kernel) ⟨Nat.le_of_ble_eq_true rfl, Nat.le_of_ble_eq_true rfl⟩) (q_preV hG hW hS hh0 rfl) rfl rfl hl.1 rfl (lv_room (Nat.le_of_ble_eq_true rfl)) dX2_push_13 ⟨Nat.le_of_ble_eq_true rfl, Nat.le_of_ble_eq_true rfl⟩) hS (fun w_13 H locs hp13 hW hS => ?_)
    obtain ⟨hh0, hh1, fr13⟩ := hp13
    replace hp : isPlay dA b w_13 q P := hp.fr (fun id9 h7 h8 => fr13 id9 (by omega) (by omega))
    exact L16 5 6 (fun i => if i < 5 then a (i + 1) else a 0) (fun i => if i < 5 then Hs (i + 1) else Hs 0) (by first | omega | decide) (by first | omega | decide) (by first | omega | decide) (by first | exact hlo | exact rot_lo hlo) (by first | exact hdj | exact rot_dj hdj) (by unfold pshN; first | (rw [if_pos (by omega)]; done) | (rw [if_neg (by omega)]; done)) (by first | (intro i hi; unfold psh; rw [if_pos (by omega), if_pos hi]; done) | exact rot_ps) (by first | exact fun i hi => ⟨i, hi, rfl⟩ | exact fun i hi => rot_in hi) (by unfold psh; first | (rw [if_pos (by omega), if_neg (by omega)]; done) | (rw [if_neg (by omega), if_neg (by omega)]; done)) _ _ _ (by exact hh0) (by exact hh1) (by first | exact hpl | exact rot_pl hpl (fun i hi id h7 h8 => fr13 id (by have := hlo i hi; omega) (by have := hlo i hi; omega))) (by first | exact fr13 | (intro id h9 h8; rfl)) hW hS _ (lv_sub hl [0, 1] rfl)

set_option maxHeartbeats 300000 in
set_option maxRecDepth 100000 in
/-- History.popInto(play) -/
theorem c_X2_popInto (l : Launch) {D : va_G} {dA : Nat → Nat} {b : Nat} {w : Wd} {k lo n mh : Nat} {a : Nat → Nat} {Hs : Nat → Pl} (hh : isHist dA b w k lo n mh a Hs) {q : Nat} {P : Pl} (hp : isPlay dA b w q P) (hq : q + 6 ≤ lo) (hk : k + 2 ≤ lo) (hkq : k + 2 ≤ q ∨ q + 6 ≤ k) (hn : 1 ≤ n) : Met l yX2_popInto wsX2_popInto ({ frames := 3, cells := 0, slots := 0, locals := 64 } : Room) (PC D dA b w [.ref (b + k), .ref (b + q)]) (QW D b (none) (fun w' => isHist dA b w' k lo (n - 1) mh a Hs ∧ isPlay dA b w' q (Hs (n - 1)) ∧ ∀ id : Nat, id ≠ k → (id < q ∨ q + 6 ≤ id) → w' id = w id)) 0 0 (Fb b) := by
  refine q_of (cc := cX2_popInto) (maxL := 4) (ret := none) (by decide) rfl rfl ?_
  intro p e s m args below meth c ls hx hb hr hml hts hown hlocks hG hW hS hl
  have hown : s.vm.findClass RX2 = some m.cls := hown
  have hinX2 : ∀ w ∈ u_ws RX2 TX2 2, w ∈ wsX2_popInto := fun w h => (goodIn_r (big := wsX2_popInto) (u_ws RX2 TX2 2) [19, 20] (by decide +kernel) (by decide +kernel) w h).1
  have hl : lv_has ls 4 [(0, .ref (b + k)), (1, .ref (b + q))] := hl
  obtain ⟨hh0, hh1, hnm0, hm6, hpl, hlo, hdj⟩ := id hh
  have hpt := hpl (n - 1) (by omega)
  have hlt := hlo (n - 1) (by omega)
  refine lv_aload_n hx hb dX2_popInto_0 rfl (lv_at hl 0 rfl) ?_
  refine q_get hx hb hts hinX2 hown hG hW hh0 rfl 1 (by decide) (hts (.fieldLink RX2 17 "FoleyMixer$History" "size" "I") (List.mem_of_getElem? (i := 1) rfl)) rfl rfl dX2_popInto_1 ?_
  refine lv_iconst (v := nI 1) hx hb dX2_popInto_4 (by decide) ?_
  refine lv_isub hx hb dX2_popInto_5 ?_
  refine q_top (y := nI (n - 1)) (nI_sub (by omega)) ?_
  refine lv_istore_n (lv' := [(2, .int (nI (n - 1))), (0, .ref (b + k)), (1, .ref (b + q))]) hx hb dX2_popInto_6 rfl hl (by decide) rfl (fun ls hl => ?_)
  refine lv_iload_n hx hb dX2_popInto_7 rfl (lv_at hl 0 rfl) ?_
  refine lv_if_lt (tgt := 29) hx hb dX2_popInto_8 (by decide) (fun c_8 => ?_) (fun c_8 => ?_)
  · skip
    have c_8 : (n - 1) < 0 := (nI_lt0 (i := n - 1) (by omega)).mp c_8
    refine lv_null hx hb dX2_popInto_29 ?_
    refine lv_astore_nN (lv' := [(3, .null), (2, .int (nI (n - 1))), (0, .ref (b + k)), (1, .ref (b + q))]) hx hb dX2_popInto_30 rfl hl (by decide) rfl (fun ls hl => ?_)
    refine lv_aload_nN hx hb dX2_popInto_31 rfl (lv_at hl 0 rfl) ?_
    refine lv_ifnullN (tgt := 45) hx hb dX2_popInto_32 (by decide) ?_
    exact q_wv hx hb hr hlocks hW hS dX2_popInto_45 (by omega) (by decide) (by decide)
  · skip
    have c_8 : ¬ ((n - 1) < 0) := fun h__ => c_8 ((nI_lt0 (i := n - 1) (by omega)).mpr h__)
    refine lv_iload_n hx hb dX2_popInto_11 rfl (lv_at hl 0 rfl) ?_
    refine lv_aload_n hx hb dX2_popInto_12 rfl (lv_at hl 1 rfl) ?_
    refine q_get hx hb hts hinX2 hown hG hW hh0 rfl 0 (by decide) (hts (.fieldLink RX2 11 "FoleyMixer$History" "plays" "[LFoleyMixer$Play;") (List.mem_of_getElem? (i := 2) rfl)) rfl rfl dX2_popInto_13 ?_
    refine q_alenq hx hb hG hW hh1 dX2_popInto_16 ?_
    refine lv_icmp_ge (tgt := 29) hx hb dX2_popInto_17 (by decide) (fun c_17 => ?_) (fun c_17 => ?_)
    · skip
      have c_17 : 6 ≤ n - 1 := (nI_leI (a := 6) (b := n - 1) (by omega) (by omega)).mp c_17
      refine lv_null hx hb dX2_popInto_29 ?_
      refine lv_astore_nN (lv' := [(3, .null), (2, .int (nI (n - 1))), (0, .ref (b + k)), (1, .ref (b + q))]) hx hb dX2_popInto_30 rfl hl (by decide) rfl (fun ls hl => ?_)
      refine lv_aload_nN hx hb dX2_popInto_31 rfl (lv_at hl 0 rfl) ?_
      refine lv_ifnullN (tgt := 45) hx hb dX2_popInto_32 (by decide) ?_
      exact q_wv hx hb hr hlocks hW hS dX2_popInto_45 (by omega) (by decide) (by decide)
    · skip
      have c_17 : ¬ (6 ≤ n - 1) := fun h__ => c_17 ((nI_leI (a := 6) (b := n - 1) (by omega) (by omega)).mpr h__)
      refine lv_aload_n hx hb dX2_popInto_20 rfl (lv_at hl 1 rfl) ?_
      refine q_get hx hb hts hinX2 hown hG hW hh0 rfl 0 (by decide) (hts (.fieldLink RX2 11 "FoleyMixer$History" "plays" "[LFoleyMixer$Play;") (List.mem_of_getElem? (i := 2) rfl)) rfl rfl dX2_popInto_21 ?_
      refine lv_iload_n hx hb dX2_popInto_24 rfl (lv_at hl 0 rfl) ?_
      refine q_aldq hx hb hG hW hh1 (by omega) (by omega) dX2_popInto_25 ?_
      refine q_topv (v' := .ref (b + (a (n - 1)))) (by show va_rf (if n - 1 < mh then some (b + a (n - 1)) else none) = _; rw [if_pos (by omega)]; rfl) ?_
      refine lv_goto (tgt := 30) hx hb dX2_popInto_26 (by decide) ?_
      refine lv_astore_n (lv' := [(3, .ref (b + (a (n - 1)))), (2, .int (nI (n - 1))), (0, .ref (b + k)), (1, .ref (b + q))]) hx hb dX2_popInto_30 rfl hl (by decide) rfl (fun ls hl => ?_)
      refine lv_aload_n hx hb dX2_popInto_31 rfl (lv_at hl 0 rfl) ?_
      refine lv_ifnull hx hb dX2_popInto_32 ?_
      refine lv_aload_n hx hb dX2_popInto_35 rfl (lv_at hl 3 rfl) ?_
      refine lv_aload_n hx hb dX2_popInto_36 rfl (lv_at hl 0 rfl) ?_
      refine q_W0 (va_runVN (As := [.ref (b + (a (n - 1)))]) (rest := []) ⟨hx, hb, hml, hown, hts⟩ (c_X4_copyFrom l hp hpt (by omega)) ⟨(va_cnB 1 hts gX2_popInto_X4_copyFrom_n25 rfl rfl rfl (hG.nest 63 rfl) (hts (.initialized RX4) (List.mem_of_getElem? (i := 4) rfl)) (by decide +kernel) ⟨Nat.le_of_ble_eq_true rfl, Nat.le_of_ble_eq_true rfl⟩), (hts (.instanceMethod yX4_copyFrom) (List.mem_of_getElem? (i := 3) rfl)), (hts (.selects RX4 yX4_copyFrom yX4_copyFrom) (List.mem_of_getElem? (i := 5) rfl))⟩ (q_preV hG hW hS (hp).1 rfl) rfl rfl hl.1 rfl (lv_room (Nat.le_of_ble_eq_true rfl)) dX2_popInto_37 ⟨Nat.le_of_ble_eq_true rfl, Nat.le_of_ble_eq_true rfl⟩) hS (fun w_37 H locs hp37 hW hS => ?_)
      obtain ⟨hp, fr37⟩ := hp37
      replace hh0 : w_37 k = some (.inr (2, [.ref (b + (k + 1)), .int (nI n)])) := (fr37 _ (by omega)).trans hh0
      replace hh1 : w_37 (k + 1) = some (eQ dA 6 (fun i => if i < mh then some (b + a i) else none)) := (fr37 _ (by omega)).trans hh1
      replace hpt : isPlay dA b w_37 (a (n - 1)) (Hs (n - 1)) := hpt.fr (fun id9 h7 h8 => fr37 id9 (by omega))
      refine lv_aload_n hx hb dX2_popInto_40 rfl (lv_at hl 2 rfl) ?_
      refine lv_iload_n hx hb dX2_popInto_41 rfl (lv_at hl 1 rfl) ?_
      refine q_put hx hb hts hinX2 tyX2_ok nmX2 hown hG hW hS hh0 rfl 1 (by decide) (hts (.fieldLink RX2 17 "FoleyMixer$History" "size" "I") (List.mem_of_getElem? (i := 1) rfl)) rfl rfl rfl rfl (Nat.le_of_ble_eq_true rfl) dX2_popInto_42 (fun H locs hW hS hz42 => ?_)
      obtain ⟨w1, ew1⟩ : ∃ wq__ : Wd, wq__ = va_up w_37 k (some (.inr (2, [.ref (b + (k + 1)), .int (nI (n - 1))]))) := ⟨_, rfl⟩
      replace hW : WP D b w1 H := by rw [ew1]; exact hW
      have frw1 : ∀ id : Nat, id ≠ k → w1 id = w_37 id := fun id h9 => by rw [ew1, up_ne h9]
      replace hh1 : w1 (k + 1) = some (eQ dA 6 (fun i => if i < mh then some (b + a i) else none)) := (frw1 _ (by omega)).trans hh1
      replace hpt : isPlay dA b w1 (a (n - 1)) (Hs (n - 1)) := hpt.fr (fun id9 h7 h8 => frw1 id9 (by omega))
      replace hp : isPlay dA b w1 q (Hs (n - 1)) := hp.fr (fun id9 h7 h8 => frw1 id9 (by omega))
      replace hh0 : w1 k = some (.inr (2, [.ref (b + (k + 1)), .int (nI (n - 1))])) := by rw [ew1]; exact up_eq
      exact q_wv hx hb hr hlocks hW hS dX2_popInto_45 (by first | omega | exact ⟨⟨hh0, hh1, by omega, hm6, fun i hi => (hpl i hi).fr (fun id h7 h8 => by have h9 := hlo i hi; rw [frw1 id (by omega), fr37 id (by omega)]), hlo, hdj⟩, hp, fun id h9 h8 => by rw [frw1 id (by omega), fr37 id (by omega)]⟩) (by decide) (by decide)

