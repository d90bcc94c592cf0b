/-- an array that a method may read: where its address is, what it holds, in every state that holds the world -/
def RD (D : va_G) (dA : Nat → Nat) (b : Nat) (w : Wd) (t N : Nat) (f : Nat → Int32) : Prop := ∀ (s : State) (H : Heap) (locs : List Loc), GX D dA b s → va_S (Fb b) s.heap H locs → WP D b w H → AR t N f s H
theorem RD.own {D : va_G} {dA : Nat → Nat} {b : Nat} {w : Wd} {k n : Nat} {f : Nat → Int32} (hk : w k = some (eI dA n f)) (hn : n < 2 ^ 31) : RD D dA b w (b + k) n f := fun _ _ _ hG _ hW => hW.ar hG hk hn
theorem RD.st {D : va_G} {dA : Nat → Nat} {b : Nat} {w : Wd} (i : Nat) {q : String × List Nat} (hq : stT[i]? = some q) : RD D dA b w (dA (10 + i)) q.2.length (fun j => nI (q.2.getD j 0)) := fun s H locs hG hS _ => by
  obtain ⟨-, g2, g3⟩ := hG.2.2.1 i q hq
  exact g3.kept (hS.2.1 _ g3.lt (Nat.not_le.mpr g2.1))
set_option maxHeartbeats 300000 in
set_option maxRecDepth 100000 in
/-- entry(row, index) -/
theorem c_X6_entry (l : Launch) {D : va_G} {dA : Nat → Nat} {b : Nat} {w : Wd} {t N : Nat} {f : Nat → Int32} (hA0 : RD D dA b w t N f) (hN : N < 2 ^ 31) (i : Nat) (hi : i < 2 ^ 31) : Met l yX6_entry wsX6_entry ({ frames := 0, cells := 0, slots := 0, locals := 0 } : Room) (PC D dA b w [.ref (t), .int (nI i)]) (QR (some (.int (if i < N then f i else 0)))) 0 0 Fno := by
  refine q_of (cc := cX6_entry) (maxL := 2) (ret := (some .int)) (by decide) rfl rfl ?_
  intro p e s m args below meth c ls hx hb hr hml hts hown hlocks hG hW hS hl
  have hown : s.vm.findClass RX6 = some m.cls := hown
  have hl : lv_has ls 2 [(0, .ref (t)), (1, .int (nI i))] := hl
  have hA := hA0 s s.heap [] hG hS hW
  refine lv_iload_n hx hb dX6_entry_0 rfl (lv_at hl 1 rfl) ?_
  refine lv_if_lt (tgt := 16) hx hb dX6_entry_1 (by decide) (fun c_1 => ?_) (fun c_1 => ?_)
  · skip
    have c_1 : i < 0 := (nI_lt0 (i := i) (by omega)).mp c_1
    refine lv_iconst (v := nI 0) hx hb dX6_entry_16 (by decide) ?_
    exact q_ri hx hb hr hlocks dX6_entry_17 (by first | (rw [if_pos (by omega)]; done) | (rw [if_neg (by omega)]; rfl))
  · skip
    have c_1 : ¬ (i < 0) := fun h__ => c_1 ((nI_lt0 (i := i) (by omega)).mpr h__)
    refine lv_iload_n hx hb dX6_entry_4 rfl (lv_at hl 1 rfl) ?_
    refine lv_aload_n hx hb dX6_entry_5 rfl (lv_at hl 0 rfl) ?_
    refine q_alen hx hb hA dX6_entry_6 ?_
    refine lv_icmp_ge (tgt := 16) hx hb dX6_entry_7 (by decide) (fun c_7 => ?_) (fun c_7 => ?_)
    · skip
      have c_7 : N ≤ i := (nI_leI (a := N) (b := i) (by omega) (by omega)).mp c_7
      refine lv_iconst (v := nI 0) hx hb dX6_entry_16 (by decide) ?_
      exact q_ri hx hb hr hlocks dX6_entry_17 (by first | (rw [if_pos (by omega)]; done) | (rw [if_neg (by omega)]; rfl))
    · skip
      have c_7 : ¬ (N ≤ i) := fun h__ => c_7 ((nI_leI (a := N) (b := i) (by omega) (by omega)).mpr h__)
      refine lv_aload_n hx hb dX6_entry_10 rfl (lv_at hl 0 rfl) ?_
      refine lv_iload_n hx hb dX6_entry_11 rfl (lv_at hl 1 rfl) ?_
      refine q_ald hx hb hA (by omega) (by omega) dX6_entry_12 ?_
      refine lv_goto (tgt := 17) hx hb dX6_entry_13 (by decide) ?_
      exact q_ri hx hb hr hlocks dX6_entry_17 (by first | (rw [if_pos (by omega)]; done) | (rw [if_neg (by omega)]; rfl))

theorem c_entry_in (l : Launch) {D : va_G} {dA : Nat → Nat} {b : Nat} {w : Wd} {t N : Nat} {f : Nat → Int32} (hA0 : RD D dA b w t N f) (hN : N < 2 ^ 31) (i : Nat) (hi : i < N) : Met l yX6_entry wsX6_entry ({ frames := 0, cells := 0, slots := 0, locals := 0 } : Room) (PC D dA b w [.ref t, .int (nI i)]) (QR (some (.int (f i)))) 0 0 Fno := by
  have h := c_X6_entry l hA0 hN i (by omega)
  rwa [if_pos hi] at h
set_option maxHeartbeats 300000 in
set_option maxRecDepth 100000 in
/-- put(row, index, value) -/
theorem c_X6_put (l : Launch) {D : va_G} {dA : Nat → Nat} {b : Nat} {w : Wd} {k n : Nat} {f : Nat → Int32} (hk : w k = some (eI dA n f)) (hn : n < 2 ^ 31) (i : Nat) (hi : i < n) (x : Int32) : Met l yX6_put wsX6_put ({ frames := 0, cells := 0, slots := 0, locals := 0 } : Room) (PC D dA b w [.ref (b + k), .int (nI i), .int (x)]) (QW D b (none) (fun w' => w' k = some (eI dA n (va_up f i x)) ∧ ∀ id : Nat, id ≠ k → w' id = w id)) 0 0 (Fb b) := by
  refine q_of (cc := cX6_put) (maxL := 3) (ret := none) (by decide) rfl rfl ?_
  intro p e s m args below meth c ls hx hb hr hml hts hown hlocks hG hW hS hl
  have hown : s.vm.findClass RX6 = some m.cls := hown
  have hl : lv_has ls 3 [(0, .ref (b + k)), (1, .int (nI i)), (2, .int (x))] := hl
  refine lv_iload_n hx hb dX6_put_0 rfl (lv_at hl 1 rfl) ?_
  refine lv_if_lt (tgt := 14) hx hb dX6_put_1 (by decide) (fun c_1 => ?_) (fun c_1 => ?_)
  · skip
    have c_1 : i < 0 := (nI_lt0 (i := i) (by omega)).mp c_1
    exact q_wv hx hb hr hlocks hW hS dX6_put_14 (by omega) (by decide) (by decide)
  · skip
    have c_1 : ¬ (i < 0) := fun h__ => c_1 ((nI_lt0 (i := i) (by omega)).mpr h__)
    refine lv_iload_n hx hb dX6_put_4 rfl (lv_at hl 1 rfl) ?_
    refine lv_aload_n hx hb dX6_put_5 rfl (lv_at hl 0 rfl) ?_
    refine q_alen hx hb (hW.ar hG hk (by omega)) dX6_put_6 ?_
    refine lv_icmp_ge (tgt := 14) hx hb dX6_put_7 (by decide) (fun c_7 => ?_) (fun c_7 => ?_)
    · skip
      have c_7 : n ≤ i := (nI_leI (a := n) (b := i) (by omega) (by omega)).mp c_7
      exact q_wv hx hb hr hlocks hW hS dX6_put_14 (by omega) (by decide) (by decide)
    · skip
      have c_7 : ¬ (n ≤ i) := fun h__ => c_7 ((nI_leI (a := n) (b := i) (by omega) (by omega)).mpr h__)
      refine lv_aload_n hx hb dX6_put_10 rfl (lv_at hl 0 rfl) ?_
      refine lv_iload_n hx hb dX6_put_11 rfl (lv_at hl 1 rfl) ?_
      refine lv_iload_n hx hb dX6_put_12 rfl (lv_at hl 2 rfl) ?_
      refine q_iast hx hb hG hW hS hk (by omega) (by omega) dX6_put_13 (fun H locs hW hS hz13 => ?_)
      obtain ⟨w1, ew1⟩ : ∃ wq__ : Wd, wq__ = va_up w k (some (eI dA n (va_up f i x))) := ⟨_, rfl⟩
      replace hW : WP D b w1 H := by rw [ew1]; exact hW
      have frw1 : ∀ id : Nat, id ≠ k → w1 id = w id := fun id h9 => by rw [ew1, up_ne h9]
      replace hk : w1 k = some (eI dA n (va_up f i x)) := by rw [ew1]; exact up_eq
      exact q_wv hx hb hr hlocks hW hS dX6_put_14 (by exact ⟨hk, by intro id h9; rw [frw1 id (by omega)]; try rfl⟩) (by decide) (by decide)

theorem c_put_n (l : Launch) {D : va_G} {dA : Nat → Nat} {b : Nat} {w : Wd} {k n : Nat} {f : Nat → Nat} (hk : w k = some (eN dA n f)) (hn : n < 2 ^ 31) (i : Nat) (hi : i < n) (x : Nat) : Met l yX6_put wsX6_put ({ frames := 0, cells := 0, slots := 0, locals := 0 } : Room) (PC D dA b w [.ref (b + k), .int (nI i), .int (nI x)]) (QW D b none (fun w' => w' k = some (eN dA n (va_up f i x)) ∧ ∀ id : Nat, id ≠ k → w' id = w id)) 0 0 (Fb b) := by
  have h := c_X6_put l (D := D) (b := b) hk hn i hi (nI x)
  have e : va_up (fun j => nI (f j)) i (nI x) = fun j => nI (va_up f i x j) := by
    funext j; unfold va_up; by_cases h : j = i <;> simp [h]
  rwa [e] at h
set_option maxHeartbeats 300000 in
set_option maxRecDepth 100000 in
/-- copyRow(from, to) -/
theorem c_X6_copyRow (l : Launch) {D : va_G} {dA : Nat → Nat} {b : Nat} {w : Wd} {t k n : Nat} {f g : Nat → Nat} (hA0 : ∀ w1 : Wd, (∀ id : Nat, id ≠ k → w1 id = w id) → RD D dA b w1 t n (fun j => nI (f j))) (hk : w k = some (eN dA n g)) (hn : n < 2 ^ 31) : Met l yX6_copyRow wsX6_copyRow ({ frames := 0, cells := 0, slots := 0, locals := 0 } : Room) (PC D dA b w [.ref (t), .ref (b + k)]) (QW D b (none) (fun w' => w' k = some (eN dA n f) ∧ ∀ id : Nat, id ≠ k → w' id = w id)) 0 0 (Fb b) := by
  refine q_of (cc := cX6_copyRow) (maxL := 3) (ret := none) (by decide) rfl rfl ?_
  intro p e s m args below meth c ls hx hb hr hml hts hown hlocks hG hW hS hl
  have hown : s.vm.findClass RX6 = some m.cls := hown
  have hl : lv_has ls 3 [(0, .ref (t)), (1, .ref (b + k))] := hl
  refine lv_iconst (v := nI 0) hx hb dX6_copyRow_0 (by decide) ?_
  refine lv_istore_n (lv' := [(2, .int (nI 0)), (0, .ref (t)), (1, .ref (b + k))]) hx hb dX6_copyRow_1 rfl hl (by decide) rfl (fun ls hl => ?_)
  have L2 : ∀ (n2 : Nat) (i : Nat), i ≤ n → n - i < n2 → ∀ (x2_2 : Int32), x2_2 = nI (i) → ∀ (w2 : Wd) (H : Heap) (locs : List Loc), (∀ id : Nat, id ≠ k → w2 id = w id) → w2 k = some (eN dA n (fun j => if j < i then f j else g j)) → WP D b w2 H → va_S (Fb b) s.heap H locs → ∀ (ls : Array Slot), lv_has ls 3 [(0, .ref (t)), (1, .ref (b + k)), (2, .int x2_2)] → W p l e ({ frames := 0, cells := 0, slots := 0, locals := 0 } : Room) s m args below meth c H locs 0 0 (MQ below (QW D b (none) (fun w' => w' k = some (eN dA n f) ∧ ∀ id : Nat, id ≠ k → w' id = w id)) args s 0 0 (Fb b)) (F0 m 2 ls []) := by
    intro n2
    induction n2 with
    | zero =>
      intro i hi0 hn2 x2_2 ex2_2 w2 H locs fr hk hW hS ls hl
      exact absurd hn2 (Nat.not_lt_zero _)
    | succ n2 ih2 =>
      intro i hi0 hn2 x2_2 ex2_2 w2 H locs fr hk hW hS ls hl
      subst ex2_2
      have hA := hA0 w2 fr s H locs hG hS hW
      refine lv_iload_n hx hb dX6_copyRow_2 rfl (lv_at hl 2 rfl) ?_
      refine lv_aload_n hx hb dX6_copyRow_3 rfl (lv_at hl 0 rfl) ?_
      refine q_alen hx hb hA dX6_copyRow_4 ?_
      refine lv_icmp_ge (tgt := 26) hx hb dX6_copyRow_5 (by decide) (fun c_5 => ?_) (fun c_5 => ?_)
      · skip
        have c_5 : n ≤ i := (nI_leI (a := n) (b := i) (by omega) (by omega)).mp c_5
        have hW := hW.same (g := f) hk (fun j hj => if_pos (by omega))
        exact q_wv hx hb hr hlocks hW hS dX6_copyRow_26 (by exact ⟨up_eq, fun id h9 => (up_ne h9).trans (fr id h9)⟩) (by decide) (by decide)
      · skip
        have c_5 : ¬ (n ≤ i) := fun h__ => c_5 ((nI_leI (a := n) (b := i) (by omega) (by omega)).mpr h__)
        refine lv_iload_n hx hb dX6_copyRow_8 rfl (lv_at hl 2 rfl) ?_
        refine lv_aload_n hx hb dX6_copyRow_9 rfl (lv_at hl 1 rfl) ?_
        refine q_alen hx hb (hW.ar hG hk (by omega)) dX6_copyRow_10 ?_
        refine lv_icmp_ge (tgt := 26) hx hb dX6_copyRow_11 (by decide) (fun c_11 => ?_) (fun c_11 => ?_)
        · skip
          have c_11 : n ≤ i := (nI_leI (a := n) (b := i) (by omega) (by omega)).mp c_11
          have hW := hW.same (g := f) hk (fun j hj => if_pos (by omega))
          exact q_wv hx hb hr hlocks hW hS dX6_copyRow_26 (by exact ⟨up_eq, fun id h9 => (up_ne h9).trans (fr id h9)⟩) (by decide) (by decide)
        · skip
          have c_11 : ¬ (n ≤ i) := fun h__ => c_11 ((nI_leI (a := n) (b := i) (by omega) (by omega)).mpr h__)
          refine lv_aload_n hx hb dX6_copyRow_14 rfl (lv_at hl 1 rfl) ?_
          refine lv_iload_n hx hb dX6_copyRow_15 rfl (lv_at hl 2 rfl) ?_
          refine lv_aload_n hx hb dX6_copyRow_16 rfl (lv_at hl 0 rfl) ?_
          refine lv_iload_n hx hb dX6_copyRow_17 rfl (lv_at hl 2 rfl) ?_
          refine q_ald hx hb hA (by omega) (by omega) dX6_copyRow_18 ?_
          refine q_nast hx hb hG hW hS hk (by omega) (by omega) dX6_copyRow_19 (fun H locs hW hS hz19 => ?_)
          obtain ⟨w1, ew1⟩ : ∃ wq__ : Wd, wq__ = va_up w2 k (some (eN dA n (va_up (fun j => if j < i then f j else g j) i (f i)))) := ⟨_, rfl⟩
          replace hW : WP D b w1 H := by rw [ew1]; exact hW
          have frw1 : ∀ id : Nat, id ≠ k → w1 id = w2 id := fun id h9 => by rw [ew1, up_ne h9]
          replace hk : w1 k = some (eN dA n (va_up (fun j => if j < i then f j else g j) i (f i))) := by rw [ew1]; exact up_eq
          refine lv_iinc (v := nI (i + 1)) (lv' := [(2, .int (nI (i + 1))), (0, .ref (t)), (1, .ref (b + k))]) hx hb dX6_copyRow_20 hl (k := 2) rfl (nI_add _ 1) (by decide) rfl (fun ls hl => ?_)
          refine lv_goto (tgt := 2) hx hb dX6_copyRow_23 (by decide) ?_
          exact ih2 (i + 1) (by omega) (by omega) _ (by first | rfl | (congr 1; omega)) _ _ _ (by intro id h9; rw [frw1 id h9, fr id h9]) (by refine hk.trans (eN_congr fun j => ?_); unfold va_up; by_cases h1 : j = i <;> by_cases h2 : j < i <;> simp [h1, h2] <;> first | omega | (intro h3; omega) | skip) hW hS _ (lv_sub hl [1, 2, 0] rfl)
  exact L2 ((n - 0) + 1) 0 (by omega) (Nat.lt_succ_self _) _ (by first | rfl | (congr 1; omega)) _ _ _ (by intro id h9; rfl) (by refine hk.trans (eN_congr fun j => ?_); rw [if_neg (Nat.not_lt_zero j)]) hW hS _ (lv_sub hl [1, 2, 0] rfl)

