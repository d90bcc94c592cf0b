abbrev okC (x y z : Int32) : Prop := fitI 0 x ∧ fitI 1 y ∧ fitI 2 z
/-- the number that an int stands for -/
def i32n (x : Int32) : Nat := x.toInt.toNat
theorem i32n_of {x : Int32} (h : 0 ≤ x) : x = nI (i32n x) := by
  apply Int32.toInt_inj.mp
  have h1 : 0 ≤ x.toInt := by simpa using Int32.le_iff_toInt_le.mp h
  have h2 := Int32.toInt_lt x
  unfold i32n
  rw [nI_toInt (by omega)]
  omega
theorem i32n_lt (x : Int32) : i32n x < 2 ^ 31 := by
  have h2 := Int32.toInt_lt x
  unfold i32n; omega
theorem nI_i32n {i : Nat} (h : i < 2 ^ 31) : i32n (nI i) = i := by unfold i32n; rw [nI_toInt h]; rfl
theorem fitI_i32n {i : Nat} {v : Int32} (hi : i < 3) (h : fitI i v) : v = nI (i32n v) ∧ cLo i ≤ i32n v ∧ i32n v ≤ cHi i := by
  have h0 : (0 : Int32) ≤ v := by
    refine Int32.le_trans ?_ h.1
    have : i = 0 ∨ i = 1 ∨ i = 2 := by omega
    rcases this with rfl | rfl | rfl <;> decide
  have e := i32n_of h0
  refine ⟨e, ?_⟩
  rw [e] at h
  exact (fitI_n (i32n_lt v)).mp h
theorem okC_n {x y z : Int32} (h : okC x y z) : (x = nI (i32n x) ∧ i32n x ≤ 99) ∧ (y = nI (i32n y) ∧ 1 ≤ i32n y ∧ i32n y ≤ 20) ∧ (z = nI (i32n z) ∧ 1 ≤ i32n z ∧ i32n z ≤ 30) := by
  obtain ⟨h1, h2, h3⟩ := h
  have a1 := fitI_i32n (by omega) h1
  have a2 := fitI_i32n (by omega) h2
  have a3 := fitI_i32n (by omega) h3
  exact ⟨⟨a1.1, a1.2.2⟩, ⟨a2.1, a2.2⟩, ⟨a3.1, a3.2⟩⟩
/-- trial and the two mixes: they tell anything -/
def isBk (dA : Nat → Nat) (b : Nat) (w : Wd) : Prop := (∃ P : Pl, isPlay dA b w 16 P) ∧ anyMix dA b w 1 2 ∧ anyMix dA b w 15 16
theorem isBk.fr {dA : Nat → Nat} {b : Nat} {w w1 : Wd} (h : isBk dA b w) (f : ∀ id, 1 ≤ id → (id = 1 ∨ (8 ≤ id ∧ id < 29)) → w1 id = w id) : isBk dA b w1 := by
  obtain ⟨⟨P, h1⟩, h2, h3⟩ := h
  exact ⟨⟨P, h1.fr (fun id a c => f id (by omega) (by omega))⟩, h2.fr (fun id a c => f id (by omega) (by omega)), h3.fr (fun id a c => f id (by omega) (by omega))⟩
/-- history (29, 30) and snapshots (31): n saved plays Hs, two slots SL; their plays lie at lo and behind -/
def isHS (dA : Nat → Nat) (b : Nat) (w : Wd) (lo n : Nat) (Hs : Nat → Pl) (SL : Nat → Option Pl) : Prop :=
  ∃ (mh : Nat) (a : Nat → Nat) (H0 : Nat → Pl) (g : Nat → Option Nat), isHist dA b w 29 lo n mh a H0 ∧ (∀ i, i < n → H0 i = Hs i) ∧ w 31 = some (eQ dA 2 (fun j => (g j).map (fun q => b + q))) ∧
    (∀ j, j < 2 → ∀ q, g j = some q → lo ≤ q ∧ (∃ P, SL j = some P ∧ isPlay dA b w q P) ∧ ∀ i, i < mh → a i + 6 ≤ q ∨ q + 6 ≤ a i) ∧ (∀ j, j < 2 → g j = none → SL j = none) ∧ (∀ q r, g 0 = some q → g 1 = some r → q + 6 ≤ r ∨ r + 6 ≤ q)
theorem isHS.fr {dA : Nat → Nat} {b : Nat} {w w1 : Wd} {lo n : Nat} {Hs : Nat → Pl} {SL : Nat → Option Pl} (h : isHS dA b w lo n Hs SL) (f : ∀ id, (29 ≤ id ∧ id < 32) ∨ lo ≤ id → w1 id = w id) : isHS dA b w1 lo n Hs SL := by
  obtain ⟨mh, a, H0, g, h1, h2, h3, h4, h5, h6⟩ := h
  have hlo := h1.2.2.2.2.2.1
  refine ⟨mh, a, H0, g, h1.fr (f _ (by omega)) (f _ (by omega)) (fun i hi id c d => f id (Or.inr (by have := hlo i hi; omega))), h2, (f _ (by omega)).trans h3, fun j hj q hq => ?_, h5, h6⟩
  obtain ⟨k1, ⟨P, k2, k3⟩, k4⟩ := h4 j hj q hq
  exact ⟨k1, ⟨P, k2, k3.fr (fun id c d => f id (by omega))⟩, k4⟩
/-- what push leaves -/
theorem HS_push {dA : Nat → Nat} {b : Nat} {w w1 : Wd} {lo n mh : Nat} {Hs H0 : Nat → Pl} {SL : Nat → Option Pl} {a : Nat → Nat} {g : Nat → Option Nat} {P : Pl} (hlo : 36 ≤ lo)
    (h2 : ∀ i, i < n → H0 i = Hs i) (h3 : w 31 = some (eQ dA 2 (fun j => (g j).map (fun q => b + q))))
    (h4 : ∀ j, j < 2 → ∀ q, g j = some q → lo ≤ q ∧ (∃ P, SL j = some P ∧ isPlay dA b w q P) ∧ ∀ i, i < mh → a i + 6 ≤ q ∨ q + 6 ≤ a i) (h5 : ∀ j, j < 2 → g j = none → SL j = none) (h6 : ∀ q r, g 0 = some q → g 1 = some r → q + 6 ≤ r ∨ r + 6 ≤ q)
    (hn : n ≤ 6)
    (hp : ∃ (m' : Nat) (a' : Nat → Nat) (Hs' : Nat → Pl), isHist dA b w1 29 lo (pshN n) m' a' Hs' ∧ (∀ i, i < pshN n → Hs' i = psh n H0 P i) ∧ (∀ i, i < m' → (∃ j, j < mh ∧ a' i = a j) ∨ ∀ (id : Nat) (e : va_E), w id = some e → id < a' i) ∧ ∀ id : Nat, id ≠ 29 → id ≠ 29 + 1 → (∀ i, i < m' → id < a' i ∨ a' i + 6 ≤ id) → w1 id = w id) :
    isHS dA b w1 lo (pshN n) (psh n Hs P) SL ∧ ∀ id : Nat, id ≠ 29 ∧ id ≠ 30 ∧ id < lo → w1 id = w id := by
  obtain ⟨m', a', Hs', k1, k2, k3, k4⟩ := hp
  have hal := k1.2.2.2.2.2.1
  have hfr : ∀ id : Nat, id ≠ 29 ∧ id ≠ 30 ∧ id < lo → w1 id = w id := fun id h => k4 id (by omega) (by omega) (fun i hi => Or.inl (by have := hal i hi; omega))
  refine ⟨⟨m', a', Hs', g, k1, fun i hi => ?_, (hfr 31 (by omega)).trans h3, fun j hj q hq => ?_, h5, h6⟩, hfr⟩
  · rw [k2 i hi]
    unfold pshN at hi
    unfold psh
    by_cases e : n < 6
    · rw [if_pos e, if_pos e]
      by_cases e2 : i < n
      · rw [if_pos e2, if_pos e2]; exact h2 i e2
      · rw [if_neg e2, if_neg e2]
    · rw [if_neg e, if_neg e]
      by_cases e2 : i < 5
      · rw [if_pos e2, if_pos e2]; exact h2 _ (by omega)
      · rw [if_neg e2, if_neg e2]
  · obtain ⟨c1, ⟨Q, c2, c3⟩, c4⟩ := h4 j hj q hq
    have hd : ∀ i, i < m' → a' i + 6 ≤ q ∨ q + 6 ≤ a' i := by
      intro i hi
      rcases k3 i hi with ⟨j', hj', e⟩ | hb
      · rw [e]; exact c4 j' hj'
      · have := hb _ _ c3.2.2.2.2; omega
    refine ⟨c1, ⟨Q, c2, c3.fr (fun id c d => k4 id (by omega) (by omega) (fun i hi => ?_))⟩, hd⟩
    have := hd i hi; omega
abbrev Sy : Type := Pl × (Nat × (Nat → Pl)) × (Nat → Option Pl) × (Nat × (Nat → Nat))
/-- the whole object -/
abbrev sysO (b : Nat) : va_E := .inr (6, [.ref (b + 1), .ref (b + 15), .ref (b + 2), .ref (b + 16), .ref (b + 29), .ref (b + 31), .ref (b + 32), .ref (b + 34)])
def isSys (dA : Nat → Nat) (b : Nat) (w : Wd) (lo : Nat) (A : Sy) : Prop := w 0 = some (sysO b) ∧ isPlay dA b w 2 A.1 ∧ isBk dA b w ∧ isHS dA b w lo A.2.1.1 A.2.1.2 A.2.2.1 ∧ isScr dA b w 32 A.2.2.2.1 A.2.2.2.2 ∧ (∃ R : Rd, isRdr dA b w 34 R) ∧ 46 ≤ lo ∧ ∃ e : va_E, w (lo - 1) = some e
theorem exw_fr {w w1 : Wd} {i : Nat} (h : ∃ e : va_E, w i = some e) (f : w1 i = w i) : ∃ e : va_E, w1 i = some e := by rw [f]; exact h
theorem rdr_fr {dA : Nat → Nat} {b : Nat} {w w1 : Wd} (h : ∃ R : Rd, isRdr dA b w 34 R) (f : ∀ id, 34 ≤ id → id < 36 → w1 id = w id) : ∃ R : Rd, isRdr dA b w1 34 R := by
  obtain ⟨R, h⟩ := h
  exact ⟨R, h.fr (f _ (by omega) (by omega)) (f _ (by omega) (by omega))⟩
theorem HS_le {dA : Nat → Nat} {b : Nat} {w : Wd} {lo n : Nat} {Hs : Nat → Pl} {SL : Nat → Option Pl} (h : isHS dA b w lo n Hs SL) : n ≤ 6 := by
  obtain ⟨mh, a, H0, g, h1, -⟩ := h
  exact Nat.le_trans h1.2.2.1 h1.2.2.2.1
theorem has_n {n : Nat} {x : Int32} (hn : n < 2 ^ 31) (h0 : 0 ≤ x) (h1 : x < nI n) : x = nI (i32n x) ∧ i32n x < n := by
  have e := i32n_of h0
  refine ⟨e, ?_⟩
  rw [e] at h1
  exact (nI_ltI (i32n_lt x) hn).mp h1

set_option maxHeartbeats 300000 in
set_option maxRecDepth 100000 in
/-- checkCue -/
theorem c_X6_checkCue (l : Launch) (hl0 : l.stackTraces = false) {D : va_G} {dA : Nat → Nat} {b : Nat} {w : Wd} (x y z : Int32) : vx_Met l yX6_checkCue wsX6_checkCue ({ frames := 6, cells := 1, slots := 6, locals := 82 } : Room) (PC D dA b w [.int (x), .int (y), .int (z)]) (QW D b (none) (fun w' => okC x y z ∧ w' = w)) (XW D b (fun E w' => (E = IAE ∧ ¬ okC x y z) ∧ w' = w)) 1 6 (Fb b) := by
  refine q_ofX (cc := cX6_checkCue) (maxL := 3) (ret := none) (by decide) rfl rfl ?_
  intro p e s m args below meth c ls hx hb hr hml hts hown hlocks hxt hG hW hS hl
  have hown : s.vm.findClass RX6 = some m.cls := hown
  have hl : lv_has ls 3 [(0, .int (x)), (1, .int (y)), (2, .int (z))] := hl
  refine lv_iconst (v := nI 0) hx hb dX6_checkCue_0 (by decide) ?_
  refine lv_iload_n hx hb dX6_checkCue_1 rfl (lv_at hl 0 rfl) ?_
  refine q_R1 (va_runS (As := [.int (nI 0), .int (x)]) (rest := []) ⟨hx, hb, hml, hown, hts⟩ (c_X6_fitsCue l (0) (by omega) (x)) (va_cwS 2 hts gX6_checkCue_X6_fitsCue rfl rfl rfl (by decide +kernel) ⟨Nat.le_of_ble_eq_true rfl, Nat.le_of_ble_eq_true rfl⟩) (q_preS hG hW hS) rfl rfl hl.1 rfl (lv_room (Nat.le_of_ble_eq_true rfl)) dX6_checkCue_2 ⟨Nat.le_of_ble_eq_true rfl, Nat.le_of_ble_eq_true rfl⟩) ?_
  refine lv_if_eq (tgt := 24) hx hb dX6_checkCue_5 (by decide) (fun c_5 => ?_) (fun c_5 => ?_)
  · skip
    have c_5 : ¬ (fitI 0 (x)) := pI_eq0.mp c_5
    exact q_thrSW hx hb hl0 (by rw [hml]; exact hl.1) hxt hlocks hown hG hW hS (by decide +kernel) (hts (.classLink RX6 93 "java/lang/IllegalArgumentException") (List.mem_of_getElem? (i := 1) rfl)) (hts (.initialized "java/lang/IllegalArgumentException") (List.mem_of_getElem? (i := 2) rfl)) 0 0 rfl rfl ngA otA (fun w h => hts w (List.mem_cons_of_mem _ (List.mem_append_right _ h))) dX6_checkCue_24 dX6_checkCue_27 dX6_checkCue_28 dX6_checkCue_31 dX6_checkCue_34 (Nat.le_of_ble_eq_true rfl) (Nat.le_of_ble_eq_true rfl) (Nat.le_of_ble_eq_true rfl) (Nat.le_of_ble_eq_true rfl) (Nat.le_of_ble_eq_true rfl) (Nat.le_of_ble_eq_true rfl) (by first | exact ⟨⟨rfl, fun q9 => absurd q9.1 (by assumption)⟩, rfl⟩ | exact ⟨⟨rfl, fun q9 => absurd q9.2.1 (by assumption)⟩, rfl⟩ | exact ⟨⟨rfl, fun q9 => absurd q9.2.2 (by assumption)⟩, rfl⟩)
  · skip
    have c_5 : fitI 0 (x) := Decidable.byContradiction (fun h__ => c_5 (pI_eq0.mpr h__))
    refine lv_iconst (v := nI 1) hx hb dX6_checkCue_8 (by decide) ?_
    refine lv_iload_n hx hb dX6_checkCue_9 rfl (lv_at hl 1 rfl) ?_
    refine q_R1 (va_runS (As := [.int (nI 1), .int (y)]) (rest := []) ⟨hx, hb, hml, hown, hts⟩ (c_X6_fitsCue l (1) (by omega) (y)) (va_cwS 2 hts gX6_checkCue_X6_fitsCue rfl rfl rfl (by decide +kernel) ⟨Nat.le_of_ble_eq_true rfl, Nat.le_of_ble_eq_true rfl⟩) (q_preS hG hW hS) rfl rfl hl.1 rfl (lv_room (Nat.le_of_ble_eq_true rfl)) dX6_checkCue_10 ⟨Nat.le_of_ble_eq_true rfl, Nat.le_of_ble_eq_true rfl⟩) ?_
    refine lv_if_eq (tgt := 24) hx hb dX6_checkCue_13 (by decide) (fun c_13 => ?_) (fun c_13 => ?_)
    · skip
      have c_13 : ¬ (fitI 1 (y)) := pI_eq0.mp c_13
      exact q_thrSW hx hb hl0 (by rw [hml]; exact hl.1) hxt hlocks hown hG hW hS (by decide +kernel) (hts (.classLink RX6 93 "java/lang/IllegalArgumentException") (List.mem_of_getElem? (i := 1) rfl)) (hts (.initialized "java/lang/IllegalArgumentException") (List.mem_of_getElem? (i := 2) rfl)) 0 0 rfl rfl ngA otA (fun w h => hts w (List.mem_cons_of_mem _ (List.mem_append_right _ h))) dX6_checkCue_24 dX6_checkCue_27 dX6_checkCue_28 dX6_checkCue_31 dX6_checkCue_34 (Nat.le_of_ble_eq_true rfl) (Nat.le_of_ble_eq_true rfl) (Nat.le_of_ble_eq_true rfl) (Nat.le_of_ble_eq_true rfl) (Nat.le_of_ble_eq_true rfl) (Nat.le_of_ble_eq_true rfl) (by first | exact ⟨⟨rfl, fun q9 => absurd q9.1 (by assumption)⟩, rfl⟩ | exact ⟨⟨rfl, fun q9 => absurd q9.2.1 (by assumption)⟩, rfl⟩ | exact ⟨⟨rfl, fun q9 => absurd q9.2.2 (by assumption)⟩, rfl⟩)
    · skip
      have c_13 : fitI 1 (y) := Decidable.byContradiction (fun h__ => c_13 (pI_eq0.mpr h__))
      refine lv_iconst (v := nI 2) hx hb dX6_checkCue_16 (by decide) ?_
      refine lv_iload_n hx hb dX6_checkCue_17 rfl (lv_at hl 2 rfl) ?_
      refine q_R1 (va_runS (As := [.int (nI 2), .int (z)]) (rest := []) ⟨hx, hb, hml, hown, hts⟩ (c_X6_fitsCue l (2) (by omega) (z)) (va_cwS 2 hts gX6_checkCue_X6_fitsCue rfl rfl rfl (by decide +kernel) ⟨Nat.le_of_ble_eq_true rfl, Nat.le_of_ble_eq_true rfl⟩) (q_preS hG hW hS) rfl rfl hl.1 rfl (lv_room (Nat.le_of_ble_eq_true rfl)) dX6_checkCue_18 ⟨Nat.le_of_ble_eq_true rfl, Nat.le_of_ble_eq_true rfl⟩) ?_
      refine lv_if_ne (tgt := 35) hx hb dX6_checkCue_21 (by decide) (fun c_21 => ?_) (fun c_21 => ?_)
      · skip
        have c_21 : fitI 2 (z) := Decidable.byContradiction (fun h__ => c_21 (pI_eq0.mpr h__))
        exact vx_ret (q_wv hx hb hr hlocks hW hS dX6_checkCue_35 (by first | exact ⟨⟨by assumption, by assumption, by assumption⟩, rfl⟩) (by decide) (by decide))
      · skip
        have c_21 : ¬ (fitI 2 (z)) := pI_eq0.mp c_21
        exact q_thrSW hx hb hl0 (by rw [hml]; exact hl.1) hxt hlocks hown hG hW hS (by decide +kernel) (hts (.classLink RX6 93 "java/lang/IllegalArgumentException") (List.mem_of_getElem? (i := 1) rfl)) (hts (.initialized "java/lang/IllegalArgumentException") (List.mem_of_getElem? (i := 2) rfl)) 0 0 rfl rfl ngA otA (fun w h => hts w (List.mem_cons_of_mem _ (List.mem_append_right _ h))) dX6_checkCue_24 dX6_checkCue_27 dX6_checkCue_28 dX6_checkCue_31 dX6_checkCue_34 (Nat.le_of_ble_eq_true rfl) (Nat.le_of_ble_eq_true rfl) (Nat.le_of_ble_eq_true rfl) (Nat.le_of_ble_eq_true rfl) (Nat.le_of_ble_eq_true rfl) (Nat.le_of_ble_eq_true rfl) (by first | exact ⟨⟨rfl, fun q9 => absurd q9.1 (by assumption)⟩, rfl⟩ | exact ⟨⟨rfl, fun q9 => absurd q9.2.1 (by assumption)⟩, rfl⟩ | exact ⟨⟨rfl, fun q9 => absurd q9.2.2 (by assumption)⟩, rfl⟩)

set_option maxHeartbeats 300000 in
set_option maxRecDepth 100000 in
/-- checkNumber -/
theorem c_X6_checkNumber (l : Launch) (hl0 : l.stackTraces = false) {D : va_G} {dA : Nat → Nat} {b : Nat} {w : Wd} {k lim n : Nat} {V : Nat → Nat → Nat} (hc : isCues dA b w k lim n V) (x : Int32) : vx_Met l yX6_checkNumber wsX6_checkNumber ({ frames := 6, cells := 1, slots := 6, locals := 82 } : Room) (PC D dA b w [.ref (b + k), .int (x)]) (QW D b (none) (fun w' => (0 ≤ x ∧ x < nI n) ∧ w' = w)) (XW D b (fun E w' => (E = IOE ∧ ¬ (0 ≤ x ∧ x < nI n)) ∧ w' = w)) 1 6 (Fb b) := by
  refine q_ofX (cc := cX6_checkNumber) (maxL := 2) (ret := none) (by decide) rfl rfl ?_
  intro p e s m args below meth c ls hx hb hr hml hts hown hlocks hxt hG hW hS hl
  have hown : s.vm.findClass RX6 = some m.cls := hown
  have hl : lv_has ls 2 [(0, .ref (b + k)), (1, .int (x))] := hl
  refine lv_aload_n hx hb dX6_checkNumber_0 rfl (lv_at hl 0 rfl) ?_
  refine lv_iload_n hx hb dX6_checkNumber_1 rfl (lv_at hl 1 rfl) ?_
  refine q_R1 (va_runVN (As := [.int (x)]) (rest := []) ⟨hx, hb, hml, hown, hts⟩ (c_X1_has l hc (x)) ⟨(va_cnB 1 hts gX6_checkNumber_X1_has_n273 rfl rfl rfl (hG.nest 65 rfl) (hts (.initialized RX1) (List.mem_of_getElem? (i := 4) rfl)) (by decide +kernel) ⟨Nat.le_of_ble_eq_true rfl, Nat.le_of_ble_eq_true rfl⟩), (hts (.instanceMethod yX1_has) (List.mem_of_getElem? (i := 3) rfl)), (hts (.selects RX1 yX1_has yX1_has) (List.mem_of_getElem? (i := 5) rfl))⟩ (q_preV hG hW hS (isCues.obj hc) rfl) rfl rfl hl.1 rfl (lv_room (Nat.le_of_ble_eq_true rfl)) dX6_checkNumber_2 ⟨Nat.le_of_ble_eq_true rfl, Nat.le_of_ble_eq_true rfl⟩) ?_
  refine lv_if_ne (tgt := 19) hx hb dX6_checkNumber_5 (by decide) (fun c_5 => ?_) (fun c_5 => ?_)
  · skip
    have c_5 : 0 ≤ x ∧ x < nI n := Decidable.byContradiction (fun h__ => c_5 (pI_eq0.mpr h__))
    exact vx_ret (q_wv hx hb hr hlocks hW hS dX6_checkNumber_19 (by exact ⟨by assumption, rfl⟩) (by decide) (by decide))
  · skip
    have c_5 : ¬ (0 ≤ x ∧ x < nI n) := pI_eq0.mp c_5
    exact q_thrSW hx hb hl0 (by rw [hml]; exact hl.1) hxt hlocks hown hG hW hS (by decide +kernel) (hts (.classLink RX6 206 "java/lang/IndexOutOfBoundsException") (List.mem_of_getElem? (i := 1) rfl)) (hts (.initialized "java/lang/IndexOutOfBoundsException") (List.mem_of_getElem? (i := 2) rfl)) 2 2 rfl rfl ngO otO (fun w h => hts w (List.mem_cons_of_mem _ (List.mem_append_right _ h))) dX6_checkNumber_8 dX6_checkNumber_11 dX6_checkNumber_12 dX6_checkNumber_15 dX6_checkNumber_18 (Nat.le_of_ble_eq_true rfl) (Nat.le_of_ble_eq_true rfl) (Nat.le_of_ble_eq_true rfl) (Nat.le_of_ble_eq_true rfl) (Nat.le_of_ble_eq_true rfl) (Nat.le_of_ble_eq_true rfl) (by exact ⟨⟨rfl, by assumption⟩, rfl⟩)

set_option maxHeartbeats 300000 in
set_option maxRecDepth 100000 in
/-- addCue -/
theorem c_X6_addCue_t (l : Launch) (hl0 : l.stackTraces = false) {D : va_G} {dA : Nat → Nat} {b : Nat} {w : Wd} {lo n nc : Nat} {P : Pl} {Hs : Nat → Pl} {SL : Nat → Option Pl} {C : Nat → Nat} (hs : isSys dA b w lo (P, (n, Hs), SL, (nc, C))) (s9 l9 d9 g9 : Nat) (h0 : s9 ≤ 99) (h1 : 1 ≤ l9) (h2 : l9 ≤ 20) (h3 : d9 ≤ 30) (h4 : g9 ≤ 1) : vx_Met l yX6_addCue wsX6_addCue ({ frames := 6, cells := 6, slots := 110, locals := 86 } : Room) (PC D dA b w [.ref (b + 0), .ref (b + (2 + 1)), .int (nI s9), .int (nI l9), .int (nI d9), .int (nI g9)]) (QW D b (some (.int (nI (P.w)))) (fun w' => P.w < 10 ∧ isSys dA b w' lo ((P.w + 1, addV P.W P.w s9 l9 d9 g9, P.n, P.N, P.S), (pshN n, psh n Hs P), SL, (nc, C)) ∧ ∀ id : Nat, 36 ≤ id → id < lo → w' id = w id)) (XW D b (fun E w' => (E = ISE ∧ 10 ≤ P.w) ∧ w' = w)) 6 110 (Fb b) := by
  refine q_ofX (cc := cX6_addCue) (maxL := 6) (ret := (some .int)) (by decide) rfl rfl ?_
  intro p e s m args below meth c ls hx hb hr hml hts hown hlocks hxt hG hW hS hl
  have hown : s.vm.findClass RX6 = some m.cls := hown
  have hinX6 : ∀ w ∈ u_ws RX6 TX6 8, w ∈ wsX6_addCue := fun w h => (goodIn_r (big := wsX6_addCue) (u_ws RX6 TX6 8) [66, 67, 68, 69, 70, 71, 72, 73] (by decide +kernel) (by decide +kernel) w h).1
  have hl : lv_has ls 6 [(0, .ref (b + 0)), (1, .ref (b + (2 + 1))), (2, .int (nI s9)), (3, .int (nI l9)), (4, .int (nI d9)), (5, .int (nI g9))] := hl
  obtain ⟨hs0, hp1, hbk, hhs, hsc, hrd, hlo, hex⟩ := id hs
  change isPlay dA b w 2 P at hp1
  change isHS dA b w lo n Hs SL at hhs
  change isScr dA b w 32 nc C at hsc
  have hP := hp1.ok
  have hn6 := HS_le hhs
  have hnc := hsc.2.2.1
  obtain ⟨hPw, hPn, hPW, hPN, hPS⟩ := id hP
  refine lv_aload_n hx hb dX6_addCue_0 rfl (lv_at hl 1 rfl) ?_
  refine q_R1 (va_runVN (As := []) (rest := []) ⟨hx, hb, hml, hown, hts⟩ (c_X1_isFull l (hp1).2.1) ⟨(va_cnB 0 hts gX6_addCue_X1_isFull_n284 rfl rfl rfl (hG.nest 60 rfl) (hts (.initialized RX1) (List.mem_of_getElem? (i := 6) rfl)) (by decide +kernel) ⟨Nat.le_of_ble_eq_true rfl, Nat.le_of_ble_eq_true rfl⟩), (hts (.instanceMethod yX1_isFull) (List.mem_of_getElem? (i := 5) rfl)), (hts (.selects RX1 yX1_isFull yX1_isFull) (List.mem_of_getElem? (i := 7) rfl))⟩ (q_preV hG hW hS (isCues.obj (hp1).2.1) rfl) rfl rfl hl.1 rfl (lv_room (Nat.le_of_ble_eq_true rfl)) dX6_addCue_1 ⟨Nat.le_of_ble_eq_true rfl, Nat.le_of_ble_eq_true rfl⟩) ?_
  refine lv_if_eq (tgt := 18) hx hb dX6_addCue_4 (by decide) (fun c_4 => ?_) (fun c_4 => ?_)
  · skip
    have c_4 : ¬ (10 ≤ P.w) := pI_eq0.mp c_4
    refine lv_aload_n hx hb dX6_addCue_18 rfl (lv_at hl 0 rfl) ?_
    refine q_get hx hb hts hinX6 hown hG hW hs0 rfl 4 (by decide) (hts (.fieldLink RX6 32 "FoleyMixer" "history" "LFoleyMixer$History;") (List.mem_of_getElem? (i := 3) rfl)) rfl rfl dX6_addCue_19 ?_
    refine lv_aload_n hx hb dX6_addCue_22 rfl (lv_at hl 0 rfl) ?_
    refine q_get hx hb hts hinX6 hown hG hW hs0 rfl 2 (by decide) (hts (.fieldLink RX6 23 "FoleyMixer" "now" "LFoleyMixer$Play;") (List.mem_of_getElem? (i := 4) rfl)) rfl rfl dX6_addCue_23 ?_
    obtain ⟨mh9, a9, H9, gz9, hh9, hv2, hv3, hv4, hv5, hv6⟩ := id hhs
    refine q_W0 (va_runVN (As := [.ref (b + 2)]) (rest := []) ⟨hx, hb, hml, hown, hts⟩ (c_X2_push l hh9 hp1 (by omega) (by omega) (by omega) hex (by omega)) ⟨(va_cnB 1 hts gX6_addCue_X2_push_n79 rfl rfl rfl (hG.nest 61 rfl) (hts (.initialized RX2) (List.mem_of_getElem? (i := 12) rfl)) (by decide +kernel) ⟨Nat.le_of_ble_eq_true rfl, Nat.le_of_ble_eq_true rfl⟩), (hts (.instanceMethod yX2_push) (List.mem_of_getElem? (i := 11) rfl)), (hts (.selects RX2 yX2_push yX2_push) (List.mem_of_getElem? (i := 13) rfl))⟩ (q_preV hG hW hS hh9.1 rfl) rfl rfl hl.1 rfl (lv_room (Nat.le_of_ble_eq_true rfl)) dX6_addCue_26 ⟨Nat.le_of_ble_eq_true rfl, Nat.le_of_ble_eq_true rfl⟩) hS (fun w_26 H locs hp26 hW hS => ?_)
    replace hp26 := HS_push (by omega) hv2 hv3 hv4 hv5 hv6 (HS_le hhs) hp26
    obtain ⟨hhs, fr26⟩ := hp26
    replace hs0 : w_26 0 = some (sysO b) := (fr26 _ (by omega)).trans hs0
    replace hp1 : isPlay dA b w_26 2 P := hp1.fr (fun id9 h7 h8 => fr26 id9 (by omega))
    replace hbk : isBk dA b w_26 := hbk.fr (fun id9 h7 h8 => (fr26 id9 (by omega)))
    replace hsc : isScr dA b w_26 32 nc C := hsc.fr (fr26 _ (by omega)) (fr26 _ (by omega))
    replace hrd : ∃ R : Rd, isRdr dA b w_26 34 R := rdr_fr hrd (fun id9 h7 h8 => (fr26 id9 (by omega)))
    replace hex : ∃ e : va_E, w_26 (lo - 1) = some e := exw_fr hex (fr26 _ (by omega))
    obtain ⟨hq0, hq1, hq3, hoS, hq5⟩ := id hp1
    refine lv_aload_n hx hb dX6_addCue_29 rfl (lv_at hl 1 rfl) ?_
    refine lv_iload_n hx hb dX6_addCue_30 rfl (lv_at hl 2 rfl) ?_
    refine lv_iload_n hx hb dX6_addCue_31 rfl (lv_at hl 3 rfl) ?_
    refine lv_iload hx hb dX6_addCue_32 (lv_at hl 4 rfl) ?_
    refine lv_iload hx hb dX6_addCue_34 (lv_at hl 5 rfl) ?_
    refine q_W0 (va_runVN (As := [.int (nI s9), .int (nI l9), .int (nI d9), .int (nI g9)]) (rest := []) ⟨hx, hb, hml, hown, hts⟩ (c_X1_add l hq1 (s9) (l9) (d9) (g9) (by omega) (by omega) (by omega) (by omega) (by omega) (by omega)) ⟨(va_cnB 4 hts gX6_addCue_X1_add_n287 rfl rfl rfl (hG.nest 64 rfl) (hts (.initialized RX1) (List.mem_of_getElem? (i := 6) rfl)) (by decide +kernel) ⟨Nat.le_of_ble_eq_true rfl, Nat.le_of_ble_eq_true rfl⟩), (hts (.instanceMethod yX1_add) (List.mem_of_getElem? (i := 54) rfl)), (hts (.selects RX1 yX1_add yX1_add) (List.mem_of_getElem? (i := 55) rfl))⟩ (q_preV hG hW hS (isCues.obj (hp1).2.1) rfl) rfl rfl hl.1 rfl (lv_room (Nat.le_of_ble_eq_true rfl)) dX6_addCue_36 ⟨Nat.le_of_ble_eq_true rfl, Nat.le_of_ble_eq_true rfl⟩) hS (fun w_36 H locs hp36 hW hS => ?_)
    obtain ⟨hq1, fr36⟩ := hp36
    replace hs0 : w_36 0 = some (sysO b) := (fr36 _ (by omega) (by omega)).trans hs0
    replace hbk : isBk dA b w_36 := hbk.fr (fun id9 h7 h8 => (fr36 id9 (by omega) (by omega)))
    replace hsc : isScr dA b w_36 32 nc C := hsc.fr (fr36 _ (by omega) (by omega)) (fr36 _ (by omega) (by omega))
    replace hrd : ∃ R : Rd, isRdr dA b w_36 34 R := rdr_fr hrd (fun id9 h7 h8 => (fr36 id9 (by omega) (by omega)))
    replace hex : ∃ e : va_E, w_36 (lo - 1) = some e := exw_fr hex (fr36 _ (by omega) (by omega))
    replace hhs : isHS dA b w_36 lo (pshN n) (psh n Hs P) SL := hhs.fr (fun id9 h7 => (fr36 id9 (by omega) (by omega)))
    replace hq0 : w_36 2 = some (.inr (4, [.ref (b + (2 + 1)), .ref (b + (2 + 3)), .ref (b + (2 + 5))])) := (fr36 _ (by omega) (by omega)).trans hq0
    replace hq3 : isCues dA b w_36 (2 + 3) 12 P.n P.N := hq3.fr (fr36 _ (by omega) (by omega)) (fr36 _ (by omega) (by omega))
    replace hq5 : w_36 (2 + 5) = some (eN dA 5 P.S) := (fr36 _ (by omega) (by omega)).trans hq5
    refine lv_aload_n hx hb dX6_addCue_39 rfl (lv_at hl 1 rfl) ?_
    refine q_R1 (va_runVN (As := []) (rest := []) ⟨hx, hb, hml, hown, hts⟩ (c_X1_size l hq1) ⟨(va_cnB 0 hts gX6_addCue_X1_size_n89 rfl rfl rfl (hG.nest 34 rfl) (hts (.initialized RX1) (List.mem_of_getElem? (i := 6) rfl)) (by decide +kernel) ⟨Nat.le_of_ble_eq_true rfl, Nat.le_of_ble_eq_true rfl⟩), (hts (.instanceMethod yX1_size) (List.mem_of_getElem? (i := 63) rfl)), (hts (.selects RX1 yX1_size yX1_size) (List.mem_of_getElem? (i := 64) rfl))⟩ (q_preV hG hW hS (isCues.obj hq1) rfl) rfl rfl hl.1 rfl (lv_room (Nat.le_of_ble_eq_true rfl)) dX6_addCue_40 ⟨Nat.le_of_ble_eq_true rfl, Nat.le_of_ble_eq_true rfl⟩) ?_
    refine lv_iconst (v := nI 1) hx hb dX6_addCue_43 (by decide) ?_
    refine lv_isub hx hb dX6_addCue_44 ?_
    refine q_top (y := nI ((P.w + 1) - 1)) (nI_sub (by omega)) ?_
    exact vx_ret (q_wi hx hb hr hlocks hW hS dX6_addCue_45 (by rfl) (by exact ⟨by omega, ⟨hs0, ⟨hq0, hq1, hq3, hoS, hq5⟩, hbk, hhs, hsc, hrd, hlo, hex⟩, by intro id h8 h9; rw [fr36 id (by omega) (by omega)]; rw [fr26 id (by omega)]; try rfl⟩) (by decide) (by decide))
  · skip
    have c_4 : 10 ≤ P.w := Decidable.byContradiction (fun h__ => c_4 (pI_eq0.mpr h__))
    exact q_thrSW hx hb hl0 (by rw [hml]; exact hl.1) hxt hlocks hown hG hW hS (by decide +kernel) (hts (.classLink RX6 131 "java/lang/IllegalStateException") (List.mem_of_getElem? (i := 1) rfl)) (hts (.initialized "java/lang/IllegalStateException") (List.mem_of_getElem? (i := 2) rfl)) 1 1 rfl rfl ngS otS (fun w h => hts w (List.mem_cons_of_mem _ (List.mem_append_right _ h))) dX6_addCue_7 dX6_addCue_10 dX6_addCue_11 dX6_addCue_14 dX6_addCue_17 (Nat.le_of_ble_eq_true rfl) (Nat.le_of_ble_eq_true rfl) (Nat.le_of_ble_eq_true rfl) (Nat.le_of_ble_eq_true rfl) (Nat.le_of_ble_eq_true rfl) (Nat.le_of_ble_eq_true rfl) (by exact ⟨⟨rfl, c_4⟩, rfl⟩)

set_option maxHeartbeats 300000 in
set_option maxRecDepth 100000 in
/-- addCue -/
theorem c_X6_addCue_f (l : Launch) (hl0 : l.stackTraces = false) {D : va_G} {dA : Nat → Nat} {b : Nat} {w : Wd} {lo n nc : Nat} {P : Pl} {Hs : Nat → Pl} {SL : Nat → Option Pl} {C : Nat → Nat} (hs : isSys dA b w lo (P, (n, Hs), SL, (nc, C))) (s9 l9 d9 g9 : Nat) (h0 : s9 ≤ 99) (h1 : 1 ≤ l9) (h2 : l9 ≤ 20) (h3 : d9 ≤ 30) (h4 : g9 ≤ 1) : vx_Met l yX6_addCue wsX6_addCue ({ frames := 6, cells := 6, slots := 110, locals := 86 } : Room) (PC D dA b w [.ref (b + 0), .ref (b + (2 + 3)), .int (nI s9), .int (nI l9), .int (nI d9), .int (nI g9)]) (QW D b (some (.int (nI (P.n)))) (fun w' => P.n < 12 ∧ isSys dA b w' lo ((P.w, P.W, P.n + 1, addV P.N P.n s9 l9 d9 g9, P.S), (pshN n, psh n Hs P), SL, (nc, C)) ∧ ∀ id : Nat, 36 ≤ id → id < lo → w' id = w id)) (XW D b (fun E w' => (E = ISE ∧ 12 ≤ P.n) ∧ w' = w)) 6 110 (Fb b) := by
  refine q_ofX (cc := cX6_addCue) (maxL := 6) (ret := (some .int)) (by decide) rfl rfl ?_
  intro p e s m args below meth c ls hx hb hr hml hts hown hlocks hxt hG hW hS hl
  have hown : s.vm.findClass RX6 = some m.cls := hown
  have hinX6 : ∀ w ∈ u_ws RX6 TX6 8, w ∈ wsX6_addCue := fun w h => (goodIn_r (big := wsX6_addCue) (u_ws RX6 TX6 8) [66, 67, 68, 69, 70, 71, 72, 73] (by decide +kernel) (by decide +kernel) w h).1
  have hl : lv_has ls 6 [(0, .ref (b + 0)), (1, .ref (b + (2 + 3))), (2, .int (nI s9)), (3, .int (nI l9)), (4, .int (nI d9)), (5, .int (nI g9))] := hl
  obtain ⟨hs0, hp1, hbk, hhs, hsc, hrd, hlo, hex⟩ := id hs
  change isPlay dA b w 2 P at hp1
  change isHS dA b w lo n Hs SL at hhs
  change isScr dA b w 32 nc C at hsc
  have hP := hp1.ok
  have hn6 := HS_le hhs
  have hnc := hsc.2.2.1
  obtain ⟨hPw, hPn, hPW, hPN, hPS⟩ := id hP
  refine lv_aload_n hx hb dX6_addCue_0 rfl (lv_at hl 1 rfl) ?_
  refine q_R1 (va_runVN (As := []) (rest := []) ⟨hx, hb, hml, hown, hts⟩ (c_X1_isFull l (hp1).2.2.1) ⟨(va_cnB 0 hts gX6_addCue_X1_isFull_n284 rfl rfl rfl (hG.nest 60 rfl) (hts (.initialized RX1) (List.mem_of_getElem? (i := 6) rfl)) (by decide +kernel) ⟨Nat.le_of_ble_eq_true rfl, Nat.le_of_ble_eq_true rfl⟩), (hts (.instanceMethod yX1_isFull) (List.mem_of_getElem? (i := 5) rfl)), (hts (.selects RX1 yX1_isFull yX1_isFull) (List.mem_of_getElem? (i := 7) rfl))⟩ (q_preV hG hW hS (isCues.obj (hp1).2.2.1) rfl) rfl rfl hl.1 rfl (lv_room (Nat.le_of_ble_eq_true rfl)) dX6_addCue_1 ⟨Nat.le_of_ble_eq_true rfl, Nat.le_of_ble_eq_true rfl⟩) ?_
  refine lv_if_eq (tgt := 18) hx hb dX6_addCue_4 (by decide) (fun c_4 => ?_) (fun c_4 => ?_)
  · skip
    have c_4 : ¬ (12 ≤ P.n) := pI_eq0.mp c_4
    refine lv_aload_n hx hb dX6_addCue_18 rfl (lv_at hl 0 rfl) ?_
    refine q_get hx hb hts hinX6 hown hG hW hs0 rfl 4 (by decide) (hts (.fieldLink RX6 32 "FoleyMixer" "history" "LFoleyMixer$History;") (List.mem_of_getElem? (i := 3) rfl)) rfl rfl dX6_addCue_19 ?_
    refine lv_aload_n hx hb dX6_addCue_22 rfl (lv_at hl 0 rfl) ?_
    refine q_get hx hb hts hinX6 hown hG hW hs0 rfl 2 (by decide) (hts (.fieldLink RX6 23 "FoleyMixer" "now" "LFoleyMixer$Play;") (List.mem_of_getElem? (i := 4) rfl)) rfl rfl dX6_addCue_23 ?_
    obtain ⟨mh9, a9, H9, gz9, hh9, hv2, hv3, hv4, hv5, hv6⟩ := id hhs
    refine q_W0 (va_runVN (As := [.ref (b + 2)]) (rest := []) ⟨hx, hb, hml, hown, hts⟩ (c_X2_push l hh9 hp1 (by omega) (by omega) (by omega) hex (by omega)) ⟨(va_cnB 1 hts gX6_addCue_X2_push_n79 rfl rfl rfl (hG.nest 61 rfl) (hts (.initialized RX2) (List.mem_of_getElem? (i := 12) rfl)) (by decide +kernel) ⟨Nat.le_of_ble_eq_true rfl, Nat.le_of_ble_eq_true rfl⟩), (hts (.instanceMethod yX2_push) (List.mem_of_getElem? (i := 11) rfl)), (hts (.selects RX2 yX2_push yX2_push) (List.mem_of_getElem? (i := 13) rfl))⟩ (q_preV hG hW hS hh9.1 rfl) rfl rfl hl.1 rfl (lv_room (Nat.le_of_ble_eq_true rfl)) dX6_addCue_26 ⟨Nat.le_of_ble_eq_true rfl, Nat.le_of_ble_eq_true rfl⟩) hS (fun w_26 H locs hp26 hW hS => ?_)
    replace hp26 := HS_push (by omega) hv2 hv3 hv4 hv5 hv6 (HS_le hhs) hp26
    obtain ⟨hhs, fr26⟩ := hp26
    replace hs0 : w_26 0 = some (sysO b) := (fr26 _ (by omega)).trans hs0
    replace hp1 : isPlay dA b w_26 2 P := hp1.fr (fun id9 h7 h8 => fr26 id9 (by omega))
    replace hbk : isBk dA b w_26 := hbk.fr (fun id9 h7 h8 => (fr26 id9 (by omega)))
    replace hsc : isScr dA b w_26 32 nc C := hsc.fr (fr26 _ (by omega)) (fr26 _ (by omega))
    replace hrd : ∃ R : Rd, isRdr dA b w_26 34 R := rdr_fr hrd (fun id9 h7 h8 => (fr26 id9 (by omega)))
    replace hex : ∃ e : va_E, w_26 (lo - 1) = some e := exw_fr hex (fr26 _ (by omega))
    obtain ⟨hq0, hq1, hq3, hoS, hq5⟩ := id hp1
    refine lv_aload_n hx hb dX6_addCue_29 rfl (lv_at hl 1 rfl) ?_
    refine lv_iload_n hx hb dX6_addCue_30 rfl (lv_at hl 2 rfl) ?_
    refine lv_iload_n hx hb dX6_addCue_31 rfl (lv_at hl 3 rfl) ?_
    refine lv_iload hx hb dX6_addCue_32 (lv_at hl 4 rfl) ?_
    refine lv_iload hx hb dX6_addCue_34 (lv_at hl 5 rfl) ?_
    refine q_W0 (va_runVN (As := [.int (nI s9), .int (nI l9), .int (nI d9), .int (nI g9)]) (rest := []) ⟨hx, hb, hml, hown, hts⟩ (c_X1_add l hq3 (s9) (l9) (d9) (g9) (by omega) (by omega) (by omega) (by omega) (by omega) (by omega)) ⟨(va_cnB 4 hts gX6_addCue_X1_add_n287 rfl rfl rfl (hG.nest 64 rfl) (hts (.initialized RX1) (List.mem_of_getElem? (i := 6) rfl)) (by decide +kernel) ⟨Nat.le_of_ble_eq_true rfl, Nat.le_of_ble_eq_true rfl⟩), (hts (.instanceMethod yX1_add) (List.mem_of_getElem? (i := 54) rfl)), (hts (.selects RX1 yX1_add yX1_add) (List.mem_of_getElem? (i := 55) rfl))⟩ (q_preV hG hW hS (isCues.obj (hp1).2.2.1) rfl) rfl rfl hl.1 rfl (lv_room (Nat.le_of_ble_eq_true rfl)) dX6_addCue_36 ⟨Nat.le_of_ble_eq_true rfl, Nat.le_of_ble_eq_true rfl⟩) hS (fun w_36 H locs hp36 hW hS => ?_)
    obtain ⟨hq3, fr36⟩ := hp36
    replace hs0 : w_36 0 = some (sysO b) := (fr36 _ (by omega) (by omega)).trans hs0
    replace hbk : isBk dA b w_36 := hbk.fr (fun id9 h7 h8 => (fr36 id9 (by omega) (by omega)))
    replace hsc : isScr dA b w_36 32 nc C := hsc.fr (fr36 _ (by omega) (by omega)) (fr36 _ (by omega) (by omega))
    replace hrd : ∃ R : Rd, isRdr dA b w_36 34 R := rdr_fr hrd (fun id9 h7 h8 => (fr36 id9 (by omega) (by omega)))
    replace hex : ∃ e : va_E, w_36 (lo - 1) = some e := exw_fr hex (fr36 _ (by omega) (by omega))
    replace hhs : isHS dA b w_36 lo (pshN n) (psh n Hs P) SL := hhs.fr (fun id9 h7 => (fr36 id9 (by omega) (by omega)))
    replace hq0 : w_36 2 = some (.inr (4, [.ref (b + (2 + 1)), .ref (b + (2 + 3)), .ref (b + (2 + 5))])) := (fr36 _ (by omega) (by omega)).trans hq0
    replace hq1 : isCues dA b w_36 (2 + 1) 10 P.w P.W := hq1.fr (fr36 _ (by omega) (by omega)) (fr36 _ (by omega) (by omega))
    replace hq5 : w_36 (2 + 5) = some (eN dA 5 P.S) := (fr36 _ (by omega) (by omega)).trans hq5
    refine lv_aload_n hx hb dX6_addCue_39 rfl (lv_at hl 1 rfl) ?_
    refine q_R1 (va_runVN (As := []) (rest := []) ⟨hx, hb, hml, hown, hts⟩ (c_X1_size l hq3) ⟨(va_cnB 0 hts gX6_addCue_X1_size_n89 rfl rfl rfl (hG.nest 34 rfl) (hts (.initialized RX1) (List.mem_of_getElem? (i := 6) rfl)) (by decide +kernel) ⟨Nat.le_of_ble_eq_true rfl, Nat.le_of_ble_eq_true rfl⟩), (hts (.instanceMethod yX1_size) (List.mem_of_getElem? (i := 63) rfl)), (hts (.selects RX1 yX1_size yX1_size) (List.mem_of_getElem? (i := 64) rfl))⟩ (q_preV hG hW hS (isCues.obj hq3) rfl) rfl rfl hl.1 rfl (lv_room (Nat.le_of_ble_eq_true rfl)) dX6_addCue_40 ⟨Nat.le_of_ble_eq_true rfl, Nat.le_of_ble_eq_true rfl⟩) ?_
    refine lv_iconst (v := nI 1) hx hb dX6_addCue_43 (by decide) ?_
    refine lv_isub hx hb dX6_addCue_44 ?_
    refine q_top (y := nI ((P.n + 1) - 1)) (nI_sub (by omega)) ?_
    exact vx_ret (q_wi hx hb hr hlocks hW hS dX6_addCue_45 (by rfl) (by exact ⟨by omega, ⟨hs0, ⟨hq0, hq1, hq3, hoS, hq5⟩, hbk, hhs, hsc, hrd, hlo, hex⟩, by intro id h8 h9; rw [fr36 id (by omega) (by omega)]; rw [fr26 id (by omega)]; try rfl⟩) (by decide) (by decide))
  · skip
    have c_4 : 12 ≤ P.n := Decidable.byContradiction (fun h__ => c_4 (pI_eq0.mpr h__))
    exact q_thrSW hx hb hl0 (by rw [hml]; exact hl.1) hxt hlocks hown hG hW hS (by decide +kernel) (hts (.classLink RX6 131 "java/lang/IllegalStateException") (List.mem_of_getElem? (i := 1) rfl)) (hts (.initialized "java/lang/IllegalStateException") (List.mem_of_getElem? (i := 2) rfl)) 1 1 rfl rfl ngS otS (fun w h => hts w (List.mem_cons_of_mem _ (List.mem_append_right _ h))) dX6_addCue_7 dX6_addCue_10 dX6_addCue_11 dX6_addCue_14 dX6_addCue_17 (Nat.le_of_ble_eq_true rfl) (Nat.le_of_ble_eq_true rfl) (Nat.le_of_ble_eq_true rfl) (Nat.le_of_ble_eq_true rfl) (Nat.le_of_ble_eq_true rfl) (Nat.le_of_ble_eq_true rfl) (by exact ⟨⟨rfl, c_4⟩, rfl⟩)

set_option maxHeartbeats 300000 in
set_option maxRecDepth 100000 in
/-- word -/
theorem c_X6_word (l : Launch) (hl0 : l.stackTraces = false) {D : va_G} {dA : Nat → Nat} {b : Nat} {w : Wd} {lo n nc : Nat} {P : Pl} {Hs : Nat → Pl} {SL : Nat → Option Pl} {C : Nat → Nat} (hs : isSys dA b w lo (P, (n, Hs), SL, (nc, C))) (x y z : Int32) : vx_Met l yX6_word wsX6_word ({ frames := 7, cells := 7, slots := 116, locals := 111 } : Room) (PC D dA b w [.ref (b + 0), .int (x), .int (y), .int (z)]) (QW D b (some (.int (nI (P.w)))) (fun w' => okC x y z ∧ P.w < 10 ∧ isSys dA b w' lo ((P.w + 1, addV P.W P.w (i32n x) (i32n y) (i32n z) 0, P.n, P.N, P.S), (pshN n, psh n Hs P), SL, (nc, C)) ∧ ∀ id : Nat, 36 ≤ id → id < lo → w' id = w id)) (XW D b (fun E w' => ((E = IAE ∧ ¬ okC x y z) ∨ (okC x y z ∧ E = ISE ∧ 10 ≤ P.w)) ∧ w' = w)) 7 116 (Fb b) := by
  refine q_ofX (cc := cX6_word) (maxL := 4) (ret := (some .int)) (by decide) rfl rfl ?_
  intro p e s m args below meth c ls hx hb hr hml hts hown hlocks hxt hG hW hS hl
  have hown : s.vm.findClass RX6 = some m.cls := hown
  have hinX4 : ∀ w ∈ u_ws RX4 TX4 3, w ∈ wsX6_word := fun w h => (goodIn_r (big := wsX6_word) (u_ws RX4 TX4 3) [91, 92, 93] (by decide +kernel) (by decide +kernel) w h).1
  have hinX6 : ∀ w ∈ u_ws RX6 TX6 8, w ∈ wsX6_word := fun w h => (goodIn_r (big := wsX6_word) (u_ws RX6 TX6 8) [83, 84, 85, 86, 87, 88, 89, 90] (by decide +kernel) (by decide +kernel) w h).1
  have hl : lv_has ls 4 [(0, .ref (b + 0)), (1, .int (x)), (2, .int (y)), (3, .int (z))] := hl
  obtain ⟨hs0, hp1, hbk, hhs, hsc, hrd, hlo, hex⟩ := id hs
  change isPlay dA b w 2 P at hp1
  change isHS dA b w lo n Hs SL at hhs
  change isScr dA b w 32 nc C at hsc
  have hP := hp1.ok
  have hn6 := HS_le hhs
  have hnc := hsc.2.2.1
  obtain ⟨hPw, hPn, hPW, hPN, hPS⟩ := id hP
  refine lv_iload_n hx hb dX6_word_0 rfl (lv_at hl 1 rfl) ?_
  refine lv_iload_n hx hb dX6_word_1 rfl (lv_at hl 2 rfl) ?_
  refine lv_iload_n hx hb dX6_word_2 rfl (lv_at hl 3 rfl) ?_
  refine q_X0 (vx_runS (As := [.int (x), .int (y), .int (z)]) (rest := []) ⟨hx, hb, hml, hown, hts⟩ (c_X6_checkCue l hl0 (x) (y) (z)) (va_cwS 3 hts gX6_word_X6_checkCue rfl rfl rfl (by decide +kernel) ⟨Nat.le_of_ble_eq_true rfl, Nat.le_of_ble_eq_true rfl⟩) (q_preS hG hW hS) rfl rfl hl.1 rfl (lv_room (Nat.le_of_ble_eq_true rfl)) dX6_word_3 ⟨Nat.le_of_ble_eq_true rfl, Nat.le_of_ble_eq_true rfl⟩) hS (fun E9 w9 H9 L9 q9 ce9 hpx hW9 hS9 hce hcv hcl => q_prop hxt hlocks hW9 hS9 hce hcv hcl (by exact ⟨Or.inl hpx.1, hpx.2⟩) (Nat.le_of_ble_eq_true rfl) (Nat.le_of_ble_eq_true rfl)) (fun w_3 H locs hp3 hW hS => ?_)
  obtain ⟨ho3, hw9⟩ := hp3
  replace hw9 := hw9.symm
  subst hw9
  obtain ⟨⟨ex9, bx9⟩, ⟨ey9, by9, by8⟩, ⟨ez9, bz9, bz8⟩⟩ := okC_n ho3
  have el_6 : x = nI (i32n x) := by exact ex9
  rw [el_6] at hl
  have el_6 : y = nI (i32n y) := by exact ey9
  rw [el_6] at hl
  have el_6 : z = nI (i32n z) := by exact ez9
  rw [el_6] at hl
  refine lv_aload_n hx hb dX6_word_6 rfl (lv_at hl 0 rfl) ?_
  refine lv_aload_n hx hb dX6_word_7 rfl (lv_at hl 0 rfl) ?_
  refine q_get hx hb hts hinX6 hown hG hW hs0 rfl 2 (by decide) (hts (.fieldLink RX6 23 "FoleyMixer" "now" "LFoleyMixer$Play;") (List.mem_of_getElem? (i := 1) rfl)) rfl rfl dX6_word_8 ?_
  refine q_getN hx hb hts hinX4 hown hG hW (hp1).1 rfl 0 (by decide) (hG.nest 11 rfl) rfl rfl dX6_word_11 ?_
  refine lv_iload_n hx hb dX6_word_14 rfl (lv_at hl 1 rfl) ?_
  refine lv_iload_n hx hb dX6_word_15 rfl (lv_at hl 2 rfl) ?_
  refine lv_iload_n hx hb dX6_word_16 rfl (lv_at hl 3 rfl) ?_
  refine lv_iconst (v := nI 0) hx hb dX6_word_17 (by decide) ?_
  refine q_X1 (vx_runV (As := [.ref (b + (2 + 1)), .int (nI (i32n x)), .int (nI (i32n y)), .int (nI (i32n z)), .int (nI 0)]) (rest := []) ⟨hx, hb, hml, hown, hts⟩ (c_X6_addCue_t l hl0 hs (i32n x) (i32n y) (i32n z) 0 (by omega) (by omega) (by omega) (by omega) (by omega)) (cwV 5 hts gX6_word_X6_addCue rfl rfl rfl (by decide +kernel) ⟨Nat.le_of_ble_eq_true rfl, Nat.le_of_ble_eq_true rfl⟩) (q_preV hG hW hS hs0 rfl) rfl rfl hl.1 rfl (lv_room (Nat.le_of_ble_eq_true rfl)) dX6_word_18 ⟨Nat.le_of_ble_eq_true rfl, Nat.le_of_ble_eq_true rfl⟩) hS (fun E9 w9 H9 L9 q9 ce9 hpx hW9 hS9 hce hcv hcl => q_prop hxt hlocks hW9 hS9 hce hcv hcl (by exact ⟨Or.inr ⟨ho3, hpx.1⟩, hpx.2⟩) (Nat.le_of_ble_eq_true rfl) (Nat.le_of_ble_eq_true rfl)) (fun w_18 H locs hp18 hW hS => ?_)
  exact vx_ret (q_wi hx hb hr hlocks hW hS dX6_word_21 (by rfl) (by exact ⟨ho3, hp18⟩) (by decide) (by decide))

set_option maxHeartbeats 300000 in
set_option maxRecDepth 100000 in
/-- noise -/
theorem c_X6_noise (l : Launch) (hl0 : l.stackTraces = false) {D : va_G} {dA : Nat → Nat} {b : Nat} {w : Wd} {lo n nc : Nat} {P : Pl} {Hs : Nat → Pl} {SL : Nat → Option Pl} {C : Nat → Nat} (hs : isSys dA b w lo (P, (n, Hs), SL, (nc, C))) (x y z : Int32) (g9 : Nat) (h4 : g9 ≤ 1) : vx_Met l yX6_noise wsX6_noise ({ frames := 7, cells := 7, slots := 116, locals := 111 } : Room) (PC D dA b w [.ref (b + 0), .int (x), .int (y), .int (z), .int (nI g9)]) (QW D b (some (.int (nI (P.n)))) (fun w' => okC x y z ∧ P.n < 12 ∧ isSys dA b w' lo ((P.w, P.W, P.n + 1, addV P.N P.n (i32n x) (i32n y) (i32n z) g9, P.S), (pshN n, psh n Hs P), SL, (nc, C)) ∧ ∀ id : Nat, 36 ≤ id → id < lo → w' id = w id)) (XW D b (fun E w' => ((E = IAE ∧ ¬ okC x y z) ∨ (okC x y z ∧ E = ISE ∧ 12 ≤ P.n)) ∧ w' = w)) 7 116 (Fb b) := by
  refine q_ofX (cc := cX6_noise) (maxL := 5) (ret := (some .int)) (by decide) rfl rfl ?_
  intro p e s m args below meth c ls hx hb hr hml hts hown hlocks hxt hG hW hS hl
  have hown : s.vm.findClass RX6 = some m.cls := hown
  have hinX4 : ∀ w ∈ u_ws RX4 TX4 3, w ∈ wsX6_noise := fun w h => (goodIn_r (big := wsX6_noise) (u_ws RX4 TX4 3) [91, 92, 93] (by decide +kernel) (by decide +kernel) w h).1
  have hinX6 : ∀ w ∈ u_ws RX6 TX6 8, w ∈ wsX6_noise := fun w h => (goodIn_r (big := wsX6_noise) (u_ws RX6 TX6 8) [83, 84, 85, 86, 87, 88, 89, 90] (by decide +kernel) (by decide +kernel) w h).1
  have hl : lv_has ls 5 [(0, .ref (b + 0)), (1, .int (x)), (2, .int (y)), (3, .int (z)), (4, .int (nI g9))] := hl
  obtain ⟨hs0, hp1, hbk, hhs, hsc, hrd, hlo, hex⟩ := id hs
  change isPlay dA b w 2 P at hp1
  change isHS dA b w lo n Hs SL at hhs
  change isScr dA b w 32 nc C at hsc
  have hP := hp1.ok
  have hn6 := HS_le hhs
  have hnc := hsc.2.2.1
  obtain ⟨hPw, hPn, hPW, hPN, hPS⟩ := id hP
  refine lv_iload_n hx hb dX6_noise_0 rfl (lv_at hl 1 rfl) ?_
  refine lv_iload_n hx hb dX6_noise_1 rfl (lv_at hl 2 rfl) ?_
  refine lv_iload_n hx hb dX6_noise_2 rfl (lv_at hl 3 rfl) ?_
  refine q_X0 (vx_runS (As := [.int (x), .int (y), .int (z)]) (rest := []) ⟨hx, hb, hml, hown, hts⟩ (c_X6_checkCue l hl0 (x) (y) (z)) (va_cwS 3 hts gX6_noise_X6_checkCue rfl rfl rfl (by decide +kernel) ⟨Nat.le_of_ble_eq_true rfl, Nat.le_of_ble_eq_true rfl⟩) (q_preS hG hW hS) rfl rfl hl.1 rfl (lv_room (Nat.le_of_ble_eq_true rfl)) dX6_noise_3 ⟨Nat.le_of_ble_eq_true rfl, Nat.le_of_ble_eq_true rfl⟩) hS (fun E9 w9 H9 L9 q9 ce9 hpx hW9 hS9 hce hcv hcl => q_prop hxt hlocks hW9 hS9 hce hcv hcl (by exact ⟨Or.inl hpx.1, hpx.2⟩) (Nat.le_of_ble_eq_true rfl) (Nat.le_of_ble_eq_true rfl)) (fun w_3 H locs hp3 hW hS => ?_)
  obtain ⟨ho3, hw9⟩ := hp3
  replace hw9 := hw9.symm
  subst hw9
  obtain ⟨⟨ex9, bx9⟩, ⟨ey9, by9, by8⟩, ⟨ez9, bz9, bz8⟩⟩ := okC_n ho3
  have el_6 : x = nI (i32n x) := by exact ex9
  rw [el_6] at hl
  have el_6 : y = nI (i32n y) := by exact ey9
  rw [el_6] at hl
  have el_6 : z = nI (i32n z) := by exact ez9
  rw [el_6] at hl
  refine lv_aload_n hx hb dX6_noise_6 rfl (lv_at hl 0 rfl) ?_
  refine lv_aload_n hx hb dX6_noise_7 rfl (lv_at hl 0 rfl) ?_
  refine q_get hx hb hts hinX6 hown hG hW hs0 rfl 2 (by decide) (hts (.fieldLink RX6 23 "FoleyMixer" "now" "LFoleyMixer$Play;") (List.mem_of_getElem? (i := 1) rfl)) rfl rfl dX6_noise_8 ?_
  refine q_getN hx hb hts hinX4 hown hG hW (hp1).1 rfl 1 (by decide) (hG.nest 13 rfl) rfl rfl dX6_noise_11 ?_
  refine lv_iload_n hx hb dX6_noise_14 rfl (lv_at hl 1 rfl) ?_
  refine lv_iload_n hx hb dX6_noise_15 rfl (lv_at hl 2 rfl) ?_
  refine lv_iload_n hx hb dX6_noise_16 rfl (lv_at hl 3 rfl) ?_
  refine lv_iload hx hb dX6_noise_17 (lv_at hl 4 rfl) ?_
  refine lv_if_eq (tgt := 26) hx hb dX6_noise_19 (by decide) (fun c_19 => ?_) (fun c_19 => ?_)
  · skip
    have c_19 : g9 = 0 := (nI_eq0 (i := g9) (by omega)).mp c_19
    refine lv_iconst (v := nI 0) hx hb dX6_noise_26 (by decide) ?_
    refine q_top (y := nI (g9)) (by exact congrArg nI (by omega)) ?_
    refine q_X1 (vx_runV (As := [.ref (b + (2 + 3)), .int (nI (i32n x)), .int (nI (i32n y)), .int (nI (i32n z)), .int (nI g9)]) (rest := []) ⟨hx, hb, hml, hown, hts⟩ (c_X6_addCue_f l hl0 hs (i32n x) (i32n y) (i32n z) g9 (by omega) (by omega) (by omega) (by omega) (by omega)) (cwV 5 hts gX6_noise_X6_addCue rfl rfl rfl (by decide +kernel) ⟨Nat.le_of_ble_eq_true rfl, Nat.le_of_ble_eq_true rfl⟩) (q_preV hG hW hS hs0 rfl) rfl rfl hl.1 rfl (lv_room (Nat.le_of_ble_eq_true rfl)) dX6_noise_27 ⟨Nat.le_of_ble_eq_true rfl, Nat.le_of_ble_eq_true rfl⟩) hS (fun E9 w9 H9 L9 q9 ce9 hpx hW9 hS9 hce hcv hcl => q_prop hxt hlocks hW9 hS9 hce hcv hcl (by exact ⟨Or.inr ⟨ho3, hpx.1⟩, hpx.2⟩) (Nat.le_of_ble_eq_true rfl) (Nat.le_of_ble_eq_true rfl)) (fun w_27 H locs hp27 hW hS => ?_)
    exact vx_ret (q_wi hx hb hr hlocks hW hS dX6_noise_30 (by rfl) (by exact ⟨ho3, hp27⟩) (by decide) (by decide))
  · skip
    have c_19 : ¬ (g9 = 0) := fun h__ => c_19 ((nI_eq0 (i := g9) (by omega)).mpr h__)
    refine lv_iconst (v := nI 1) hx hb dX6_noise_22 (by decide) ?_
    refine lv_goto (tgt := 27) hx hb dX6_noise_23 (by decide) ?_
    refine q_top (y := nI (g9)) (by exact congrArg nI (by omega)) ?_
    refine q_X1 (vx_runV (As := [.ref (b + (2 + 3)), .int (nI (i32n x)), .int (nI (i32n y)), .int (nI (i32n z)), .int (nI g9)]) (rest := []) ⟨hx, hb, hml, hown, hts⟩ (c_X6_addCue_f l hl0 hs (i32n x) (i32n y) (i32n z) g9 (by omega) (by omega) (by omega) (by omega) (by omega)) (cwV 5 hts gX6_noise_X6_addCue rfl rfl rfl (by decide +kernel) ⟨Nat.le_of_ble_eq_true rfl, Nat.le_of_ble_eq_true rfl⟩) (q_preV hG hW hS hs0 rfl) rfl rfl hl.1 rfl (lv_room (Nat.le_of_ble_eq_true rfl)) dX6_noise_27 ⟨Nat.le_of_ble_eq_true rfl, Nat.le_of_ble_eq_true rfl⟩) hS (fun E9 w9 H9 L9 q9 ce9 hpx hW9 hS9 hce hcv hcl => q_prop hxt hlocks hW9 hS9 hce hcv hcl (by exact ⟨Or.inr ⟨ho3, hpx.1⟩, hpx.2⟩) (Nat.le_of_ble_eq_true rfl) (Nat.le_of_ble_eq_true rfl)) (fun w_27 H locs hp27 hW hS => ?_)
    exact vx_ret (q_wi hx hb hr hlocks hW hS dX6_noise_30 (by rfl) (by exact ⟨ho3, hp27⟩) (by decide) (by decide))

set_option maxHeartbeats 300000 in
set_option maxRecDepth 100000 in
/-- remove -/
theorem c_X6_remove_t (l : Launch) (hl0 : l.stackTraces = false) {D : va_G} {dA : Nat → Nat} {b : Nat} {w : Wd} {lo n nc : Nat} {P : Pl} {Hs : Nat → Pl} {SL : Nat → Option Pl} {C : Nat → Nat} (hs : isSys dA b w lo (P, (n, Hs), SL, (nc, C))) (x : Int32) : vx_Met l yX6_remove wsX6_remove ({ frames := 7, cells := 7, slots := 116, locals := 103 } : Room) (PC D dA b w [.ref (b + 0), .int (nI 1), .int (x)]) (QW D b (some (.int (nI (P.w - 1)))) (fun w' => (0 ≤ x ∧ x < nI P.w) ∧ isSys dA b w' lo ((P.w - 1, delV P.W (i32n x), P.n, P.N, P.S), (pshN n, psh n Hs P), SL, (nc, C)) ∧ ∀ id : Nat, 36 ≤ id → id < lo → w' id = w id)) (XW D b (fun E w' => (E = IOE ∧ ¬ (0 ≤ x ∧ x < nI P.w)) ∧ w' = w)) 7 116 (Fb b) := by
  refine q_ofX (cc := cX6_remove) (maxL := 4) (ret := (some .int)) (by decide) rfl rfl ?_
  intro p e s m args below meth c ls hx hb hr hml hts hown hlocks hxt hG hW hS hl
  have hown : s.vm.findClass RX6 = some m.cls := hown
  have hinX6 : ∀ w ∈ u_ws RX6 TX6 8, w ∈ wsX6_remove := fun w h => (goodIn_r (big := wsX6_remove) (u_ws RX6 TX6 8) [71, 72, 73, 74, 75, 76, 77, 78] (by decide +kernel) (by decide +kernel) w h).1
  have hl : lv_has ls 4 [(0, .ref (b + 0)), (1, .int (nI 1)), (2, .int (x))] := hl
  obtain ⟨hs0, hp1, hbk, hhs, hsc, hrd, hlo, hex⟩ := id hs
  change isPlay dA b w 2 P at hp1
  change isHS dA b w lo n Hs SL at hhs
  change isScr dA b w 32 nc C at hsc
  have hP := hp1.ok
  have hn6 := HS_le hhs
  have hnc := hsc.2.2.1
  obtain ⟨hPw, hPn, hPW, hPN, hPS⟩ := id hP
  refine lv_aload_n hx hb dX6_remove_0 rfl (lv_at hl 0 rfl) ?_
  refine q_get hx hb hts hinX6 hown hG hW hs0 rfl 2 (by decide) (hts (.fieldLink RX6 23 "FoleyMixer" "now" "LFoleyMixer$Play;") (List.mem_of_getElem? (i := 1) rfl)) rfl rfl dX6_remove_1 ?_
  refine lv_iload_n hx hb dX6_remove_4 rfl (lv_at hl 1 rfl) ?_
  refine q_R1 (va_runVN (As := [.int (nI 1)]) (rest := []) ⟨hx, hb, hml, hown, hts⟩ (c_cuesOf_t l hp1) ⟨(va_cnB 1 hts gX6_remove_X4_cuesOf_n71 rfl rfl rfl (hG.nest 33 rfl) (hts (.initialized RX4) (List.mem_of_getElem? (i := 4) rfl)) (by decide +kernel) ⟨Nat.le_of_ble_eq_true rfl, Nat.le_of_ble_eq_true rfl⟩), (hts (.instanceMethod yX4_cuesOf) (List.mem_of_getElem? (i := 3) rfl)), (hts (.selects RX4 yX4_cuesOf yX4_cuesOf) (List.mem_of_getElem? (i := 5) rfl))⟩ (q_preV hG hW hS (hp1).1 rfl) rfl rfl hl.1 rfl (lv_room (Nat.le_of_ble_eq_true rfl)) dX6_remove_5 ⟨Nat.le_of_ble_eq_true rfl, Nat.le_of_ble_eq_true rfl⟩) ?_
  refine lv_astore_n (lv' := [(3, .ref (b + (2 + 1))), (0, .ref (b + 0)), (1, .int (nI 1)), (2, .int (x))]) hx hb dX6_remove_8 rfl hl (by decide) rfl (fun ls hl => ?_)
  refine lv_aload_n hx hb dX6_remove_9 rfl (lv_at hl 0 rfl) ?_
  refine lv_iload_n hx hb dX6_remove_10 rfl (lv_at hl 3 rfl) ?_
  refine q_X0 (vx_runS (As := [.ref (b + (2 + 1)), .int (x)]) (rest := []) ⟨hx, hb, hml, hown, hts⟩ (c_X6_checkNumber l hl0 (hp1).2.1 (x)) (va_cwS 2 hts gX6_remove_X6_checkNumber rfl rfl rfl (by decide +kernel) ⟨Nat.le_of_ble_eq_true rfl, Nat.le_of_ble_eq_true rfl⟩) (q_preS hG hW hS) rfl rfl hl.1 rfl (lv_room (Nat.le_of_ble_eq_true rfl)) dX6_remove_11 ⟨Nat.le_of_ble_eq_true rfl, Nat.le_of_ble_eq_true rfl⟩) hS (fun E9 w9 H9 L9 q9 ce9 hpx hW9 hS9 hce hcv hcl => q_prop hxt hlocks hW9 hS9 hce hcv hcl (by exact hpx) (Nat.le_of_ble_eq_true rfl) (Nat.le_of_ble_eq_true rfl)) (fun w_11 H locs hp11 hW hS => ?_)
  obtain ⟨ho11, hw9⟩ := hp11
  replace hw9 := hw9.symm
  subst hw9
  obtain ⟨ex9, bx9⟩ := has_n (by omega) ho11.1 ho11.2
  have el_14 : x = nI (i32n x) := by exact ex9
  rw [el_14] at hl
  refine lv_aload_n hx hb dX6_remove_14 rfl (lv_at hl 1 rfl) ?_
  refine q_get hx hb hts hinX6 hown hG hW hs0 rfl 4 (by decide) (hts (.fieldLink RX6 32 "FoleyMixer" "history" "LFoleyMixer$History;") (List.mem_of_getElem? (i := 2) rfl)) rfl rfl dX6_remove_15 ?_
  refine lv_aload_n hx hb dX6_remove_18 rfl (lv_at hl 1 rfl) ?_
  refine q_get hx hb hts hinX6 hown hG hW hs0 rfl 2 (by decide) (hts (.fieldLink RX6 23 "FoleyMixer" "now" "LFoleyMixer$Play;") (List.mem_of_getElem? (i := 1) rfl)) rfl rfl dX6_remove_19 ?_
  obtain ⟨mh9, a9, H9, gz9, hh9, hv2, hv3, hv4, hv5, hv6⟩ := id hhs
  refine q_W0 (va_runVN (As := [.ref (b + 2)]) (rest := []) ⟨hx, hb, hml, hown, hts⟩ (c_X2_push l hh9 hp1 (by omega) (by omega) (by omega) hex (by omega)) ⟨(va_cnB 1 hts gX6_remove_X2_push_n79 rfl rfl rfl (hG.nest 61 rfl) (hts (.initialized RX2) (List.mem_of_getElem? (i := 21) rfl)) (by decide +kernel) ⟨Nat.le_of_ble_eq_true rfl, Nat.le_of_ble_eq_true rfl⟩), (hts (.instanceMethod yX2_push) (List.mem_of_getElem? (i := 20) rfl)), (hts (.selects RX2 yX2_push yX2_push) (List.mem_of_getElem? (i := 22) rfl))⟩ (q_preV hG hW hS hh9.1 rfl) rfl rfl hl.1 rfl (lv_room (Nat.le_of_ble_eq_true rfl)) dX6_remove_22 ⟨Nat.le_of_ble_eq_true rfl, Nat.le_of_ble_eq_true rfl⟩) hS (fun w_22 H locs hp22 hW hS => ?_)
  replace hp22 := HS_push (by omega) hv2 hv3 hv4 hv5 hv6 (HS_le hhs) hp22
  obtain ⟨hhs, fr22⟩ := hp22
  replace hs0 : w_22 0 = some (sysO b) := (fr22 _ (by omega)).trans hs0
  replace hp1 : isPlay dA b w_22 2 P := hp1.fr (fun id9 h7 h8 => fr22 id9 (by omega))
  replace hbk : isBk dA b w_22 := hbk.fr (fun id9 h7 h8 => (fr22 id9 (by omega)))
  replace hsc : isScr dA b w_22 32 nc C := hsc.fr (fr22 _ (by omega)) (fr22 _ (by omega))
  replace hrd : ∃ R : Rd, isRdr dA b w_22 34 R := rdr_fr hrd (fun id9 h7 h8 => (fr22 id9 (by omega)))
  replace hex : ∃ e : va_E, w_22 (lo - 1) = some e := exw_fr hex (fr22 _ (by omega))
  obtain ⟨hq0, hq1, hq3, hoS, hq5⟩ := id hp1
  refine lv_aload_n hx hb dX6_remove_25 rfl (lv_at hl 0 rfl) ?_
  refine lv_iload_n hx hb dX6_remove_26 rfl (lv_at hl 3 rfl) ?_
  refine q_W0 (va_runVN (As := [.int (nI (i32n x))]) (rest := []) ⟨hx, hb, hml, hown, hts⟩ (c_X1_drop l hq1 (i32n x) (by omega)) ⟨(va_cnB 1 hts gX6_remove_X1_drop_n83 rfl rfl rfl (hG.nest 66 rfl) (hts (.initialized RX1) (List.mem_of_getElem? (i := 16) rfl)) (by decide +kernel) ⟨Nat.le_of_ble_eq_true rfl, Nat.le_of_ble_eq_true rfl⟩), (hts (.instanceMethod yX1_drop) (List.mem_of_getElem? (i := 60) rfl)), (hts (.selects RX1 yX1_drop yX1_drop) (List.mem_of_getElem? (i := 61) rfl))⟩ (q_preV hG hW hS (isCues.obj (hp1).2.1) rfl) rfl rfl hl.1 rfl (lv_room (Nat.le_of_ble_eq_true rfl)) dX6_remove_27 ⟨Nat.le_of_ble_eq_true rfl, Nat.le_of_ble_eq_true rfl⟩) hS (fun w_27 H locs hp27 hW hS => ?_)
  obtain ⟨hq1, fr27⟩ := hp27
  replace hs0 : w_27 0 = some (sysO b) := (fr27 _ (by omega) (by omega)).trans hs0
  replace hbk : isBk dA b w_27 := hbk.fr (fun id9 h7 h8 => (fr27 id9 (by omega) (by omega)))
  replace hsc : isScr dA b w_27 32 nc C := hsc.fr (fr27 _ (by omega) (by omega)) (fr27 _ (by omega) (by omega))
  replace hrd : ∃ R : Rd, isRdr dA b w_27 34 R := rdr_fr hrd (fun id9 h7 h8 => (fr27 id9 (by omega) (by omega)))
  replace hex : ∃ e : va_E, w_27 (lo - 1) = some e := exw_fr hex (fr27 _ (by omega) (by omega))
  replace hhs : isHS dA b w_27 lo (pshN n) (psh n Hs P) SL := hhs.fr (fun id9 h7 => (fr27 id9 (by omega) (by omega)))
  replace hq0 : w_27 2 = some (.inr (4, [.ref (b + (2 + 1)), .ref (b + (2 + 3)), .ref (b + (2 + 5))])) := (fr27 _ (by omega) (by omega)).trans hq0
  replace hq3 : isCues dA b w_27 (2 + 3) 12 P.n P.N := hq3.fr (fr27 _ (by omega) (by omega)) (fr27 _ (by omega) (by omega))
  replace hq5 : w_27 (2 + 5) = some (eN dA 5 P.S) := (fr27 _ (by omega) (by omega)).trans hq5
  refine lv_aload_n hx hb dX6_remove_30 rfl (lv_at hl 0 rfl) ?_
  refine q_R1 (va_runVN (As := []) (rest := []) ⟨hx, hb, hml, hown, hts⟩ (c_X1_size l hq1) ⟨(va_cnB 0 hts gX6_remove_X1_size_n89 rfl rfl rfl (hG.nest 34 rfl) (hts (.initialized RX1) (List.mem_of_getElem? (i := 16) rfl)) (by decide +kernel) ⟨Nat.le_of_ble_eq_true rfl, Nat.le_of_ble_eq_true rfl⟩), (hts (.instanceMethod yX1_size) (List.mem_of_getElem? (i := 68) rfl)), (hts (.selects RX1 yX1_size yX1_size) (List.mem_of_getElem? (i := 69) rfl))⟩ (q_preV hG hW hS (isCues.obj hq1) rfl) rfl rfl hl.1 rfl (lv_room (Nat.le_of_ble_eq_true rfl)) dX6_remove_31 ⟨Nat.le_of_ble_eq_true rfl, Nat.le_of_ble_eq_true rfl⟩) ?_
  exact vx_ret (q_wi hx hb hr hlocks hW hS dX6_remove_34 (by rfl) (by exact ⟨ho11, ⟨hs0, ⟨hq0, hq1, hq3, hoS, hq5⟩, hbk, hhs, hsc, hrd, hlo, hex⟩, by intro id h8 h9; rw [fr27 id (by omega) (by omega)]; rw [fr22 id (by omega)]; try rfl⟩) (by decide) (by decide))

set_option maxHeartbeats 300000 in
set_option maxRecDepth 100000 in
/-- remove -/
theorem c_X6_remove_f (l : Launch) (hl0 : l.stackTraces = false) {D : va_G} {dA : Nat → Nat} {b : Nat} {w : Wd} {lo n nc : Nat} {P : Pl} {Hs : Nat → Pl} {SL : Nat → Option Pl} {C : Nat → Nat} (hs : isSys dA b w lo (P, (n, Hs), SL, (nc, C))) (x : Int32) : vx_Met l yX6_remove wsX6_remove ({ frames := 7, cells := 7, slots := 116, locals := 103 } : Room) (PC D dA b w [.ref (b + 0), .int (nI 0), .int (x)]) (QW D b (some (.int (nI (P.n - 1)))) (fun w' => (0 ≤ x ∧ x < nI P.n) ∧ isSys dA b w' lo ((P.w, P.W, P.n - 1, delV P.N (i32n x), P.S), (pshN n, psh n Hs P), SL, (nc, C)) ∧ ∀ id : Nat, 36 ≤ id → id < lo → w' id = w id)) (XW D b (fun E w' => (E = IOE ∧ ¬ (0 ≤ x ∧ x < nI P.n)) ∧ w' = w)) 7 116 (Fb b) := by
  refine q_ofX (cc := cX6_remove) (maxL := 4) (ret := (some .int)) (by decide) rfl rfl ?_
  intro p e s m args below meth c ls hx hb hr hml hts hown hlocks hxt hG hW hS hl
  have hown : s.vm.findClass RX6 = some m.cls := hown
  have hinX6 : ∀ w ∈ u_ws RX6 TX6 8, w ∈ wsX6_remove := fun w h => (goodIn_r (big := wsX6_remove) (u_ws RX6 TX6 8) [71, 72, 73, 74, 75, 76, 77, 78] (by decide +kernel) (by decide +kernel) w h).1
  have hl : lv_has ls 4 [(0, .ref (b + 0)), (1, .int (nI 0)), (2, .int (x))] := hl
  obtain ⟨hs0, hp1, hbk, hhs, hsc, hrd, hlo, hex⟩ := id hs
  change isPlay dA b w 2 P at hp1
  change isHS dA b w lo n Hs SL at hhs
  change isScr dA b w 32 nc C at hsc
  have hP := hp1.ok
  have hn6 := HS_le hhs
  have hnc := hsc.2.2.1
  obtain ⟨hPw, hPn, hPW, hPN, hPS⟩ := id hP
  refine lv_aload_n hx hb dX6_remove_0 rfl (lv_at hl 0 rfl) ?_
  refine q_get hx hb hts hinX6 hown hG hW hs0 rfl 2 (by decide) (hts (.fieldLink RX6 23 "FoleyMixer" "now" "LFoleyMixer$Play;") (List.mem_of_getElem? (i := 1) rfl)) rfl rfl dX6_remove_1 ?_
  refine lv_iload_n hx hb dX6_remove_4 rfl (lv_at hl 1 rfl) ?_
  refine q_R1 (va_runVN (As := [.int (nI 0)]) (rest := []) ⟨hx, hb, hml, hown, hts⟩ (c_cuesOf_f l hp1) ⟨(va_cnB 1 hts gX6_remove_X4_cuesOf_n71 rfl rfl rfl (hG.nest 33 rfl) (hts (.initialized RX4) (List.mem_of_getElem? (i := 4) rfl)) (by decide +kernel) ⟨Nat.le_of_ble_eq_true rfl, Nat.le_of_ble_eq_true rfl⟩), (hts (.instanceMethod yX4_cuesOf) (List.mem_of_getElem? (i := 3) rfl)), (hts (.selects RX4 yX4_cuesOf yX4_cuesOf) (List.mem_of_getElem? (i := 5) rfl))⟩ (q_preV hG hW hS (hp1).1 rfl) rfl rfl hl.1 rfl (lv_room (Nat.le_of_ble_eq_true rfl)) dX6_remove_5 ⟨Nat.le_of_ble_eq_true rfl, Nat.le_of_ble_eq_true rfl⟩) ?_
  refine lv_astore_n (lv' := [(3, .ref (b + (2 + 3))), (0, .ref (b + 0)), (1, .int (nI 0)), (2, .int (x))]) hx hb dX6_remove_8 rfl hl (by decide) rfl (fun ls hl => ?_)
  refine lv_aload_n hx hb dX6_remove_9 rfl (lv_at hl 0 rfl) ?_
  refine lv_iload_n hx hb dX6_remove_10 rfl (lv_at hl 3 rfl) ?_
  refine q_X0 (vx_runS (As := [.ref (b + (2 + 3)), .int (x)]) (rest := []) ⟨hx, hb, hml, hown, hts⟩ (c_X6_checkNumber l hl0 (hp1).2.2.1 (x)) (va_cwS 2 hts gX6_remove_X6_checkNumber rfl rfl rfl (by decide +kernel) ⟨Nat.le_of_ble_eq_true rfl, Nat.le_of_ble_eq_true rfl⟩) (q_preS hG hW hS) rfl rfl hl.1 rfl (lv_room (Nat.le_of_ble_eq_true rfl)) dX6_remove_11 ⟨Nat.le_of_ble_eq_true rfl, Nat.le_of_ble_eq_true rfl⟩) hS (fun E9 w9 H9 L9 q9 ce9 hpx hW9 hS9 hce hcv hcl => q_prop hxt hlocks hW9 hS9 hce hcv hcl (by exact hpx) (Nat.le_of_ble_eq_true rfl) (Nat.le_of_ble_eq_true rfl)) (fun w_11 H locs hp11 hW hS => ?_)
  obtain ⟨ho11, hw9⟩ := hp11
  replace hw9 := hw9.symm
  subst hw9
  obtain ⟨ex9, bx9⟩ := has_n (by omega) ho11.1 ho11.2
  have el_14 : x = nI (i32n x) := by exact ex9
  rw [el_14] at hl
  refine lv_aload_n hx hb dX6_remove_14 rfl (lv_at hl 1 rfl) ?_
  refine q_get hx hb hts hinX6 hown hG hW hs0 rfl 4 (by decide) (hts (.fieldLink RX6 32 "FoleyMixer" "history" "LFoleyMixer$History;") (List.mem_of_getElem? (i := 2) rfl)) rfl rfl dX6_remove_15 ?_
  refine lv_aload_n hx hb dX6_remove_18 rfl (lv_at hl 1 rfl) ?_
  refine q_get hx hb hts hinX6 hown hG hW hs0 rfl 2 (by decide) (hts (.fieldLink RX6 23 "FoleyMixer" "now" "LFoleyMixer$Play;") (List.mem_of_getElem? (i := 1) rfl)) rfl rfl dX6_remove_19 ?_
  obtain ⟨mh9, a9, H9, gz9, hh9, hv2, hv3, hv4, hv5, hv6⟩ := id hhs
  refine q_W0 (va_runVN (As := [.ref (b + 2)]) (rest := []) ⟨hx, hb, hml, hown, hts⟩ (c_X2_push l hh9 hp1 (by omega) (by omega) (by omega) hex (by omega)) ⟨(va_cnB 1 hts gX6_remove_X2_push_n79 rfl rfl rfl (hG.nest 61 rfl) (hts (.initialized RX2) (List.mem_of_getElem? (i := 21) rfl)) (by decide +kernel) ⟨Nat.le_of_ble_eq_true rfl, Nat.le_of_ble_eq_true rfl⟩), (hts (.instanceMethod yX2_push) (List.mem_of_getElem? (i := 20) rfl)), (hts (.selects RX2 yX2_push yX2_push) (List.mem_of_getElem? (i := 22) rfl))⟩ (q_preV hG hW hS hh9.1 rfl) rfl rfl hl.1 rfl (lv_room (Nat.le_of_ble_eq_true rfl)) dX6_remove_22 ⟨Nat.le_of_ble_eq_true rfl, Nat.le_of_ble_eq_true rfl⟩) hS (fun w_22 H locs hp22 hW hS => ?_)
  replace hp22 := HS_push (by omega) hv2 hv3 hv4 hv5 hv6 (HS_le hhs) hp22
  obtain ⟨hhs, fr22⟩ := hp22
  replace hs0 : w_22 0 = some (sysO b) := (fr22 _ (by omega)).trans hs0
  replace hp1 : isPlay dA b w_22 2 P := hp1.fr (fun id9 h7 h8 => fr22 id9 (by omega))
  replace hbk : isBk dA b w_22 := hbk.fr (fun id9 h7 h8 => (fr22 id9 (by omega)))
  replace hsc : isScr dA b w_22 32 nc C := hsc.fr (fr22 _ (by omega)) (fr22 _ (by omega))
  replace hrd : ∃ R : Rd, isRdr dA b w_22 34 R := rdr_fr hrd (fun id9 h7 h8 => (fr22 id9 (by omega)))
  replace hex : ∃ e : va_E, w_22 (lo - 1) = some e := exw_fr hex (fr22 _ (by omega))
  obtain ⟨hq0, hq1, hq3, hoS, hq5⟩ := id hp1
  refine lv_aload_n hx hb dX6_remove_25 rfl (lv_at hl 0 rfl) ?_
  refine lv_iload_n hx hb dX6_remove_26 rfl (lv_at hl 3 rfl) ?_
  refine q_W0 (va_runVN (As := [.int (nI (i32n x))]) (rest := []) ⟨hx, hb, hml, hown, hts⟩ (c_X1_drop l hq3 (i32n x) (by omega)) ⟨(va_cnB 1 hts gX6_remove_X1_drop_n83 rfl rfl rfl (hG.nest 66 rfl) (hts (.initialized RX1) (List.mem_of_getElem? (i := 16) rfl)) (by decide +kernel) ⟨Nat.le_of_ble_eq_true rfl, Nat.le_of_ble_eq_true rfl⟩), (hts (.instanceMethod yX1_drop) (List.mem_of_getElem? (i := 60) rfl)), (hts (.selects RX1 yX1_drop yX1_drop) (List.mem_of_getElem? (i := 61) rfl))⟩ (q_preV hG hW hS (isCues.obj (hp1).2.2.1) rfl) rfl rfl hl.1 rfl (lv_room (Nat.le_of_ble_eq_true rfl)) dX6_remove_27 ⟨Nat.le_of_ble_eq_true rfl, Nat.le_of_ble_eq_true rfl⟩) hS (fun w_27 H locs hp27 hW hS => ?_)
  obtain ⟨hq3, fr27⟩ := hp27
  replace hs0 : w_27 0 = some (sysO b) := (fr27 _ (by omega) (by omega)).trans hs0
  replace hbk : isBk dA b w_27 := hbk.fr (fun id9 h7 h8 => (fr27 id9 (by omega) (by omega)))
  replace hsc : isScr dA b w_27 32 nc C := hsc.fr (fr27 _ (by omega) (by omega)) (fr27 _ (by omega) (by omega))
  replace hrd : ∃ R : Rd, isRdr dA b w_27 34 R := rdr_fr hrd (fun id9 h7 h8 => (fr27 id9 (by omega) (by omega)))
  replace hex : ∃ e : va_E, w_27 (lo - 1) = some e := exw_fr hex (fr27 _ (by omega) (by omega))
  replace hhs : isHS dA b w_27 lo (pshN n) (psh n Hs P) SL := hhs.fr (fun id9 h7 => (fr27 id9 (by omega) (by omega)))
  replace hq0 : w_27 2 = some (.inr (4, [.ref (b + (2 + 1)), .ref (b + (2 + 3)), .ref (b + (2 + 5))])) := (fr27 _ (by omega) (by omega)).trans hq0
  replace hq1 : isCues dA b w_27 (2 + 1) 10 P.w P.W := hq1.fr (fr27 _ (by omega) (by omega)) (fr27 _ (by omega) (by omega))
  replace hq5 : w_27 (2 + 5) = some (eN dA 5 P.S) := (fr27 _ (by omega) (by omega)).trans hq5
  refine lv_aload_n hx hb dX6_remove_30 rfl (lv_at hl 0 rfl) ?_
  refine q_R1 (va_runVN (As := []) (rest := []) ⟨hx, hb, hml, hown, hts⟩ (c_X1_size l hq3) ⟨(va_cnB 0 hts gX6_remove_X1_size_n89 rfl rfl rfl (hG.nest 34 rfl) (hts (.initialized RX1) (List.mem_of_getElem? (i := 16) rfl)) (by decide +kernel) ⟨Nat.le_of_ble_eq_true rfl, Nat.le_of_ble_eq_true rfl⟩), (hts (.instanceMethod yX1_size) (List.mem_of_getElem? (i := 68) rfl)), (hts (.selects RX1 yX1_size yX1_size) (List.mem_of_getElem? (i := 69) rfl))⟩ (q_preV hG hW hS (isCues.obj hq3) rfl) rfl rfl hl.1 rfl (lv_room (Nat.le_of_ble_eq_true rfl)) dX6_remove_31 ⟨Nat.le_of_ble_eq_true rfl, Nat.le_of_ble_eq_true rfl⟩) ?_
  exact vx_ret (q_wi hx hb hr hlocks hW hS dX6_remove_34 (by rfl) (by exact ⟨ho11, ⟨hs0, ⟨hq0, hq1, hq3, hoS, hq5⟩, hbk, hhs, hsc, hrd, hlo, hex⟩, by intro id h8 h9; rw [fr27 id (by omega) (by omega)]; rw [fr22 id (by omega)]; try rfl⟩) (by decide) (by decide))

