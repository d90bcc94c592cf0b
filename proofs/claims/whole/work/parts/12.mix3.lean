/-- what Integer.bitCount computes -/
def bcx (x : Int32) : Int32 :=
  let i1 := x - ((x.toUInt32 >>> ((nI 1).toUInt32 &&& Int32.toUInt32 31)).toInt32 &&& 1431655765)
  let i2 := (i1 &&& 858993459) + ((i1.toUInt32 >>> ((nI 2).toUInt32 &&& Int32.toUInt32 31)).toInt32 &&& 858993459)
  let i3 := (i2 + (i2.toUInt32 >>> ((nI 4).toUInt32 &&& Int32.toUInt32 31)).toInt32) &&& 252645135
  let i4 := i3 + (i3.toUInt32 >>> ((nI 8).toUInt32 &&& Int32.toUInt32 31)).toInt32
  let i5 := i4 + (i4.toUInt32 >>> ((nI 16).toUInt32 &&& Int32.toUInt32 31)).toInt32
  i5 &&& nI 63
theorem pop_lt : ∀ n, n < 1024 → pop n ≤ 10 := by decide +kernel
theorem bcx_pop : ∀ n, n < 1024 → bcx (nI n) = nI (pop n) := by decide +kernel
theorem gfi_rng (P : Pl) (t : Nat) : ∀ n, gfi P t n = -1 ∨ ∃ j, j < n ∧ gfi P t n = nI j
  | 0 => Or.inl rfl
  | n + 1 => by
    unfold gfi
    by_cases h : snd P.N n t ∧ gst P t n < stg P n t
    · rw [if_pos h]; exact Or.inr ⟨n, by omega, rfl⟩
    · rw [if_neg h]
      rcases gfi_rng P t n with h1 | ⟨j, h1, h2⟩
      · exact Or.inl h1
      · exact Or.inr ⟨j, by omega, h2⟩
/-- the word i is masked in t, as the mask tells -/
abbrev mb (P : Pl) (i t : Nat) : Prop := (mmk P t).testBit i = true
/-- the first masked second of the word i from t on, in d more seconds -/
def fmd (P : Pl) (i : Nat) : Nat → Nat → Int32
  | _, 0 => -1
  | t, d + 1 => if mb P i t then nI t else fmd P i (t + 1) d
/-- the greatest cover of the word i in the first d seconds from s on -/
def gcv (P : Pl) (i s : Nat) : Nat → Nat
  | 0 => 0
  | d + 1 => max (gcv P i s d) (cov P i (s + d))
theorem gcv_le {P : Pl} (h : okP P) (i s : Nat) : ∀ d, gcv P i s d ≤ 140
  | 0 => by simp [gcv]
  | d + 1 => by have := gcv_le h i s d; have := cov_le h i (s + d); unfold gcv; omega
/-- nothing sounds -/
abbrev sil (P : Pl) (t : Nat) : Prop := wmk P.W P.w t = 0 ∧ wmk P.N P.n t = 0
/-- the last second below n in which something sounds -/
def lst (P : Pl) : Nat → Int32
  | 0 => -1
  | t + 1 => if sil P t then lst P t else nI t
theorem lst_rng (P : Pl) : ∀ n, lst P n = -1 ∨ ∃ j, j < n ∧ lst P n = nI j
  | 0 => Or.inl rfl
  | n + 1 => by
    unfold lst
    by_cases h : sil P n
    · rw [if_pos h]
      rcases lst_rng P n with h1 | ⟨j, h1, h2⟩
      · exact Or.inl h1
      · exact Or.inr ⟨j, by omega, h2⟩
    · rw [if_neg h]; exact Or.inr ⟨n, by omega, rfl⟩
/-- how many seconds before the last sound are silent -/
def sls (P : Pl) : Nat := ct (fun t => sil P t) (lst P 120).toInt.toNat
/-- in how many seconds below d some word is masked and the noise n is the strongest -/
def mks (P : Pl) (n : Nat) : Nat → Nat := ct (fun t => gfi P t P.n = nI n ∧ mmk P t ≠ 0)
/-- the noise below n that masks most, and in how many seconds -/
def gmk (P : Pl) : Nat → Int32 × Nat
  | 0 => (-1, 0)
  | n + 1 => if (gmk P n).2 < mks P n 120 then (nI n, mks P n 120) else gmk P n
theorem gmk_le (P : Pl) : ∀ n, (gmk P n).2 ≤ 120
  | 0 => Nat.zero_le _
  | n + 1 => by
    have := gmk_le P n
    have := ct_le (fun t => gfi P t P.n = nI n ∧ mmk P t ≠ 0) 120
    unfold gmk; split
    · exact this
    · assumption
theorem mse_le (P : Pl) (i : Nat) : mse P i ≤ 120 := ct_le _ _
theorem mm_le {P : Pl} (h : okP P) (i : Nat) : sm (fun t => pop (mmk P t)) i ≤ i * 10 := sm_le (fun t _ => pop_lt _ (mmk_lt h t))
theorem und_lt {P : Pl} (h : P.w ≤ 10) : und P < 1024 := Nat.lt_of_lt_of_le (mk_lt _ _) (Nat.pow_le_pow_right (by decide) h)
theorem ct_zero {p : Nat → Prop} [DecidablePred p] : ct p 0 = 0 := rfl
theorem sls_none {P : Pl} (h : lst P 120 = -1) : sls P = 0 := by unfold sls; rw [h]; rfl
theorem sls_some {P : Pl} {j : Nat} (hj : j < 120) (h : lst P 120 = nI j) : sls P = ct (fun t => sil P t) j := by
  unfold sls; rw [h, nI_toInt (by omega)]; rfl
theorem lst_down {P : Pl} {j : Nat} (h : sil P j) : lst P (j + 1) = lst P j := by rw [lst, if_pos h]
theorem lst_here {P : Pl} {j : Nat} (h : ¬ sil P j) : lst P (j + 1) = nI j := by rw [lst, if_neg h]

set_option maxHeartbeats 300000 in
set_option maxRecDepth 100000 in
/-- Mix.maskedSecondsOf(word) -/
theorem c_X3_maskedSecondsOf (l : Launch) {D : va_G} {dA : Nat → Nat} {b : Nat} {w : Wd} {k q : Nat} {P : Pl} (hX : isMix dA b w k q P) (hp : isPlay dA b w q P) (i : Nat) (hi : i < 31) : Met l yX3_maskedSecondsOf wsX3_maskedSecondsOf ({ frames := 1, cells := 0, slots := 0, locals := 21 } : Room) (PC D dA b w [.ref (b + k), .int (nI i)]) (QR (some (.int (nI (mse P i))))) 0 0 Fno := by
  refine q_of (cc := cX3_maskedSecondsOf) (maxL := 4) (ret := (some .int)) (by decide) rfl rfl ?_
  intro p e s m args below meth c ls hx hb hr hml hts hown hlocks hG hW hS hl
  have hown : s.vm.findClass RX3 = some m.cls := hown
  have hinX3 : ∀ w ∈ u_ws RX3 TX3 8, w ∈ wsX3_maskedSecondsOf := fun w h => (goodIn_r (big := wsX3_maskedSecondsOf) (u_ws RX3 TX3 8) [7, 8, 9, 10, 11, 12, 13, 14] (by decide +kernel) (by decide +kernel) w h).1
  have hl : lv_has ls 4 [(0, .ref (b + k)), (1, .int (nI i))] := hl
  have hoP := hp.ok
  have hoS := hoP.2.2.2.2
  have ho10 := hoP.1
  have ho12 := hoP.2.1
  unfold okS at hoS
  obtain ⟨hm0, hm1, hm2, hm3, hm4, hm5, hm6, hm7⟩ := id hX
  refine lv_iconst (v := nI 0) hx hb dX3_maskedSecondsOf_0 (by decide) ?_
  refine lv_istore_n (lv' := [(2, .int (nI 0)), (0, .ref (b + k)), (1, .int (nI i))]) hx hb dX3_maskedSecondsOf_1 rfl hl (by decide) rfl (fun ls hl => ?_)
  refine lv_iconst (v := nI 0) hx hb dX3_maskedSecondsOf_2 (by decide) ?_
  refine lv_istore_n (lv' := [(3, .int (nI 0)), (2, .int (nI 0)), (0, .ref (b + k)), (1, .int (nI i))]) hx hb dX3_maskedSecondsOf_3 rfl hl (by decide) rfl (fun ls hl => ?_)
  have L4 : ∀ (n4 : Nat) (j : Nat), j ≤ 120 → 120 - j < n4 → ∀ (x4_2 : Int32) (x4_3 : Int32), x4_2 = nI (ct (fun t => mb P i t) j) → x4_3 = nI (j) → ∀ (ls : Array Slot), lv_has ls 4 [(0, .ref (b + k)), (1, .int (nI i)), (2, .int x4_2), (3, .int x4_3)] → W p l e ({ frames := 1, cells := 0, slots := 0, locals := 21 } : Room) s m args below meth c s.heap [] 0 0 (MQ below (QR (some (.int (nI (mse P i))))) args s 0 0 Fno) (F0 m 4 ls []) := by
    intro n4
    induction n4 with
    | zero =>
      intro j hj0 hn4 x4_2 x4_3 ex4_2 ex4_3 ls hl
      exact absurd hn4 (Nat.not_lt_zero _)
    | succ n4 ih4 =>
      intro j hj0 hn4 x4_2 x4_3 ex4_2 ex4_3 ls hl
      subst ex4_2 ex4_3
      have hmm := mmk_lt hoP j
      refine lv_iload_n hx hb dX3_maskedSecondsOf_4 rfl (lv_at hl 3 rfl) ?_
      refine lv_bipush (v := nI 120) hx hb dX3_maskedSecondsOf_5 (by decide) ?_
      refine lv_icmp_ge (tgt := 34) hx hb dX3_maskedSecondsOf_7 (by decide) (fun c_7 => ?_) (fun c_7 => ?_)
      · skip
        have c_7 : 120 ≤ j := (nI_leI (a := 120) (b := j) (by omega) (by omega)).mp c_7
        refine lv_iload_n hx hb dX3_maskedSecondsOf_34 rfl (lv_at hl 2 rfl) ?_
        exact q_ri hx hb hr hlocks dX3_maskedSecondsOf_35 (by rw [show j = 120 by omega]; rfl)
      · skip
        have c_7 : ¬ (120 ≤ j) := fun h__ => c_7 ((nI_leI (a := 120) (b := j) (by omega) (by omega)).mpr h__)
        refine lv_aload_n hx hb dX3_maskedSecondsOf_10 rfl (lv_at hl 0 rfl) ?_
        refine q_get hx hb hts hinX3 hown hG hW hm0 rfl 7 (by decide) (hts (.fieldLink RX3 37 "FoleyMixer$Mix" "masked" "[I") (List.mem_of_getElem? (i := 1) rfl)) rfl rfl dX3_maskedSecondsOf_11 ?_
        refine lv_iload_n hx hb dX3_maskedSecondsOf_14 rfl (lv_at hl 3 rfl) ?_
        refine q_R1 (va_runSN (As := [.ref (b + (k + 13)), .int (nI j)]) (rest := []) ⟨hx, hb, hml, hown, hts⟩ (c_entry_in l (RD.own hm7 (by decide)) (by decide) (j) (by omega)) ⟨(va_cnB 2 hts gX3_maskedSecondsOf_X6_entry_n61 rfl rfl rfl (hG.nest 49 rfl) (hts (.initialized RX6) (List.mem_of_getElem? (i := 3) rfl)) (by decide +kernel) ⟨Nat.le_of_ble_eq_true rfl, Nat.le_of_ble_eq_true rfl⟩), (hts (.static yX6_entry) (List.mem_of_getElem? (i := 2) rfl)), trivial⟩ (q_preS hG hW hS) rfl rfl hl.1 rfl (lv_room (Nat.le_of_ble_eq_true rfl)) dX3_maskedSecondsOf_15 ⟨Nat.le_of_ble_eq_true rfl, Nat.le_of_ble_eq_true rfl⟩) ?_
        refine lv_iload_n hx hb dX3_maskedSecondsOf_18 rfl (lv_at hl 1 rfl) ?_
        refine q_R1 (va_runSN (As := [.int (nI ((mmk P) j)), .int (nI i)]) (rest := []) ⟨hx, hb, hml, hown, hts⟩ (c_X6_hasBit l ((mmk P) j) (i) (by omega) (by omega)) ⟨(va_cnB 2 hts gX3_maskedSecondsOf_X6_hasBit_n90 rfl rfl rfl (hG.nest 53 rfl) (hts (.initialized RX6) (List.mem_of_getElem? (i := 3) rfl)) (by decide +kernel) ⟨Nat.le_of_ble_eq_true rfl, Nat.le_of_ble_eq_true rfl⟩), (hts (.static yX6_hasBit) (List.mem_of_getElem? (i := 5) rfl)), trivial⟩ (q_preS hG hW hS) rfl rfl hl.1 rfl (lv_room (Nat.le_of_ble_eq_true rfl)) dX3_maskedSecondsOf_19 ⟨Nat.le_of_ble_eq_true rfl, Nat.le_of_ble_eq_true rfl⟩) ?_
        refine lv_if_eq (tgt := 28) hx hb dX3_maskedSecondsOf_22 (by decide) (fun c_22 => ?_) (fun c_22 => ?_)
        · skip
          have c_22 : ¬ (((mmk P) j).testBit i = true) := pI_eq0.mp c_22
          refine lv_iinc (v := nI (j + 1)) (lv' := [(3, .int (nI (j + 1))), (0, .ref (b + k)), (1, .int (nI i)), (2, .int (nI (ct (fun t => mb P i t) j)))]) hx hb dX3_maskedSecondsOf_28 hl (k := 3) rfl (nI_add _ 1) (by decide) rfl (fun ls hl => ?_)
          refine lv_goto (tgt := 4) hx hb dX3_maskedSecondsOf_31 (by decide) ?_
          exact ih4 (j + 1) (by omega) (by omega) _ _ (by refine congrArg nI ?_; (try unfold mse); rw [ct]; first | (rw [if_pos (by assumption)]; done) | (rw [if_neg (by assumption)]; done)) (by first | rfl | (congr 1; omega)) _ (lv_sub hl [1, 2, 3, 0] rfl)
        · skip
          have c_22 : ((mmk P) j).testBit i = true := Decidable.byContradiction (fun h__ => c_22 (pI_eq0.mpr h__))
          refine lv_iinc (v := nI ((ct (fun t => mb P i t) j) + 1)) (lv' := [(2, .int (nI ((ct (fun t => mb P i t) j) + 1))), (0, .ref (b + k)), (1, .int (nI i)), (3, .int (nI j))]) hx hb dX3_maskedSecondsOf_25 hl (k := 2) rfl (nI_add _ 1) (by decide) rfl (fun ls hl => ?_)
          refine lv_iinc (v := nI (j + 1)) (lv' := [(3, .int (nI (j + 1))), (2, .int (nI ((ct (fun t => mb P i t) j) + 1))), (0, .ref (b + k)), (1, .int (nI i))]) hx hb dX3_maskedSecondsOf_28 hl (k := 3) rfl (nI_add _ 1) (by decide) rfl (fun ls hl => ?_)
          refine lv_goto (tgt := 4) hx hb dX3_maskedSecondsOf_31 (by decide) ?_
          exact ih4 (j + 1) (by omega) (by omega) _ _ (by refine congrArg nI ?_; (try unfold mse); rw [ct]; first | (rw [if_pos (by assumption)]; done) | (rw [if_neg (by assumption)]; done)) (by first | rfl | (congr 1; omega)) _ (lv_sub hl [2, 3, 1, 0] rfl)
  exact L4 ((120 - 0) + 1) 0 (by omega) (Nat.lt_succ_self _) _ _ (by first | rfl | (congr 1; omega)) (by first | rfl | (congr 1; omega)) _ (lv_sub hl [2, 3, 1, 0] rfl)

set_option maxHeartbeats 300000 in
set_option maxRecDepth 100000 in
/-- Mix.firstMaskedOf(word) -/
theorem c_X3_firstMaskedOf (l : Launch) {D : va_G} {dA : Nat → Nat} {b : Nat} {w : Wd} {k q : Nat} {P : Pl} (hX : isMix dA b w k q P) (hp : isPlay dA b w q P) (i : Nat) (hi : i < 31) : Met l yX3_firstMaskedOf wsX3_firstMaskedOf ({ frames := 1, cells := 0, slots := 0, locals := 21 } : Room) (PC D dA b w [.ref (b + k), .int (nI i)]) (QR (some (.int (fmd P i 0 120)))) 0 0 Fno := by
  refine q_of (cc := cX3_firstMaskedOf) (maxL := 3) (ret := (some .int)) (by decide) rfl rfl ?_
  intro p e s m args below meth c ls hx hb hr hml hts hown hlocks hG hW hS hl
  have hown : s.vm.findClass RX3 = some m.cls := hown
  have hinX3 : ∀ w ∈ u_ws RX3 TX3 8, w ∈ wsX3_firstMaskedOf := fun w h => (goodIn_r (big := wsX3_firstMaskedOf) (u_ws RX3 TX3 8) [7, 8, 9, 10, 11, 12, 13, 14] (by decide +kernel) (by decide +kernel) w h).1
  have hl : lv_has ls 3 [(0, .ref (b + k)), (1, .int (nI i))] := hl
  have hoP := hp.ok
  have hoS := hoP.2.2.2.2
  have ho10 := hoP.1
  have ho12 := hoP.2.1
  unfold okS at hoS
  obtain ⟨hm0, hm1, hm2, hm3, hm4, hm5, hm6, hm7⟩ := id hX
  refine lv_iconst (v := nI 0) hx hb dX3_firstMaskedOf_0 (by decide) ?_
  refine lv_istore_n (lv' := [(2, .int (nI 0)), (0, .ref (b + k)), (1, .int (nI i))]) hx hb dX3_firstMaskedOf_1 rfl hl (by decide) rfl (fun ls hl => ?_)
  have L2 : ∀ (n2 : Nat) (j : Nat), j ≤ 120 → fmd P i 0 120 = fmd P i j (120 - j) → 120 - j < n2 → ∀ (x2_2 : Int32), x2_2 = nI (j) → ∀ (ls : Array Slot), lv_has ls 3 [(0, .ref (b + k)), (1, .int (nI i)), (2, .int x2_2)] → W p l e ({ frames := 1, cells := 0, slots := 0, locals := 21 } : Room) s m args below meth c s.heap [] 0 0 (MQ below (QR (some (.int (fmd P i 0 120)))) args s 0 0 Fno) (F0 m 2 ls []) := by
    intro n2
    induction n2 with
    | zero =>
      intro j hj0 hj1 hn2 x2_2 ex2_2 ls hl
      exact absurd hn2 (Nat.not_lt_zero _)
    | succ n2 ih2 =>
      intro j hj0 hj1 hn2 x2_2 ex2_2 ls hl
      subst ex2_2
      have hmm := mmk_lt hoP j
      refine lv_iload_n hx hb dX3_firstMaskedOf_2 rfl (lv_at hl 2 rfl) ?_
      refine lv_bipush (v := nI 120) hx hb dX3_firstMaskedOf_3 (by decide) ?_
      refine lv_icmp_ge (tgt := 31) hx hb dX3_firstMaskedOf_5 (by decide) (fun c_5 => ?_) (fun c_5 => ?_)
      · skip
        have c_5 : 120 ≤ j := (nI_leI (a := 120) (b := j) (by omega) (by omega)).mp c_5
        refine lv_iconst (v := (-1)) hx hb dX3_firstMaskedOf_31 (by decide) ?_
        exact q_ri hx hb hr hlocks dX3_firstMaskedOf_32 (by rw [hj1, show j = 120 by omega]; rfl)
      · skip
        have c_5 : ¬ (120 ≤ j) := fun h__ => c_5 ((nI_leI (a := 120) (b := j) (by omega) (by omega)).mpr h__)
        refine lv_aload_n hx hb dX3_firstMaskedOf_8 rfl (lv_at hl 0 rfl) ?_
        refine q_get hx hb hts hinX3 hown hG hW hm0 rfl 7 (by decide) (hts (.fieldLink RX3 37 "FoleyMixer$Mix" "masked" "[I") (List.mem_of_getElem? (i := 1) rfl)) rfl rfl dX3_firstMaskedOf_9 ?_
        refine lv_iload_n hx hb dX3_firstMaskedOf_12 rfl (lv_at hl 2 rfl) ?_
        refine q_R1 (va_runSN (As := [.ref (b + (k + 13)), .int (nI j)]) (rest := []) ⟨hx, hb, hml, hown, hts⟩ (c_entry_in l (RD.own hm7 (by decide)) (by decide) (j) (by omega)) ⟨(va_cnB 2 hts gX3_firstMaskedOf_X6_entry_n61 rfl rfl rfl (hG.nest 49 rfl) (hts (.initialized RX6) (List.mem_of_getElem? (i := 3) rfl)) (by decide +kernel) ⟨Nat.le_of_ble_eq_true rfl, Nat.le_of_ble_eq_true rfl⟩), (hts (.static yX6_entry) (List.mem_of_getElem? (i := 2) rfl)), trivial⟩ (q_preS hG hW hS) rfl rfl hl.1 rfl (lv_room (Nat.le_of_ble_eq_true rfl)) dX3_firstMaskedOf_13 ⟨Nat.le_of_ble_eq_true rfl, Nat.le_of_ble_eq_true rfl⟩) ?_
        refine lv_iload_n hx hb dX3_firstMaskedOf_16 rfl (lv_at hl 1 rfl) ?_
        refine q_R1 (va_runSN (As := [.int (nI ((mmk P) j)), .int (nI i)]) (rest := []) ⟨hx, hb, hml, hown, hts⟩ (c_X6_hasBit l ((mmk P) j) (i) (by omega) (by omega)) ⟨(va_cnB 2 hts gX3_firstMaskedOf_X6_hasBit_n90 rfl rfl rfl (hG.nest 53 rfl) (hts (.initialized RX6) (List.mem_of_getElem? (i := 3) rfl)) (by decide +kernel) ⟨Nat.le_of_ble_eq_true rfl, Nat.le_of_ble_eq_true rfl⟩), (hts (.static yX6_hasBit) (List.mem_of_getElem? (i := 5) rfl)), trivial⟩ (q_preS hG hW hS) rfl rfl hl.1 rfl (lv_room (Nat.le_of_ble_eq_true rfl)) dX3_firstMaskedOf_17 ⟨Nat.le_of_ble_eq_true rfl, Nat.le_of_ble_eq_true rfl⟩) ?_
        refine lv_if_eq (tgt := 25) hx hb dX3_firstMaskedOf_20 (by decide) (fun c_20 => ?_) (fun c_20 => ?_)
        · skip
          have c_20 : ¬ (((mmk P) j).testBit i = true) := pI_eq0.mp c_20
          refine lv_iinc (v := nI (j + 1)) (lv' := [(2, .int (nI (j + 1))), (0, .ref (b + k)), (1, .int (nI i))]) hx hb dX3_firstMaskedOf_25 hl (k := 2) rfl (nI_add _ 1) (by decide) rfl (fun ls hl => ?_)
          refine lv_goto (tgt := 2) hx hb dX3_firstMaskedOf_28 (by decide) ?_
          exact ih2 (j + 1) (by omega) (by first | rfl | (rw [hj1, show 120 - j = (120 - (j + 1)) + 1 by omega, fmd, if_neg c_20])) (by omega) _ (by first | rfl | (congr 1; omega)) _ (lv_sub hl [1, 2, 0] rfl)
        · skip
          have c_20 : ((mmk P) j).testBit i = true := Decidable.byContradiction (fun h__ => c_20 (pI_eq0.mpr h__))
          refine lv_iload_n hx hb dX3_firstMaskedOf_23 rfl (lv_at hl 2 rfl) ?_
          exact q_ri hx hb hr hlocks dX3_firstMaskedOf_24 (by rw [hj1, show 120 - j = (120 - (j + 1)) + 1 by omega, fmd, if_pos c_20])
  exact L2 ((120 - 0) + 1) 0 (by omega) (by first | rfl | (rw [hj1, show 120 - j = (120 - (j + 1)) + 1 by omega, fmd, if_neg c_20])) (Nat.lt_succ_self _) _ (by first | rfl | (congr 1; omega)) _ (lv_sub hl [1, 2, 0] rfl)

set_option maxHeartbeats 300000 in
set_option maxRecDepth 100000 in
/-- Mix.isUnderstood(word) -/
theorem c_X3_isUnderstood (l : Launch) {D : va_G} {dA : Nat → Nat} {b : Nat} {w : Wd} {k q : Nat} {P : Pl} (hX : isMix dA b w k q P) (hp : isPlay dA b w q P) (i : Nat) (hi : i < 31) : Met l yX3_isUnderstood wsX3_isUnderstood ({ frames := 2, cells := 0, slots := 0, locals := 44 } : Room) (PC D dA b w [.ref (b + k), .int (nI i)]) (QR (some (.int (if mse P i ≤ P.S 4 then 1 else 0)))) 0 0 Fno := by
  refine q_of (cc := cX3_isUnderstood) (maxL := 2) (ret := (some .boolean)) (by decide) rfl rfl ?_
  intro p e s m args below meth c ls hx hb hr hml hts hown hlocks hG hW hS hl
  have hown : s.vm.findClass RX3 = some m.cls := hown
  have hinX3 : ∀ w ∈ u_ws RX3 TX3 8, w ∈ wsX3_isUnderstood := fun w h => (goodIn_r (big := wsX3_isUnderstood) (u_ws RX3 TX3 8) [18, 19, 20, 21, 22, 23, 24, 25] (by decide +kernel) (by decide +kernel) w h).1
  have hl : lv_has ls 2 [(0, .ref (b + k)), (1, .int (nI i))] := hl
  have hoP := hp.ok
  have hoS := hoP.2.2.2.2
  have ho10 := hoP.1
  have ho12 := hoP.2.1
  unfold okS at hoS
  obtain ⟨hm0, hm1, hm2, hm3, hm4, hm5, hm6, hm7⟩ := id hX
  refine lv_aload_n hx hb dX3_isUnderstood_0 rfl (lv_at hl 0 rfl) ?_
  refine lv_iload_n hx hb dX3_isUnderstood_1 rfl (lv_at hl 1 rfl) ?_
  refine q_R1 (va_runV (As := [.int (nI i)]) (rest := []) ⟨hx, hb, hml, hown, hts⟩ (c_X3_maskedSecondsOf l hX hp (i) (by omega)) (cwV 1 hts gX3_isUnderstood_X3_maskedSecondsOf rfl rfl rfl (by decide +kernel) ⟨Nat.le_of_ble_eq_true rfl, Nat.le_of_ble_eq_true rfl⟩) (q_preV hG hW hS hm0 rfl) rfl rfl hl.1 rfl (lv_room (Nat.le_of_ble_eq_true rfl)) dX3_isUnderstood_2 ⟨Nat.le_of_ble_eq_true rfl, Nat.le_of_ble_eq_true rfl⟩) ?_
  have q_2 := mse_le P i
  refine lv_aload_n hx hb dX3_isUnderstood_5 rfl (lv_at hl 0 rfl) ?_
  refine q_get hx hb hts hinX3 hown hG hW hm0 rfl 0 (by decide) (hts (.fieldLink RX3 12 "FoleyMixer$Mix" "play" "LFoleyMixer$Play;") (List.mem_of_getElem? (i := 1) rfl)) rfl rfl dX3_isUnderstood_6 ?_
  refine lv_iconst (v := nI 4) hx hb dX3_isUnderstood_9 (by decide) ?_
  refine q_R1 (va_runVN (As := [.int (nI 4)]) (rest := [.int (nI (mse P i))]) ⟨hx, hb, hml, hown, hts⟩ (c_X4_settingOf l hp (4) (by omega)) ⟨(va_cnB 1 hts gX3_isUnderstood_X4_settingOf_n65 rfl rfl rfl (hG.nest 50 rfl) (hts (.initialized RX4) (List.mem_of_getElem? (i := 14) rfl)) (by decide +kernel) ⟨Nat.le_of_ble_eq_true rfl, Nat.le_of_ble_eq_true rfl⟩), (hts (.instanceMethod yX4_settingOf) (List.mem_of_getElem? (i := 13) rfl)), (hts (.selects RX4 yX4_settingOf yX4_settingOf) (List.mem_of_getElem? (i := 15) rfl))⟩ (q_preV hG hW hS (hp).1 rfl) rfl rfl hl.1 rfl (lv_room (Nat.le_of_ble_eq_true rfl)) dX3_isUnderstood_10 ⟨Nat.le_of_ble_eq_true rfl, Nat.le_of_ble_eq_true rfl⟩) ?_
  refine lv_icmp_gt (tgt := 20) hx hb dX3_isUnderstood_13 (by decide) (fun c_13 => ?_) (fun c_13 => ?_)
  · skip
    have c_13 : P.S 4 < mse P i := (nI_ltI (a := P.S 4) (b := mse P i) (by omega) (by omega)).mp c_13
    refine lv_iconst (v := nI 0) hx hb dX3_isUnderstood_20 (by decide) ?_
    exact q_rz hx hb hr hlocks dX3_isUnderstood_21 (by first | rfl | (rw [if_pos (by omega)]; rfl) | (rw [if_neg (by omega)]; rfl)) (q_bn _)
  · skip
    have c_13 : ¬ (P.S 4 < mse P i) := fun h__ => c_13 ((nI_ltI (a := P.S 4) (b := mse P i) (by omega) (by omega)).mpr h__)
    refine lv_iconst (v := nI 1) hx hb dX3_isUnderstood_16 (by decide) ?_
    refine lv_goto (tgt := 21) hx hb dX3_isUnderstood_17 (by decide) ?_
    exact q_rz hx hb hr hlocks dX3_isUnderstood_21 (by first | rfl | (rw [if_pos (by omega)]; rfl) | (rw [if_neg (by omega)]; rfl)) (q_bn _)

set_option maxHeartbeats 300000 in
set_option maxRecDepth 100000 in
/-- Mix.understood() -/
theorem c_X3_understood (l : Launch) {D : va_G} {dA : Nat → Nat} {b : Nat} {w : Wd} {k q : Nat} {P : Pl} (hX : isMix dA b w k q P) (hp : isPlay dA b w q P) : Met l yX3_understood wsX3_understood ({ frames := 3, cells := 0, slots := 0, locals := 65 } : Room) (PC D dA b w [.ref (b + k)]) (QR (some (.int (nI (und P))))) 0 0 Fno := by
  refine q_of (cc := cX3_understood) (maxL := 3) (ret := (some .int)) (by decide) rfl rfl ?_
  intro p e s m args below meth c ls hx hb hr hml hts hown hlocks hG hW hS hl
  have hown : s.vm.findClass RX3 = some m.cls := hown
  have hinX3 : ∀ w ∈ u_ws RX3 TX3 8, w ∈ wsX3_understood := fun w h => (goodIn_r (big := wsX3_understood) (u_ws RX3 TX3 8) [27, 28, 29, 30, 31, 32, 33, 34] (by decide +kernel) (by decide +kernel) w h).1
  have hinX4 : ∀ w ∈ u_ws RX4 TX4 3, w ∈ wsX3_understood := fun w h => (goodIn_r (big := wsX3_understood) (u_ws RX4 TX4 3) [35, 36, 37] (by decide +kernel) (by decide +kernel) w h).1
  have hl : lv_has ls 3 [(0, .ref (b + k))] := hl
  have hoP := hp.ok
  have hoS := hoP.2.2.2.2
  have ho10 := hoP.1
  have ho12 := hoP.2.1
  unfold okS at hoS
  obtain ⟨hm0, hm1, hm2, hm3, hm4, hm5, hm6, hm7⟩ := id hX
  refine lv_iconst (v := nI 0) hx hb dX3_understood_0 (by decide) ?_
  refine lv_istore_n (lv' := [(1, .int (nI 0)), (0, .ref (b + k))]) hx hb dX3_understood_1 rfl hl (by decide) rfl (fun ls hl => ?_)
  refine lv_iconst (v := nI 0) hx hb dX3_understood_2 (by decide) ?_
  refine lv_istore_n (lv' := [(2, .int (nI 0)), (1, .int (nI 0)), (0, .ref (b + k))]) hx hb dX3_understood_3 rfl hl (by decide) rfl (fun ls hl => ?_)
  have L4 : ∀ (n4 : Nat) (j : Nat), j ≤ P.w → P.w - j < n4 → ∀ (x4_1 : Int32) (x4_2 : Int32), x4_1 = nI (mk (fun i => mse P i ≤ P.S 4) j) → x4_2 = nI (j) → ∀ (ls : Array Slot), lv_has ls 3 [(0, .ref (b + k)), (1, .int x4_1), (2, .int x4_2)] → W p l e ({ frames := 3, cells := 0, slots := 0, locals := 65 } : Room) s m args below meth c s.heap [] 0 0 (MQ below (QR (some (.int (nI (und P))))) args s 0 0 Fno) (F0 m 4 ls []) := by
    intro n4
    induction n4 with
    | zero =>
      intro j hj0 hn4 x4_1 x4_2 ex4_1 ex4_2 ls hl
      exact absurd hn4 (Nat.not_lt_zero _)
    | succ n4 ih4 =>
      intro j hj0 hn4 x4_1 x4_2 ex4_1 ex4_2 ls hl
      subst ex4_1 ex4_2
      refine lv_iload_n hx hb dX3_understood_4 rfl (lv_at hl 2 rfl) ?_
      refine lv_aload_n hx hb dX3_understood_5 rfl (lv_at hl 0 rfl) ?_
      refine q_get hx hb hts hinX3 hown hG hW hm0 rfl 0 (by decide) (hts (.fieldLink RX3 12 "FoleyMixer$Mix" "play" "LFoleyMixer$Play;") (List.mem_of_getElem? (i := 1) rfl)) rfl rfl dX3_understood_6 ?_
      refine q_getN hx hb hts hinX4 hown hG hW (hp).1 rfl 0 (by decide) (hG.nest 10 rfl) rfl rfl dX3_understood_9 ?_
      refine q_R1 (va_runVN (As := []) (rest := [.int (nI j)]) ⟨hx, hb, hml, hown, hts⟩ (c_X1_size l (hp).2.1) ⟨(va_cnB 0 hts gX3_understood_X1_size_n86 rfl rfl rfl (hG.nest 52 rfl) (hts (.initialized RX1) (List.mem_of_getElem? (i := 3) rfl)) (by decide +kernel) ⟨Nat.le_of_ble_eq_true rfl, Nat.le_of_ble_eq_true rfl⟩), (hts (.instanceMethod yX1_size) (List.mem_of_getElem? (i := 2) rfl)), (hts (.selects RX1 yX1_size yX1_size) (List.mem_of_getElem? (i := 4) rfl))⟩ (q_preV hG hW hS (isCues.obj (hp).2.1) rfl) rfl rfl hl.1 rfl (lv_room (Nat.le_of_ble_eq_true rfl)) dX3_understood_12 ⟨Nat.le_of_ble_eq_true rfl, Nat.le_of_ble_eq_true rfl⟩) ?_
      refine lv_icmp_ge (tgt := 38) hx hb dX3_understood_15 (by decide) (fun c_15 => ?_) (fun c_15 => ?_)
      · skip
        have c_15 : P.w ≤ j := (nI_leI (a := P.w) (b := j) (by omega) (by omega)).mp c_15
        refine lv_iload_n hx hb dX3_understood_38 rfl (lv_at hl 1 rfl) ?_
        exact q_ri hx hb hr hlocks dX3_understood_39 (by rw [show j = P.w by omega]; rfl)
      · skip
        have c_15 : ¬ (P.w ≤ j) := fun h__ => c_15 ((nI_leI (a := P.w) (b := j) (by omega) (by omega)).mpr h__)
        refine lv_aload_n hx hb dX3_understood_18 rfl (lv_at hl 0 rfl) ?_
        refine lv_iload_n hx hb dX3_understood_19 rfl (lv_at hl 2 rfl) ?_
        refine q_R1 (va_runV (As := [.int (nI j)]) (rest := []) ⟨hx, hb, hml, hown, hts⟩ (c_X3_isUnderstood l hX hp (j) (by omega)) (cwV 1 hts gX3_understood_X3_isUnderstood rfl rfl rfl (by decide +kernel) ⟨Nat.le_of_ble_eq_true rfl, Nat.le_of_ble_eq_true rfl⟩) (q_preV hG hW hS hm0 rfl) rfl rfl hl.1 rfl (lv_room (Nat.le_of_ble_eq_true rfl)) dX3_understood_20 ⟨Nat.le_of_ble_eq_true rfl, Nat.le_of_ble_eq_true rfl⟩) ?_
        refine lv_if_eq (tgt := 32) hx hb dX3_understood_23 (by decide) (fun c_23 => ?_) (fun c_23 => ?_)
        · skip
          have c_23 : ¬ (mse P j ≤ P.S 4) := pI_eq0.mp c_23
          refine lv_iinc (v := nI (j + 1)) (lv' := [(2, .int (nI (j + 1))), (0, .ref (b + k)), (1, .int (nI (mk (fun i => mse P i ≤ P.S 4) j)))]) hx hb dX3_understood_32 hl (k := 2) rfl (nI_add _ 1) (by decide) rfl (fun ls hl => ?_)
          refine lv_goto (tgt := 4) hx hb dX3_understood_35 (by decide) ?_
          exact ih4 (j + 1) (by omega) (by omega) _ _ (by first | (refine congrArg nI ?_; rw [mk, if_pos c_23]) | (refine congrArg nI ?_; rw [mk, if_neg c_23])) (by first | rfl | (congr 1; omega)) _ (lv_sub hl [1, 2, 0] rfl)
        · skip
          have c_23 : mse P j ≤ P.S 4 := Decidable.byContradiction (fun h__ => c_23 (pI_eq0.mpr h__))
          refine lv_iload_n hx hb dX3_understood_26 rfl (lv_at hl 1 rfl) ?_
          refine lv_iconst (v := nI 1) hx hb dX3_understood_27 (by decide) ?_
          refine lv_iload_n hx hb dX3_understood_28 rfl (lv_at hl 2 rfl) ?_
          refine lv_ishl hx hb dX3_understood_29 ?_
          refine lv_ior hx hb dX3_understood_30 ?_
          refine q_top (y := nI (mk (fun i => mse P i ≤ P.S 4) j ||| 2 ^ j)) (by rw [nI_shl1 (by omega)]; exact nI_or _ _) ?_
          refine lv_istore_n (lv' := [(1, .int (nI (mk (fun i => mse P i ≤ P.S 4) j ||| 2 ^ j))), (0, .ref (b + k)), (2, .int (nI j))]) hx hb dX3_understood_31 rfl hl (by decide) rfl (fun ls hl => ?_)
          refine lv_iinc (v := nI (j + 1)) (lv' := [(2, .int (nI (j + 1))), (1, .int (nI (mk (fun i => mse P i ≤ P.S 4) j ||| 2 ^ j))), (0, .ref (b + k))]) hx hb dX3_understood_32 hl (k := 2) rfl (nI_add _ 1) (by decide) rfl (fun ls hl => ?_)
          refine lv_goto (tgt := 4) hx hb dX3_understood_35 (by decide) ?_
          exact ih4 (j + 1) (by omega) (by omega) _ _ (by first | (refine congrArg nI ?_; rw [mk, if_pos c_23]) | (refine congrArg nI ?_; rw [mk, if_neg c_23])) (by first | rfl | (congr 1; omega)) _ (lv_sub hl [2, 1, 0] rfl)
  exact L4 ((P.w - 0) + 1) 0 (by omega) (Nat.lt_succ_self _) _ _ (by first | rfl | (congr 1; omega)) (by first | rfl | (congr 1; omega)) _ (lv_sub hl [2, 1, 0] rfl)

set_option maxHeartbeats 300000 in
set_option maxRecDepth 100000 in
/-- Mix.greatestCoverOf(word) -/
theorem c_X3_greatestCoverOf (l : Launch) {D : va_G} {dA : Nat → Nat} {b : Nat} {w : Wd} {k q : Nat} {P : Pl} (hX : isMix dA b w k q P) (hp : isPlay dA b w q P) (i : Nat) (hi : i < P.w) : Met l yX3_greatestCoverOf wsX3_greatestCoverOf ({ frames := 3, cells := 0, slots := 0, locals := 69 } : Room) (PC D dA b w [.ref (b + k), .int (nI i)]) (QR (some (.int (nI (gcv P i (P.W i 0) (P.W i 1)))))) 0 0 Fno := by
  refine q_of (cc := cX3_greatestCoverOf) (maxL := 5) (ret := (some .int)) (by decide) rfl rfl ?_
  intro p e s m args below meth c ls hx hb hr hml hts hown hlocks hG hW hS hl
  have hown : s.vm.findClass RX3 = some m.cls := hown
  have hinX3 : ∀ w ∈ u_ws RX3 TX3 8, w ∈ wsX3_greatestCoverOf := fun w h => (goodIn_r (big := wsX3_greatestCoverOf) (u_ws RX3 TX3 8) [41, 42, 43, 44, 45, 46, 47, 48] (by decide +kernel) (by decide +kernel) w h).1
  have hinX4 : ∀ w ∈ u_ws RX4 TX4 3, w ∈ wsX3_greatestCoverOf := fun w h => (goodIn_r (big := wsX3_greatestCoverOf) (u_ws RX4 TX4 3) [49, 50, 51] (by decide +kernel) (by decide +kernel) w h).1
  have hl : lv_has ls 5 [(0, .ref (b + k)), (1, .int (nI i))] := hl
  have hoP := hp.ok
  have hoS := hoP.2.2.2.2
  have ho10 := hoP.1
  have ho12 := hoP.2.1
  unfold okS at hoS
  obtain ⟨hm0, hm1, hm2, hm3, hm4, hm5, hm6, hm7⟩ := id hX
  refine lv_iconst (v := nI 0) hx hb dX3_greatestCoverOf_0 (by decide) ?_
  refine lv_istore_n (lv' := [(2, .int (nI 0)), (0, .ref (b + k)), (1, .int (nI i))]) hx hb dX3_greatestCoverOf_1 rfl hl (by decide) rfl (fun ls hl => ?_)
  refine lv_aload_n hx hb dX3_greatestCoverOf_2 rfl (lv_at hl 1 rfl) ?_
  refine q_get hx hb hts hinX3 hown hG hW hm0 rfl 0 (by decide) (hts (.fieldLink RX3 12 "FoleyMixer$Mix" "play" "LFoleyMixer$Play;") (List.mem_of_getElem? (i := 1) rfl)) rfl rfl dX3_greatestCoverOf_3 ?_
  refine q_getN hx hb hts hinX4 hown hG hW (hp).1 rfl 0 (by decide) (hG.nest 10 rfl) rfl rfl dX3_greatestCoverOf_6 ?_
  refine lv_iload_n hx hb dX3_greatestCoverOf_9 rfl (lv_at hl 2 rfl) ?_
  refine q_R1 (va_runVN (As := [.int (nI i)]) (rest := []) ⟨hx, hb, hml, hown, hts⟩ (c_X1_endOf l (hp).2.1 (i) (by omega)) ⟨(va_cnB 1 hts gX3_greatestCoverOf_X1_endOf_n114 rfl rfl rfl (hG.nest 84 rfl) (hts (.initialized RX1) (List.mem_of_getElem? (i := 7) rfl)) (by decide +kernel) ⟨Nat.le_of_ble_eq_true rfl, Nat.le_of_ble_eq_true rfl⟩), (hts (.instanceMethod yX1_endOf) (List.mem_of_getElem? (i := 6) rfl)), (hts (.selects RX1 yX1_endOf yX1_endOf) (List.mem_of_getElem? (i := 8) rfl))⟩ (q_preV hG hW hS (isCues.obj (hp).2.1) rfl) rfl rfl hl.1 rfl (lv_room (Nat.le_of_ble_eq_true rfl)) dX3_greatestCoverOf_10 ⟨Nat.le_of_ble_eq_true rfl, Nat.le_of_ble_eq_true rfl⟩) ?_
  have q_10 := (hp).2.1.2.2.2.1 (i) (by omega)
  refine lv_istore_n (lv' := [(3, .int (nI (P.W i 0 + P.W i 1))), (2, .int (nI 0)), (0, .ref (b + k)), (1, .int (nI i))]) hx hb dX3_greatestCoverOf_13 rfl hl (by decide) rfl (fun ls hl => ?_)
  refine lv_aload_n hx hb dX3_greatestCoverOf_14 rfl (lv_at hl 2 rfl) ?_
  refine q_get hx hb hts hinX3 hown hG hW hm0 rfl 0 (by decide) (hts (.fieldLink RX3 12 "FoleyMixer$Mix" "play" "LFoleyMixer$Play;") (List.mem_of_getElem? (i := 1) rfl)) rfl rfl dX3_greatestCoverOf_15 ?_
  refine q_getN hx hb hts hinX4 hown hG hW (hp).1 rfl 0 (by decide) (hG.nest 10 rfl) rfl rfl dX3_greatestCoverOf_18 ?_
  refine lv_iload_n hx hb dX3_greatestCoverOf_21 rfl (lv_at hl 3 rfl) ?_
  refine lv_iconst (v := nI 0) hx hb dX3_greatestCoverOf_22 (by decide) ?_
  refine q_R1 (va_runVN (As := [.int (nI i), .int (nI 0)]) (rest := []) ⟨hx, hb, hml, hown, hts⟩ (c_X1_numberOf l (hp).2.1 (i) (0) (by omega) (by omega)) ⟨(va_cnB 2 hts gX3_greatestCoverOf_X1_numberOf_n79 rfl rfl rfl (hG.nest 54 rfl) (hts (.initialized RX1) (List.mem_of_getElem? (i := 7) rfl)) (by decide +kernel) ⟨Nat.le_of_ble_eq_true rfl, Nat.le_of_ble_eq_true rfl⟩), (hts (.instanceMethod yX1_numberOf) (List.mem_of_getElem? (i := 11) rfl)), (hts (.selects RX1 yX1_numberOf yX1_numberOf) (List.mem_of_getElem? (i := 12) rfl))⟩ (q_preV hG hW hS (isCues.obj (hp).2.1) rfl) rfl rfl hl.1 rfl (lv_room (Nat.le_of_ble_eq_true rfl)) dX3_greatestCoverOf_23 ⟨Nat.le_of_ble_eq_true rfl, Nat.le_of_ble_eq_true rfl⟩) ?_
  have q_23 := (hp).2.1.2.2.2.1 (i) (by omega)
  refine lv_istore (lv' := [(4, .int (nI (P.W i 0))), (3, .int (nI (P.W i 0 + P.W i 1))), (2, .int (nI 0)), (0, .ref (b + k)), (1, .int (nI i))]) hx hb dX3_greatestCoverOf_26 hl (by decide) rfl (fun ls hl => ?_)
  have L28 : ∀ (n28 : Nat) (j : Nat), j ≤ P.W i 1 → P.W i 1 - j < n28 → ∀ (x28_2 : Int32) (x28_4 : Int32), x28_2 = nI (gcv P i (P.W i 0) j) → x28_4 = nI (P.W i 0 + j) → ∀ (ls : Array Slot), lv_has ls 5 [(0, .ref (b + k)), (1, .int (nI i)), (2, .int x28_2), (3, .int (nI (P.W i 0 + P.W i 1))), (4, .int x28_4)] → W p l e ({ frames := 3, cells := 0, slots := 0, locals := 69 } : Room) s m args below meth c s.heap [] 0 0 (MQ below (QR (some (.int (nI (gcv P i (P.W i 0) (P.W i 1)))))) args s 0 0 Fno) (F0 m 28 ls []) := by
    intro n28
    induction n28 with
    | zero =>
      intro j hj0 hn28 x28_2 x28_4 ex28_2 ex28_4 ls hl
      exact absurd hn28 (Nat.not_lt_zero _)
    | succ n28 ih28 =>
      intro j hj0 hn28 x28_2 x28_4 ex28_2 ex28_4 ls hl
      subst ex28_2 ex28_4
      have hgc := gcv_le hoP i (P.W i 0) j
      have hcv := cov_le hoP i (P.W i 0 + j)
      have hwi := hoP.2.2.1 i hi
      refine lv_iload hx hb dX3_greatestCoverOf_28 (lv_at hl 4 rfl) ?_
      refine lv_iload_n hx hb dX3_greatestCoverOf_30 rfl (lv_at hl 3 rfl) ?_
      refine lv_icmp_ge (tgt := 52) hx hb dX3_greatestCoverOf_31 (by decide) (fun c_31 => ?_) (fun c_31 => ?_)
      · skip
        have c_31 : P.W i 0 + P.W i 1 ≤ P.W i 0 + j := (nI_leI (a := P.W i 0 + P.W i 1) (b := P.W i 0 + j) (by omega) (by omega)).mp c_31
        refine lv_iload_n hx hb dX3_greatestCoverOf_52 rfl (lv_at hl 2 rfl) ?_
        exact q_ri hx hb hr hlocks dX3_greatestCoverOf_53 (by rw [show j = P.W i 1 by omega])
      · skip
        have c_31 : ¬ (P.W i 0 + P.W i 1 ≤ P.W i 0 + j) := fun h__ => c_31 ((nI_leI (a := P.W i 0 + P.W i 1) (b := P.W i 0 + j) (by omega) (by omega)).mpr h__)
        refine lv_iload_n hx hb dX3_greatestCoverOf_34 rfl (lv_at hl 2 rfl) ?_
        refine lv_aload_n hx hb dX3_greatestCoverOf_35 rfl (lv_at hl 0 rfl) ?_
        refine lv_iload_n hx hb dX3_greatestCoverOf_36 rfl (lv_at hl 1 rfl) ?_
        refine lv_iload hx hb dX3_greatestCoverOf_37 (lv_at hl 4 rfl) ?_
        refine q_R1 (va_runV (As := [.int (nI i), .int (nI (P.W i 0 + j))]) (rest := [.int (nI (gcv P i (P.W i 0) j))]) ⟨hx, hb, hml, hown, hts⟩ (c_X3_coverOf l hm0 hp hm1 hm5 hm6 (i) (P.W i 0 + j) (by omega) (by first | rfl | assumption) (by first | rfl | assumption) (by omega)) (cwV 2 hts gX3_greatestCoverOf_X3_coverOf rfl rfl rfl (by decide +kernel) ⟨Nat.le_of_ble_eq_true rfl, Nat.le_of_ble_eq_true rfl⟩) (q_preV hG hW hS hm0 rfl) rfl rfl hl.1 rfl (lv_room (Nat.le_of_ble_eq_true rfl)) dX3_greatestCoverOf_39 ⟨Nat.le_of_ble_eq_true rfl, Nat.le_of_ble_eq_true rfl⟩) ?_
        refine va_mmax hx hb (by rw [hml]; exact hl.1.symm) hown (hts (.methodLink RX3 69 Lib.Math.max.name) (List.mem_of_getElem? (i := 2) rfl)) (hts (.static Lib.Math.max.name) (List.mem_of_getElem? (i := 3) rfl)) (hts (.initialized "java/lang/Math") (List.mem_of_getElem? (i := 4) rfl)) (hts (.code Lib.Math.max.name Lib.Math.max.code 2 (some .int)) (List.mem_of_getElem? (i := 5) rfl)) (Nat.le_of_ble_eq_true rfl) (Nat.le_of_ble_eq_true rfl) (Nat.le_of_ble_eq_true rfl) (Nat.le_of_ble_eq_true rfl) dX3_greatestCoverOf_42 ?_
        refine q_top (y := nI (max (gcv P i (P.W i 0) j) (cov P i (P.W i 0 + j)))) (nI_max (by omega) (by omega)) ?_
        refine lv_istore_n (lv' := [(2, .int (nI (max (gcv P i (P.W i 0) j) (cov P i (P.W i 0 + j))))), (0, .ref (b + k)), (1, .int (nI i)), (3, .int (nI (P.W i 0 + P.W i 1))), (4, .int (nI (P.W i 0 + j)))]) hx hb dX3_greatestCoverOf_45 rfl hl (by decide) rfl (fun ls hl => ?_)
        refine lv_iinc (v := nI ((P.W i 0 + j) + 1)) (lv' := [(4, .int (nI ((P.W i 0 + j) + 1))), (2, .int (nI (max (gcv P i (P.W i 0) j) (cov P i (P.W i 0 + j))))), (0, .ref (b + k)), (1, .int (nI i)), (3, .int (nI (P.W i 0 + P.W i 1)))]) hx hb dX3_greatestCoverOf_46 hl (k := 4) rfl (nI_add _ 1) (by decide) rfl (fun ls hl => ?_)
        refine lv_goto (tgt := 28) hx hb dX3_greatestCoverOf_49 (by decide) ?_
        exact ih28 (j + 1) (by omega) (by omega) _ _ (by first | rfl | (congr 1; omega)) (by first | rfl | (congr 1; omega)) _ (lv_sub hl [2, 3, 1, 4, 0] rfl)
  exact L28 ((P.W i 1 - 0) + 1) 0 (by omega) (Nat.lt_succ_self _) _ _ (by first | rfl | (congr 1; omega)) (by first | rfl | (congr 1; omega)) _ (lv_sub hl [3, 4, 2, 1, 0] rfl)

set_option maxHeartbeats 300000 in
set_option maxRecDepth 100000 in
/-- Mix.strengthSumOf(noise) -/
theorem c_X3_strengthSumOf (l : Launch) {D : va_G} {dA : Nat → Nat} {b : Nat} {w : Wd} {k q : Nat} {P : Pl} (hX : isMix dA b w k q P) (hp : isPlay dA b w q P) (i : Nat) (hi : i < P.n) : Met l yX3_strengthSumOf wsX3_strengthSumOf ({ frames := 3, cells := 0, slots := 0, locals := 67 } : Room) (PC D dA b w [.ref (b + k), .int (nI i)]) (QR (some (.int (nI (sm (fun d => stg P i (P.N i 0 + d)) (P.N i 1)))))) 0 0 Fno := by
  refine q_of (cc := cX3_strengthSumOf) (maxL := 5) (ret := (some .int)) (by decide) rfl rfl ?_
  intro p e s m args below meth c ls hx hb hr hml hts hown hlocks hG hW hS hl
  have hown : s.vm.findClass RX3 = some m.cls := hown
  have hinX3 : ∀ w ∈ u_ws RX3 TX3 8, w ∈ wsX3_strengthSumOf := fun w h => (goodIn_r (big := wsX3_strengthSumOf) (u_ws RX3 TX3 8) [27, 28, 29, 30, 31, 32, 33, 34] (by decide +kernel) (by decide +kernel) w h).1
  have hinX4 : ∀ w ∈ u_ws RX4 TX4 3, w ∈ wsX3_strengthSumOf := fun w h => (goodIn_r (big := wsX3_strengthSumOf) (u_ws RX4 TX4 3) [35, 36, 37] (by decide +kernel) (by decide +kernel) w h).1
  have hl : lv_has ls 5 [(0, .ref (b + k)), (1, .int (nI i))] := hl
  have hoP := hp.ok
  have hoS := hoP.2.2.2.2
  have ho10 := hoP.1
  have ho12 := hoP.2.1
  unfold okS at hoS
  obtain ⟨hm0, hm1, hm2, hm3, hm4, hm5, hm6, hm7⟩ := id hX
  refine lv_iconst (v := nI 0) hx hb dX3_strengthSumOf_0 (by decide) ?_
  refine lv_istore_n (lv' := [(2, .int (nI 0)), (0, .ref (b + k)), (1, .int (nI i))]) hx hb dX3_strengthSumOf_1 rfl hl (by decide) rfl (fun ls hl => ?_)
  refine lv_aload_n hx hb dX3_strengthSumOf_2 rfl (lv_at hl 1 rfl) ?_
  refine q_get hx hb hts hinX3 hown hG hW hm0 rfl 0 (by decide) (hts (.fieldLink RX3 12 "FoleyMixer$Mix" "play" "LFoleyMixer$Play;") (List.mem_of_getElem? (i := 1) rfl)) rfl rfl dX3_strengthSumOf_3 ?_
  refine q_getN hx hb hts hinX4 hown hG hW (hp).1 rfl 1 (by decide) (hG.nest 12 rfl) rfl rfl dX3_strengthSumOf_6 ?_
  refine lv_iload_n hx hb dX3_strengthSumOf_9 rfl (lv_at hl 2 rfl) ?_
  refine q_R1 (va_runVN (As := [.int (nI i)]) (rest := []) ⟨hx, hb, hml, hown, hts⟩ (c_X1_endOf l (hp).2.2.1 (i) (by omega)) ⟨(va_cnB 1 hts gX3_strengthSumOf_X1_endOf_n114 rfl rfl rfl (hG.nest 84 rfl) (hts (.initialized RX1) (List.mem_of_getElem? (i := 3) rfl)) (by decide +kernel) ⟨Nat.le_of_ble_eq_true rfl, Nat.le_of_ble_eq_true rfl⟩), (hts (.instanceMethod yX1_endOf) (List.mem_of_getElem? (i := 2) rfl)), (hts (.selects RX1 yX1_endOf yX1_endOf) (List.mem_of_getElem? (i := 4) rfl))⟩ (q_preV hG hW hS (isCues.obj (hp).2.2.1) rfl) rfl rfl hl.1 rfl (lv_room (Nat.le_of_ble_eq_true rfl)) dX3_strengthSumOf_10 ⟨Nat.le_of_ble_eq_true rfl, Nat.le_of_ble_eq_true rfl⟩) ?_
  have q_10 := (hp).2.2.1.2.2.2.1 (i) (by omega)
  refine lv_istore_n (lv' := [(3, .int (nI (P.N i 0 + P.N i 1))), (2, .int (nI 0)), (0, .ref (b + k)), (1, .int (nI i))]) hx hb dX3_strengthSumOf_13 rfl hl (by decide) rfl (fun ls hl => ?_)
  refine lv_aload_n hx hb dX3_strengthSumOf_14 rfl (lv_at hl 2 rfl) ?_
  refine q_get hx hb hts hinX3 hown hG hW hm0 rfl 0 (by decide) (hts (.fieldLink RX3 12 "FoleyMixer$Mix" "play" "LFoleyMixer$Play;") (List.mem_of_getElem? (i := 1) rfl)) rfl rfl dX3_strengthSumOf_15 ?_
  refine q_getN hx hb hts hinX4 hown hG hW (hp).1 rfl 1 (by decide) (hG.nest 12 rfl) rfl rfl dX3_strengthSumOf_18 ?_
  refine lv_iload_n hx hb dX3_strengthSumOf_21 rfl (lv_at hl 3 rfl) ?_
  refine lv_iconst (v := nI 0) hx hb dX3_strengthSumOf_22 (by decide) ?_
  refine q_R1 (va_runVN (As := [.int (nI i), .int (nI 0)]) (rest := []) ⟨hx, hb, hml, hown, hts⟩ (c_X1_numberOf l (hp).2.2.1 (i) (0) (by omega) (by omega)) ⟨(va_cnB 2 hts gX3_strengthSumOf_X1_numberOf_n79 rfl rfl rfl (hG.nest 54 rfl) (hts (.initialized RX1) (List.mem_of_getElem? (i := 3) rfl)) (by decide +kernel) ⟨Nat.le_of_ble_eq_true rfl, Nat.le_of_ble_eq_true rfl⟩), (hts (.instanceMethod yX1_numberOf) (List.mem_of_getElem? (i := 7) rfl)), (hts (.selects RX1 yX1_numberOf yX1_numberOf) (List.mem_of_getElem? (i := 8) rfl))⟩ (q_preV hG hW hS (isCues.obj (hp).2.2.1) rfl) rfl rfl hl.1 rfl (lv_room (Nat.le_of_ble_eq_true rfl)) dX3_strengthSumOf_23 ⟨Nat.le_of_ble_eq_true rfl, Nat.le_of_ble_eq_true rfl⟩) ?_
  have q_23 := (hp).2.2.1.2.2.2.1 (i) (by omega)
  refine lv_istore (lv' := [(4, .int (nI (P.N i 0))), (3, .int (nI (P.N i 0 + P.N i 1))), (2, .int (nI 0)), (0, .ref (b + k)), (1, .int (nI i))]) hx hb dX3_strengthSumOf_26 hl (by decide) rfl (fun ls hl => ?_)
  have L28 : ∀ (n28 : Nat) (j : Nat), j ≤ P.N i 1 → P.N i 1 - j < n28 → ∀ (x28_2 : Int32) (x28_4 : Int32), x28_2 = nI (sm (fun d => stg P i (P.N i 0 + d)) j) → x28_4 = nI (P.N i 0 + j) → ∀ (ls : Array Slot), lv_has ls 5 [(0, .ref (b + k)), (1, .int (nI i)), (2, .int x28_2), (3, .int (nI (P.N i 0 + P.N i 1))), (4, .int x28_4)] → W p l e ({ frames := 3, cells := 0, slots := 0, locals := 67 } : Room) s m args below meth c s.heap [] 0 0 (MQ below (QR (some (.int (nI (sm (fun d => stg P i (P.N i 0 + d)) (P.N i 1)))))) args s 0 0 Fno) (F0 m 28 ls []) := by
    intro n28
    induction n28 with
    | zero =>
      intro j hj0 hn28 x28_2 x28_4 ex28_2 ex28_4 ls hl
      exact absurd hn28 (Nat.not_lt_zero _)
    | succ n28 ih28 =>
      intro j hj0 hn28 x28_2 x28_4 ex28_2 ex28_4 ls hl
      subst ex28_2 ex28_4
      have hwi := hoP.2.2.2.1 i hi
      refine lv_iload hx hb dX3_strengthSumOf_28 (lv_at hl 4 rfl) ?_
      refine lv_iload_n hx hb dX3_strengthSumOf_30 rfl (lv_at hl 3 rfl) ?_
      refine lv_icmp_ge (tgt := 50) hx hb dX3_strengthSumOf_31 (by decide) (fun c_31 => ?_) (fun c_31 => ?_)
      · skip
        have c_31 : P.N i 0 + P.N i 1 ≤ P.N i 0 + j := (nI_leI (a := P.N i 0 + P.N i 1) (b := P.N i 0 + j) (by omega) (by omega)).mp c_31
        refine lv_iload_n hx hb dX3_strengthSumOf_50 rfl (lv_at hl 2 rfl) ?_
        exact q_ri hx hb hr hlocks dX3_strengthSumOf_51 (by rw [show j = P.N i 1 by omega])
      · skip
        have c_31 : ¬ (P.N i 0 + P.N i 1 ≤ P.N i 0 + j) := fun h__ => c_31 ((nI_leI (a := P.N i 0 + P.N i 1) (b := P.N i 0 + j) (by omega) (by omega)).mpr h__)
        refine lv_iload_n hx hb dX3_strengthSumOf_34 rfl (lv_at hl 2 rfl) ?_
        refine lv_aload_n hx hb dX3_strengthSumOf_35 rfl (lv_at hl 0 rfl) ?_
        refine lv_iload_n hx hb dX3_strengthSumOf_36 rfl (lv_at hl 1 rfl) ?_
        refine lv_iload hx hb dX3_strengthSumOf_37 (lv_at hl 4 rfl) ?_
        refine q_R1 (va_runV (As := [.int (nI i), .int (nI (P.N i 0 + j))]) (rest := [.int (nI (sm (fun d => stg P i (P.N i 0 + d)) j))]) ⟨hx, hb, hml, hown, hts⟩ (c_X3_strengthOf l hm0 hp hm3 (i) (P.N i 0 + j) (by omega) (by omega)) (cwV 2 hts gX3_strengthSumOf_X3_strengthOf rfl rfl rfl (by decide +kernel) ⟨Nat.le_of_ble_eq_true rfl, Nat.le_of_ble_eq_true rfl⟩) (q_preV hG hW hS hm0 rfl) rfl rfl hl.1 rfl (lv_room (Nat.le_of_ble_eq_true rfl)) dX3_strengthSumOf_39 ⟨Nat.le_of_ble_eq_true rfl, Nat.le_of_ble_eq_true rfl⟩) ?_
        refine lv_iadd hx hb dX3_strengthSumOf_42 ?_
        refine q_top (y := nI ((sm (fun d => stg P i (P.N i 0 + d)) j) + (stg P i (P.N i 0 + j)))) (nI_add _ _) ?_
        refine lv_istore_n (lv' := [(2, .int (nI ((sm (fun d => stg P i (P.N i 0 + d)) j) + (stg P i (P.N i 0 + j))))), (0, .ref (b + k)), (1, .int (nI i)), (3, .int (nI (P.N i 0 + P.N i 1))), (4, .int (nI (P.N i 0 + j)))]) hx hb dX3_strengthSumOf_43 rfl hl (by decide) rfl (fun ls hl => ?_)
        refine lv_iinc (v := nI ((P.N i 0 + j) + 1)) (lv' := [(4, .int (nI ((P.N i 0 + j) + 1))), (2, .int (nI ((sm (fun d => stg P i (P.N i 0 + d)) j) + (stg P i (P.N i 0 + j))))), (0, .ref (b + k)), (1, .int (nI i)), (3, .int (nI (P.N i 0 + P.N i 1)))]) hx hb dX3_strengthSumOf_44 hl (k := 4) rfl (nI_add _ 1) (by decide) rfl (fun ls hl => ?_)
        refine lv_goto (tgt := 28) hx hb dX3_strengthSumOf_47 (by decide) ?_
        exact ih28 (j + 1) (by omega) (by omega) _ _ (by first | rfl | (congr 1; omega)) (by first | rfl | (congr 1; omega)) _ (lv_sub hl [2, 3, 1, 4, 0] rfl)
  exact L28 ((P.N i 1 - 0) + 1) 0 (by omega) (Nat.lt_succ_self _) _ _ (by first | rfl | (congr 1; omega)) (by first | rfl | (congr 1; omega)) _ (lv_sub hl [3, 4, 2, 1, 0] rfl)

set_option maxHeartbeats 300000 in
set_option maxRecDepth 100000 in
/-- Mix.maskingSecondsOf(noise) -/
theorem c_X3_maskingSecondsOf (l : Launch) {D : va_G} {dA : Nat → Nat} {b : Nat} {w : Wd} {k q : Nat} {P : Pl} (hX : isMix dA b w k q P) (hp : isPlay dA b w q P) (i : Nat) (hi : i < P.n) : Met l yX3_maskingSecondsOf wsX3_maskingSecondsOf ({ frames := 2, cells := 0, slots := 0, locals := 44 } : Room) (PC D dA b w [.ref (b + k), .int (nI i)]) (QR (some (.int (nI (ct (fun d => mmk P (P.N i 0 + d) ≠ 0) (P.N i 1)))))) 0 0 Fno := by
  refine q_of (cc := cX3_maskingSecondsOf) (maxL := 5) (ret := (some .int)) (by decide) rfl rfl ?_
  intro p e s m args below meth c ls hx hb hr hml hts hown hlocks hG hW hS hl
  have hown : s.vm.findClass RX3 = some m.cls := hown
  have hinX3 : ∀ w ∈ u_ws RX3 TX3 8, w ∈ wsX3_maskingSecondsOf := fun w h => (goodIn_r (big := wsX3_maskingSecondsOf) (u_ws RX3 TX3 8) [15, 16, 17, 18, 19, 20, 21, 22] (by decide +kernel) (by decide +kernel) w h).1
  have hinX4 : ∀ w ∈ u_ws RX4 TX4 3, w ∈ wsX3_maskingSecondsOf := fun w h => (goodIn_r (big := wsX3_maskingSecondsOf) (u_ws RX4 TX4 3) [23, 24, 25] (by decide +kernel) (by decide +kernel) w h).1
  have hl : lv_has ls 5 [(0, .ref (b + k)), (1, .int (nI i))] := hl
  have hoP := hp.ok
  have hoS := hoP.2.2.2.2
  have ho10 := hoP.1
  have ho12 := hoP.2.1
  unfold okS at hoS
  obtain ⟨hm0, hm1, hm2, hm3, hm4, hm5, hm6, hm7⟩ := id hX
  refine lv_iconst (v := nI 0) hx hb dX3_maskingSecondsOf_0 (by decide) ?_
  refine lv_istore_n (lv' := [(2, .int (nI 0)), (0, .ref (b + k)), (1, .int (nI i))]) hx hb dX3_maskingSecondsOf_1 rfl hl (by decide) rfl (fun ls hl => ?_)
  refine lv_aload_n hx hb dX3_maskingSecondsOf_2 rfl (lv_at hl 1 rfl) ?_
  refine q_get hx hb hts hinX3 hown hG hW hm0 rfl 0 (by decide) (hts (.fieldLink RX3 12 "FoleyMixer$Mix" "play" "LFoleyMixer$Play;") (List.mem_of_getElem? (i := 1) rfl)) rfl rfl dX3_maskingSecondsOf_3 ?_
  refine q_getN hx hb hts hinX4 hown hG hW (hp).1 rfl 1 (by decide) (hG.nest 12 rfl) rfl rfl dX3_maskingSecondsOf_6 ?_
  refine lv_iload_n hx hb dX3_maskingSecondsOf_9 rfl (lv_at hl 2 rfl) ?_
  refine q_R1 (va_runVN (As := [.int (nI i)]) (rest := []) ⟨hx, hb, hml, hown, hts⟩ (c_X1_endOf l (hp).2.2.1 (i) (by omega)) ⟨(va_cnB 1 hts gX3_maskingSecondsOf_X1_endOf_n114 rfl rfl rfl (hG.nest 84 rfl) (hts (.initialized RX1) (List.mem_of_getElem? (i := 4) rfl)) (by decide +kernel) ⟨Nat.le_of_ble_eq_true rfl, Nat.le_of_ble_eq_true rfl⟩), (hts (.instanceMethod yX1_endOf) (List.mem_of_getElem? (i := 3) rfl)), (hts (.selects RX1 yX1_endOf yX1_endOf) (List.mem_of_getElem? (i := 5) rfl))⟩ (q_preV hG hW hS (isCues.obj (hp).2.2.1) rfl) rfl rfl hl.1 rfl (lv_room (Nat.le_of_ble_eq_true rfl)) dX3_maskingSecondsOf_10 ⟨Nat.le_of_ble_eq_true rfl, Nat.le_of_ble_eq_true rfl⟩) ?_
  have q_10 := (hp).2.2.1.2.2.2.1 (i) (by omega)
  refine lv_istore_n (lv' := [(3, .int (nI (P.N i 0 + P.N i 1))), (2, .int (nI 0)), (0, .ref (b + k)), (1, .int (nI i))]) hx hb dX3_maskingSecondsOf_13 rfl hl (by decide) rfl (fun ls hl => ?_)
  refine lv_aload_n hx hb dX3_maskingSecondsOf_14 rfl (lv_at hl 2 rfl) ?_
  refine q_get hx hb hts hinX3 hown hG hW hm0 rfl 0 (by decide) (hts (.fieldLink RX3 12 "FoleyMixer$Mix" "play" "LFoleyMixer$Play;") (List.mem_of_getElem? (i := 1) rfl)) rfl rfl dX3_maskingSecondsOf_15 ?_
  refine q_getN hx hb hts hinX4 hown hG hW (hp).1 rfl 1 (by decide) (hG.nest 12 rfl) rfl rfl dX3_maskingSecondsOf_18 ?_
  refine lv_iload_n hx hb dX3_maskingSecondsOf_21 rfl (lv_at hl 3 rfl) ?_
  refine lv_iconst (v := nI 0) hx hb dX3_maskingSecondsOf_22 (by decide) ?_
  refine q_R1 (va_runVN (As := [.int (nI i), .int (nI 0)]) (rest := []) ⟨hx, hb, hml, hown, hts⟩ (c_X1_numberOf l (hp).2.2.1 (i) (0) (by omega) (by omega)) ⟨(va_cnB 2 hts gX3_maskingSecondsOf_X1_numberOf_n79 rfl rfl rfl (hG.nest 54 rfl) (hts (.initialized RX1) (List.mem_of_getElem? (i := 4) rfl)) (by decide +kernel) ⟨Nat.le_of_ble_eq_true rfl, Nat.le_of_ble_eq_true rfl⟩), (hts (.instanceMethod yX1_numberOf) (List.mem_of_getElem? (i := 8) rfl)), (hts (.selects RX1 yX1_numberOf yX1_numberOf) (List.mem_of_getElem? (i := 9) rfl))⟩ (q_preV hG hW hS (isCues.obj (hp).2.2.1) rfl) rfl rfl hl.1 rfl (lv_room (Nat.le_of_ble_eq_true rfl)) dX3_maskingSecondsOf_23 ⟨Nat.le_of_ble_eq_true rfl, Nat.le_of_ble_eq_true rfl⟩) ?_
  have q_23 := (hp).2.2.1.2.2.2.1 (i) (by omega)
  refine lv_istore (lv' := [(4, .int (nI (P.N i 0))), (3, .int (nI (P.N i 0 + P.N i 1))), (2, .int (nI 0)), (0, .ref (b + k)), (1, .int (nI i))]) hx hb dX3_maskingSecondsOf_26 hl (by decide) rfl (fun ls hl => ?_)
  have L28 : ∀ (n28 : Nat) (j : Nat), j ≤ P.N i 1 → P.N i 1 - j < n28 → ∀ (x28_2 : Int32) (x28_4 : Int32), x28_2 = nI (ct (fun d => mmk P (P.N i 0 + d) ≠ 0) j) → x28_4 = nI (P.N i 0 + j) → ∀ (ls : Array Slot), lv_has ls 5 [(0, .ref (b + k)), (1, .int (nI i)), (2, .int x28_2), (3, .int (nI (P.N i 0 + P.N i 1))), (4, .int x28_4)] → W p l e ({ frames := 2, cells := 0, slots := 0, locals := 44 } : Room) s m args below meth c s.heap [] 0 0 (MQ below (QR (some (.int (nI (ct (fun d => mmk P (P.N i 0 + d) ≠ 0) (P.N i 1)))))) args s 0 0 Fno) (F0 m 28 ls []) := by
    intro n28
    induction n28 with
    | zero =>
      intro j hj0 hn28 x28_2 x28_4 ex28_2 ex28_4 ls hl
      exact absurd hn28 (Nat.not_lt_zero _)
    | succ n28 ih28 =>
      intro j hj0 hn28 x28_2 x28_4 ex28_2 ex28_4 ls hl
      subst ex28_2 ex28_4
      have hwi := hoP.2.2.2.1 i hi
      have hmm := mmk_lt hoP (P.N i 0 + j)
      refine lv_iload hx hb dX3_maskingSecondsOf_28 (lv_at hl 4 rfl) ?_
      refine lv_iload_n hx hb dX3_maskingSecondsOf_30 rfl (lv_at hl 3 rfl) ?_
      refine lv_icmp_ge (tgt := 55) hx hb dX3_maskingSecondsOf_31 (by decide) (fun c_31 => ?_) (fun c_31 => ?_)
      · skip
        have c_31 : P.N i 0 + P.N i 1 ≤ P.N i 0 + j := (nI_leI (a := P.N i 0 + P.N i 1) (b := P.N i 0 + j) (by omega) (by omega)).mp c_31
        refine lv_iload_n hx hb dX3_maskingSecondsOf_55 rfl (lv_at hl 2 rfl) ?_
        exact q_ri hx hb hr hlocks dX3_maskingSecondsOf_56 (by rw [show j = P.N i 1 by omega])
      · skip
        have c_31 : ¬ (P.N i 0 + P.N i 1 ≤ P.N i 0 + j) := fun h__ => c_31 ((nI_leI (a := P.N i 0 + P.N i 1) (b := P.N i 0 + j) (by omega) (by omega)).mpr h__)
        refine lv_aload_n hx hb dX3_maskingSecondsOf_34 rfl (lv_at hl 0 rfl) ?_
        refine q_get hx hb hts hinX3 hown hG hW hm0 rfl 7 (by decide) (hts (.fieldLink RX3 37 "FoleyMixer$Mix" "masked" "[I") (List.mem_of_getElem? (i := 2) rfl)) rfl rfl dX3_maskingSecondsOf_35 ?_
        refine lv_iload hx hb dX3_maskingSecondsOf_38 (lv_at hl 4 rfl) ?_
        refine q_R1 (va_runSN (As := [.ref (b + (k + 13)), .int (nI (P.N i 0 + j))]) (rest := []) ⟨hx, hb, hml, hown, hts⟩ (c_entry_in l (RD.own hm7 (by decide)) (by decide) (P.N i 0 + j) (by omega)) ⟨(va_cnB 2 hts gX3_maskingSecondsOf_X6_entry_n61 rfl rfl rfl (hG.nest 49 rfl) (hts (.initialized RX6) (List.mem_of_getElem? (i := 13) rfl)) (by decide +kernel) ⟨Nat.le_of_ble_eq_true rfl, Nat.le_of_ble_eq_true rfl⟩), (hts (.static yX6_entry) (List.mem_of_getElem? (i := 12) rfl)), trivial⟩ (q_preS hG hW hS) rfl rfl hl.1 rfl (lv_room (Nat.le_of_ble_eq_true rfl)) dX3_maskingSecondsOf_40 ⟨Nat.le_of_ble_eq_true rfl, Nat.le_of_ble_eq_true rfl⟩) ?_
        refine lv_if_eq (tgt := 49) hx hb dX3_maskingSecondsOf_43 (by decide) (fun c_43 => ?_) (fun c_43 => ?_)
        · skip
          have c_43 : ((mmk P) (P.N i 0 + j)) = 0 := (nI_eq0 (i := (mmk P) (P.N i 0 + j)) (by omega)).mp c_43
          refine lv_iinc (v := nI ((P.N i 0 + j) + 1)) (lv' := [(4, .int (nI ((P.N i 0 + j) + 1))), (0, .ref (b + k)), (1, .int (nI i)), (2, .int (nI (ct (fun d => mmk P (P.N i 0 + d) ≠ 0) j))), (3, .int (nI (P.N i 0 + P.N i 1)))]) hx hb dX3_maskingSecondsOf_49 hl (k := 4) rfl (nI_add _ 1) (by decide) rfl (fun ls hl => ?_)
          refine lv_goto (tgt := 28) hx hb dX3_maskingSecondsOf_52 (by decide) ?_
          exact ih28 (j + 1) (by omega) (by omega) _ _ (by refine congrArg nI ?_; (try unfold mse); rw [ct]; first | (rw [if_pos (by first | exact c_43 | exact fun q9 => q9 c_43)]; done) | (rw [if_neg (by first | exact c_43 | exact fun q9 => q9 c_43)]; done)) (by first | rfl | (congr 1; omega)) _ (lv_sub hl [1, 2, 3, 4, 0] rfl)
        · skip
          have c_43 : ¬ (((mmk P) (P.N i 0 + j)) = 0) := fun h__ => c_43 ((nI_eq0 (i := (mmk P) (P.N i 0 + j)) (by omega)).mpr h__)
          refine lv_iinc (v := nI ((ct (fun d => mmk P (P.N i 0 + d) ≠ 0) j) + 1)) (lv' := [(2, .int (nI ((ct (fun d => mmk P (P.N i 0 + d) ≠ 0) j) + 1))), (0, .ref (b + k)), (1, .int (nI i)), (3, .int (nI (P.N i 0 + P.N i 1))), (4, .int (nI (P.N i 0 + j)))]) hx hb dX3_maskingSecondsOf_46 hl (k := 2) rfl (nI_add _ 1) (by decide) rfl (fun ls hl => ?_)
          refine lv_iinc (v := nI ((P.N i 0 + j) + 1)) (lv' := [(4, .int (nI ((P.N i 0 + j) + 1))), (2, .int (nI ((ct (fun d => mmk P (P.N i 0 + d) ≠ 0) j) + 1))), (0, .ref (b + k)), (1, .int (nI i)), (3, .int (nI (P.N i 0 + P.N i 1)))]) hx hb dX3_maskingSecondsOf_49 hl (k := 4) rfl (nI_add _ 1) (by decide) rfl (fun ls hl => ?_)
          refine lv_goto (tgt := 28) hx hb dX3_maskingSecondsOf_52 (by decide) ?_
          exact ih28 (j + 1) (by omega) (by omega) _ _ (by refine congrArg nI ?_; (try unfold mse); rw [ct]; first | (rw [if_pos (by first | exact c_43 | exact fun q9 => q9 c_43)]; done) | (rw [if_neg (by first | exact c_43 | exact fun q9 => q9 c_43)]; done)) (by first | rfl | (congr 1; omega)) _ (lv_sub hl [2, 3, 1, 4, 0] rfl)
  exact L28 ((P.N i 1 - 0) + 1) 0 (by omega) (Nat.lt_succ_self _) _ _ (by first | rfl | (congr 1; omega)) (by first | rfl | (congr 1; omega)) _ (lv_sub hl [3, 4, 2, 1, 0] rfl)

set_option maxHeartbeats 300000 in
set_option maxRecDepth 100000 in
/-- Mix.duckedSecondsOf(noise) -/
theorem c_X3_duckedSecondsOf (l : Launch) {D : va_G} {dA : Nat → Nat} {b : Nat} {w : Wd} {k q : Nat} {P : Pl} (hX : isMix dA b w k q P) (hp : isPlay dA b w q P) (i : Nat) (hi : i < P.n) : Met l yX3_duckedSecondsOf wsX3_duckedSecondsOf ({ frames := 3, cells := 0, slots := 0, locals := 67 } : Room) (PC D dA b w [.ref (b + k), .int (nI i)]) (QR (some (.int (nI (ct (fun d => stg P i (P.N i 0 + d) < P.N i 2) (P.N i 1)))))) 0 0 Fno := by
  refine q_of (cc := cX3_duckedSecondsOf) (maxL := 5) (ret := (some .int)) (by decide) rfl rfl ?_
  intro p e s m args below meth c ls hx hb hr hml hts hown hlocks hG hW hS hl
  have hown : s.vm.findClass RX3 = some m.cls := hown
  have hinX3 : ∀ w ∈ u_ws RX3 TX3 8, w ∈ wsX3_duckedSecondsOf := fun w h => (goodIn_r (big := wsX3_duckedSecondsOf) (u_ws RX3 TX3 8) [27, 28, 29, 30, 31, 32, 33, 34] (by decide +kernel) (by decide +kernel) w h).1
  have hinX4 : ∀ w ∈ u_ws RX4 TX4 3, w ∈ wsX3_duckedSecondsOf := fun w h => (goodIn_r (big := wsX3_duckedSecondsOf) (u_ws RX4 TX4 3) [35, 36, 37] (by decide +kernel) (by decide +kernel) w h).1
  have hl : lv_has ls 5 [(0, .ref (b + k)), (1, .int (nI i))] := hl
  have hoP := hp.ok
  have hoS := hoP.2.2.2.2
  have ho10 := hoP.1
  have ho12 := hoP.2.1
  unfold okS at hoS
  obtain ⟨hm0, hm1, hm2, hm3, hm4, hm5, hm6, hm7⟩ := id hX
  refine lv_iconst (v := nI 0) hx hb dX3_duckedSecondsOf_0 (by decide) ?_
  refine lv_istore_n (lv' := [(2, .int (nI 0)), (0, .ref (b + k)), (1, .int (nI i))]) hx hb dX3_duckedSecondsOf_1 rfl hl (by decide) rfl (fun ls hl => ?_)
  refine lv_aload_n hx hb dX3_duckedSecondsOf_2 rfl (lv_at hl 1 rfl) ?_
  refine q_get hx hb hts hinX3 hown hG hW hm0 rfl 0 (by decide) (hts (.fieldLink RX3 12 "FoleyMixer$Mix" "play" "LFoleyMixer$Play;") (List.mem_of_getElem? (i := 1) rfl)) rfl rfl dX3_duckedSecondsOf_3 ?_
  refine q_getN hx hb hts hinX4 hown hG hW (hp).1 rfl 1 (by decide) (hG.nest 12 rfl) rfl rfl dX3_duckedSecondsOf_6 ?_
  refine lv_iload_n hx hb dX3_duckedSecondsOf_9 rfl (lv_at hl 2 rfl) ?_
  refine q_R1 (va_runVN (As := [.int (nI i)]) (rest := []) ⟨hx, hb, hml, hown, hts⟩ (c_X1_endOf l (hp).2.2.1 (i) (by omega)) ⟨(va_cnB 1 hts gX3_duckedSecondsOf_X1_endOf_n114 rfl rfl rfl (hG.nest 84 rfl) (hts (.initialized RX1) (List.mem_of_getElem? (i := 3) rfl)) (by decide +kernel) ⟨Nat.le_of_ble_eq_true rfl, Nat.le_of_ble_eq_true rfl⟩), (hts (.instanceMethod yX1_endOf) (List.mem_of_getElem? (i := 2) rfl)), (hts (.selects RX1 yX1_endOf yX1_endOf) (List.mem_of_getElem? (i := 4) rfl))⟩ (q_preV hG hW hS (isCues.obj (hp).2.2.1) rfl) rfl rfl hl.1 rfl (lv_room (Nat.le_of_ble_eq_true rfl)) dX3_duckedSecondsOf_10 ⟨Nat.le_of_ble_eq_true rfl, Nat.le_of_ble_eq_true rfl⟩) ?_
  have q_10 := (hp).2.2.1.2.2.2.1 (i) (by omega)
  refine lv_istore_n (lv' := [(3, .int (nI (P.N i 0 + P.N i 1))), (2, .int (nI 0)), (0, .ref (b + k)), (1, .int (nI i))]) hx hb dX3_duckedSecondsOf_13 rfl hl (by decide) rfl (fun ls hl => ?_)
  refine lv_aload_n hx hb dX3_duckedSecondsOf_14 rfl (lv_at hl 2 rfl) ?_
  refine q_get hx hb hts hinX3 hown hG hW hm0 rfl 0 (by decide) (hts (.fieldLink RX3 12 "FoleyMixer$Mix" "play" "LFoleyMixer$Play;") (List.mem_of_getElem? (i := 1) rfl)) rfl rfl dX3_duckedSecondsOf_15 ?_
  refine q_getN hx hb hts hinX4 hown hG hW (hp).1 rfl 1 (by decide) (hG.nest 12 rfl) rfl rfl dX3_duckedSecondsOf_18 ?_
  refine lv_iload_n hx hb dX3_duckedSecondsOf_21 rfl (lv_at hl 3 rfl) ?_
  refine lv_iconst (v := nI 0) hx hb dX3_duckedSecondsOf_22 (by decide) ?_
  refine q_R1 (va_runVN (As := [.int (nI i), .int (nI 0)]) (rest := []) ⟨hx, hb, hml, hown, hts⟩ (c_X1_numberOf l (hp).2.2.1 (i) (0) (by omega) (by omega)) ⟨(va_cnB 2 hts gX3_duckedSecondsOf_X1_numberOf_n79 rfl rfl rfl (hG.nest 54 rfl) (hts (.initialized RX1) (List.mem_of_getElem? (i := 3) rfl)) (by decide +kernel) ⟨Nat.le_of_ble_eq_true rfl, Nat.le_of_ble_eq_true rfl⟩), (hts (.instanceMethod yX1_numberOf) (List.mem_of_getElem? (i := 7) rfl)), (hts (.selects RX1 yX1_numberOf yX1_numberOf) (List.mem_of_getElem? (i := 8) rfl))⟩ (q_preV hG hW hS (isCues.obj (hp).2.2.1) rfl) rfl rfl hl.1 rfl (lv_room (Nat.le_of_ble_eq_true rfl)) dX3_duckedSecondsOf_23 ⟨Nat.le_of_ble_eq_true rfl, Nat.le_of_ble_eq_true rfl⟩) ?_
  have q_23 := (hp).2.2.1.2.2.2.1 (i) (by omega)
  refine lv_istore (lv' := [(4, .int (nI (P.N i 0))), (3, .int (nI (P.N i 0 + P.N i 1))), (2, .int (nI 0)), (0, .ref (b + k)), (1, .int (nI i))]) hx hb dX3_duckedSecondsOf_26 hl (by decide) rfl (fun ls hl => ?_)
  have L28 : ∀ (n28 : Nat) (j : Nat), j ≤ P.N i 1 → P.N i 1 - j < n28 → ∀ (x28_2 : Int32) (x28_4 : Int32), x28_2 = nI (ct (fun d => stg P i (P.N i 0 + d) < P.N i 2) j) → x28_4 = nI (P.N i 0 + j) → ∀ (ls : Array Slot), lv_has ls 5 [(0, .ref (b + k)), (1, .int (nI i)), (2, .int x28_2), (3, .int (nI (P.N i 0 + P.N i 1))), (4, .int x28_4)] → W p l e ({ frames := 3, cells := 0, slots := 0, locals := 67 } : Room) s m args below meth c s.heap [] 0 0 (MQ below (QR (some (.int (nI (ct (fun d => stg P i (P.N i 0 + d) < P.N i 2) (P.N i 1)))))) args s 0 0 Fno) (F0 m 28 ls []) := by
    intro n28
    induction n28 with
    | zero =>
      intro j hj0 hn28 x28_2 x28_4 ex28_2 ex28_4 ls hl
      exact absurd hn28 (Nat.not_lt_zero _)
    | succ n28 ih28 =>
      intro j hj0 hn28 x28_2 x28_4 ex28_2 ex28_4 ls hl
      subst ex28_2 ex28_4
      have hwi := hoP.2.2.2.1 i hi
      have hst := stg_le P i (P.N i 0 + j)
      refine lv_iload hx hb dX3_duckedSecondsOf_28 (lv_at hl 4 rfl) ?_
      refine lv_iload_n hx hb dX3_duckedSecondsOf_30 rfl (lv_at hl 3 rfl) ?_
      refine lv_icmp_ge (tgt := 65) hx hb dX3_duckedSecondsOf_31 (by decide) (fun c_31 => ?_) (fun c_31 => ?_)
      · skip
        have c_31 : P.N i 0 + P.N i 1 ≤ P.N i 0 + j := (nI_leI (a := P.N i 0 + P.N i 1) (b := P.N i 0 + j) (by omega) (by omega)).mp c_31
        refine lv_iload_n hx hb dX3_duckedSecondsOf_65 rfl (lv_at hl 2 rfl) ?_
        exact q_ri hx hb hr hlocks dX3_duckedSecondsOf_66 (by rw [show j = P.N i 1 by omega])
      · skip
        have c_31 : ¬ (P.N i 0 + P.N i 1 ≤ P.N i 0 + j) := fun h__ => c_31 ((nI_leI (a := P.N i 0 + P.N i 1) (b := P.N i 0 + j) (by omega) (by omega)).mpr h__)
        refine lv_aload_n hx hb dX3_duckedSecondsOf_34 rfl (lv_at hl 0 rfl) ?_
        refine lv_iload_n hx hb dX3_duckedSecondsOf_35 rfl (lv_at hl 1 rfl) ?_
        refine lv_iload hx hb dX3_duckedSecondsOf_36 (lv_at hl 4 rfl) ?_
        refine q_R1 (va_runV (As := [.int (nI i), .int (nI (P.N i 0 + j))]) (rest := []) ⟨hx, hb, hml, hown, hts⟩ (c_X3_strengthOf l hm0 hp hm3 (i) (P.N i 0 + j) (by omega) (by omega)) (cwV 2 hts gX3_duckedSecondsOf_X3_strengthOf rfl rfl rfl (by decide +kernel) ⟨Nat.le_of_ble_eq_true rfl, Nat.le_of_ble_eq_true rfl⟩) (q_preV hG hW hS hm0 rfl) rfl rfl hl.1 rfl (lv_room (Nat.le_of_ble_eq_true rfl)) dX3_duckedSecondsOf_38 ⟨Nat.le_of_ble_eq_true rfl, Nat.le_of_ble_eq_true rfl⟩) ?_
        refine lv_aload_n hx hb dX3_duckedSecondsOf_41 rfl (lv_at hl 0 rfl) ?_
        refine q_get hx hb hts hinX3 hown hG hW hm0 rfl 0 (by decide) (hts (.fieldLink RX3 12 "FoleyMixer$Mix" "play" "LFoleyMixer$Play;") (List.mem_of_getElem? (i := 1) rfl)) rfl rfl dX3_duckedSecondsOf_42 ?_
        refine q_getN hx hb hts hinX4 hown hG hW (hp).1 rfl 1 (by decide) (hG.nest 12 rfl) rfl rfl dX3_duckedSecondsOf_45 ?_
        refine lv_iload_n hx hb dX3_duckedSecondsOf_48 rfl (lv_at hl 1 rfl) ?_
        refine lv_iconst (v := nI 2) hx hb dX3_duckedSecondsOf_49 (by decide) ?_
        refine q_R1 (va_runVN (As := [.int (nI i), .int (nI 2)]) (rest := [.int (nI (stg P i (P.N i 0 + j)))]) ⟨hx, hb, hml, hown, hts⟩ (c_X1_numberOf l (hp).2.2.1 (i) (2) (by omega) (by omega)) ⟨(va_cnB 2 hts gX3_duckedSecondsOf_X1_numberOf_n79 rfl rfl rfl (hG.nest 54 rfl) (hts (.initialized RX1) (List.mem_of_getElem? (i := 3) rfl)) (by decide +kernel) ⟨Nat.le_of_ble_eq_true rfl, Nat.le_of_ble_eq_true rfl⟩), (hts (.instanceMethod yX1_numberOf) (List.mem_of_getElem? (i := 7) rfl)), (hts (.selects RX1 yX1_numberOf yX1_numberOf) (List.mem_of_getElem? (i := 8) rfl))⟩ (q_preV hG hW hS (isCues.obj (hp).2.2.1) rfl) rfl rfl hl.1 rfl (lv_room (Nat.le_of_ble_eq_true rfl)) dX3_duckedSecondsOf_50 ⟨Nat.le_of_ble_eq_true rfl, Nat.le_of_ble_eq_true rfl⟩) ?_
        have q_50 := (hp).2.2.1.2.2.2.1 (i) (by omega)
        refine lv_icmp_ge (tgt := 59) hx hb dX3_duckedSecondsOf_53 (by decide) (fun c_53 => ?_) (fun c_53 => ?_)
        · skip
          have c_53 : P.N i 2 ≤ stg P i (P.N i 0 + j) := (nI_leI (a := P.N i 2) (b := stg P i (P.N i 0 + j)) (by omega) (by omega)).mp c_53
          refine lv_iinc (v := nI ((P.N i 0 + j) + 1)) (lv' := [(4, .int (nI ((P.N i 0 + j) + 1))), (0, .ref (b + k)), (1, .int (nI i)), (2, .int (nI (ct (fun d => stg P i (P.N i 0 + d) < P.N i 2) j))), (3, .int (nI (P.N i 0 + P.N i 1)))]) hx hb dX3_duckedSecondsOf_59 hl (k := 4) rfl (nI_add _ 1) (by decide) rfl (fun ls hl => ?_)
          refine lv_goto (tgt := 28) hx hb dX3_duckedSecondsOf_62 (by decide) ?_
          exact ih28 (j + 1) (by omega) (by omega) _ _ (by refine congrArg nI ?_; (try unfold mse); rw [ct]; first | (rw [if_pos (by omega)]; done) | (rw [if_neg (by omega)]; done)) (by first | rfl | (congr 1; omega)) _ (lv_sub hl [1, 2, 3, 4, 0] rfl)
        · skip
          have c_53 : ¬ (P.N i 2 ≤ stg P i (P.N i 0 + j)) := fun h__ => c_53 ((nI_leI (a := P.N i 2) (b := stg P i (P.N i 0 + j)) (by omega) (by omega)).mpr h__)
          refine lv_iinc (v := nI ((ct (fun d => stg P i (P.N i 0 + d) < P.N i 2) j) + 1)) (lv' := [(2, .int (nI ((ct (fun d => stg P i (P.N i 0 + d) < P.N i 2) j) + 1))), (0, .ref (b + k)), (1, .int (nI i)), (3, .int (nI (P.N i 0 + P.N i 1))), (4, .int (nI (P.N i 0 + j)))]) hx hb dX3_duckedSecondsOf_56 hl (k := 2) rfl (nI_add _ 1) (by decide) rfl (fun ls hl => ?_)
          refine lv_iinc (v := nI ((P.N i 0 + j) + 1)) (lv' := [(4, .int (nI ((P.N i 0 + j) + 1))), (2, .int (nI ((ct (fun d => stg P i (P.N i 0 + d) < P.N i 2) j) + 1))), (0, .ref (b + k)), (1, .int (nI i)), (3, .int (nI (P.N i 0 + P.N i 1)))]) hx hb dX3_duckedSecondsOf_59 hl (k := 4) rfl (nI_add _ 1) (by decide) rfl (fun ls hl => ?_)
          refine lv_goto (tgt := 28) hx hb dX3_duckedSecondsOf_62 (by decide) ?_
          exact ih28 (j + 1) (by omega) (by omega) _ _ (by refine congrArg nI ?_; (try unfold mse); rw [ct]; first | (rw [if_pos (by omega)]; done) | (rw [if_neg (by omega)]; done)) (by first | rfl | (congr 1; omega)) _ (lv_sub hl [2, 3, 1, 4, 0] rfl)
  exact L28 ((P.N i 1 - 0) + 1) 0 (by omega) (Nat.lt_succ_self _) _ _ (by first | rfl | (congr 1; omega)) (by first | rfl | (congr 1; omega)) _ (lv_sub hl [3, 4, 2, 1, 0] rfl)

set_option maxHeartbeats 300000 in
set_option maxRecDepth 100000 in
/-- Mix.isSilent(second) -/
theorem c_X3_isSilent (l : Launch) {D : va_G} {dA : Nat → Nat} {b : Nat} {w : Wd} {k q : Nat} {P : Pl} (hX : isMix dA b w k q P) (hp : isPlay dA b w q P) (t : Nat) (ht : t < 120) : Met l yX3_isSilent wsX3_isSilent ({ frames := 1, cells := 0, slots := 0, locals := 21 } : Room) (PC D dA b w [.ref (b + k), .int (nI t)]) (QR (some (.int (if sil P t then 1 else 0)))) 0 0 Fno := by
  refine q_of (cc := cX3_isSilent) (maxL := 2) (ret := (some .boolean)) (by decide) rfl rfl ?_
  intro p e s m args below meth c ls hx hb hr hml hts hown hlocks hG hW hS hl
  have hown : s.vm.findClass RX3 = some m.cls := hown
  have hinX3 : ∀ w ∈ u_ws RX3 TX3 8, w ∈ wsX3_isSilent := fun w h => (goodIn_r (big := wsX3_isSilent) (u_ws RX3 TX3 8) [6, 7, 8, 9, 10, 11, 12, 13] (by decide +kernel) (by decide +kernel) w h).1
  have hl : lv_has ls 2 [(0, .ref (b + k)), (1, .int (nI t))] := hl
  have hoP := hp.ok
  have hoS := hoP.2.2.2.2
  have ho10 := hoP.1
  have ho12 := hoP.2.1
  unfold okS at hoS
  obtain ⟨hm0, hm1, hm2, hm3, hm4, hm5, hm6, hm7⟩ := id hX
  have hw1 := wmk_lt (V := P.W) (n := P.w) (by omega) t
  have hw2 := wmk_lt (V := P.N) ho12 t
  have hor : wmk P.W P.w t ||| wmk P.N P.n t < 2 ^ 12 := Nat.or_lt_two_pow hw1 hw2
  refine lv_aload_n hx hb dX3_isSilent_0 rfl (lv_at hl 0 rfl) ?_
  refine q_get hx hb hts hinX3 hown hG hW hm0 rfl 1 (by decide) (hts (.fieldLink RX3 18 "FoleyMixer$Mix" "words" "[I") (List.mem_of_getElem? (i := 1) rfl)) rfl rfl dX3_isSilent_1 ?_
  refine lv_iload_n hx hb dX3_isSilent_4 rfl (lv_at hl 1 rfl) ?_
  refine q_R1 (va_runSN (As := [.ref (b + (k + 7)), .int (nI t)]) (rest := []) ⟨hx, hb, hml, hown, hts⟩ (c_entry_in l (RD.own hm1 (by decide)) (by decide) (t) (by omega)) ⟨(va_cnB 2 hts gX3_isSilent_X6_entry_n61 rfl rfl rfl (hG.nest 49 rfl) (hts (.initialized RX6) (List.mem_of_getElem? (i := 4) rfl)) (by decide +kernel) ⟨Nat.le_of_ble_eq_true rfl, Nat.le_of_ble_eq_true rfl⟩), (hts (.static yX6_entry) (List.mem_of_getElem? (i := 3) rfl)), trivial⟩ (q_preS hG hW hS) rfl rfl hl.1 rfl (lv_room (Nat.le_of_ble_eq_true rfl)) dX3_isSilent_5 ⟨Nat.le_of_ble_eq_true rfl, Nat.le_of_ble_eq_true rfl⟩) ?_
  refine lv_aload_n hx hb dX3_isSilent_8 rfl (lv_at hl 0 rfl) ?_
  refine q_get hx hb hts hinX3 hown hG hW hm0 rfl 2 (by decide) (hts (.fieldLink RX3 22 "FoleyMixer$Mix" "noises" "[I") (List.mem_of_getElem? (i := 2) rfl)) rfl rfl dX3_isSilent_9 ?_
  refine lv_iload_n hx hb dX3_isSilent_12 rfl (lv_at hl 1 rfl) ?_
  refine q_R1 (va_runSN (As := [.ref (b + (k + 8)), .int (nI t)]) (rest := [.int (nI ((wmk P.W P.w) t))]) ⟨hx, hb, hml, hown, hts⟩ (c_entry_in l (RD.own hm2 (by decide)) (by decide) (t) (by omega)) ⟨(va_cnB 2 hts gX3_isSilent_X6_entry_n61 rfl rfl rfl (hG.nest 49 rfl) (hts (.initialized RX6) (List.mem_of_getElem? (i := 4) rfl)) (by decide +kernel) ⟨Nat.le_of_ble_eq_true rfl, Nat.le_of_ble_eq_true rfl⟩), (hts (.static yX6_entry) (List.mem_of_getElem? (i := 3) rfl)), trivial⟩ (q_preS hG hW hS) rfl rfl hl.1 rfl (lv_room (Nat.le_of_ble_eq_true rfl)) dX3_isSilent_13 ⟨Nat.le_of_ble_eq_true rfl, Nat.le_of_ble_eq_true rfl⟩) ?_
  refine lv_ior hx hb dX3_isSilent_16 ?_
  refine q_top (y := nI (wmk P.W P.w t ||| wmk P.N P.n t)) (by exact nI_or _ _) ?_
  refine lv_if_ne (tgt := 24) hx hb dX3_isSilent_17 (by decide) (fun c_17 => ?_) (fun c_17 => ?_)
  · skip
    have c_17 : ¬ ((wmk P.W P.w t ||| wmk P.N P.n t) = 0) := fun h__ => c_17 ((nI_eq0 (i := wmk P.W P.w t ||| wmk P.N P.n t) (by omega)).mpr h__)
    refine lv_iconst (v := nI 0) hx hb dX3_isSilent_24 (by decide) ?_
    exact q_rz hx hb hr hlocks dX3_isSilent_25 (by first | (rw [if_pos (Nat.or_eq_zero_iff.mp (by first | exact c_17 | exact Decidable.byContradiction c_17))]; rfl) | (rw [if_neg (fun q9 => c_17 (Nat.or_eq_zero_iff.mpr q9))]; rfl)) (q_bn _)
  · skip
    have c_17 : (wmk P.W P.w t ||| wmk P.N P.n t) = 0 := (nI_eq0 (i := wmk P.W P.w t ||| wmk P.N P.n t) (by omega)).mp c_17
    refine lv_iconst (v := nI 1) hx hb dX3_isSilent_20 (by decide) ?_
    refine lv_goto (tgt := 25) hx hb dX3_isSilent_21 (by decide) ?_
    exact q_rz hx hb hr hlocks dX3_isSilent_25 (by first | (rw [if_pos (Nat.or_eq_zero_iff.mp (by first | exact c_17 | exact Decidable.byContradiction c_17))]; rfl) | (rw [if_neg (fun q9 => c_17 (Nat.or_eq_zero_iff.mpr q9))]; rfl)) (q_bn _)

set_option maxHeartbeats 300000 in
set_option maxRecDepth 100000 in
/-- Mix.lastSound() -/
theorem c_X3_lastSound (l : Launch) {D : va_G} {dA : Nat → Nat} {b : Nat} {w : Wd} {k q : Nat} {P : Pl} (hX : isMix dA b w k q P) (hp : isPlay dA b w q P) : Met l yX3_lastSound wsX3_lastSound ({ frames := 2, cells := 0, slots := 0, locals := 42 } : Room) (PC D dA b w [.ref (b + k)]) (QR (some (.int (lst P 120)))) 0 0 Fno := by
  refine q_of (cc := cX3_lastSound) (maxL := 2) (ret := (some .int)) (by decide) rfl rfl ?_
  intro p e s m args below meth c ls hx hb hr hml hts hown hlocks hG hW hS hl
  have hown : s.vm.findClass RX3 = some m.cls := hown
  have hl : lv_has ls 2 [(0, .ref (b + k))] := hl
  have hoP := hp.ok
  have hoS := hoP.2.2.2.2
  have ho10 := hoP.1
  have ho12 := hoP.2.1
  unfold okS at hoS
  obtain ⟨hm0, hm1, hm2, hm3, hm4, hm5, hm6, hm7⟩ := id hX
  refine lv_bipush (v := nI 119) hx hb dX3_lastSound_0 (by decide) ?_
  refine lv_istore_n (lv' := [(1, .int (nI 119)), (0, .ref (b + k))]) hx hb dX3_lastSound_2 rfl hl (by decide) rfl (fun ls hl => ?_)
  have L3 : ∀ (n3 : Nat) (j : Nat), j ≤ 120 → lst P 120 = lst P j → j < n3 → ∀ (x3_1 : Int32), x3_1 = nI j + (-1) → ∀ (ls : Array Slot), lv_has ls 2 [(0, .ref (b + k)), (1, .int x3_1)] → W p l e ({ frames := 2, cells := 0, slots := 0, locals := 42 } : Room) s m args below meth c s.heap [] 0 0 (MQ below (QR (some (.int (lst P 120)))) args s 0 0 Fno) (F0 m 3 ls []) := by
    intro n3
    induction n3 with
    | zero =>
      intro j hj0 hj1 hn3 x3_1 ex3_1 ls hl
      exact absurd hn3 (Nat.not_lt_zero _)
    | succ n3 ih3 =>
      intro j hj0 hj1 hn3 x3_1 ex3_1 ls hl
      subst ex3_1
      cases j with
      | zero =>
        replace hl : lv_has ls 2 [(0, .ref (b + k)), (1, .int (-1))] := by rw [show nI 0 + (-1) = (-1 : Int32) from by decide] at hl; exact hl
        refine lv_iload_n hx hb dX3_lastSound_3 rfl (lv_at hl 1 rfl) ?_
        refine lv_if_lt (tgt := 23) hx hb dX3_lastSound_4 (by decide) (fun c_4 => ?_) (fun c_4 => ?_)
        · skip
          refine lv_iconst (v := (-1)) hx hb dX3_lastSound_23 (by decide) ?_
          exact q_ri hx hb hr hlocks dX3_lastSound_24 (by first | omega | (rw [hj1]; rfl))
        · skip
          exact absurd (by decide) c_4
      | succ j =>
        rw [pk_m1] at hl
        refine lv_iload_n hx hb dX3_lastSound_3 rfl (lv_at hl 1 rfl) ?_
        refine lv_if_lt (tgt := 23) hx hb dX3_lastSound_4 (by decide) (fun c_4 => ?_) (fun c_4 => ?_)
        · skip
          have c_4 : j < 0 := (nI_lt0 (i := j) (by omega)).mp c_4
          refine lv_iconst (v := (-1)) hx hb dX3_lastSound_23 (by decide) ?_
          exact q_ri hx hb hr hlocks dX3_lastSound_24 (by first | omega | (rw [hj1]; rfl))
        · skip
          have c_4 : ¬ (j < 0) := fun h__ => c_4 ((nI_lt0 (i := j) (by omega)).mpr h__)
          refine lv_aload_n hx hb dX3_lastSound_7 rfl (lv_at hl 0 rfl) ?_
          refine lv_iload_n hx hb dX3_lastSound_8 rfl (lv_at hl 1 rfl) ?_
          refine q_R1 (va_runV (As := [.int (nI j)]) (rest := []) ⟨hx, hb, hml, hown, hts⟩ (c_X3_isSilent l hX hp (j) (by omega)) (cwV 1 hts gX3_lastSound_X3_isSilent rfl rfl rfl (by decide +kernel) ⟨Nat.le_of_ble_eq_true rfl, Nat.le_of_ble_eq_true rfl⟩) (q_preV hG hW hS hm0 rfl) rfl rfl hl.1 rfl (lv_room (Nat.le_of_ble_eq_true rfl)) dX3_lastSound_9 ⟨Nat.le_of_ble_eq_true rfl, Nat.le_of_ble_eq_true rfl⟩) ?_
          refine lv_if_ne (tgt := 17) hx hb dX3_lastSound_12 (by decide) (fun c_12 => ?_) (fun c_12 => ?_)
          · skip
            have c_12 : sil P j := Decidable.byContradiction (fun h__ => c_12 (pI_eq0.mpr h__))
            refine lv_iinc (v := nI j + (-1)) (lv' := [(1, .int (nI j + (-1))), (0, .ref (b + k))]) hx hb dX3_lastSound_17 hl (k := 1) rfl (by rw [show Int32.ofInt (-1) = -1 from by decide]) (by decide) rfl (fun ls hl => ?_)
            refine lv_goto (tgt := 3) hx hb dX3_lastSound_20 (by decide) ?_
            exact ih3 j (by omega) (by first | rfl | (rw [hj1, lst_down c_12])) (by omega) _ (by rfl) _ (lv_sub hl [1, 0] rfl)
          · skip
            have c_12 : ¬ (sil P j) := pI_eq0.mp c_12
            refine lv_iload_n hx hb dX3_lastSound_15 rfl (lv_at hl 1 rfl) ?_
            exact q_ri hx hb hr hlocks dX3_lastSound_16 (by rw [hj1, lst_here c_12])
  exact L3 (120 + 1) 120 (by omega) (by first | rfl | (rw [hj1, lst_down c_12])) (Nat.lt_succ_self _) _ (by decide) _ (lv_sub hl [1, 0] rfl)

set_option maxHeartbeats 300000 in
set_option maxRecDepth 100000 in
/-- Mix.silentSeconds() -/
theorem c_X3_silentSeconds (l : Launch) {D : va_G} {dA : Nat → Nat} {b : Nat} {w : Wd} {k q : Nat} {P : Pl} (hX : isMix dA b w k q P) (hp : isPlay dA b w q P) : Met l yX3_silentSeconds wsX3_silentSeconds ({ frames := 3, cells := 0, slots := 0, locals := 63 } : Room) (PC D dA b w [.ref (b + k)]) (QR (some (.int (nI (sls P))))) 0 0 Fno := by
  refine q_of (cc := cX3_silentSeconds) (maxL := 4) (ret := (some .int)) (by decide) rfl rfl ?_
  intro p e s m args below meth c ls hx hb hr hml hts hown hlocks hG hW hS hl
  have hown : s.vm.findClass RX3 = some m.cls := hown
  have hl : lv_has ls 4 [(0, .ref (b + k))] := hl
  have hoP := hp.ok
  have hoS := hoP.2.2.2.2
  have ho10 := hoP.1
  have ho12 := hoP.2.1
  unfold okS at hoS
  obtain ⟨hm0, hm1, hm2, hm3, hm4, hm5, hm6, hm7⟩ := id hX
  refine lv_aload_n hx hb dX3_silentSeconds_0 rfl (lv_at hl 0 rfl) ?_
  refine q_R1 (va_runV (As := []) (rest := []) ⟨hx, hb, hml, hown, hts⟩ (c_X3_lastSound l hX hp) (cwV 0 hts gX3_silentSeconds_X3_lastSound rfl rfl rfl (by decide +kernel) ⟨Nat.le_of_ble_eq_true rfl, Nat.le_of_ble_eq_true rfl⟩) (q_preV hG hW hS hm0 rfl) rfl rfl hl.1 rfl (lv_room (Nat.le_of_ble_eq_true rfl)) dX3_silentSeconds_1 ⟨Nat.le_of_ble_eq_true rfl, Nat.le_of_ble_eq_true rfl⟩) ?_
  rcases lst_rng P 120 with h9 | ⟨z9, hz9, h9⟩
  · skip
    refine q_top (y := -1) h9 ?_
    refine lv_istore_n (lv' := [(1, .int (-1)), (0, .ref (b + k))]) hx hb dX3_silentSeconds_4 rfl hl (by decide) rfl (fun ls hl => ?_)
    refine lv_iconst (v := nI 0) hx hb dX3_silentSeconds_5 (by decide) ?_
    refine lv_istore_n (lv' := [(2, .int (nI 0)), (1, .int (-1)), (0, .ref (b + k))]) hx hb dX3_silentSeconds_6 rfl hl (by decide) rfl (fun ls hl => ?_)
    refine lv_iconst (v := nI 0) hx hb dX3_silentSeconds_7 (by decide) ?_
    refine lv_istore_n (lv' := [(3, .int (nI 0)), (2, .int (nI 0)), (1, .int (-1)), (0, .ref (b + k))]) hx hb dX3_silentSeconds_8 rfl hl (by decide) rfl (fun ls hl => ?_)
    refine lv_iload_n hx hb dX3_silentSeconds_9 rfl (lv_at hl 0 rfl) ?_
    refine lv_iload_n hx hb dX3_silentSeconds_10 rfl (lv_at hl 2 rfl) ?_
    refine lv_icmp_ge (tgt := 31) hx hb dX3_silentSeconds_11 (by decide) (fun c_11 => ?_) (fun c_11 => ?_)
    · skip
      refine lv_iload_n hx hb dX3_silentSeconds_31 rfl (lv_at hl 1 rfl) ?_
      exact q_ri hx hb hr hlocks dX3_silentSeconds_32 (by first | (rw [sls_none h9]; done) | (rw [sls_some hz9 h9, show j = z9 by omega]))
    · skip
      exact absurd (by decide) c_11
  · skip
    refine q_top (y := nI z9) h9 ?_
    refine lv_istore_n (lv' := [(1, .int (nI z9)), (0, .ref (b + k))]) hx hb dX3_silentSeconds_4 rfl hl (by decide) rfl (fun ls hl => ?_)
    refine lv_iconst (v := nI 0) hx hb dX3_silentSeconds_5 (by decide) ?_
    refine lv_istore_n (lv' := [(2, .int (nI 0)), (1, .int (nI z9)), (0, .ref (b + k))]) hx hb dX3_silentSeconds_6 rfl hl (by decide) rfl (fun ls hl => ?_)
    refine lv_iconst (v := nI 0) hx hb dX3_silentSeconds_7 (by decide) ?_
    refine lv_istore_n (lv' := [(3, .int (nI 0)), (2, .int (nI 0)), (1, .int (nI z9)), (0, .ref (b + k))]) hx hb dX3_silentSeconds_8 rfl hl (by decide) rfl (fun ls hl => ?_)
    have L9 : ∀ (n9 : Nat) (j : Nat), j ≤ z9 → z9 - j < n9 → ∀ (x9_2 : Int32) (x9_3 : Int32), x9_2 = nI (ct (fun t => sil P t) j) → x9_3 = nI (j) → ∀ (ls : Array Slot), lv_has ls 4 [(0, .ref (b + k)), (1, .int (nI z9)), (2, .int x9_2), (3, .int x9_3)] → W p l e ({ frames := 3, cells := 0, slots := 0, locals := 63 } : Room) s m args below meth c s.heap [] 0 0 (MQ below (QR (some (.int (nI (sls P))))) args s 0 0 Fno) (F0 m 9 ls []) := by
      intro n9
      induction n9 with
      | zero =>
        intro j hj0 hn9 x9_2 x9_3 ex9_2 ex9_3 ls hl
        exact absurd hn9 (Nat.not_lt_zero _)
      | succ n9 ih9 =>
        intro j hj0 hn9 x9_2 x9_3 ex9_2 ex9_3 ls hl
        subst ex9_2 ex9_3
        refine lv_iload_n hx hb dX3_silentSeconds_9 rfl (lv_at hl 3 rfl) ?_
        refine lv_iload_n hx hb dX3_silentSeconds_10 rfl (lv_at hl 1 rfl) ?_
        refine lv_icmp_ge (tgt := 31) hx hb dX3_silentSeconds_11 (by decide) (fun c_11 => ?_) (fun c_11 => ?_)
        · skip
          have c_11 : z9 ≤ j := (nI_leI (a := z9) (b := j) (by omega) (by omega)).mp c_11
          refine lv_iload_n hx hb dX3_silentSeconds_31 rfl (lv_at hl 2 rfl) ?_
          exact q_ri hx hb hr hlocks dX3_silentSeconds_32 (by first | (rw [sls_none h9]; done) | (rw [sls_some hz9 h9, show j = z9 by omega]))
        · skip
          have c_11 : ¬ (z9 ≤ j) := fun h__ => c_11 ((nI_leI (a := z9) (b := j) (by omega) (by omega)).mpr h__)
          refine lv_aload_n hx hb dX3_silentSeconds_14 rfl (lv_at hl 0 rfl) ?_
          refine lv_iload_n hx hb dX3_silentSeconds_15 rfl (lv_at hl 3 rfl) ?_
          refine q_R1 (va_runV (As := [.int (nI j)]) (rest := []) ⟨hx, hb, hml, hown, hts⟩ (c_X3_isSilent l hX hp (j) (by omega)) (cwV 1 hts gX3_silentSeconds_X3_isSilent rfl rfl rfl (by decide +kernel) ⟨Nat.le_of_ble_eq_true rfl, Nat.le_of_ble_eq_true rfl⟩) (q_preV hG hW hS hm0 rfl) rfl rfl hl.1 rfl (lv_room (Nat.le_of_ble_eq_true rfl)) dX3_silentSeconds_16 ⟨Nat.le_of_ble_eq_true rfl, Nat.le_of_ble_eq_true rfl⟩) ?_
          refine lv_if_eq (tgt := 25) hx hb dX3_silentSeconds_19 (by decide) (fun c_19 => ?_) (fun c_19 => ?_)
          · skip
            have c_19 : ¬ (sil P j) := pI_eq0.mp c_19
            refine lv_iinc (v := nI (j + 1)) (lv' := [(3, .int (nI (j + 1))), (0, .ref (b + k)), (1, .int (nI z9)), (2, .int (nI (ct (fun t => sil P t) j)))]) hx hb dX3_silentSeconds_25 hl (k := 3) rfl (nI_add _ 1) (by decide) rfl (fun ls hl => ?_)
            refine lv_goto (tgt := 9) hx hb dX3_silentSeconds_28 (by decide) ?_
            exact ih9 (j + 1) (by omega) (by omega) _ _ (by first | (refine congrArg nI ?_; rw [ct, if_pos c_19]) | (refine congrArg nI ?_; rw [ct, if_neg c_19])) (by first | rfl | (congr 1; omega)) _ (lv_sub hl [1, 2, 3, 0] rfl)
          · skip
            have c_19 : sil P j := Decidable.byContradiction (fun h__ => c_19 (pI_eq0.mpr h__))
            refine lv_iinc (v := nI ((ct (fun t => sil P t) j) + 1)) (lv' := [(2, .int (nI ((ct (fun t => sil P t) j) + 1))), (0, .ref (b + k)), (1, .int (nI z9)), (3, .int (nI j))]) hx hb dX3_silentSeconds_22 hl (k := 2) rfl (nI_add _ 1) (by decide) rfl (fun ls hl => ?_)
            refine lv_iinc (v := nI (j + 1)) (lv' := [(3, .int (nI (j + 1))), (2, .int (nI ((ct (fun t => sil P t) j) + 1))), (0, .ref (b + k)), (1, .int (nI z9))]) hx hb dX3_silentSeconds_25 hl (k := 3) rfl (nI_add _ 1) (by decide) rfl (fun ls hl => ?_)
            refine lv_goto (tgt := 9) hx hb dX3_silentSeconds_28 (by decide) ?_
            exact ih9 (j + 1) (by omega) (by omega) _ _ (by first | (refine congrArg nI ?_; rw [ct, if_pos c_19]) | (refine congrArg nI ?_; rw [ct, if_neg c_19])) (by first | rfl | (congr 1; omega)) _ (lv_sub hl [2, 3, 1, 0] rfl)
    exact L9 ((z9 - 0) + 1) 0 (by omega) (Nat.lt_succ_self _) _ _ (by first | rfl | (congr 1; omega)) (by first | rfl | (congr 1; omega)) _ (lv_sub hl [3, 2, 1, 0] rfl)

set_option maxHeartbeats 300000 in
set_option maxRecDepth 100000 in
/-- Mix.greatestMasker() -/
theorem c_X3_greatestMasker (l : Launch) {D : va_G} {dA : Nat → Nat} {b : Nat} {w : Wd} {k q : Nat} {P : Pl} (hX : isMix dA b w k q P) (hp : isPlay dA b w q P) : Met l yX3_greatestMasker wsX3_greatestMasker ({ frames := 1, cells := 0, slots := 0, locals := 21 } : Room) (PC D dA b w [.ref (b + k)]) (QR (some (.int ((gmk P P.n).1)))) 0 0 Fno := by
  refine q_of (cc := cX3_greatestMasker) (maxL := 6) (ret := (some .int)) (by decide) rfl rfl ?_
  intro p e s m args below meth c ls hx hb hr hml hts hown hlocks hG hW hS hl
  have hown : s.vm.findClass RX3 = some m.cls := hown
  have hinX3 : ∀ w ∈ u_ws RX3 TX3 8, w ∈ wsX3_greatestMasker := fun w h => (goodIn_r (big := wsX3_greatestMasker) (u_ws RX3 TX3 8) [12, 13, 14, 15, 16, 17, 18, 19] (by decide +kernel) (by decide +kernel) w h).1
  have hinX4 : ∀ w ∈ u_ws RX4 TX4 3, w ∈ wsX3_greatestMasker := fun w h => (goodIn_r (big := wsX3_greatestMasker) (u_ws RX4 TX4 3) [20, 21, 22] (by decide +kernel) (by decide +kernel) w h).1
  have hl : lv_has ls 6 [(0, .ref (b + k))] := hl
  have hoP := hp.ok
  have hoS := hoP.2.2.2.2
  have ho10 := hoP.1
  have ho12 := hoP.2.1
  unfold okS at hoS
  obtain ⟨hm0, hm1, hm2, hm3, hm4, hm5, hm6, hm7⟩ := id hX
  refine lv_iconst (v := (-1)) hx hb dX3_greatestMasker_0 (by decide) ?_
  refine lv_istore_n (lv' := [(1, .int (-1)), (0, .ref (b + k))]) hx hb dX3_greatestMasker_1 rfl hl (by decide) rfl (fun ls hl => ?_)
  refine lv_iconst (v := nI 0) hx hb dX3_greatestMasker_2 (by decide) ?_
  refine lv_istore_n (lv' := [(2, .int (nI 0)), (1, .int (-1)), (0, .ref (b + k))]) hx hb dX3_greatestMasker_3 rfl hl (by decide) rfl (fun ls hl => ?_)
  refine lv_iconst (v := nI 0) hx hb dX3_greatestMasker_4 (by decide) ?_
  refine lv_istore_n (lv' := [(3, .int (nI 0)), (2, .int (nI 0)), (1, .int (-1)), (0, .ref (b + k))]) hx hb dX3_greatestMasker_5 rfl hl (by decide) rfl (fun ls hl => ?_)
  have L6 : ∀ (n6 : Nat) (i : Nat), i ≤ P.n → P.n - i < n6 → ∀ (x6_1 : Int32) (x6_2 : Int32) (x6_3 : Int32), x6_1 = (gmk P i).1 → x6_2 = nI ((gmk P i).2) → x6_3 = nI (i) → ∀ (ls : Array Slot), lv_has ls 6 [(0, .ref (b + k)), (1, .int x6_1), (2, .int x6_2), (3, .int x6_3)] → W p l e ({ frames := 1, cells := 0, slots := 0, locals := 21 } : Room) s m args below meth c s.heap [] 0 0 (MQ below (QR (some (.int ((gmk P P.n).1)))) args s 0 0 Fno) (F0 m 6 ls []) := by
    intro n6
    induction n6 with
    | zero =>
      intro i hi0 hn6 x6_1 x6_2 x6_3 ex6_1 ex6_2 ex6_3 ls hl
      exact absurd hn6 (Nat.not_lt_zero _)
    | succ n6 ih6 =>
      intro i hi0 hn6 x6_1 x6_2 x6_3 ex6_1 ex6_2 ex6_3 ls hl
      subst ex6_1 ex6_2 ex6_3
      have hgm := gmk_le P i
      refine lv_iload_n hx hb dX3_greatestMasker_6 rfl (lv_at hl 3 rfl) ?_
      refine lv_aload_n hx hb dX3_greatestMasker_7 rfl (lv_at hl 0 rfl) ?_
      refine q_get hx hb hts hinX3 hown hG hW hm0 rfl 0 (by decide) (hts (.fieldLink RX3 12 "FoleyMixer$Mix" "play" "LFoleyMixer$Play;") (List.mem_of_getElem? (i := 1) rfl)) rfl rfl dX3_greatestMasker_8 ?_
      refine q_getN hx hb hts hinX4 hown hG hW (hp).1 rfl 1 (by decide) (hG.nest 12 rfl) rfl rfl dX3_greatestMasker_11 ?_
      refine q_R1 (va_runVN (As := []) (rest := [.int (nI i)]) ⟨hx, hb, hml, hown, hts⟩ (c_X1_size l (hp).2.2.1) ⟨(va_cnB 0 hts gX3_greatestMasker_X1_size_n86 rfl rfl rfl (hG.nest 52 rfl) (hts (.initialized RX1) (List.mem_of_getElem? (i := 5) rfl)) (by decide +kernel) ⟨Nat.le_of_ble_eq_true rfl, Nat.le_of_ble_eq_true rfl⟩), (hts (.instanceMethod yX1_size) (List.mem_of_getElem? (i := 4) rfl)), (hts (.selects RX1 yX1_size yX1_size) (List.mem_of_getElem? (i := 6) rfl))⟩ (q_preV hG hW hS (isCues.obj (hp).2.2.1) rfl) rfl rfl hl.1 rfl (lv_room (Nat.le_of_ble_eq_true rfl)) dX3_greatestMasker_14 ⟨Nat.le_of_ble_eq_true rfl, Nat.le_of_ble_eq_true rfl⟩) ?_
      refine lv_icmp_ge (tgt := 84) hx hb dX3_greatestMasker_17 (by decide) (fun c_17 => ?_) (fun c_17 => ?_)
      · skip
        have c_17 : P.n ≤ i := (nI_leI (a := P.n) (b := i) (by omega) (by omega)).mp c_17
        refine lv_iload_n hx hb dX3_greatestMasker_84 rfl (lv_at hl 1 rfl) ?_
        exact q_ri hx hb hr hlocks dX3_greatestMasker_85 (by rw [show i = P.n by omega])
      · skip
        have c_17 : ¬ (P.n ≤ i) := fun h__ => c_17 ((nI_leI (a := P.n) (b := i) (by omega) (by omega)).mpr h__)
        refine lv_iconst (v := nI 0) hx hb dX3_greatestMasker_20 (by decide) ?_
        refine lv_istore (lv' := [(4, .int (nI 0)), (0, .ref (b + k)), (1, .int ((gmk P i).1)), (2, .int (nI ((gmk P i).2))), (3, .int (nI i))]) hx hb dX3_greatestMasker_21 hl (by decide) rfl (fun ls hl => ?_)
        refine lv_iconst (v := nI 0) hx hb dX3_greatestMasker_23 (by decide) ?_
        refine lv_istore (lv' := [(5, .int (nI 0)), (4, .int (nI 0)), (0, .ref (b + k)), (1, .int ((gmk P i).1)), (2, .int (nI ((gmk P i).2))), (3, .int (nI i))]) hx hb dX3_greatestMasker_24 hl (by decide) rfl (fun ls hl => ?_)
        have L26 : ∀ (n26 : Nat) (j : Nat), j ≤ 120 → 120 - j < n26 → ∀ (x26_4 : Int32) (x26_5 : Int32), x26_4 = nI (mks P i j) → x26_5 = nI (j) → ∀ (ls : Array Slot), lv_has ls 6 [(0, .ref (b + k)), (1, .int ((gmk P i).1)), (2, .int (nI ((gmk P i).2))), (3, .int (nI i)), (4, .int x26_4), (5, .int x26_5)] → W p l e ({ frames := 1, cells := 0, slots := 0, locals := 21 } : Room) s m args below meth c s.heap [] 0 0 (MQ below (QR (some (.int ((gmk P P.n).1)))) args s 0 0 Fno) (F0 m 26 ls []) := by
          intro n26
          induction n26 with
          | zero =>
            intro j hj0 hn26 x26_4 x26_5 ex26_4 ex26_5 ls hl
            exact absurd hn26 (Nat.not_lt_zero _)
          | succ n26 ih26 =>
            intro j hj0 hn26 x26_4 x26_5 ex26_4 ex26_5 ls hl
            subst ex26_4 ex26_5
            have hmm := mmk_lt hoP j
            have hmk := ct_le (fun t => gfi P t P.n = nI i ∧ mmk P t ≠ 0) j
            change mks P i j ≤ j at hmk
            refine lv_iload hx hb dX3_greatestMasker_26 (lv_at hl 5 rfl) ?_
            refine lv_bipush (v := nI 120) hx hb dX3_greatestMasker_28 (by decide) ?_
            refine lv_icmp_ge (tgt := 67) hx hb dX3_greatestMasker_30 (by decide) (fun c_30 => ?_) (fun c_30 => ?_)
            · skip
              have c_30 : 120 ≤ j := (nI_leI (a := 120) (b := j) (by omega) (by omega)).mp c_30
              have hmk2 : mks P i 120 ≤ 120 := ct_le _ _
              have el_67 : nI (mks P i j) = nI (mks P i 120) := by rw [show j = 120 by omega]
              rw [el_67] at hl
              refine lv_iload hx hb dX3_greatestMasker_67 (lv_at hl 4 rfl) ?_
              refine lv_iload_n hx hb dX3_greatestMasker_69 rfl (lv_at hl 2 rfl) ?_
              refine lv_icmp_le (tgt := 78) hx hb dX3_greatestMasker_70 (by decide) (fun c_70 => ?_) (fun c_70 => ?_)
              · skip
                have c_70 : mks P i 120 ≤ (gmk P i).2 := (nI_leI (a := mks P i 120) (b := (gmk P i).2) (by omega) (by omega)).mp c_70
                refine lv_iinc (v := nI (i + 1)) (lv' := [(3, .int (nI (i + 1))), (0, .ref (b + k)), (1, .int ((gmk P i).1)), (2, .int (nI ((gmk P i).2))), (4, .int (nI (mks P i 120))), (5, .int (nI j))]) hx hb dX3_greatestMasker_78 hl (k := 3) rfl (nI_add _ 1) (by decide) rfl (fun ls hl => ?_)
                refine lv_goto (tgt := 6) hx hb dX3_greatestMasker_81 (by decide) ?_
                exact ih6 (i + 1) (by omega) (by omega) _ _ _ (by rw [gmk]; first | (rw [if_pos (by omega)]; done) | (rw [if_neg (by omega)]; done)) (by refine congrArg nI ?_; rw [gmk]; first | (rw [if_pos (by omega)]; done) | (rw [if_neg (by omega)]; done)) (by first | rfl | (congr 1; omega)) _ (lv_sub hl [1, 2, 3, 0] rfl)
              · skip
                have c_70 : ¬ (mks P i 120 ≤ (gmk P i).2) := fun h__ => c_70 ((nI_leI (a := mks P i 120) (b := (gmk P i).2) (by omega) (by omega)).mpr h__)
                refine lv_iload hx hb dX3_greatestMasker_73 (lv_at hl 4 rfl) ?_
                refine lv_istore_n (lv' := [(2, .int (nI (mks P i 120))), (0, .ref (b + k)), (1, .int ((gmk P i).1)), (3, .int (nI i)), (4, .int (nI (mks P i 120))), (5, .int (nI j))]) hx hb dX3_greatestMasker_75 rfl hl (by decide) rfl (fun ls hl => ?_)
                refine lv_iload_n hx hb dX3_greatestMasker_76 rfl (lv_at hl 3 rfl) ?_
                refine lv_istore_n (lv' := [(1, .int (nI i)), (2, .int (nI (mks P i 120))), (0, .ref (b + k)), (3, .int (nI i)), (4, .int (nI (mks P i 120))), (5, .int (nI j))]) hx hb dX3_greatestMasker_77 rfl hl (by decide) rfl (fun ls hl => ?_)
                refine lv_iinc (v := nI (i + 1)) (lv' := [(3, .int (nI (i + 1))), (1, .int (nI i)), (2, .int (nI (mks P i 120))), (0, .ref (b + k)), (4, .int (nI (mks P i 120))), (5, .int (nI j))]) hx hb dX3_greatestMasker_78 hl (k := 3) rfl (nI_add _ 1) (by decide) rfl (fun ls hl => ?_)
                refine lv_goto (tgt := 6) hx hb dX3_greatestMasker_81 (by decide) ?_
                exact ih6 (i + 1) (by omega) (by omega) _ _ _ (by rw [gmk]; first | (rw [if_pos (by omega)]; done) | (rw [if_neg (by omega)]; done)) (by refine congrArg nI ?_; rw [gmk]; first | (rw [if_pos (by omega)]; done) | (rw [if_neg (by omega)]; done)) (by first | rfl | (congr 1; omega)) _ (lv_sub hl [3, 1, 2, 0] rfl)
            · skip
              have c_30 : ¬ (120 ≤ j) := fun h__ => c_30 ((nI_leI (a := 120) (b := j) (by omega) (by omega)).mpr h__)
              refine lv_aload_n hx hb dX3_greatestMasker_33 rfl (lv_at hl 0 rfl) ?_
              refine q_get hx hb hts hinX3 hown hG hW hm0 rfl 4 (by decide) (hts (.fieldLink RX3 28 "FoleyMixer$Mix" "strongest" "[I") (List.mem_of_getElem? (i := 2) rfl)) rfl rfl dX3_greatestMasker_34 ?_
              refine lv_iload hx hb dX3_greatestMasker_37 (lv_at hl 5 rfl) ?_
              refine q_R1 (va_runSN (As := [.ref (b + (k + 10)), .int (nI j)]) (rest := []) ⟨hx, hb, hml, hown, hts⟩ (c_entry_in l (RD.own hm4 (by decide)) (by decide) (j) (by omega)) ⟨(va_cnB 2 hts gX3_greatestMasker_X6_entry_n61 rfl rfl rfl (hG.nest 49 rfl) (hts (.initialized RX6) (List.mem_of_getElem? (i := 10) rfl)) (by decide +kernel) ⟨Nat.le_of_ble_eq_true rfl, Nat.le_of_ble_eq_true rfl⟩), (hts (.static yX6_entry) (List.mem_of_getElem? (i := 9) rfl)), trivial⟩ (q_preS hG hW hS) rfl rfl hl.1 rfl (lv_room (Nat.le_of_ble_eq_true rfl)) dX3_greatestMasker_39 ⟨Nat.le_of_ble_eq_true rfl, Nat.le_of_ble_eq_true rfl⟩) ?_
              refine lv_iload_n hx hb dX3_greatestMasker_42 rfl (lv_at hl 3 rfl) ?_
              refine lv_icmp_ne (tgt := 61) hx hb dX3_greatestMasker_43 (by decide) (fun c_43 => ?_) (fun c_43 => ?_)
              · skip
                refine lv_iinc (v := nI (j + 1)) (lv' := [(5, .int (nI (j + 1))), (0, .ref (b + k)), (1, .int ((gmk P i).1)), (2, .int (nI ((gmk P i).2))), (3, .int (nI i)), (4, .int (nI (mks P i j)))]) hx hb dX3_greatestMasker_61 hl (k := 5) rfl (nI_add _ 1) (by decide) rfl (fun ls hl => ?_)
                refine lv_goto (tgt := 26) hx hb dX3_greatestMasker_64 (by decide) ?_
                exact ih26 (j + 1) (by omega) (by omega) _ _ (by refine congrArg nI ?_; unfold mks; rw [ct]; first | (rw [if_pos ⟨c_43, c_55⟩]; done) | (rw [if_neg (fun q9 => q9.2 c_55)]; done) | (rw [if_neg (fun q9 => c_43 q9.1)]; done)) (by first | rfl | (congr 1; omega)) _ (lv_sub hl [1, 2, 3, 4, 5, 0] rfl)
              · skip
                refine lv_aload_n hx hb dX3_greatestMasker_46 rfl (lv_at hl 0 rfl) ?_
                refine q_get hx hb hts hinX3 hown hG hW hm0 rfl 7 (by decide) (hts (.fieldLink RX3 37 "FoleyMixer$Mix" "masked" "[I") (List.mem_of_getElem? (i := 3) rfl)) rfl rfl dX3_greatestMasker_47 ?_
                refine lv_iload hx hb dX3_greatestMasker_50 (lv_at hl 5 rfl) ?_
                refine q_R1 (va_runSN (As := [.ref (b + (k + 13)), .int (nI j)]) (rest := []) ⟨hx, hb, hml, hown, hts⟩ (c_entry_in l (RD.own hm7 (by decide)) (by decide) (j) (by omega)) ⟨(va_cnB 2 hts gX3_greatestMasker_X6_entry_n61 rfl rfl rfl (hG.nest 49 rfl) (hts (.initialized RX6) (List.mem_of_getElem? (i := 10) rfl)) (by decide +kernel) ⟨Nat.le_of_ble_eq_true rfl, Nat.le_of_ble_eq_true rfl⟩), (hts (.static yX6_entry) (List.mem_of_getElem? (i := 9) rfl)), trivial⟩ (q_preS hG hW hS) rfl rfl hl.1 rfl (lv_room (Nat.le_of_ble_eq_true rfl)) dX3_greatestMasker_52 ⟨Nat.le_of_ble_eq_true rfl, Nat.le_of_ble_eq_true rfl⟩) ?_
                refine lv_if_eq (tgt := 61) hx hb dX3_greatestMasker_55 (by decide) (fun c_55 => ?_) (fun c_55 => ?_)
                · skip
                  have c_55 : ((mmk P) j) = 0 := (nI_eq0 (i := (mmk P) j) (by omega)).mp c_55
                  refine lv_iinc (v := nI (j + 1)) (lv' := [(5, .int (nI (j + 1))), (0, .ref (b + k)), (1, .int ((gmk P i).1)), (2, .int (nI ((gmk P i).2))), (3, .int (nI i)), (4, .int (nI (mks P i j)))]) hx hb dX3_greatestMasker_61 hl (k := 5) rfl (nI_add _ 1) (by decide) rfl (fun ls hl => ?_)
                  refine lv_goto (tgt := 26) hx hb dX3_greatestMasker_64 (by decide) ?_
                  exact ih26 (j + 1) (by omega) (by omega) _ _ (by refine congrArg nI ?_; unfold mks; rw [ct]; first | (rw [if_pos ⟨c_43, c_55⟩]; done) | (rw [if_neg (fun q9 => q9.2 c_55)]; done) | (rw [if_neg (fun q9 => c_43 q9.1)]; done)) (by first | rfl | (congr 1; omega)) _ (lv_sub hl [1, 2, 3, 4, 5, 0] rfl)
                · skip
                  have c_55 : ¬ (((mmk P) j) = 0) := fun h__ => c_55 ((nI_eq0 (i := (mmk P) j) (by omega)).mpr h__)
                  refine lv_iinc (v := nI ((mks P i j) + 1)) (lv' := [(4, .int (nI ((mks P i j) + 1))), (0, .ref (b + k)), (1, .int ((gmk P i).1)), (2, .int (nI ((gmk P i).2))), (3, .int (nI i)), (5, .int (nI j))]) hx hb dX3_greatestMasker_58 hl (k := 4) rfl (nI_add _ 1) (by decide) rfl (fun ls hl => ?_)
                  refine lv_iinc (v := nI (j + 1)) (lv' := [(5, .int (nI (j + 1))), (4, .int (nI ((mks P i j) + 1))), (0, .ref (b + k)), (1, .int ((gmk P i).1)), (2, .int (nI ((gmk P i).2))), (3, .int (nI i))]) hx hb dX3_greatestMasker_61 hl (k := 5) rfl (nI_add _ 1) (by decide) rfl (fun ls hl => ?_)
                  refine lv_goto (tgt := 26) hx hb dX3_greatestMasker_64 (by decide) ?_
                  exact ih26 (j + 1) (by omega) (by omega) _ _ (by refine congrArg nI ?_; unfold mks; rw [ct]; first | (rw [if_pos ⟨c_43, c_55⟩]; done) | (rw [if_neg (fun q9 => q9.2 c_55)]; done) | (rw [if_neg (fun q9 => c_43 q9.1)]; done)) (by first | rfl | (congr 1; omega)) _ (lv_sub hl [2, 3, 4, 5, 1, 0] rfl)
        exact L26 ((120 - 0) + 1) 0 (by omega) (Nat.lt_succ_self _) _ _ (by first | rfl | (congr 1; omega)) (by first | rfl | (congr 1; omega)) _ (lv_sub hl [2, 3, 4, 5, 1, 0] rfl)
  exact L6 ((P.n - 0) + 1) 0 (by omega) (Nat.lt_succ_self _) _ _ _ (by first | rfl | (congr 1; omega)) (by first | rfl | (congr 1; omega)) (by first | rfl | (congr 1; omega)) _ (lv_sub hl [3, 2, 1, 0] rfl)

