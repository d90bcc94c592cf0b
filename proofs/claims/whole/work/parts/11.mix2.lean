set_option maxHeartbeats 300000 in
set_option maxRecDepth 100000 in
/-- Mix.weighNoises(second) -/
theorem c_X3_weighNoises (l : Launch) {D : va_G} {dA : Nat → Nat} {b : Nat} {w : Wd} {k q : Nat} {P : Pl} (hm0 : w k = some (mixO b k q)) (hp : isPlay dA b w q P) (hm2 : w (k + 8) = some (eN dA 120 (wmk P.N P.n))) (hm3 : w (k + 9) = some (eN dA 120 (dk P))) {ST : Nat → Int32} {GS SC : Nat → Nat} (hm4 : w (k + 10) = some (eI dA 120 ST)) (hm5 : w (k + 11) = some (eN dA 120 GS)) (hm6 : w (k + 12) = some (eN dA 120 SC)) (t : Nat) (ht : t < 120) (hkq : q = k + 1) : Met l yX3_weighNoises wsX3_weighNoises ({ frames := 3, cells := 0, slots := 0, locals := 67 } : Room) (PC D dA b w [.ref (b + k), .int (nI t)]) (QW D b (none) (fun w' => w' (k + 10) = some (eI dA 120 (va_up ST t (gfi P t P.n))) ∧ w' (k + 11) = some (eN dA 120 (va_up GS t (gst P t P.n))) ∧ w' (k + 12) = some (eN dA 120 (va_up SC t (gct P t P.n))) ∧ ∀ id : Nat, (id < k + 10 ∨ k + 12 < id) → w' id = w id)) 0 0 (Fb b) := by
  refine q_of (cc := cX3_weighNoises) (maxL := 8) (ret := none) (by decide) rfl rfl ?_
  intro p e s m args below meth c ls hx hb hr hml hts hown hlocks hG hW hS hl
  have hown : s.vm.findClass RX3 = some m.cls := hown
  have hinX3 : ∀ w ∈ u_ws RX3 TX3 8, w ∈ wsX3_weighNoises := fun w h => (goodIn_r (big := wsX3_weighNoises) (u_ws RX3 TX3 8) [36, 37, 38, 39, 40, 41, 42, 43] (by decide +kernel) (by decide +kernel) w h).1
  have hinX4 : ∀ w ∈ u_ws RX4 TX4 3, w ∈ wsX3_weighNoises := fun w h => (goodIn_r (big := wsX3_weighNoises) (u_ws RX4 TX4 3) [44, 45, 46] (by decide +kernel) (by decide +kernel) w h).1
  have hl : lv_has ls 8 [(0, .ref (b + k)), (1, .int (nI t))] := hl
  have hoP := hp.ok
  have hoS := hoP.2.2.2.2
  have ho10 := hoP.1
  have ho12 := hoP.2.1
  unfold okS at hoS
  have hmw := wmk_lt (V := P.N) ho12 t
  refine lv_aload_n hx hb dX3_weighNoises_0 rfl (lv_at hl 0 rfl) ?_
  refine q_get hx hb hts hinX3 hown hG hW hm0 rfl 2 (by decide) (hts (.fieldLink RX3 22 "FoleyMixer$Mix" "noises" "[I") (List.mem_of_getElem? (i := 1) rfl)) rfl rfl dX3_weighNoises_1 ?_
  refine lv_iload_n hx hb dX3_weighNoises_4 rfl (lv_at hl 1 rfl) ?_
  refine q_R1 (va_runSN (As := [.ref (b + (k + 8)), .int (nI t)]) (rest := []) ⟨hx, hb, hml, hown, hts⟩ (c_entry_in l (RD.own hm2 (by decide)) (by decide) (t) (by omega)) ⟨(va_cnB 2 hts gX3_weighNoises_X6_entry_n61 rfl rfl rfl (hG.nest 49 rfl) (hts (.initialized RX6) (List.mem_of_getElem? (i := 7) rfl)) (by decide +kernel) ⟨Nat.le_of_ble_eq_true rfl, Nat.le_of_ble_eq_true rfl⟩), (hts (.static yX6_entry) (List.mem_of_getElem? (i := 6) rfl)), trivial⟩ (q_preS hG hW hS) rfl rfl hl.1 rfl (lv_room (Nat.le_of_ble_eq_true rfl)) dX3_weighNoises_5 ⟨Nat.le_of_ble_eq_true rfl, Nat.le_of_ble_eq_true rfl⟩) ?_
  refine lv_istore_n (lv' := [(2, .int (nI ((wmk P.N P.n) t))), (0, .ref (b + k)), (1, .int (nI t))]) hx hb dX3_weighNoises_8 rfl hl (by decide) rfl (fun ls hl => ?_)
  refine lv_iconst (v := (-1)) hx hb dX3_weighNoises_9 (by decide) ?_
  refine lv_istore_n (lv' := [(3, .int (-1)), (2, .int (nI ((wmk P.N P.n) t))), (0, .ref (b + k)), (1, .int (nI t))]) hx hb dX3_weighNoises_10 rfl hl (by decide) rfl (fun ls hl => ?_)
  refine lv_iconst (v := nI 0) hx hb dX3_weighNoises_11 (by decide) ?_
  refine lv_istore (lv' := [(4, .int (nI 0)), (3, .int (-1)), (2, .int (nI ((wmk P.N P.n) t))), (0, .ref (b + k)), (1, .int (nI t))]) hx hb dX3_weighNoises_12 hl (by decide) rfl (fun ls hl => ?_)
  refine lv_iconst (v := nI 0) hx hb dX3_weighNoises_14 (by decide) ?_
  refine lv_istore (lv' := [(5, .int (nI 0)), (4, .int (nI 0)), (3, .int (-1)), (2, .int (nI ((wmk P.N P.n) t))), (0, .ref (b + k)), (1, .int (nI t))]) hx hb dX3_weighNoises_15 hl (by decide) rfl (fun ls hl => ?_)
  refine lv_iconst (v := nI 0) hx hb dX3_weighNoises_17 (by decide) ?_
  refine lv_istore (lv' := [(6, .int (nI 0)), (5, .int (nI 0)), (4, .int (nI 0)), (3, .int (-1)), (2, .int (nI ((wmk P.N P.n) t))), (0, .ref (b + k)), (1, .int (nI t))]) hx hb dX3_weighNoises_18 hl (by decide) rfl (fun ls hl => ?_)
  have L20 : ∀ (n20 : Nat) (j : Nat), j ≤ P.n → P.n - j < n20 → ∀ (x20_3 : Int32) (x20_4 : Int32) (x20_5 : Int32) (x20_6 : Int32), x20_3 = gfi P t j → x20_4 = nI (gst P t j) → x20_5 = nI (gct P t j) → x20_6 = nI (j) → ∀ (ls : Array Slot), lv_has ls 8 [(0, .ref (b + k)), (1, .int (nI t)), (2, .int (nI ((wmk P.N P.n) t))), (3, .int x20_3), (4, .int x20_4), (5, .int x20_5), (6, .int x20_6)] → W p l e ({ frames := 3, cells := 0, slots := 0, locals := 67 } : Room) s m args below meth c s.heap [] 0 0 (MQ below (QW D b (none) (fun w' => w' (k + 10) = some (eI dA 120 (va_up ST t (gfi P t P.n))) ∧ w' (k + 11) = some (eN dA 120 (va_up GS t (gst P t P.n))) ∧ w' (k + 12) = some (eN dA 120 (va_up SC t (gct P t P.n))) ∧ ∀ id : Nat, (id < k + 10 ∨ k + 12 < id) → w' id = w id)) args s 0 0 (Fb b)) (F0 m 20 ls []) := by
    intro n20
    induction n20 with
    | zero =>
      intro j hj0 hn20 x20_3 x20_4 x20_5 x20_6 ex20_3 ex20_4 ex20_5 ex20_6 ls hl
      exact absurd hn20 (Nat.not_lt_zero _)
    | succ n20 ih20 =>
      intro j hj0 hn20 x20_3 x20_4 x20_5 x20_6 ex20_3 ex20_4 ex20_5 ex20_6 ls hl
      subst ex20_3 ex20_4 ex20_5 ex20_6
      have hq1 := gst_le hoP.2.2.2.1 t j hj0
      have hq2 := gct_le P t j
      refine lv_iload hx hb dX3_weighNoises_20 (lv_at hl 6 rfl) ?_
      refine lv_aload_n hx hb dX3_weighNoises_22 rfl (lv_at hl 0 rfl) ?_
      refine q_get hx hb hts hinX3 hown hG hW hm0 rfl 0 (by decide) (hts (.fieldLink RX3 12 "FoleyMixer$Mix" "play" "LFoleyMixer$Play;") (List.mem_of_getElem? (i := 2) rfl)) rfl rfl dX3_weighNoises_23 ?_
      refine q_getN hx hb hts hinX4 hown hG hW (hp).1 rfl 1 (by decide) (hG.nest 12 rfl) rfl rfl dX3_weighNoises_26 ?_
      refine q_R1 (va_runVN (As := []) (rest := [.int (nI j)]) ⟨hx, hb, hml, hown, hts⟩ (c_X1_size l (hp).2.2.1) ⟨(va_cnB 0 hts gX3_weighNoises_X1_size_n86 rfl rfl rfl (hG.nest 52 rfl) (hts (.initialized RX1) (List.mem_of_getElem? (i := 10) rfl)) (by decide +kernel) ⟨Nat.le_of_ble_eq_true rfl, Nat.le_of_ble_eq_true rfl⟩), (hts (.instanceMethod yX1_size) (List.mem_of_getElem? (i := 9) rfl)), (hts (.selects RX1 yX1_size yX1_size) (List.mem_of_getElem? (i := 11) rfl))⟩ (q_preV hG hW hS (isCues.obj (hp).2.2.1) rfl) rfl rfl hl.1 rfl (lv_room (Nat.le_of_ble_eq_true rfl)) dX3_weighNoises_29 ⟨Nat.le_of_ble_eq_true rfl, Nat.le_of_ble_eq_true rfl⟩) ?_
      refine lv_icmp_ge (tgt := 89) hx hb dX3_weighNoises_32 (by decide) (fun c_32 => ?_) (fun c_32 => ?_)
      · skip
        have c_32 : P.n ≤ j := (nI_leI (a := P.n) (b := j) (by omega) (by omega)).mp c_32
        have L89 : ∀ (x89_3 : Int32) (x89_4 : Int32) (x89_5 : Int32), x89_3 = gfi P t P.n → x89_4 = nI (gst P t P.n) → x89_5 = nI (gct P t P.n) → ∀ (ls : Array Slot), lv_has ls 8 [(0, .ref (b + k)), (1, .int (nI t)), (3, .int x89_3), (4, .int x89_4), (5, .int x89_5)] → W p l e ({ frames := 3, cells := 0, slots := 0, locals := 67 } : Room) s m args below meth c s.heap [] 0 0 (MQ below (QW D b (none) (fun w' => w' (k + 10) = some (eI dA 120 (va_up ST t (gfi P t P.n))) ∧ w' (k + 11) = some (eN dA 120 (va_up GS t (gst P t P.n))) ∧ w' (k + 12) = some (eN dA 120 (va_up SC t (gct P t P.n))) ∧ ∀ id : Nat, (id < k + 10 ∨ k + 12 < id) → w' id = w id)) args s 0 0 (Fb b)) (F0 m 89 ls []) := by
          intro  x89_3 x89_4 x89_5 ex89_3 ex89_4 ex89_5 ls hl
          subst ex89_3 ex89_4 ex89_5
          refine lv_aload_n hx hb dX3_weighNoises_89 rfl (lv_at hl 0 rfl) ?_
          refine q_get hx hb hts hinX3 hown hG hW hm0 rfl 4 (by decide) (hts (.fieldLink RX3 28 "FoleyMixer$Mix" "strongest" "[I") (List.mem_of_getElem? (i := 3) rfl)) rfl rfl dX3_weighNoises_90 ?_
          refine lv_iload_n hx hb dX3_weighNoises_93 rfl (lv_at hl 1 rfl) ?_
          refine lv_iload_n hx hb dX3_weighNoises_94 rfl (lv_at hl 2 rfl) ?_
          refine q_W0 (va_runSN (As := [.ref (b + (k + 10)), .int (nI t), .int (gfi P t P.n)]) (rest := []) ⟨hx, hb, hml, hown, hts⟩ (c_X6_put l hm4 (by decide) (t) (by omega) (gfi P t P.n)) ⟨(va_cnB 3 hts gX3_weighNoises_X6_put_n75 rfl rfl rfl (hG.nest 51 rfl) (hts (.initialized RX6) (List.mem_of_getElem? (i := 7) rfl)) (by decide +kernel) ⟨Nat.le_of_ble_eq_true rfl, Nat.le_of_ble_eq_true rfl⟩), (hts (.static yX6_put) (List.mem_of_getElem? (i := 34) rfl)), trivial⟩ (q_preS hG hW hS) rfl rfl hl.1 rfl (lv_room (Nat.le_of_ble_eq_true rfl)) dX3_weighNoises_95 ⟨Nat.le_of_ble_eq_true rfl, Nat.le_of_ble_eq_true rfl⟩) hS (fun w_95 H locs hp95 hW hS => ?_)
          obtain ⟨hm4, fr95⟩ := hp95
          replace hm0 : w_95 k = some (mixO b k q) := (fr95 _ (by omega)).trans hm0
          replace hp : isPlay dA b w_95 q P := hp.fr (fun id9 h7 h8 => fr95 id9 (by omega))
          replace hm2 : w_95 (k + 8) = some (eN dA 120 (wmk P.N P.n)) := (fr95 _ (by omega)).trans hm2
          replace hm3 : w_95 (k + 9) = some (eN dA 120 (dk P)) := (fr95 _ (by omega)).trans hm3
          replace hm5 : w_95 (k + 11) = some (eN dA 120 GS) := (fr95 _ (by omega)).trans hm5
          replace hm6 : w_95 (k + 12) = some (eN dA 120 SC) := (fr95 _ (by omega)).trans hm6
          refine lv_aload_n hx hb dX3_weighNoises_98 rfl (lv_at hl 0 rfl) ?_
          refine q_get hx hb hts hinX3 hown hG hW hm0 rfl 5 (by decide) (hts (.fieldLink RX3 31 "FoleyMixer$Mix" "greatestStrength" "[I") (List.mem_of_getElem? (i := 4) rfl)) rfl rfl dX3_weighNoises_99 ?_
          refine lv_iload_n hx hb dX3_weighNoises_102 rfl (lv_at hl 1 rfl) ?_
          refine lv_iload hx hb dX3_weighNoises_103 (lv_at hl 3 rfl) ?_
          refine q_W0 (va_runSN (As := [.ref (b + (k + 11)), .int (nI t), .int (nI (gst P t P.n))]) (rest := []) ⟨hx, hb, hml, hown, hts⟩ (c_put_n l hm5 (by decide) (t) (by omega) (gst P t P.n)) ⟨(va_cnB 3 hts gX3_weighNoises_X6_put_n75 rfl rfl rfl (hG.nest 51 rfl) (hts (.initialized RX6) (List.mem_of_getElem? (i := 7) rfl)) (by decide +kernel) ⟨Nat.le_of_ble_eq_true rfl, Nat.le_of_ble_eq_true rfl⟩), (hts (.static yX6_put) (List.mem_of_getElem? (i := 34) rfl)), trivial⟩ (q_preS hG hW hS) rfl rfl hl.1 rfl (lv_room (Nat.le_of_ble_eq_true rfl)) dX3_weighNoises_105 ⟨Nat.le_of_ble_eq_true rfl, Nat.le_of_ble_eq_true rfl⟩) hS (fun w_105 H locs hp105 hW hS => ?_)
          obtain ⟨hm5, fr105⟩ := hp105
          replace hm0 : w_105 k = some (mixO b k q) := (fr105 _ (by omega)).trans hm0
          replace hp : isPlay dA b w_105 q P := hp.fr (fun id9 h7 h8 => fr105 id9 (by omega))
          replace hm2 : w_105 (k + 8) = some (eN dA 120 (wmk P.N P.n)) := (fr105 _ (by omega)).trans hm2
          replace hm3 : w_105 (k + 9) = some (eN dA 120 (dk P)) := (fr105 _ (by omega)).trans hm3
          replace hm6 : w_105 (k + 12) = some (eN dA 120 SC) := (fr105 _ (by omega)).trans hm6
          replace hm4 : w_105 (k + 10) = some (eI dA 120 (va_up ST t (gfi P t P.n))) := (fr105 _ (by omega)).trans hm4
          refine lv_aload_n hx hb dX3_weighNoises_108 rfl (lv_at hl 0 rfl) ?_
          refine q_get hx hb hts hinX3 hown hG hW hm0 rfl 6 (by decide) (hts (.fieldLink RX3 34 "FoleyMixer$Mix" "strengthCount" "[I") (List.mem_of_getElem? (i := 5) rfl)) rfl rfl dX3_weighNoises_109 ?_
          refine lv_iload_n hx hb dX3_weighNoises_112 rfl (lv_at hl 1 rfl) ?_
          refine lv_iload hx hb dX3_weighNoises_113 (lv_at hl 4 rfl) ?_
          refine q_W0 (va_runSN (As := [.ref (b + (k + 12)), .int (nI t), .int (nI (gct P t P.n))]) (rest := []) ⟨hx, hb, hml, hown, hts⟩ (c_put_n l hm6 (by decide) (t) (by omega) (gct P t P.n)) ⟨(va_cnB 3 hts gX3_weighNoises_X6_put_n75 rfl rfl rfl (hG.nest 51 rfl) (hts (.initialized RX6) (List.mem_of_getElem? (i := 7) rfl)) (by decide +kernel) ⟨Nat.le_of_ble_eq_true rfl, Nat.le_of_ble_eq_true rfl⟩), (hts (.static yX6_put) (List.mem_of_getElem? (i := 34) rfl)), trivial⟩ (q_preS hG hW hS) rfl rfl hl.1 rfl (lv_room (Nat.le_of_ble_eq_true rfl)) dX3_weighNoises_115 ⟨Nat.le_of_ble_eq_true rfl, Nat.le_of_ble_eq_true rfl⟩) hS (fun w_115 H locs hp115 hW hS => ?_)
          obtain ⟨hm6, fr115⟩ := hp115
          replace hm0 : w_115 k = some (mixO b k q) := (fr115 _ (by omega)).trans hm0
          replace hp : isPlay dA b w_115 q P := hp.fr (fun id9 h7 h8 => fr115 id9 (by omega))
          replace hm2 : w_115 (k + 8) = some (eN dA 120 (wmk P.N P.n)) := (fr115 _ (by omega)).trans hm2
          replace hm3 : w_115 (k + 9) = some (eN dA 120 (dk P)) := (fr115 _ (by omega)).trans hm3
          replace hm4 : w_115 (k + 10) = some (eI dA 120 (va_up ST t (gfi P t P.n))) := (fr115 _ (by omega)).trans hm4
          replace hm5 : w_115 (k + 11) = some (eN dA 120 (va_up GS t (gst P t P.n))) := (fr115 _ (by omega)).trans hm5
          exact q_wv hx hb hr hlocks hW hS dX3_weighNoises_118 (by exact ⟨hm4, hm5, hm6, by intro id h9; rw [fr115 id (by omega)]; rw [fr105 id (by omega)]; rw [fr95 id (by omega)]; try rfl⟩) (by decide) (by decide)
        exact L89  _ _ _ (by first | (rw [show j = P.n by omega]; done) | (rw [(g_silent c_36 j hj0).2.2, (g_silent c_36 P.n (Nat.le_refl _)).2.2])) (by refine congrArg nI ?_; first | (rw [show j = P.n by omega]; done) | (rw [(g_silent c_36 j hj0).1, (g_silent c_36 P.n (Nat.le_refl _)).1])) (by refine congrArg nI ?_; first | (rw [show j = P.n by omega]; done) | (rw [(g_silent c_36 j hj0).2.1, (g_silent c_36 P.n (Nat.le_refl _)).2.1])) _ (lv_sub hl [0, 1, 3, 4, 5] rfl)
      · skip
        have c_32 : ¬ (P.n ≤ j) := fun h__ => c_32 ((nI_leI (a := P.n) (b := j) (by omega) (by omega)).mpr h__)
        refine lv_iload_n hx hb dX3_weighNoises_35 rfl (lv_at hl 2 rfl) ?_
        refine lv_if_eq (tgt := 89) hx hb dX3_weighNoises_36 (by decide) (fun c_36 => ?_) (fun c_36 => ?_)
        · skip
          have c_36 : ((wmk P.N P.n) t) = 0 := (nI_eq0 (i := (wmk P.N P.n) t) (by omega)).mp c_36
          have L89 : ∀ (x89_3 : Int32) (x89_4 : Int32) (x89_5 : Int32), x89_3 = gfi P t P.n → x89_4 = nI (gst P t P.n) → x89_5 = nI (gct P t P.n) → ∀ (ls : Array Slot), lv_has ls 8 [(0, .ref (b + k)), (1, .int (nI t)), (3, .int x89_3), (4, .int x89_4), (5, .int x89_5)] → W p l e ({ frames := 3, cells := 0, slots := 0, locals := 67 } : Room) s m args below meth c s.heap [] 0 0 (MQ below (QW D b (none) (fun w' => w' (k + 10) = some (eI dA 120 (va_up ST t (gfi P t P.n))) ∧ w' (k + 11) = some (eN dA 120 (va_up GS t (gst P t P.n))) ∧ w' (k + 12) = some (eN dA 120 (va_up SC t (gct P t P.n))) ∧ ∀ id : Nat, (id < k + 10 ∨ k + 12 < id) → w' id = w id)) args s 0 0 (Fb b)) (F0 m 89 ls []) := by
            intro  x89_3 x89_4 x89_5 ex89_3 ex89_4 ex89_5 ls hl
            subst ex89_3 ex89_4 ex89_5
            refine lv_aload_n hx hb dX3_weighNoises_89 rfl (lv_at hl 0 rfl) ?_
            refine q_get hx hb hts hinX3 hown hG hW hm0 rfl 4 (by decide) (hts (.fieldLink RX3 28 "FoleyMixer$Mix" "strongest" "[I") (List.mem_of_getElem? (i := 3) rfl)) rfl rfl dX3_weighNoises_90 ?_
            refine lv_iload_n hx hb dX3_weighNoises_93 rfl (lv_at hl 1 rfl) ?_
            refine lv_iload_n hx hb dX3_weighNoises_94 rfl (lv_at hl 2 rfl) ?_
            refine q_W0 (va_runSN (As := [.ref (b + (k + 10)), .int (nI t), .int (gfi P t P.n)]) (rest := []) ⟨hx, hb, hml, hown, hts⟩ (c_X6_put l hm4 (by decide) (t) (by omega) (gfi P t P.n)) ⟨(va_cnB 3 hts gX3_weighNoises_X6_put_n75 rfl rfl rfl (hG.nest 51 rfl) (hts (.initialized RX6) (List.mem_of_getElem? (i := 7) rfl)) (by decide +kernel) ⟨Nat.le_of_ble_eq_true rfl, Nat.le_of_ble_eq_true rfl⟩), (hts (.static yX6_put) (List.mem_of_getElem? (i := 34) rfl)), trivial⟩ (q_preS hG hW hS) rfl rfl hl.1 rfl (lv_room (Nat.le_of_ble_eq_true rfl)) dX3_weighNoises_95 ⟨Nat.le_of_ble_eq_true rfl, Nat.le_of_ble_eq_true rfl⟩) hS (fun w_95 H locs hp95 hW hS => ?_)
            obtain ⟨hm4, fr95⟩ := hp95
            replace hm0 : w_95 k = some (mixO b k q) := (fr95 _ (by omega)).trans hm0
            replace hp : isPlay dA b w_95 q P := hp.fr (fun id9 h7 h8 => fr95 id9 (by omega))
            replace hm2 : w_95 (k + 8) = some (eN dA 120 (wmk P.N P.n)) := (fr95 _ (by omega)).trans hm2
            replace hm3 : w_95 (k + 9) = some (eN dA 120 (dk P)) := (fr95 _ (by omega)).trans hm3
            replace hm5 : w_95 (k + 11) = some (eN dA 120 GS) := (fr95 _ (by omega)).trans hm5
            replace hm6 : w_95 (k + 12) = some (eN dA 120 SC) := (fr95 _ (by omega)).trans hm6
            refine lv_aload_n hx hb dX3_weighNoises_98 rfl (lv_at hl 0 rfl) ?_
            refine q_get hx hb hts hinX3 hown hG hW hm0 rfl 5 (by decide) (hts (.fieldLink RX3 31 "FoleyMixer$Mix" "greatestStrength" "[I") (List.mem_of_getElem? (i := 4) rfl)) rfl rfl dX3_weighNoises_99 ?_
            refine lv_iload_n hx hb dX3_weighNoises_102 rfl (lv_at hl 1 rfl) ?_
            refine lv_iload hx hb dX3_weighNoises_103 (lv_at hl 3 rfl) ?_
            refine q_W0 (va_runSN (As := [.ref (b + (k + 11)), .int (nI t), .int (nI (gst P t P.n))]) (rest := []) ⟨hx, hb, hml, hown, hts⟩ (c_put_n l hm5 (by decide) (t) (by omega) (gst P t P.n)) ⟨(va_cnB 3 hts gX3_weighNoises_X6_put_n75 rfl rfl rfl (hG.nest 51 rfl) (hts (.initialized RX6) (List.mem_of_getElem? (i := 7) rfl)) (by decide +kernel) ⟨Nat.le_of_ble_eq_true rfl, Nat.le_of_ble_eq_true rfl⟩), (hts (.static yX6_put) (List.mem_of_getElem? (i := 34) rfl)), trivial⟩ (q_preS hG hW hS) rfl rfl hl.1 rfl (lv_room (Nat.le_of_ble_eq_true rfl)) dX3_weighNoises_105 ⟨Nat.le_of_ble_eq_true rfl, Nat.le_of_ble_eq_true rfl⟩) hS (fun w_105 H locs hp105 hW hS => ?_)
            obtain ⟨hm5, fr105⟩ := hp105
            replace hm0 : w_105 k = some (mixO b k q) := (fr105 _ (by omega)).trans hm0
            replace hp : isPlay dA b w_105 q P := hp.fr (fun id9 h7 h8 => fr105 id9 (by omega))
            replace hm2 : w_105 (k + 8) = some (eN dA 120 (wmk P.N P.n)) := (fr105 _ (by omega)).trans hm2
            replace hm3 : w_105 (k + 9) = some (eN dA 120 (dk P)) := (fr105 _ (by omega)).trans hm3
            replace hm6 : w_105 (k + 12) = some (eN dA 120 SC) := (fr105 _ (by omega)).trans hm6
            replace hm4 : w_105 (k + 10) = some (eI dA 120 (va_up ST t (gfi P t P.n))) := (fr105 _ (by omega)).trans hm4
            refine lv_aload_n hx hb dX3_weighNoises_108 rfl (lv_at hl 0 rfl) ?_
            refine q_get hx hb hts hinX3 hown hG hW hm0 rfl 6 (by decide) (hts (.fieldLink RX3 34 "FoleyMixer$Mix" "strengthCount" "[I") (List.mem_of_getElem? (i := 5) rfl)) rfl rfl dX3_weighNoises_109 ?_
            refine lv_iload_n hx hb dX3_weighNoises_112 rfl (lv_at hl 1 rfl) ?_
            refine lv_iload hx hb dX3_weighNoises_113 (lv_at hl 4 rfl) ?_
            refine q_W0 (va_runSN (As := [.ref (b + (k + 12)), .int (nI t), .int (nI (gct P t P.n))]) (rest := []) ⟨hx, hb, hml, hown, hts⟩ (c_put_n l hm6 (by decide) (t) (by omega) (gct P t P.n)) ⟨(va_cnB 3 hts gX3_weighNoises_X6_put_n75 rfl rfl rfl (hG.nest 51 rfl) (hts (.initialized RX6) (List.mem_of_getElem? (i := 7) rfl)) (by decide +kernel) ⟨Nat.le_of_ble_eq_true rfl, Nat.le_of_ble_eq_true rfl⟩), (hts (.static yX6_put) (List.mem_of_getElem? (i := 34) rfl)), trivial⟩ (q_preS hG hW hS) rfl rfl hl.1 rfl (lv_room (Nat.le_of_ble_eq_true rfl)) dX3_weighNoises_115 ⟨Nat.le_of_ble_eq_true rfl, Nat.le_of_ble_eq_true rfl⟩) hS (fun w_115 H locs hp115 hW hS => ?_)
            obtain ⟨hm6, fr115⟩ := hp115
            replace hm0 : w_115 k = some (mixO b k q) := (fr115 _ (by omega)).trans hm0
            replace hp : isPlay dA b w_115 q P := hp.fr (fun id9 h7 h8 => fr115 id9 (by omega))
            replace hm2 : w_115 (k + 8) = some (eN dA 120 (wmk P.N P.n)) := (fr115 _ (by omega)).trans hm2
            replace hm3 : w_115 (k + 9) = some (eN dA 120 (dk P)) := (fr115 _ (by omega)).trans hm3
            replace hm4 : w_115 (k + 10) = some (eI dA 120 (va_up ST t (gfi P t P.n))) := (fr115 _ (by omega)).trans hm4
            replace hm5 : w_115 (k + 11) = some (eN dA 120 (va_up GS t (gst P t P.n))) := (fr115 _ (by omega)).trans hm5
            exact q_wv hx hb hr hlocks hW hS dX3_weighNoises_118 (by exact ⟨hm4, hm5, hm6, by intro id h9; rw [fr115 id (by omega)]; rw [fr105 id (by omega)]; rw [fr95 id (by omega)]; try rfl⟩) (by decide) (by decide)
          exact L89  _ _ _ (by first | (rw [show j = P.n by omega]; done) | (rw [(g_silent c_36 j hj0).2.2, (g_silent c_36 P.n (Nat.le_refl _)).2.2])) (by refine congrArg nI ?_; first | (rw [show j = P.n by omega]; done) | (rw [(g_silent c_36 j hj0).1, (g_silent c_36 P.n (Nat.le_refl _)).1])) (by refine congrArg nI ?_; first | (rw [show j = P.n by omega]; done) | (rw [(g_silent c_36 j hj0).2.1, (g_silent c_36 P.n (Nat.le_refl _)).2.1])) _ (lv_sub hl [0, 1, 3, 4, 5] rfl)
        · skip
          have c_36 : ¬ (((wmk P.N P.n) t) = 0) := fun h__ => c_36 ((nI_eq0 (i := (wmk P.N P.n) t) (by omega)).mpr h__)
          refine lv_iload_n hx hb dX3_weighNoises_39 rfl (lv_at hl 2 rfl) ?_
          refine lv_iload hx hb dX3_weighNoises_40 (lv_at hl 6 rfl) ?_
          refine q_R1 (va_runSN (As := [.int (nI ((wmk P.N P.n) t)), .int (nI j)]) (rest := []) ⟨hx, hb, hml, hown, hts⟩ (c_X6_hasBit l ((wmk P.N P.n) t) (j) (by omega) (by omega)) ⟨(va_cnB 2 hts gX3_weighNoises_X6_hasBit_n90 rfl rfl rfl (hG.nest 53 rfl) (hts (.initialized RX6) (List.mem_of_getElem? (i := 7) rfl)) (by decide +kernel) ⟨Nat.le_of_ble_eq_true rfl, Nat.le_of_ble_eq_true rfl⟩), (hts (.static yX6_hasBit) (List.mem_of_getElem? (i := 14) rfl)), trivial⟩ (q_preS hG hW hS) rfl rfl hl.1 rfl (lv_room (Nat.le_of_ble_eq_true rfl)) dX3_weighNoises_42 ⟨Nat.le_of_ble_eq_true rfl, Nat.le_of_ble_eq_true rfl⟩) ?_
          refine lv_if_eq (tgt := 58) hx hb dX3_weighNoises_45 (by decide) (fun c_45 => ?_) (fun c_45 => ?_)
          · skip
            have c_45 : ¬ (((wmk P.N P.n) t).testBit j = true) := pI_eq0.mp c_45
            replace c_45 := fun q9 => c_45 ((wmk_bit (by omega)).mpr q9)
            refine lv_iconst (v := nI 0) hx hb dX3_weighNoises_58 (by decide) ?_
            have L59 : ∀  (y59_0 : Int32), y59_0 = nI (sst P j t) → ∀ (ls : Array Slot), lv_has ls 8 [(0, .ref (b + k)), (1, .int (nI t)), (2, .int (nI ((wmk P.N P.n) t))), (3, .int (gfi P t j)), (4, .int (nI (gst P t j))), (5, .int (nI (gct P t j))), (6, .int (nI j))] → W p l e ({ frames := 3, cells := 0, slots := 0, locals := 67 } : Room) s m args below meth c s.heap [] 0 0 (MQ below (QW D b (none) (fun w' => w' (k + 10) = some (eI dA 120 (va_up ST t (gfi P t P.n))) ∧ w' (k + 11) = some (eN dA 120 (va_up GS t (gst P t P.n))) ∧ w' (k + 12) = some (eN dA 120 (va_up SC t (gct P t P.n))) ∧ ∀ id : Nat, (id < k + 10 ∨ k + 12 < id) → w' id = w id)) args s 0 0 (Fb b)) (F0 m 59 ls [.int (y59_0)]) := by
              intro  y59_0 ey59_0 ls hl
              subst ey59_0
              have hq3 := sst_le hoP.2.2.2.1 t j (by omega)
              refine lv_istore (lv' := [(7, .int (nI (sst P j t))), (0, .ref (b + k)), (1, .int (nI t)), (2, .int (nI ((wmk P.N P.n) t))), (3, .int (gfi P t j)), (4, .int (nI (gst P t j))), (5, .int (nI (gct P t j))), (6, .int (nI j))]) hx hb dX3_weighNoises_59 hl (by decide) rfl (fun ls hl => ?_)
              refine lv_iload hx hb dX3_weighNoises_61 (lv_at hl 0 rfl) ?_
              refine lv_if_le (tgt := 69) hx hb dX3_weighNoises_63 (by decide) (fun c_63 => ?_) (fun c_63 => ?_)
              · skip
                have c_63 : (sst P j t) ≤ 0 := (nI_le0 (i := sst P j t) (by omega)).mp c_63
                refine lv_iload hx hb dX3_weighNoises_69 (lv_at hl 0 rfl) ?_
                refine lv_iload hx hb dX3_weighNoises_71 (lv_at hl 5 rfl) ?_
                refine lv_icmp_le (tgt := 83) hx hb dX3_weighNoises_73 (by decide) (fun c_73 => ?_) (fun c_73 => ?_)
                · skip
                  have c_73 : sst P j t ≤ gst P t j := (nI_leI (a := sst P j t) (b := gst P t j) (by omega) (by omega)).mp c_73
                  refine lv_iinc (v := nI (j + 1)) (lv' := [(6, .int (nI (j + 1))), (7, .int (nI (sst P j t))), (0, .ref (b + k)), (1, .int (nI t)), (2, .int (nI ((wmk P.N P.n) t))), (3, .int (gfi P t j)), (4, .int (nI (gst P t j))), (5, .int (nI (gct P t j)))]) hx hb dX3_weighNoises_83 hl (k := 7) rfl (nI_add _ 1) (by decide) rfl (fun ls hl => ?_)
                  refine lv_goto (tgt := 20) hx hb dX3_weighNoises_86 (by decide) ?_
                  exact ih20 (j + 1) (by omega) (by omega) _ _ _ _ (by rw [gfi_step]; first | (rw [if_pos (by omega)]; done) | (rw [if_neg (by omega)]; done)) (by refine congrArg nI ?_; rw [gst_step]; first | (rw [if_pos (by omega)]; done) | (rw [if_neg (by omega)]; done)) (by refine congrArg nI ?_; rw [gct_step]; first | (rw [if_pos (by omega)]; done) | (rw [if_neg (by omega)]; done)) (by first | rfl | (congr 1; omega)) _ (lv_sub hl [2, 3, 4, 5, 6, 7, 0] rfl)
                · skip
                  have c_73 : ¬ (sst P j t ≤ gst P t j) := fun h__ => c_73 ((nI_leI (a := sst P j t) (b := gst P t j) (by omega) (by omega)).mpr h__)
                  refine lv_iload hx hb dX3_weighNoises_76 (lv_at hl 0 rfl) ?_
                  refine lv_istore (lv' := [(4, .int (nI (sst P j t))), (7, .int (nI (sst P j t))), (0, .ref (b + k)), (1, .int (nI t)), (2, .int (nI ((wmk P.N P.n) t))), (3, .int (gfi P t j)), (5, .int (nI (gct P t j))), (6, .int (nI j))]) hx hb dX3_weighNoises_78 hl (by decide) rfl (fun ls hl => ?_)
                  refine lv_iload hx hb dX3_weighNoises_80 (lv_at hl 7 rfl) ?_
                  refine lv_istore_n (lv' := [(3, .int (nI j)), (4, .int (nI (sst P j t))), (7, .int (nI (sst P j t))), (0, .ref (b + k)), (1, .int (nI t)), (2, .int (nI ((wmk P.N P.n) t))), (5, .int (nI (gct P t j))), (6, .int (nI j))]) hx hb dX3_weighNoises_82 rfl hl (by decide) rfl (fun ls hl => ?_)
                  refine lv_iinc (v := nI (j + 1)) (lv' := [(6, .int (nI (j + 1))), (3, .int (nI j)), (4, .int (nI (sst P j t))), (7, .int (nI (sst P j t))), (0, .ref (b + k)), (1, .int (nI t)), (2, .int (nI ((wmk P.N P.n) t))), (5, .int (nI (gct P t j)))]) hx hb dX3_weighNoises_83 hl (k := 7) rfl (nI_add _ 1) (by decide) rfl (fun ls hl => ?_)
                  refine lv_goto (tgt := 20) hx hb dX3_weighNoises_86 (by decide) ?_
                  exact ih20 (j + 1) (by omega) (by omega) _ _ _ _ (by rw [gfi_step]; first | (rw [if_pos (by omega)]; done) | (rw [if_neg (by omega)]; done)) (by refine congrArg nI ?_; rw [gst_step]; first | (rw [if_pos (by omega)]; done) | (rw [if_neg (by omega)]; done)) (by refine congrArg nI ?_; rw [gct_step]; first | (rw [if_pos (by omega)]; done) | (rw [if_neg (by omega)]; done)) (by first | rfl | (congr 1; omega)) _ (lv_sub hl [4, 5, 6, 1, 2, 7, 0] rfl)
              · skip
                have c_63 : ¬ ((sst P j t) ≤ 0) := fun h__ => c_63 ((nI_le0 (i := sst P j t) (by omega)).mpr h__)
                refine lv_iinc (v := nI ((gct P t j) + 1)) (lv' := [(5, .int (nI ((gct P t j) + 1))), (7, .int (nI (sst P j t))), (0, .ref (b + k)), (1, .int (nI t)), (2, .int (nI ((wmk P.N P.n) t))), (3, .int (gfi P t j)), (4, .int (nI (gst P t j))), (6, .int (nI j))]) hx hb dX3_weighNoises_66 hl (k := 6) rfl (nI_add _ 1) (by decide) rfl (fun ls hl => ?_)
                refine lv_iload hx hb dX3_weighNoises_69 (lv_at hl 1 rfl) ?_
                refine lv_iload hx hb dX3_weighNoises_71 (lv_at hl 6 rfl) ?_
                refine lv_icmp_le (tgt := 83) hx hb dX3_weighNoises_73 (by decide) (fun c_73 => ?_) (fun c_73 => ?_)
                · skip
                  have c_73 : sst P j t ≤ gst P t j := (nI_leI (a := sst P j t) (b := gst P t j) (by omega) (by omega)).mp c_73
                  refine lv_iinc (v := nI (j + 1)) (lv' := [(6, .int (nI (j + 1))), (5, .int (nI ((gct P t j) + 1))), (7, .int (nI (sst P j t))), (0, .ref (b + k)), (1, .int (nI t)), (2, .int (nI ((wmk P.N P.n) t))), (3, .int (gfi P t j)), (4, .int (nI (gst P t j)))]) hx hb dX3_weighNoises_83 hl (k := 7) rfl (nI_add _ 1) (by decide) rfl (fun ls hl => ?_)
                  refine lv_goto (tgt := 20) hx hb dX3_weighNoises_86 (by decide) ?_
                  exact ih20 (j + 1) (by omega) (by omega) _ _ _ _ (by rw [gfi_step]; first | (rw [if_pos (by omega)]; done) | (rw [if_neg (by omega)]; done)) (by refine congrArg nI ?_; rw [gst_step]; first | (rw [if_pos (by omega)]; done) | (rw [if_neg (by omega)]; done)) (by refine congrArg nI ?_; rw [gct_step]; first | (rw [if_pos (by omega)]; done) | (rw [if_neg (by omega)]; done)) (by first | rfl | (congr 1; omega)) _ (lv_sub hl [3, 4, 5, 6, 7, 1, 0] rfl)
                · skip
                  have c_73 : ¬ (sst P j t ≤ gst P t j) := fun h__ => c_73 ((nI_leI (a := sst P j t) (b := gst P t j) (by omega) (by omega)).mpr h__)
                  refine lv_iload hx hb dX3_weighNoises_76 (lv_at hl 1 rfl) ?_
                  refine lv_istore (lv' := [(4, .int (nI (sst P j t))), (5, .int (nI ((gct P t j) + 1))), (7, .int (nI (sst P j t))), (0, .ref (b + k)), (1, .int (nI t)), (2, .int (nI ((wmk P.N P.n) t))), (3, .int (gfi P t j)), (6, .int (nI j))]) hx hb dX3_weighNoises_78 hl (by decide) rfl (fun ls hl => ?_)
                  refine lv_iload hx hb dX3_weighNoises_80 (lv_at hl 7 rfl) ?_
                  refine lv_istore_n (lv' := [(3, .int (nI j)), (4, .int (nI (sst P j t))), (5, .int (nI ((gct P t j) + 1))), (7, .int (nI (sst P j t))), (0, .ref (b + k)), (1, .int (nI t)), (2, .int (nI ((wmk P.N P.n) t))), (6, .int (nI j))]) hx hb dX3_weighNoises_82 rfl hl (by decide) rfl (fun ls hl => ?_)
                  refine lv_iinc (v := nI (j + 1)) (lv' := [(6, .int (nI (j + 1))), (3, .int (nI j)), (4, .int (nI (sst P j t))), (5, .int (nI ((gct P t j) + 1))), (7, .int (nI (sst P j t))), (0, .ref (b + k)), (1, .int (nI t)), (2, .int (nI ((wmk P.N P.n) t)))]) hx hb dX3_weighNoises_83 hl (k := 7) rfl (nI_add _ 1) (by decide) rfl (fun ls hl => ?_)
                  refine lv_goto (tgt := 20) hx hb dX3_weighNoises_86 (by decide) ?_
                  exact ih20 (j + 1) (by omega) (by omega) _ _ _ _ (by rw [gfi_step]; first | (rw [if_pos (by omega)]; done) | (rw [if_neg (by omega)]; done)) (by refine congrArg nI ?_; rw [gst_step]; first | (rw [if_pos (by omega)]; done) | (rw [if_neg (by omega)]; done)) (by refine congrArg nI ?_; rw [gct_step]; first | (rw [if_pos (by omega)]; done) | (rw [if_neg (by omega)]; done)) (by first | rfl | (congr 1; omega)) _ (lv_sub hl [5, 6, 7, 1, 2, 3, 0] rfl)
            exact L59  _ (by refine congrArg nI ?_; unfold sst; first | (rw [if_pos (by assumption)]; done) | (rw [if_neg (by assumption)]; done)) _ (lv_sub hl [0, 1, 2, 3, 4, 5, 6] rfl)
          · skip
            have c_45 : ((wmk P.N P.n) t).testBit j = true := Decidable.byContradiction (fun h__ => c_45 (pI_eq0.mpr h__))
            replace c_45 := (wmk_bit (by omega)).mp c_45
            refine lv_aload_n hx hb dX3_weighNoises_48 rfl (lv_at hl 0 rfl) ?_
            refine lv_iload hx hb dX3_weighNoises_49 (lv_at hl 6 rfl) ?_
            refine lv_iload_n hx hb dX3_weighNoises_51 rfl (lv_at hl 1 rfl) ?_
            refine q_R1 (va_runV (As := [.int (nI j), .int (nI t)]) (rest := []) ⟨hx, hb, hml, hown, hts⟩ (c_X3_strengthOf l hm0 hp hm3 (j) (t) (by omega) (by omega)) (cwV 2 hts gX3_weighNoises_X3_strengthOf rfl rfl rfl (by decide +kernel) ⟨Nat.le_of_ble_eq_true rfl, Nat.le_of_ble_eq_true rfl⟩) (q_preV hG hW hS hm0 rfl) rfl rfl hl.1 rfl (lv_room (Nat.le_of_ble_eq_true rfl)) dX3_weighNoises_52 ⟨Nat.le_of_ble_eq_true rfl, Nat.le_of_ble_eq_true rfl⟩) ?_
            refine lv_goto (tgt := 59) hx hb dX3_weighNoises_55 (by decide) ?_
            have L59 : ∀  (y59_0 : Int32), y59_0 = nI (sst P j t) → ∀ (ls : Array Slot), lv_has ls 8 [(0, .ref (b + k)), (1, .int (nI t)), (2, .int (nI ((wmk P.N P.n) t))), (3, .int (gfi P t j)), (4, .int (nI (gst P t j))), (5, .int (nI (gct P t j))), (6, .int (nI j))] → W p l e ({ frames := 3, cells := 0, slots := 0, locals := 67 } : Room) s m args below meth c s.heap [] 0 0 (MQ below (QW D b (none) (fun w' => w' (k + 10) = some (eI dA 120 (va_up ST t (gfi P t P.n))) ∧ w' (k + 11) = some (eN dA 120 (va_up GS t (gst P t P.n))) ∧ w' (k + 12) = some (eN dA 120 (va_up SC t (gct P t P.n))) ∧ ∀ id : Nat, (id < k + 10 ∨ k + 12 < id) → w' id = w id)) args s 0 0 (Fb b)) (F0 m 59 ls [.int (y59_0)]) := by
              intro  y59_0 ey59_0 ls hl
              subst ey59_0
              have hq3 := sst_le hoP.2.2.2.1 t j (by omega)
              refine lv_istore (lv' := [(7, .int (nI (sst P j t))), (0, .ref (b + k)), (1, .int (nI t)), (2, .int (nI ((wmk P.N P.n) t))), (3, .int (gfi P t j)), (4, .int (nI (gst P t j))), (5, .int (nI (gct P t j))), (6, .int (nI j))]) hx hb dX3_weighNoises_59 hl (by decide) rfl (fun ls hl => ?_)
              refine lv_iload hx hb dX3_weighNoises_61 (lv_at hl 0 rfl) ?_
              refine lv_if_le (tgt := 69) hx hb dX3_weighNoises_63 (by decide) (fun c_63 => ?_) (fun c_63 => ?_)
              · skip
                have c_63 : (sst P j t) ≤ 0 := (nI_le0 (i := sst P j t) (by omega)).mp c_63
                refine lv_iload hx hb dX3_weighNoises_69 (lv_at hl 0 rfl) ?_
                refine lv_iload hx hb dX3_weighNoises_71 (lv_at hl 5 rfl) ?_
                refine lv_icmp_le (tgt := 83) hx hb dX3_weighNoises_73 (by decide) (fun c_73 => ?_) (fun c_73 => ?_)
                · skip
                  have c_73 : sst P j t ≤ gst P t j := (nI_leI (a := sst P j t) (b := gst P t j) (by omega) (by omega)).mp c_73
                  refine lv_iinc (v := nI (j + 1)) (lv' := [(6, .int (nI (j + 1))), (7, .int (nI (sst P j t))), (0, .ref (b + k)), (1, .int (nI t)), (2, .int (nI ((wmk P.N P.n) t))), (3, .int (gfi P t j)), (4, .int (nI (gst P t j))), (5, .int (nI (gct P t j)))]) hx hb dX3_weighNoises_83 hl (k := 7) rfl (nI_add _ 1) (by decide) rfl (fun ls hl => ?_)
                  refine lv_goto (tgt := 20) hx hb dX3_weighNoises_86 (by decide) ?_
                  exact ih20 (j + 1) (by omega) (by omega) _ _ _ _ (by rw [gfi_step]; first | (rw [if_pos (by omega)]; done) | (rw [if_neg (by omega)]; done)) (by refine congrArg nI ?_; rw [gst_step]; first | (rw [if_pos (by omega)]; done) | (rw [if_neg (by omega)]; done)) (by refine congrArg nI ?_; rw [gct_step]; first | (rw [if_pos (by omega)]; done) | (rw [if_neg (by omega)]; done)) (by first | rfl | (congr 1; omega)) _ (lv_sub hl [2, 3, 4, 5, 6, 7, 0] rfl)
                · skip
                  have c_73 : ¬ (sst P j t ≤ gst P t j) := fun h__ => c_73 ((nI_leI (a := sst P j t) (b := gst P t j) (by omega) (by omega)).mpr h__)
                  refine lv_iload hx hb dX3_weighNoises_76 (lv_at hl 0 rfl) ?_
                  refine lv_istore (lv' := [(4, .int (nI (sst P j t))), (7, .int (nI (sst P j t))), (0, .ref (b + k)), (1, .int (nI t)), (2, .int (nI ((wmk P.N P.n) t))), (3, .int (gfi P t j)), (5, .int (nI (gct P t j))), (6, .int (nI j))]) hx hb dX3_weighNoises_78 hl (by decide) rfl (fun ls hl => ?_)
                  refine lv_iload hx hb dX3_weighNoises_80 (lv_at hl 7 rfl) ?_
                  refine lv_istore_n (lv' := [(3, .int (nI j)), (4, .int (nI (sst P j t))), (7, .int (nI (sst P j t))), (0, .ref (b + k)), (1, .int (nI t)), (2, .int (nI ((wmk P.N P.n) t))), (5, .int (nI (gct P t j))), (6, .int (nI j))]) hx hb dX3_weighNoises_82 rfl hl (by decide) rfl (fun ls hl => ?_)
                  refine lv_iinc (v := nI (j + 1)) (lv' := [(6, .int (nI (j + 1))), (3, .int (nI j)), (4, .int (nI (sst P j t))), (7, .int (nI (sst P j t))), (0, .ref (b + k)), (1, .int (nI t)), (2, .int (nI ((wmk P.N P.n) t))), (5, .int (nI (gct P t j)))]) hx hb dX3_weighNoises_83 hl (k := 7) rfl (nI_add _ 1) (by decide) rfl (fun ls hl => ?_)
                  refine lv_goto (tgt := 20) hx hb dX3_weighNoises_86 (by decide) ?_
                  exact ih20 (j + 1) (by omega) (by omega) _ _ _ _ (by rw [gfi_step]; first | (rw [if_pos (by omega)]; done) | (rw [if_neg (by omega)]; done)) (by refine congrArg nI ?_; rw [gst_step]; first | (rw [if_pos (by omega)]; done) | (rw [if_neg (by omega)]; done)) (by refine congrArg nI ?_; rw [gct_step]; first | (rw [if_pos (by omega)]; done) | (rw [if_neg (by omega)]; done)) (by first | rfl | (congr 1; omega)) _ (lv_sub hl [4, 5, 6, 1, 2, 7, 0] rfl)
              · skip
                have c_63 : ¬ ((sst P j t) ≤ 0) := fun h__ => c_63 ((nI_le0 (i := sst P j t) (by omega)).mpr h__)
                refine lv_iinc (v := nI ((gct P t j) + 1)) (lv' := [(5, .int (nI ((gct P t j) + 1))), (7, .int (nI (sst P j t))), (0, .ref (b + k)), (1, .int (nI t)), (2, .int (nI ((wmk P.N P.n) t))), (3, .int (gfi P t j)), (4, .int (nI (gst P t j))), (6, .int (nI j))]) hx hb dX3_weighNoises_66 hl (k := 6) rfl (nI_add _ 1) (by decide) rfl (fun ls hl => ?_)
                refine lv_iload hx hb dX3_weighNoises_69 (lv_at hl 1 rfl) ?_
                refine lv_iload hx hb dX3_weighNoises_71 (lv_at hl 6 rfl) ?_
                refine lv_icmp_le (tgt := 83) hx hb dX3_weighNoises_73 (by decide) (fun c_73 => ?_) (fun c_73 => ?_)
                · skip
                  have c_73 : sst P j t ≤ gst P t j := (nI_leI (a := sst P j t) (b := gst P t j) (by omega) (by omega)).mp c_73
                  refine lv_iinc (v := nI (j + 1)) (lv' := [(6, .int (nI (j + 1))), (5, .int (nI ((gct P t j) + 1))), (7, .int (nI (sst P j t))), (0, .ref (b + k)), (1, .int (nI t)), (2, .int (nI ((wmk P.N P.n) t))), (3, .int (gfi P t j)), (4, .int (nI (gst P t j)))]) hx hb dX3_weighNoises_83 hl (k := 7) rfl (nI_add _ 1) (by decide) rfl (fun ls hl => ?_)
                  refine lv_goto (tgt := 20) hx hb dX3_weighNoises_86 (by decide) ?_
                  exact ih20 (j + 1) (by omega) (by omega) _ _ _ _ (by rw [gfi_step]; first | (rw [if_pos (by omega)]; done) | (rw [if_neg (by omega)]; done)) (by refine congrArg nI ?_; rw [gst_step]; first | (rw [if_pos (by omega)]; done) | (rw [if_neg (by omega)]; done)) (by refine congrArg nI ?_; rw [gct_step]; first | (rw [if_pos (by omega)]; done) | (rw [if_neg (by omega)]; done)) (by first | rfl | (congr 1; omega)) _ (lv_sub hl [3, 4, 5, 6, 7, 1, 0] rfl)
                · skip
                  have c_73 : ¬ (sst P j t ≤ gst P t j) := fun h__ => c_73 ((nI_leI (a := sst P j t) (b := gst P t j) (by omega) (by omega)).mpr h__)
                  refine lv_iload hx hb dX3_weighNoises_76 (lv_at hl 1 rfl) ?_
                  refine lv_istore (lv' := [(4, .int (nI (sst P j t))), (5, .int (nI ((gct P t j) + 1))), (7, .int (nI (sst P j t))), (0, .ref (b + k)), (1, .int (nI t)), (2, .int (nI ((wmk P.N P.n) t))), (3, .int (gfi P t j)), (6, .int (nI j))]) hx hb dX3_weighNoises_78 hl (by decide) rfl (fun ls hl => ?_)
                  refine lv_iload hx hb dX3_weighNoises_80 (lv_at hl 7 rfl) ?_
                  refine lv_istore_n (lv' := [(3, .int (nI j)), (4, .int (nI (sst P j t))), (5, .int (nI ((gct P t j) + 1))), (7, .int (nI (sst P j t))), (0, .ref (b + k)), (1, .int (nI t)), (2, .int (nI ((wmk P.N P.n) t))), (6, .int (nI j))]) hx hb dX3_weighNoises_82 rfl hl (by decide) rfl (fun ls hl => ?_)
                  refine lv_iinc (v := nI (j + 1)) (lv' := [(6, .int (nI (j + 1))), (3, .int (nI j)), (4, .int (nI (sst P j t))), (5, .int (nI ((gct P t j) + 1))), (7, .int (nI (sst P j t))), (0, .ref (b + k)), (1, .int (nI t)), (2, .int (nI ((wmk P.N P.n) t)))]) hx hb dX3_weighNoises_83 hl (k := 7) rfl (nI_add _ 1) (by decide) rfl (fun ls hl => ?_)
                  refine lv_goto (tgt := 20) hx hb dX3_weighNoises_86 (by decide) ?_
                  exact ih20 (j + 1) (by omega) (by omega) _ _ _ _ (by rw [gfi_step]; first | (rw [if_pos (by omega)]; done) | (rw [if_neg (by omega)]; done)) (by refine congrArg nI ?_; rw [gst_step]; first | (rw [if_pos (by omega)]; done) | (rw [if_neg (by omega)]; done)) (by refine congrArg nI ?_; rw [gct_step]; first | (rw [if_pos (by omega)]; done) | (rw [if_neg (by omega)]; done)) (by first | rfl | (congr 1; omega)) _ (lv_sub hl [5, 6, 7, 1, 2, 3, 0] rfl)
            exact L59  _ (by refine congrArg nI ?_; unfold sst; first | (rw [if_pos (by assumption)]; done) | (rw [if_neg (by assumption)]; done)) _ (lv_sub hl [0, 1, 2, 3, 4, 5, 6] rfl)
  exact L20 ((P.n - 0) + 1) 0 (by omega) (Nat.lt_succ_self _) _ _ _ _ (by first | rfl | (congr 1; omega)) (by first | rfl | (congr 1; omega)) (by first | rfl | (congr 1; omega)) (by first | rfl | (congr 1; omega)) _ (lv_sub hl [5, 6, 4, 3, 2, 1, 0] rfl)

set_option maxHeartbeats 300000 in
set_option maxRecDepth 100000 in
/-- Mix.markMasked(second) -/
theorem c_X3_markMasked (l : Launch) {D : va_G} {dA : Nat → Nat} {b : Nat} {w : Wd} {k q : Nat} {P : Pl} (hm0 : w k = some (mixO b k q)) (hp : isPlay dA b w q P) (hm1 : w (k + 7) = some (eN dA 120 (wmk P.W P.w))) {GS SC MM : Nat → Nat} (hm5 : w (k + 11) = some (eN dA 120 GS)) (hm6 : w (k + 12) = some (eN dA 120 SC)) (hm7 : w (k + 13) = some (eN dA 120 MM)) (t : Nat) (ht : t < 120) (hGS : GS t = gst P t P.n) (hSC : SC t = gct P t P.n) (hkq : q = k + 1) : Met l yX3_markMasked wsX3_markMasked ({ frames := 3, cells := 0, slots := 0, locals := 69 } : Room) (PC D dA b w [.ref (b + k), .int (nI t)]) (QW D b (none) (fun w' => w' (k + 13) = some (eN dA 120 (va_up MM t (mmk P t))) ∧ ∀ id : Nat, id ≠ k + 13 → w' id = w id)) 0 0 (Fb b) := by
  refine q_of (cc := cX3_markMasked) (maxL := 5) (ret := none) (by decide) rfl rfl ?_
  intro p e s m args below meth c ls hx hb hr hml hts hown hlocks hG hW hS hl
  have hown : s.vm.findClass RX3 = some m.cls := hown
  have hinX3 : ∀ w ∈ u_ws RX3 TX3 8, w ∈ wsX3_markMasked := fun w h => (goodIn_r (big := wsX3_markMasked) (u_ws RX3 TX3 8) [40, 41, 42, 43, 44, 45, 46, 47] (by decide +kernel) (by decide +kernel) w h).1
  have hinX4 : ∀ w ∈ u_ws RX4 TX4 3, w ∈ wsX3_markMasked := fun w h => (goodIn_r (big := wsX3_markMasked) (u_ws RX4 TX4 3) [48, 49, 50] (by decide +kernel) (by decide +kernel) w h).1
  have hl : lv_has ls 5 [(0, .ref (b + k)), (1, .int (nI t))] := hl
  have hoP := hp.ok
  have hoS := hoP.2.2.2.2
  have ho10 := hoP.1
  have ho12 := hoP.2.1
  unfold okS at hoS
  have hmw := wmk_lt (V := P.W) (n := P.w) (by omega) t
  refine lv_iconst (v := nI 0) hx hb dX3_markMasked_0 (by decide) ?_
  refine lv_istore_n (lv' := [(2, .int (nI 0)), (0, .ref (b + k)), (1, .int (nI t))]) hx hb dX3_markMasked_1 rfl hl (by decide) rfl (fun ls hl => ?_)
  refine lv_aload_n hx hb dX3_markMasked_2 rfl (lv_at hl 1 rfl) ?_
  refine q_get hx hb hts hinX3 hown hG hW hm0 rfl 1 (by decide) (hts (.fieldLink RX3 18 "FoleyMixer$Mix" "words" "[I") (List.mem_of_getElem? (i := 1) rfl)) rfl rfl dX3_markMasked_3 ?_
  refine lv_iload_n hx hb dX3_markMasked_6 rfl (lv_at hl 2 rfl) ?_
  refine q_R1 (va_runSN (As := [.ref (b + (k + 7)), .int (nI t)]) (rest := []) ⟨hx, hb, hml, hown, hts⟩ (c_entry_in l (RD.own hm1 (by decide)) (by decide) (t) (by omega)) ⟨(va_cnB 2 hts gX3_markMasked_X6_entry_n61 rfl rfl rfl (hG.nest 49 rfl) (hts (.initialized RX6) (List.mem_of_getElem? (i := 5) rfl)) (by decide +kernel) ⟨Nat.le_of_ble_eq_true rfl, Nat.le_of_ble_eq_true rfl⟩), (hts (.static yX6_entry) (List.mem_of_getElem? (i := 4) rfl)), trivial⟩ (q_preS hG hW hS) rfl rfl hl.1 rfl (lv_room (Nat.le_of_ble_eq_true rfl)) dX3_markMasked_7 ⟨Nat.le_of_ble_eq_true rfl, Nat.le_of_ble_eq_true rfl⟩) ?_
  refine lv_istore_n (lv' := [(3, .int (nI ((wmk P.W P.w) t))), (2, .int (nI 0)), (0, .ref (b + k)), (1, .int (nI t))]) hx hb dX3_markMasked_10 rfl hl (by decide) rfl (fun ls hl => ?_)
  refine lv_iconst (v := nI 0) hx hb dX3_markMasked_11 (by decide) ?_
  refine lv_istore (lv' := [(4, .int (nI 0)), (3, .int (nI ((wmk P.W P.w) t))), (2, .int (nI 0)), (0, .ref (b + k)), (1, .int (nI t))]) hx hb dX3_markMasked_12 hl (by decide) rfl (fun ls hl => ?_)
  have L14 : ∀ (n14 : Nat) (j : Nat), j ≤ P.w → P.w - j < n14 → ∀ (x14_2 : Int32) (x14_4 : Int32), x14_2 = nI (mmj P t j) → x14_4 = nI (j) → ∀ (ls : Array Slot), lv_has ls 5 [(0, .ref (b + k)), (1, .int (nI t)), (2, .int x14_2), (3, .int (nI ((wmk P.W P.w) t))), (4, .int x14_4)] → W p l e ({ frames := 3, cells := 0, slots := 0, locals := 69 } : Room) s m args below meth c s.heap [] 0 0 (MQ below (QW D b (none) (fun w' => w' (k + 13) = some (eN dA 120 (va_up MM t (mmk P t))) ∧ ∀ id : Nat, id ≠ k + 13 → w' id = w id)) args s 0 0 (Fb b)) (F0 m 14 ls []) := by
    intro n14
    induction n14 with
    | zero =>
      intro j hj0 hn14 x14_2 x14_4 ex14_2 ex14_4 ls hl
      exact absurd hn14 (Nat.not_lt_zero _)
    | succ n14 ih14 =>
      intro j hj0 hn14 x14_2 x14_4 ex14_2 ex14_4 ls hl
      subst ex14_2 ex14_4
      have hcv := cov_le hoP j t
      have hq3 := mmj_lt (P := P) (t := t) (j := j) (by omega)
      refine lv_iload hx hb dX3_markMasked_14 (lv_at hl 4 rfl) ?_
      refine lv_aload_n hx hb dX3_markMasked_16 rfl (lv_at hl 0 rfl) ?_
      refine q_get hx hb hts hinX3 hown hG hW hm0 rfl 0 (by decide) (hts (.fieldLink RX3 12 "FoleyMixer$Mix" "play" "LFoleyMixer$Play;") (List.mem_of_getElem? (i := 2) rfl)) rfl rfl dX3_markMasked_17 ?_
      refine q_getN hx hb hts hinX4 hown hG hW (hp).1 rfl 0 (by decide) (hG.nest 10 rfl) rfl rfl dX3_markMasked_20 ?_
      refine q_R1 (va_runVN (As := []) (rest := [.int (nI j)]) ⟨hx, hb, hml, hown, hts⟩ (c_X1_size l (hp).2.1) ⟨(va_cnB 0 hts gX3_markMasked_X1_size_n86 rfl rfl rfl (hG.nest 52 rfl) (hts (.initialized RX1) (List.mem_of_getElem? (i := 8) rfl)) (by decide +kernel) ⟨Nat.le_of_ble_eq_true rfl, Nat.le_of_ble_eq_true rfl⟩), (hts (.instanceMethod yX1_size) (List.mem_of_getElem? (i := 7) rfl)), (hts (.selects RX1 yX1_size yX1_size) (List.mem_of_getElem? (i := 9) rfl))⟩ (q_preV hG hW hS (isCues.obj (hp).2.1) rfl) rfl rfl hl.1 rfl (lv_room (Nat.le_of_ble_eq_true rfl)) dX3_markMasked_23 ⟨Nat.le_of_ble_eq_true rfl, Nat.le_of_ble_eq_true rfl⟩) ?_
      refine lv_icmp_ge (tgt := 87) hx hb dX3_markMasked_26 (by decide) (fun c_26 => ?_) (fun c_26 => ?_)
      · skip
        have c_26 : P.w ≤ j := (nI_leI (a := P.w) (b := j) (by omega) (by omega)).mp c_26
        have L87 : ∀ (x87_2 : Int32), x87_2 = nI (mmk P t) → ∀ (ls : Array Slot), lv_has ls 5 [(0, .ref (b + k)), (1, .int (nI t)), (2, .int x87_2)] → W p l e ({ frames := 3, cells := 0, slots := 0, locals := 69 } : Room) s m args below meth c s.heap [] 0 0 (MQ below (QW D b (none) (fun w' => w' (k + 13) = some (eN dA 120 (va_up MM t (mmk P t))) ∧ ∀ id : Nat, id ≠ k + 13 → w' id = w id)) args s 0 0 (Fb b)) (F0 m 87 ls []) := by
          intro  x87_2 ex87_2 ls hl
          subst ex87_2
          refine lv_aload_n hx hb dX3_markMasked_87 rfl (lv_at hl 0 rfl) ?_
          refine q_get hx hb hts hinX3 hown hG hW hm0 rfl 7 (by decide) (hts (.fieldLink RX3 37 "FoleyMixer$Mix" "masked" "[I") (List.mem_of_getElem? (i := 3) rfl)) rfl rfl dX3_markMasked_88 ?_
          refine lv_iload_n hx hb dX3_markMasked_91 rfl (lv_at hl 1 rfl) ?_
          refine lv_iload_n hx hb dX3_markMasked_92 rfl (lv_at hl 2 rfl) ?_
          refine q_W0 (va_runSN (As := [.ref (b + (k + 13)), .int (nI t), .int (nI (mmk P t))]) (rest := []) ⟨hx, hb, hml, hown, hts⟩ (c_put_n l hm7 (by decide) (t) (by omega) (mmk P t)) ⟨(va_cnB 3 hts gX3_markMasked_X6_put_n75 rfl rfl rfl (hG.nest 51 rfl) (hts (.initialized RX6) (List.mem_of_getElem? (i := 5) rfl)) (by decide +kernel) ⟨Nat.le_of_ble_eq_true rfl, Nat.le_of_ble_eq_true rfl⟩), (hts (.static yX6_put) (List.mem_of_getElem? (i := 38) rfl)), trivial⟩ (q_preS hG hW hS) rfl rfl hl.1 rfl (lv_room (Nat.le_of_ble_eq_true rfl)) dX3_markMasked_93 ⟨Nat.le_of_ble_eq_true rfl, Nat.le_of_ble_eq_true rfl⟩) hS (fun w_93 H locs hp93 hW hS => ?_)
          obtain ⟨hm7, fr93⟩ := hp93
          replace hm0 : w_93 k = some (mixO b k q) := (fr93 _ (by omega)).trans hm0
          replace hp : isPlay dA b w_93 q P := hp.fr (fun id9 h7 h8 => fr93 id9 (by omega))
          replace hm1 : w_93 (k + 7) = some (eN dA 120 (wmk P.W P.w)) := (fr93 _ (by omega)).trans hm1
          replace hm5 : w_93 (k + 11) = some (eN dA 120 GS) := (fr93 _ (by omega)).trans hm5
          replace hm6 : w_93 (k + 12) = some (eN dA 120 SC) := (fr93 _ (by omega)).trans hm6
          exact q_wv hx hb hr hlocks hW hS dX3_markMasked_96 (by exact ⟨hm7, by intro id h9; rw [fr93 id (by omega)]; try rfl⟩) (by decide) (by decide)
        exact L87  _ (by refine congrArg nI ?_; first | (rw [show j = P.w by omega]; exact mmj_end P t) | (rw [mmj_silent c_30 j hj0, ← mmj_end, mmj_silent c_30 P.w (Nat.le_refl _)])) _ (lv_sub hl [0, 1, 2] rfl)
      · skip
        have c_26 : ¬ (P.w ≤ j) := fun h__ => c_26 ((nI_leI (a := P.w) (b := j) (by omega) (by omega)).mpr h__)
        refine lv_iload_n hx hb dX3_markMasked_29 rfl (lv_at hl 3 rfl) ?_
        refine lv_if_eq (tgt := 87) hx hb dX3_markMasked_30 (by decide) (fun c_30 => ?_) (fun c_30 => ?_)
        · skip
          have c_30 : ((wmk P.W P.w) t) = 0 := (nI_eq0 (i := (wmk P.W P.w) t) (by omega)).mp c_30
          have L87 : ∀ (x87_2 : Int32), x87_2 = nI (mmk P t) → ∀ (ls : Array Slot), lv_has ls 5 [(0, .ref (b + k)), (1, .int (nI t)), (2, .int x87_2)] → W p l e ({ frames := 3, cells := 0, slots := 0, locals := 69 } : Room) s m args below meth c s.heap [] 0 0 (MQ below (QW D b (none) (fun w' => w' (k + 13) = some (eN dA 120 (va_up MM t (mmk P t))) ∧ ∀ id : Nat, id ≠ k + 13 → w' id = w id)) args s 0 0 (Fb b)) (F0 m 87 ls []) := by
            intro  x87_2 ex87_2 ls hl
            subst ex87_2
            refine lv_aload_n hx hb dX3_markMasked_87 rfl (lv_at hl 0 rfl) ?_
            refine q_get hx hb hts hinX3 hown hG hW hm0 rfl 7 (by decide) (hts (.fieldLink RX3 37 "FoleyMixer$Mix" "masked" "[I") (List.mem_of_getElem? (i := 3) rfl)) rfl rfl dX3_markMasked_88 ?_
            refine lv_iload_n hx hb dX3_markMasked_91 rfl (lv_at hl 1 rfl) ?_
            refine lv_iload_n hx hb dX3_markMasked_92 rfl (lv_at hl 2 rfl) ?_
            refine q_W0 (va_runSN (As := [.ref (b + (k + 13)), .int (nI t), .int (nI (mmk P t))]) (rest := []) ⟨hx, hb, hml, hown, hts⟩ (c_put_n l hm7 (by decide) (t) (by omega) (mmk P t)) ⟨(va_cnB 3 hts gX3_markMasked_X6_put_n75 rfl rfl rfl (hG.nest 51 rfl) (hts (.initialized RX6) (List.mem_of_getElem? (i := 5) rfl)) (by decide +kernel) ⟨Nat.le_of_ble_eq_true rfl, Nat.le_of_ble_eq_true rfl⟩), (hts (.static yX6_put) (List.mem_of_getElem? (i := 38) rfl)), trivial⟩ (q_preS hG hW hS) rfl rfl hl.1 rfl (lv_room (Nat.le_of_ble_eq_true rfl)) dX3_markMasked_93 ⟨Nat.le_of_ble_eq_true rfl, Nat.le_of_ble_eq_true rfl⟩) hS (fun w_93 H locs hp93 hW hS => ?_)
            obtain ⟨hm7, fr93⟩ := hp93
            replace hm0 : w_93 k = some (mixO b k q) := (fr93 _ (by omega)).trans hm0
            replace hp : isPlay dA b w_93 q P := hp.fr (fun id9 h7 h8 => fr93 id9 (by omega))
            replace hm1 : w_93 (k + 7) = some (eN dA 120 (wmk P.W P.w)) := (fr93 _ (by omega)).trans hm1
            replace hm5 : w_93 (k + 11) = some (eN dA 120 GS) := (fr93 _ (by omega)).trans hm5
            replace hm6 : w_93 (k + 12) = some (eN dA 120 SC) := (fr93 _ (by omega)).trans hm6
            exact q_wv hx hb hr hlocks hW hS dX3_markMasked_96 (by exact ⟨hm7, by intro id h9; rw [fr93 id (by omega)]; try rfl⟩) (by decide) (by decide)
          exact L87  _ (by refine congrArg nI ?_; first | (rw [show j = P.w by omega]; exact mmj_end P t) | (rw [mmj_silent c_30 j hj0, ← mmj_end, mmj_silent c_30 P.w (Nat.le_refl _)])) _ (lv_sub hl [0, 1, 2] rfl)
        · skip
          have c_30 : ¬ (((wmk P.W P.w) t) = 0) := fun h__ => c_30 ((nI_eq0 (i := (wmk P.W P.w) t) (by omega)).mpr h__)
          refine lv_iload_n hx hb dX3_markMasked_33 rfl (lv_at hl 3 rfl) ?_
          refine lv_iload hx hb dX3_markMasked_34 (lv_at hl 4 rfl) ?_
          refine q_R1 (va_runSN (As := [.int (nI ((wmk P.W P.w) t)), .int (nI j)]) (rest := []) ⟨hx, hb, hml, hown, hts⟩ (c_X6_hasBit l ((wmk P.W P.w) t) (j) (by omega) (by omega)) ⟨(va_cnB 2 hts gX3_markMasked_X6_hasBit_n90 rfl rfl rfl (hG.nest 53 rfl) (hts (.initialized RX6) (List.mem_of_getElem? (i := 5) rfl)) (by decide +kernel) ⟨Nat.le_of_ble_eq_true rfl, Nat.le_of_ble_eq_true rfl⟩), (hts (.static yX6_hasBit) (List.mem_of_getElem? (i := 12) rfl)), trivial⟩ (q_preS hG hW hS) rfl rfl hl.1 rfl (lv_room (Nat.le_of_ble_eq_true rfl)) dX3_markMasked_36 ⟨Nat.le_of_ble_eq_true rfl, Nat.le_of_ble_eq_true rfl⟩) ?_
          refine lv_if_eq (tgt := 81) hx hb dX3_markMasked_39 (by decide) (fun c_39 => ?_) (fun c_39 => ?_)
          · skip
            have c_39 : ¬ (((wmk P.W P.w) t).testBit j = true) := pI_eq0.mp c_39
            try replace c_39 := fun q9 => c_39 ((wmk_bit (by omega)).mpr q9)
            refine lv_iinc (v := nI (j + 1)) (lv' := [(4, .int (nI (j + 1))), (0, .ref (b + k)), (1, .int (nI t)), (2, .int (nI (mmj P t j))), (3, .int (nI ((wmk P.W P.w) t)))]) hx hb dX3_markMasked_81 hl (k := 4) rfl (nI_add _ 1) (by decide) rfl (fun ls hl => ?_)
            refine lv_goto (tgt := 14) hx hb dX3_markMasked_84 (by decide) ?_
            exact ih14 (j + 1) (by omega) (by omega) _ _ (by refine congrArg nI ?_; rw [mmj_step]; first | (rw [if_pos ⟨c_39, by omega⟩]; done) | (rw [if_neg (fun q9 => by have := q9.2; omega)]; done) | (rw [if_neg (fun q9 => c_39 q9.1)]; done)) (by first | rfl | (congr 1; omega)) _ (lv_sub hl [1, 2, 3, 4, 0] rfl)
          · skip
            have c_39 : ((wmk P.W P.w) t).testBit j = true := Decidable.byContradiction (fun h__ => c_39 (pI_eq0.mpr h__))
            replace c_39 := (wmk_bit (by omega)).mp c_39
            refine lv_aload_n hx hb dX3_markMasked_42 rfl (lv_at hl 0 rfl) ?_
            refine q_get hx hb hts hinX3 hown hG hW hm0 rfl 0 (by decide) (hts (.fieldLink RX3 12 "FoleyMixer$Mix" "play" "LFoleyMixer$Play;") (List.mem_of_getElem? (i := 2) rfl)) rfl rfl dX3_markMasked_43 ?_
            refine q_getN hx hb hts hinX4 hown hG hW (hp).1 rfl 0 (by decide) (hG.nest 10 rfl) rfl rfl dX3_markMasked_46 ?_
            refine lv_iload hx hb dX3_markMasked_49 (lv_at hl 4 rfl) ?_
            refine lv_iconst (v := nI 2) hx hb dX3_markMasked_51 (by decide) ?_
            refine q_R1 (va_runVN (As := [.int (nI j), .int (nI 2)]) (rest := []) ⟨hx, hb, hml, hown, hts⟩ (c_X1_numberOf l (hp).2.1 (j) (2) (by omega) (by omega)) ⟨(va_cnB 2 hts gX3_markMasked_X1_numberOf_n79 rfl rfl rfl (hG.nest 54 rfl) (hts (.initialized RX1) (List.mem_of_getElem? (i := 8) rfl)) (by decide +kernel) ⟨Nat.le_of_ble_eq_true rfl, Nat.le_of_ble_eq_true rfl⟩), (hts (.instanceMethod yX1_numberOf) (List.mem_of_getElem? (i := 14) rfl)), (hts (.selects RX1 yX1_numberOf yX1_numberOf) (List.mem_of_getElem? (i := 15) rfl))⟩ (q_preV hG hW hS (isCues.obj (hp).2.1) rfl) rfl rfl hl.1 rfl (lv_room (Nat.le_of_ble_eq_true rfl)) dX3_markMasked_52 ⟨Nat.le_of_ble_eq_true rfl, Nat.le_of_ble_eq_true rfl⟩) ?_
            have q_52 := (hp).2.1.2.2.2.1 (j) (by omega)
            refine lv_aload_n hx hb dX3_markMasked_55 rfl (lv_at hl 0 rfl) ?_
            refine lv_iload hx hb dX3_markMasked_56 (lv_at hl 4 rfl) ?_
            refine lv_iload_n hx hb dX3_markMasked_58 rfl (lv_at hl 1 rfl) ?_
            refine q_R1 (va_runV (As := [.int (nI j), .int (nI t)]) (rest := [.int (nI (P.W j 2))]) ⟨hx, hb, hml, hown, hts⟩ (c_X3_coverOf l hm0 hp hm1 hm5 hm6 (j) (t) (by omega) (by assumption) (by assumption) (by omega)) (cwV 2 hts gX3_markMasked_X3_coverOf rfl rfl rfl (by decide +kernel) ⟨Nat.le_of_ble_eq_true rfl, Nat.le_of_ble_eq_true rfl⟩) (q_preV hG hW hS hm0 rfl) rfl rfl hl.1 rfl (lv_room (Nat.le_of_ble_eq_true rfl)) dX3_markMasked_59 ⟨Nat.le_of_ble_eq_true rfl, Nat.le_of_ble_eq_true rfl⟩) ?_
            refine lv_aload_n hx hb dX3_markMasked_62 rfl (lv_at hl 0 rfl) ?_
            refine q_get hx hb hts hinX3 hown hG hW hm0 rfl 0 (by decide) (hts (.fieldLink RX3 12 "FoleyMixer$Mix" "play" "LFoleyMixer$Play;") (List.mem_of_getElem? (i := 2) rfl)) rfl rfl dX3_markMasked_63 ?_
            refine lv_iconst (v := nI 3) hx hb dX3_markMasked_66 (by decide) ?_
            refine q_R1 (va_runVN (As := [.int (nI 3)]) (rest := [.int (nI (cov P j t)), .int (nI (P.W j 2))]) ⟨hx, hb, hml, hown, hts⟩ (c_X4_settingOf l hp (3) (by omega)) ⟨(va_cnB 1 hts gX3_markMasked_X4_settingOf_n65 rfl rfl rfl (hG.nest 50 rfl) (hts (.initialized RX4) (List.mem_of_getElem? (i := 34) rfl)) (by decide +kernel) ⟨Nat.le_of_ble_eq_true rfl, Nat.le_of_ble_eq_true rfl⟩), (hts (.instanceMethod yX4_settingOf) (List.mem_of_getElem? (i := 33) rfl)), (hts (.selects RX4 yX4_settingOf yX4_settingOf) (List.mem_of_getElem? (i := 35) rfl))⟩ (q_preV hG hW hS (hp).1 rfl) rfl rfl hl.1 rfl (lv_room (Nat.le_of_ble_eq_true rfl)) dX3_markMasked_67 ⟨Nat.le_of_ble_eq_true rfl, Nat.le_of_ble_eq_true rfl⟩) ?_
            refine lv_iadd hx hb dX3_markMasked_70 ?_
            refine q_top (y := nI ((cov P j t) + (P.S 3))) (nI_add _ _) ?_
            refine lv_icmp_ge (tgt := 81) hx hb dX3_markMasked_71 (by decide) (fun c_71 => ?_) (fun c_71 => ?_)
            · skip
              have c_71 : (cov P j t) + (P.S 3) ≤ P.W j 2 := (nI_leI (a := (cov P j t) + (P.S 3)) (b := P.W j 2) (by omega) (by omega)).mp c_71
              try replace c_39 := fun q9 => c_39 ((wmk_bit (by omega)).mpr q9)
              refine lv_iinc (v := nI (j + 1)) (lv' := [(4, .int (nI (j + 1))), (0, .ref (b + k)), (1, .int (nI t)), (2, .int (nI (mmj P t j))), (3, .int (nI ((wmk P.W P.w) t)))]) hx hb dX3_markMasked_81 hl (k := 4) rfl (nI_add _ 1) (by decide) rfl (fun ls hl => ?_)
              refine lv_goto (tgt := 14) hx hb dX3_markMasked_84 (by decide) ?_
              exact ih14 (j + 1) (by omega) (by omega) _ _ (by refine congrArg nI ?_; rw [mmj_step]; first | (rw [if_pos ⟨c_39, by omega⟩]; done) | (rw [if_neg (fun q9 => by have := q9.2; omega)]; done) | (rw [if_neg (fun q9 => c_39 q9.1)]; done)) (by first | rfl | (congr 1; omega)) _ (lv_sub hl [1, 2, 3, 4, 0] rfl)
            · skip
              have c_71 : ¬ ((cov P j t) + (P.S 3) ≤ P.W j 2) := fun h__ => c_71 ((nI_leI (a := (cov P j t) + (P.S 3)) (b := P.W j 2) (by omega) (by omega)).mpr h__)
              refine lv_iload_n hx hb dX3_markMasked_74 rfl (lv_at hl 2 rfl) ?_
              refine lv_iconst (v := nI 1) hx hb dX3_markMasked_75 (by decide) ?_
              refine lv_iload hx hb dX3_markMasked_76 (lv_at hl 4 rfl) ?_
              refine lv_ishl hx hb dX3_markMasked_78 ?_
              refine lv_ior hx hb dX3_markMasked_79 ?_
              refine q_top (y := nI (mmj P t j ||| 2 ^ j)) (by rw [nI_shl1 (by omega)]; exact nI_or _ _) ?_
              refine lv_istore_n (lv' := [(2, .int (nI (mmj P t j ||| 2 ^ j))), (0, .ref (b + k)), (1, .int (nI t)), (3, .int (nI ((wmk P.W P.w) t))), (4, .int (nI j))]) hx hb dX3_markMasked_80 rfl hl (by decide) rfl (fun ls hl => ?_)
              try replace c_39 := fun q9 => c_39 ((wmk_bit (by omega)).mpr q9)
              refine lv_iinc (v := nI (j + 1)) (lv' := [(4, .int (nI (j + 1))), (2, .int (nI (mmj P t j ||| 2 ^ j))), (0, .ref (b + k)), (1, .int (nI t)), (3, .int (nI ((wmk P.W P.w) t)))]) hx hb dX3_markMasked_81 hl (k := 4) rfl (nI_add _ 1) (by decide) rfl (fun ls hl => ?_)
              refine lv_goto (tgt := 14) hx hb dX3_markMasked_84 (by decide) ?_
              exact ih14 (j + 1) (by omega) (by omega) _ _ (by refine congrArg nI ?_; rw [mmj_step]; first | (rw [if_pos ⟨c_39, by omega⟩]; done) | (rw [if_neg (fun q9 => by have := q9.2; omega)]; done) | (rw [if_neg (fun q9 => c_39 q9.1)]; done)) (by first | rfl | (congr 1; omega)) _ (lv_sub hl [2, 3, 1, 4, 0] rfl)
  exact L14 ((P.w - 0) + 1) 0 (by omega) (Nat.lt_succ_self _) _ _ (by first | rfl | (congr 1; omega)) (by first | rfl | (congr 1; omega)) _ (lv_sub hl [3, 4, 2, 1, 0] rfl)

set_option maxHeartbeats 300000 in
set_option maxRecDepth 100000 in
/-- Mix.refresh() -/
theorem c_X3_refresh (l : Launch) {D : va_G} {dA : Nat → Nat} {b : Nat} {w : Wd} {k q : Nat} {P : Pl} (ha : anyMix dA b w k q) (hp : isPlay dA b w q P) (hkq : q = k + 1) : Met l yX3_refresh wsX3_refresh ({ frames := 4, cells := 0, slots := 0, locals := 94 } : Room) (PC D dA b w [.ref (b + k)]) (QW D b (none) (fun w' => isMix dA b w' k q P ∧ ∀ id : Nat, (id < k + 7 ∨ k + 13 < id) → w' id = w id)) 0 0 (Fb b) := by
  refine q_of (cc := cX3_refresh) (maxL := 2) (ret := none) (by decide) rfl rfl ?_
  intro p e s m args below meth c ls hx hb hr hml hts hown hlocks hG hW hS hl
  have hown : s.vm.findClass RX3 = some m.cls := hown
  have hinX3 : ∀ w ∈ u_ws RX3 TX3 8, w ∈ wsX3_refresh := fun w h => (goodIn_r (big := wsX3_refresh) (u_ws RX3 TX3 8) [70, 71, 72, 73, 74, 75, 76, 77] (by decide +kernel) (by decide +kernel) w h).1
  have hinX4 : ∀ w ∈ u_ws RX4 TX4 3, w ∈ wsX3_refresh := fun w h => (goodIn_r (big := wsX3_refresh) (u_ws RX4 TX4 3) [78, 79, 80] (by decide +kernel) (by decide +kernel) w h).1
  have hl : lv_has ls 2 [(0, .ref (b + k))] := hl
  obtain ⟨hm0, f1, f2, f3, f5, f6, f7, f4, hm1, hm2, hm3, hm4, hm5, hm6, hm7⟩ := ha
  have hp0 := hp
  refine lv_aload_n hx hb dX3_refresh_0 rfl (lv_at hl 0 rfl) ?_
  refine q_get hx hb hts hinX3 hown hG hW hm0 rfl 0 (by decide) (hts (.fieldLink RX3 12 "FoleyMixer$Mix" "play" "LFoleyMixer$Play;") (List.mem_of_getElem? (i := 1) rfl)) rfl rfl dX3_refresh_1 ?_
  refine q_getN hx hb hts hinX4 hown hG hW (hp).1 rfl 0 (by decide) (hG.nest 10 rfl) rfl rfl dX3_refresh_4 ?_
  refine lv_aload_n hx hb dX3_refresh_7 rfl (lv_at hl 0 rfl) ?_
  refine q_get hx hb hts hinX3 hown hG hW hm0 rfl 1 (by decide) (hts (.fieldLink RX3 18 "FoleyMixer$Mix" "words" "[I") (List.mem_of_getElem? (i := 2) rfl)) rfl rfl dX3_refresh_8 ?_
  refine q_W0 (va_runVN (As := [.ref (b + (k + 7))]) (rest := []) ⟨hx, hb, hml, hown, hts⟩ (c_X1_markSounding l (hp).2.1 hm1 (by omega)) ⟨(va_cnB 1 hts gX3_refresh_X1_markSounding_n43 rfl rfl rfl (hG.nest 46 rfl) (hts (.initialized RX1) (List.mem_of_getElem? (i := 5) rfl)) (by decide +kernel) ⟨Nat.le_of_ble_eq_true rfl, Nat.le_of_ble_eq_true rfl⟩), (hts (.instanceMethod yX1_markSounding) (List.mem_of_getElem? (i := 4) rfl)), (hts (.selects RX1 yX1_markSounding yX1_markSounding) (List.mem_of_getElem? (i := 6) rfl))⟩ (q_preV hG hW hS (isCues.obj (hp).2.1) rfl) rfl rfl hl.1 rfl (lv_room (Nat.le_of_ble_eq_true rfl)) dX3_refresh_11 ⟨Nat.le_of_ble_eq_true rfl, Nat.le_of_ble_eq_true rfl⟩) hS (fun w_11 H locs hp11 hW hS => ?_)
  obtain ⟨hm1, fr11⟩ := hp11
  replace hm0 : w_11 k = some (mixO b k q) := (fr11 _ (by omega)).trans hm0
  replace hp : isPlay dA b w_11 q P := hp.fr (fun id9 h7 h8 => fr11 id9 (by omega))
  replace hm2 : w_11 (k + 8) = some (eN dA 120 f2) := (fr11 _ (by omega)).trans hm2
  replace hm3 : w_11 (k + 9) = some (eN dA 120 f3) := (fr11 _ (by omega)).trans hm3
  replace hm4 : w_11 (k + 10) = some (eI dA 120 f4) := (fr11 _ (by omega)).trans hm4
  replace hm5 : w_11 (k + 11) = some (eN dA 120 f5) := (fr11 _ (by omega)).trans hm5
  replace hm6 : w_11 (k + 12) = some (eN dA 120 f6) := (fr11 _ (by omega)).trans hm6
  replace hm7 : w_11 (k + 13) = some (eN dA 120 f7) := (fr11 _ (by omega)).trans hm7
  refine lv_aload_n hx hb dX3_refresh_14 rfl (lv_at hl 0 rfl) ?_
  refine q_get hx hb hts hinX3 hown hG hW hm0 rfl 0 (by decide) (hts (.fieldLink RX3 12 "FoleyMixer$Mix" "play" "LFoleyMixer$Play;") (List.mem_of_getElem? (i := 1) rfl)) rfl rfl dX3_refresh_15 ?_
  refine q_getN hx hb hts hinX4 hown hG hW (hp).1 rfl 1 (by decide) (hG.nest 12 rfl) rfl rfl dX3_refresh_18 ?_
  refine lv_aload_n hx hb dX3_refresh_21 rfl (lv_at hl 0 rfl) ?_
  refine q_get hx hb hts hinX3 hown hG hW hm0 rfl 2 (by decide) (hts (.fieldLink RX3 22 "FoleyMixer$Mix" "noises" "[I") (List.mem_of_getElem? (i := 3) rfl)) rfl rfl dX3_refresh_22 ?_
  refine q_W0 (va_runVN (As := [.ref (b + (k + 8))]) (rest := []) ⟨hx, hb, hml, hown, hts⟩ (c_X1_markSounding l (hp).2.2.1 hm2 (by omega)) ⟨(va_cnB 1 hts gX3_refresh_X1_markSounding_n43 rfl rfl rfl (hG.nest 46 rfl) (hts (.initialized RX1) (List.mem_of_getElem? (i := 5) rfl)) (by decide +kernel) ⟨Nat.le_of_ble_eq_true rfl, Nat.le_of_ble_eq_true rfl⟩), (hts (.instanceMethod yX1_markSounding) (List.mem_of_getElem? (i := 4) rfl)), (hts (.selects RX1 yX1_markSounding yX1_markSounding) (List.mem_of_getElem? (i := 6) rfl))⟩ (q_preV hG hW hS (isCues.obj (hp).2.2.1) rfl) rfl rfl hl.1 rfl (lv_room (Nat.le_of_ble_eq_true rfl)) dX3_refresh_25 ⟨Nat.le_of_ble_eq_true rfl, Nat.le_of_ble_eq_true rfl⟩) hS (fun w_25 H locs hp25 hW hS => ?_)
  obtain ⟨hm2, fr25⟩ := hp25
  replace hm0 : w_25 k = some (mixO b k q) := (fr25 _ (by omega)).trans hm0
  replace hp : isPlay dA b w_25 q P := hp.fr (fun id9 h7 h8 => fr25 id9 (by omega))
  replace hm3 : w_25 (k + 9) = some (eN dA 120 f3) := (fr25 _ (by omega)).trans hm3
  replace hm4 : w_25 (k + 10) = some (eI dA 120 f4) := (fr25 _ (by omega)).trans hm4
  replace hm5 : w_25 (k + 11) = some (eN dA 120 f5) := (fr25 _ (by omega)).trans hm5
  replace hm6 : w_25 (k + 12) = some (eN dA 120 f6) := (fr25 _ (by omega)).trans hm6
  replace hm7 : w_25 (k + 13) = some (eN dA 120 f7) := (fr25 _ (by omega)).trans hm7
  replace hm1 : w_25 (k + 7) = some (eN dA 120 (wmk P.W P.w)) := (fr25 _ (by omega)).trans hm1
  refine lv_aload_n hx hb dX3_refresh_28 rfl (lv_at hl 0 rfl) ?_
  refine q_W0 (va_runV (As := []) (rest := []) ⟨hx, hb, hml, hown, hts⟩ (c_X3_duck l hm0 hp hm1 hm3 hkq) (cwV 0 hts gX3_refresh_X3_duck rfl rfl rfl (by decide +kernel) ⟨Nat.le_of_ble_eq_true rfl, Nat.le_of_ble_eq_true rfl⟩) (q_preV hG hW hS hm0 rfl) rfl rfl hl.1 rfl (lv_room (Nat.le_of_ble_eq_true rfl)) dX3_refresh_29 ⟨Nat.le_of_ble_eq_true rfl, Nat.le_of_ble_eq_true rfl⟩) hS (fun w_29 H locs hp29 hW hS => ?_)
  obtain ⟨hm3, fr29⟩ := hp29
  replace hm0 : w_29 k = some (mixO b k q) := (fr29 _ (by omega)).trans hm0
  replace hp : isPlay dA b w_29 q P := hp.fr (fun id9 h7 h8 => fr29 id9 (by omega))
  replace hm4 : w_29 (k + 10) = some (eI dA 120 f4) := (fr29 _ (by omega)).trans hm4
  replace hm5 : w_29 (k + 11) = some (eN dA 120 f5) := (fr29 _ (by omega)).trans hm5
  replace hm6 : w_29 (k + 12) = some (eN dA 120 f6) := (fr29 _ (by omega)).trans hm6
  replace hm7 : w_29 (k + 13) = some (eN dA 120 f7) := (fr29 _ (by omega)).trans hm7
  replace hm1 : w_29 (k + 7) = some (eN dA 120 (wmk P.W P.w)) := (fr29 _ (by omega)).trans hm1
  replace hm2 : w_29 (k + 8) = some (eN dA 120 (wmk P.N P.n)) := (fr29 _ (by omega)).trans hm2
  refine lv_iconst (v := nI 0) hx hb dX3_refresh_32 (by decide) ?_
  refine lv_istore_n (lv' := [(1, .int (nI 0)), (0, .ref (b + k))]) hx hb dX3_refresh_33 rfl hl (by decide) rfl (fun ls hl => ?_)
  have L34 : ∀ (n34 : Nat) (i : Nat), i ≤ 120 → 120 - i < n34 → ∀ (x34_1 : Int32), x34_1 = nI (i) → ∀ (w2 : Wd) (H : Heap) (locs : List Loc), (∀ id : Nat, (id < k + 7 ∨ k + 13 < id) → w2 id = w id) → w2 k = some (mixO b k q) → w2 (k + 7) = some (eN dA 120 (wmk P.W P.w)) → w2 (k + 8) = some (eN dA 120 (wmk P.N P.n)) → w2 (k + 9) = some (eN dA 120 (dk P)) → w2 (k + 10) = some (eI dA 120 (fun t => if t < i then gfi P t P.n else f4 t)) → w2 (k + 11) = some (eN dA 120 (fun t => if t < i then gst P t P.n else f5 t)) → w2 (k + 12) = some (eN dA 120 (fun t => if t < i then gct P t P.n else f6 t)) → w2 (k + 13) = some (eN dA 120 (fun t => if t < i then mmk P t else f7 t)) → WP D b w2 H → va_S (Fb b) s.heap H locs → ∀ (ls : Array Slot), lv_has ls 2 [(0, .ref (b + k)), (1, .int x34_1)] → W p l e ({ frames := 4, cells := 0, slots := 0, locals := 94 } : Room) s m args below meth c H locs 0 0 (MQ below (QW D b (none) (fun w' => isMix dA b w' k q P ∧ ∀ id : Nat, (id < k + 7 ∨ k + 13 < id) → w' id = w id)) args s 0 0 (Fb b)) (F0 m 34 ls []) := by
    intro n34
    induction n34 with
    | zero =>
      intro i hi0 hn34 x34_1 ex34_1 w2 H locs fr hm0 hm1 hm2 hm3 hm4 hm5 hm6 hm7 hW hS ls hl
      exact absurd hn34 (Nat.not_lt_zero _)
    | succ n34 ih34 =>
      intro i hi0 hn34 x34_1 ex34_1 w2 H locs fr hm0 hm1 hm2 hm3 hm4 hm5 hm6 hm7 hW hS ls hl
      subst ex34_1
      replace hp := hp0.fr (fun id9 h7 h8 => fr id9 (by omega))
      refine lv_iload_n hx hb dX3_refresh_34 rfl (lv_at hl 1 rfl) ?_
      refine lv_bipush (v := nI 120) hx hb dX3_refresh_35 (by decide) ?_
      refine lv_icmp_ge (tgt := 56) hx hb dX3_refresh_37 (by decide) (fun c_37 => ?_) (fun c_37 => ?_)
      · skip
        have c_37 : 120 ≤ i := (nI_leI (a := 120) (b := i) (by omega) (by omega)).mp c_37
        obtain ⟨w1, ew1⟩ : ∃ wq__ : Wd, wq__ = va_up w2 (k + 10) (some (eI dA 120 (fun t => gfi P t P.n))) := ⟨_, rfl⟩
        replace hW : WP D b w1 H := by rw [ew1]; exact hW.sameI (g := fun t => gfi P t P.n) hm4 (fun t ht => if_pos (by omega))
        have frw1 : ∀ id : Nat, id ≠ k + 10 → w1 id = w2 id := fun id h9 => by rw [ew1, up_ne h9]
        replace hm0 : w1 k = some (mixO b k q) := (frw1 _ (by omega)).trans hm0
        replace hp : isPlay dA b w1 q P := hp.fr (fun id9 h7 h8 => frw1 id9 (by omega))
        replace hm5 : w1 (k + 11) = some (eN dA 120 (fun t => if t < i then gst P t P.n else f5 t)) := (frw1 _ (by omega)).trans hm5
        replace hm6 : w1 (k + 12) = some (eN dA 120 (fun t => if t < i then gct P t P.n else f6 t)) := (frw1 _ (by omega)).trans hm6
        replace hm7 : w1 (k + 13) = some (eN dA 120 (fun t => if t < i then mmk P t else f7 t)) := (frw1 _ (by omega)).trans hm7
        replace hm1 : w1 (k + 7) = some (eN dA 120 (wmk P.W P.w)) := (frw1 _ (by omega)).trans hm1
        replace hm2 : w1 (k + 8) = some (eN dA 120 (wmk P.N P.n)) := (frw1 _ (by omega)).trans hm2
        replace hm3 : w1 (k + 9) = some (eN dA 120 (dk P)) := (frw1 _ (by omega)).trans hm3
        replace hm4 : w1 (k + 10) = some (eI dA 120 (fun t => gfi P t P.n)) := by rw [ew1]; exact up_eq
        obtain ⟨w2, ew2⟩ : ∃ wq__ : Wd, wq__ = va_up w1 (k + 11) (some (eN dA 120 (fun t => gst P t P.n))) := ⟨_, rfl⟩
        replace hW : WP D b w2 H := by rw [ew2]; exact hW.same (g := fun t => gst P t P.n) hm5 (fun t ht => if_pos (by omega))
        have frw2 : ∀ id : Nat, id ≠ k + 11 → w2 id = w1 id := fun id h9 => by rw [ew2, up_ne h9]
        replace hm0 : w2 k = some (mixO b k q) := (frw2 _ (by omega)).trans hm0
        replace hp : isPlay dA b w2 q P := hp.fr (fun id9 h7 h8 => frw2 id9 (by omega))
        replace hm4 : w2 (k + 10) = some (eI dA 120 (fun t => gfi P t P.n)) := (frw2 _ (by omega)).trans hm4
        replace hm6 : w2 (k + 12) = some (eN dA 120 (fun t => if t < i then gct P t P.n else f6 t)) := (frw2 _ (by omega)).trans hm6
        replace hm7 : w2 (k + 13) = some (eN dA 120 (fun t => if t < i then mmk P t else f7 t)) := (frw2 _ (by omega)).trans hm7
        replace hm1 : w2 (k + 7) = some (eN dA 120 (wmk P.W P.w)) := (frw2 _ (by omega)).trans hm1
        replace hm2 : w2 (k + 8) = some (eN dA 120 (wmk P.N P.n)) := (frw2 _ (by omega)).trans hm2
        replace hm3 : w2 (k + 9) = some (eN dA 120 (dk P)) := (frw2 _ (by omega)).trans hm3
        replace hm5 : w2 (k + 11) = some (eN dA 120 (fun t => gst P t P.n)) := by rw [ew2]; exact up_eq
        obtain ⟨w3, ew3⟩ : ∃ wq__ : Wd, wq__ = va_up w2 (k + 12) (some (eN dA 120 (fun t => gct P t P.n))) := ⟨_, rfl⟩
        replace hW : WP D b w3 H := by rw [ew3]; exact hW.same (g := fun t => gct P t P.n) hm6 (fun t ht => if_pos (by omega))
        have frw3 : ∀ id : Nat, id ≠ k + 12 → w3 id = w2 id := fun id h9 => by rw [ew3, up_ne h9]
        replace hm0 : w3 k = some (mixO b k q) := (frw3 _ (by omega)).trans hm0
        replace hp : isPlay dA b w3 q P := hp.fr (fun id9 h7 h8 => frw3 id9 (by omega))
        replace hm4 : w3 (k + 10) = some (eI dA 120 (fun t => gfi P t P.n)) := (frw3 _ (by omega)).trans hm4
        replace hm5 : w3 (k + 11) = some (eN dA 120 (fun t => gst P t P.n)) := (frw3 _ (by omega)).trans hm5
        replace hm7 : w3 (k + 13) = some (eN dA 120 (fun t => if t < i then mmk P t else f7 t)) := (frw3 _ (by omega)).trans hm7
        replace hm1 : w3 (k + 7) = some (eN dA 120 (wmk P.W P.w)) := (frw3 _ (by omega)).trans hm1
        replace hm2 : w3 (k + 8) = some (eN dA 120 (wmk P.N P.n)) := (frw3 _ (by omega)).trans hm2
        replace hm3 : w3 (k + 9) = some (eN dA 120 (dk P)) := (frw3 _ (by omega)).trans hm3
        replace hm6 : w3 (k + 12) = some (eN dA 120 (fun t => gct P t P.n)) := by rw [ew3]; exact up_eq
        obtain ⟨w4, ew4⟩ : ∃ wq__ : Wd, wq__ = va_up w3 (k + 13) (some (eN dA 120 (mmk P))) := ⟨_, rfl⟩
        replace hW : WP D b w4 H := by rw [ew4]; exact hW.same (g := mmk P) hm7 (fun t ht => if_pos (by omega))
        have frw4 : ∀ id : Nat, id ≠ k + 13 → w4 id = w3 id := fun id h9 => by rw [ew4, up_ne h9]
        replace hm0 : w4 k = some (mixO b k q) := (frw4 _ (by omega)).trans hm0
        replace hp : isPlay dA b w4 q P := hp.fr (fun id9 h7 h8 => frw4 id9 (by omega))
        replace hm4 : w4 (k + 10) = some (eI dA 120 (fun t => gfi P t P.n)) := (frw4 _ (by omega)).trans hm4
        replace hm5 : w4 (k + 11) = some (eN dA 120 (fun t => gst P t P.n)) := (frw4 _ (by omega)).trans hm5
        replace hm6 : w4 (k + 12) = some (eN dA 120 (fun t => gct P t P.n)) := (frw4 _ (by omega)).trans hm6
        replace hm1 : w4 (k + 7) = some (eN dA 120 (wmk P.W P.w)) := (frw4 _ (by omega)).trans hm1
        replace hm2 : w4 (k + 8) = some (eN dA 120 (wmk P.N P.n)) := (frw4 _ (by omega)).trans hm2
        replace hm3 : w4 (k + 9) = some (eN dA 120 (dk P)) := (frw4 _ (by omega)).trans hm3
        replace hm7 : w4 (k + 13) = some (eN dA 120 (mmk P)) := by rw [ew4]; exact up_eq
        exact q_wv hx hb hr hlocks hW hS dX3_refresh_56 (by exact ⟨⟨hm0, hm1, hm2, hm3, hm4, hm5, hm6, hm7⟩, by intro id h9; rw [frw4 id (by omega)]; rw [frw3 id (by omega)]; rw [frw2 id (by omega)]; rw [frw1 id (by omega)]; rw [fr id h9]⟩) (by decide) (by decide)
      · skip
        have c_37 : ¬ (120 ≤ i) := fun h__ => c_37 ((nI_leI (a := 120) (b := i) (by omega) (by omega)).mpr h__)
        refine lv_aload_n hx hb dX3_refresh_40 rfl (lv_at hl 0 rfl) ?_
        refine lv_iload_n hx hb dX3_refresh_41 rfl (lv_at hl 1 rfl) ?_
        refine q_W0 (va_runV (As := [.int (nI i)]) (rest := []) ⟨hx, hb, hml, hown, hts⟩ (c_X3_weighNoises l hm0 hp hm2 hm3 hm4 hm5 hm6 (i) (by omega) hkq) (cwV 1 hts gX3_refresh_X3_weighNoises rfl rfl rfl (by decide +kernel) ⟨Nat.le_of_ble_eq_true rfl, Nat.le_of_ble_eq_true rfl⟩) (q_preV hG hW hS hm0 rfl) rfl rfl hl.1 rfl (lv_room (Nat.le_of_ble_eq_true rfl)) dX3_refresh_42 ⟨Nat.le_of_ble_eq_true rfl, Nat.le_of_ble_eq_true rfl⟩) hS (fun w_42 H locs hp42 hW hS => ?_)
        obtain ⟨hm4, hm5, hm6, fr42⟩ := hp42
        replace hm0 : w_42 k = some (mixO b k q) := (fr42 _ (by omega)).trans hm0
        replace hp : isPlay dA b w_42 q P := hp.fr (fun id9 h7 h8 => fr42 id9 (by omega))
        replace hm7 : w_42 (k + 13) = some (eN dA 120 (fun t => if t < i then mmk P t else f7 t)) := (fr42 _ (by omega)).trans hm7
        replace hm1 : w_42 (k + 7) = some (eN dA 120 (wmk P.W P.w)) := (fr42 _ (by omega)).trans hm1
        replace hm2 : w_42 (k + 8) = some (eN dA 120 (wmk P.N P.n)) := (fr42 _ (by omega)).trans hm2
        replace hm3 : w_42 (k + 9) = some (eN dA 120 (dk P)) := (fr42 _ (by omega)).trans hm3
        refine lv_aload_n hx hb dX3_refresh_45 rfl (lv_at hl 0 rfl) ?_
        refine lv_iload_n hx hb dX3_refresh_46 rfl (lv_at hl 1 rfl) ?_
        refine q_W0 (va_runV (As := [.int (nI i)]) (rest := []) ⟨hx, hb, hml, hown, hts⟩ (c_X3_markMasked l hm0 hp hm1 hm5 hm6 hm7 (i) (by omega) (by simp [va_up]) (by simp [va_up]) hkq) (cwV 1 hts gX3_refresh_X3_markMasked rfl rfl rfl (by decide +kernel) ⟨Nat.le_of_ble_eq_true rfl, Nat.le_of_ble_eq_true rfl⟩) (q_preV hG hW hS hm0 rfl) rfl rfl hl.1 rfl (lv_room (Nat.le_of_ble_eq_true rfl)) dX3_refresh_47 ⟨Nat.le_of_ble_eq_true rfl, Nat.le_of_ble_eq_true rfl⟩) hS (fun w_47 H locs hp47 hW hS => ?_)
        obtain ⟨hm7, fr47⟩ := hp47
        replace hm0 : w_47 k = some (mixO b k q) := (fr47 _ (by omega)).trans hm0
        replace hp : isPlay dA b w_47 q P := hp.fr (fun id9 h7 h8 => fr47 id9 (by omega))
        replace hm1 : w_47 (k + 7) = some (eN dA 120 (wmk P.W P.w)) := (fr47 _ (by omega)).trans hm1
        replace hm2 : w_47 (k + 8) = some (eN dA 120 (wmk P.N P.n)) := (fr47 _ (by omega)).trans hm2
        replace hm3 : w_47 (k + 9) = some (eN dA 120 (dk P)) := (fr47 _ (by omega)).trans hm3
        replace hm4 : w_47 (k + 10) = some (eI dA 120 (va_up (fun t => if t < i then gfi P t P.n else f4 t) i (gfi P i P.n))) := (fr47 _ (by omega)).trans hm4
        replace hm5 : w_47 (k + 11) = some (eN dA 120 (va_up (fun t => if t < i then gst P t P.n else f5 t) i (gst P i P.n))) := (fr47 _ (by omega)).trans hm5
        replace hm6 : w_47 (k + 12) = some (eN dA 120 (va_up (fun t => if t < i then gct P t P.n else f6 t) i (gct P i P.n))) := (fr47 _ (by omega)).trans hm6
        refine lv_iinc (v := nI (i + 1)) (lv' := [(1, .int (nI (i + 1))), (0, .ref (b + k))]) hx hb dX3_refresh_50 hl (k := 1) rfl (nI_add _ 1) (by decide) rfl (fun ls hl => ?_)
        refine lv_goto (tgt := 34) hx hb dX3_refresh_53 (by decide) ?_
        exact ih34 (i + 1) (by omega) (by omega) _ (by first | rfl | (congr 1; omega)) _ _ _ (by intro id h9; rw [fr47 id (by omega), fr42 id (by omega), fr id h9]) (by assumption) (by assumption) (by assumption) (by assumption) (by exact hm4.trans (eI_congr (fill_step (f := fun t => gfi P t P.n) rfl))) (by exact hm5.trans (eN_congr (fill_step (f := fun t => gst P t P.n) rfl))) (by exact hm6.trans (eN_congr (fill_step (f := fun t => gct P t P.n) rfl))) (by exact hm7.trans (eN_congr (fill_step (f := mmk P) rfl))) hW hS _ (lv_sub hl [1, 0] rfl)
  exact L34 ((120 - 0) + 1) 0 (by omega) (Nat.lt_succ_self _) _ (by first | rfl | (congr 1; omega)) _ _ _ (by intro id h9; rw [fr29 id (by omega), fr25 id (by omega), fr11 id (by omega)]) (by assumption) (by assumption) (by assumption) (by assumption) (by exact hm4.trans (eI_congr (fill_0 (f := fun t => gfi P t P.n)))) (by exact hm5.trans (eN_congr (fill_0 (f := fun t => gst P t P.n)))) (by exact hm6.trans (eN_congr (fill_0 (f := fun t => gct P t P.n)))) (by exact hm7.trans (eN_congr (fill_0 (f := mmk P)))) hW hS _ (lv_sub hl [1, 0] rfl)

