section LW
variable {p : Program} {l : Launch} {e : Env} {R : Room} {s : State} {m : MethodId} {args : Array Value} {below : List Frame} {meth : Method} {c : Code} {H : Heap} {locs : List Loc} {cells slots : Nat} {Q : State → Prop}
variable {cc : ByteArray} {pc : Nat} {ls : Array Slot} {rest : List Value}
theorem q_ldcw (hx : p.tables.exec = Jvm.exec) (hb : c.code = cc) {own : String} {index : Nat} {v : Int32} (hown : s.vm.findClass own = some m.cls) (hconst : (Jvm.Cond.constant own index v).before args s = true) (hdg : decode cc pc = .ok (.ldc_w index, 3)) (k : W p l e R s m args below meth c H locs cells slots Q (F0 m (pc + 3) ls (.int v :: rest))) : W p l e R s m args below meth c H locs cells slots Q (F0 m pc ls rest) := by
  intro T hT X
  obtain ⟨t, a, b⟩ := k T hT X
  exact ⟨t, X.ldcWInt hx hown hconst rfl (by rw [hb]; exact hdg) t a, b⟩
end LW
theorem mm_eq (P : Pl) (t : Nat) (h : okP P) : bcx (nI (mmk P t)) = nI (pop (mmk P t)) := bcx_pop _ (mmk_lt h t)

set_option maxHeartbeats 300000 in
/-- Integer.bitCount -/
theorem c_J6_bitCount (l : Launch) {D : va_G} {dA : Nat → Nat} {b : Nat} {w : Wd} (x : Int32) : Met l yJ6_bitCount_0f7a4 wsJ6_bitCount_0f7a4 ({ frames := 0, cells := 0, slots := 0, locals := 0 } : Room) (PC D dA b w [.int (x)]) (QR (some (.int (bcx x)))) 0 0 Fno := by
  refine q_of (cc := cJ6_bitCount_0f7a4) (maxL := 1) (ret := (some .int)) (by decide) rfl rfl ?_
  intro p e s m args below meth c ls hx hb hr hml hts hown hlocks hG hW hS hl
  have hown : s.vm.findClass "java/lang/Integer" = some m.cls := hown
  have hl : lv_has ls 1 [(0, .int (x))] := hl
  refine lv_iload_n hx hb dJ6_bitCount_0f7a4_0 rfl (lv_at hl 0 rfl) ?_
  refine lv_iload_n hx hb dJ6_bitCount_0f7a4_1 rfl (lv_at hl 0 rfl) ?_
  refine lv_iconst (v := nI 1) hx hb dJ6_bitCount_0f7a4_2 (by decide) ?_
  refine lv_iushr hx hb dJ6_bitCount_0f7a4_3 rfl ?_
  refine q_ldcw hx hb hown (hts _ (List.mem_of_getElem? (i := 1) rfl)) dJ6_bitCount_0f7a4_4 ?_
  refine lv_iand hx hb dJ6_bitCount_0f7a4_7 ?_
  refine lv_isub hx hb dJ6_bitCount_0f7a4_8 ?_
  refine lv_istore_n (lv' := [(0, .int (_))]) hx hb dJ6_bitCount_0f7a4_9 rfl hl (by decide) rfl (fun ls hl => ?_)
  refine lv_iload_n hx hb dJ6_bitCount_0f7a4_10 rfl (lv_at hl 0 rfl) ?_
  refine q_ldcw hx hb hown (hts _ (List.mem_of_getElem? (i := 2) rfl)) dJ6_bitCount_0f7a4_11 ?_
  refine lv_iand hx hb dJ6_bitCount_0f7a4_14 ?_
  refine lv_iload_n hx hb dJ6_bitCount_0f7a4_15 rfl (lv_at hl 0 rfl) ?_
  refine lv_iconst (v := nI 2) hx hb dJ6_bitCount_0f7a4_16 (by decide) ?_
  refine lv_iushr hx hb dJ6_bitCount_0f7a4_17 rfl ?_
  refine q_ldcw hx hb hown (hts _ (List.mem_of_getElem? (i := 2) rfl)) dJ6_bitCount_0f7a4_18 ?_
  refine lv_iand hx hb dJ6_bitCount_0f7a4_21 ?_
  refine lv_iadd hx hb dJ6_bitCount_0f7a4_22 ?_
  refine lv_istore_n (lv' := [(0, .int (_))]) hx hb dJ6_bitCount_0f7a4_23 rfl hl (by decide) rfl (fun ls hl => ?_)
  refine lv_iload_n hx hb dJ6_bitCount_0f7a4_24 rfl (lv_at hl 0 rfl) ?_
  refine lv_iload_n hx hb dJ6_bitCount_0f7a4_25 rfl (lv_at hl 0 rfl) ?_
  refine lv_iconst (v := nI 4) hx hb dJ6_bitCount_0f7a4_26 (by decide) ?_
  refine lv_iushr hx hb dJ6_bitCount_0f7a4_27 rfl ?_
  refine lv_iadd hx hb dJ6_bitCount_0f7a4_28 ?_
  refine q_ldcw hx hb hown (hts _ (List.mem_of_getElem? (i := 3) rfl)) dJ6_bitCount_0f7a4_29 ?_
  refine lv_iand hx hb dJ6_bitCount_0f7a4_32 ?_
  refine lv_istore_n (lv' := [(0, .int (_))]) hx hb dJ6_bitCount_0f7a4_33 rfl hl (by decide) rfl (fun ls hl => ?_)
  refine lv_iload_n hx hb dJ6_bitCount_0f7a4_34 rfl (lv_at hl 0 rfl) ?_
  refine lv_iload_n hx hb dJ6_bitCount_0f7a4_35 rfl (lv_at hl 0 rfl) ?_
  refine lv_bipush (v := nI 8) hx hb dJ6_bitCount_0f7a4_36 (by decide) ?_
  refine lv_iushr hx hb dJ6_bitCount_0f7a4_38 rfl ?_
  refine lv_iadd hx hb dJ6_bitCount_0f7a4_39 ?_
  refine lv_istore_n (lv' := [(0, .int (_))]) hx hb dJ6_bitCount_0f7a4_40 rfl hl (by decide) rfl (fun ls hl => ?_)
  refine lv_iload_n hx hb dJ6_bitCount_0f7a4_41 rfl (lv_at hl 0 rfl) ?_
  refine lv_iload_n hx hb dJ6_bitCount_0f7a4_42 rfl (lv_at hl 0 rfl) ?_
  refine lv_bipush (v := nI 16) hx hb dJ6_bitCount_0f7a4_43 (by decide) ?_
  refine lv_iushr hx hb dJ6_bitCount_0f7a4_45 rfl ?_
  refine lv_iadd hx hb dJ6_bitCount_0f7a4_46 ?_
  refine lv_istore_n (lv' := [(0, .int (_))]) hx hb dJ6_bitCount_0f7a4_47 rfl hl (by decide) rfl (fun ls hl => ?_)
  refine lv_iload_n hx hb dJ6_bitCount_0f7a4_48 rfl (lv_at hl 0 rfl) ?_
  refine lv_bipush (v := nI 63) hx hb dJ6_bitCount_0f7a4_49 (by decide) ?_
  refine lv_iand hx hb dJ6_bitCount_0f7a4_51 ?_
  exact q_ri hx hb hr hlocks dJ6_bitCount_0f7a4_52 rfl

set_option maxHeartbeats 300000 in
set_option maxRecDepth 100000 in
/-- Mix.maskedSeconds() -/
theorem c_X3_maskedSeconds (l : Launch) {D : va_G} {dA : Nat → Nat} {b : Nat} {w : Wd} {k q : Nat} {P : Pl} (hX : isMix dA b w k q P) (hp : isPlay dA b w q P) : Met l yX3_maskedSeconds wsX3_maskedSeconds ({ frames := 1, cells := 0, slots := 0, locals := 21 } : Room) (PC D dA b w [.ref (b + k)]) (QR (some (.int (nI (ams P))))) 0 0 Fno := by
  refine q_of (cc := cX3_maskedSeconds) (maxL := 3) (ret := (some .int)) (by decide) rfl rfl ?_
  intro p e s m args below meth c ls hx hb hr hml hts hown hlocks hG hW hS hl
  have hown : s.vm.findClass RX3 = some m.cls := hown
  have hinX3 : ∀ w ∈ u_ws RX3 TX3 8, w ∈ wsX3_maskedSeconds := fun w h => (goodIn_r (big := wsX3_maskedSeconds) (u_ws RX3 TX3 8) [12, 13, 14, 15, 16, 17, 18, 19] (by decide +kernel) (by decide +kernel) w h).1
  have hl : lv_has ls 3 [(0, .ref (b + k))] := hl
  have hoP := hp.ok
  have hoS := hoP.2.2.2.2
  have ho10 := hoP.1
  have ho12 := hoP.2.1
  unfold okS at hoS
  obtain ⟨hm0, hm1, hm2, hm3, hm4, hm5, hm6, hm7⟩ := id hX
  refine lv_iconst (v := nI 0) hx hb dX3_maskedSeconds_0 (by decide) ?_
  refine lv_istore_n (lv' := [(1, .int (nI 0)), (0, .ref (b + k))]) hx hb dX3_maskedSeconds_1 rfl hl (by decide) rfl (fun ls hl => ?_)
  refine lv_iconst (v := nI 0) hx hb dX3_maskedSeconds_2 (by decide) ?_
  refine lv_istore_n (lv' := [(2, .int (nI 0)), (1, .int (nI 0)), (0, .ref (b + k))]) hx hb dX3_maskedSeconds_3 rfl hl (by decide) rfl (fun ls hl => ?_)
  have L4 : ∀ (n4 : Nat) (j : Nat), j ≤ 120 → 120 - j < n4 → ∀ (x4_1 : Int32) (x4_2 : Int32), x4_1 = nI (sm (fun t => pop (mmk P t)) j) → x4_2 = nI (j) → ∀ (ls : Array Slot), lv_has ls 3 [(0, .ref (b + k)), (1, .int x4_1), (2, .int x4_2)] → W p l e ({ frames := 1, cells := 0, slots := 0, locals := 21 } : Room) s m args below meth c s.heap [] 0 0 (MQ below (QR (some (.int (nI (ams P))))) args s 0 0 Fno) (F0 m 4 ls []) := by
    intro n4
    induction n4 with
    | zero =>
      intro j hj0 hn4 x4_1 x4_2 ex4_1 ex4_2 ls hl
      exact absurd hn4 (Nat.not_lt_zero _)
    | succ n4 ih4 =>
      intro j hj0 hn4 x4_1 x4_2 ex4_1 ex4_2 ls hl
      subst ex4_1 ex4_2
      have hmm := mmk_lt hoP j
      refine lv_iload_n hx hb dX3_maskedSeconds_4 rfl (lv_at hl 2 rfl) ?_
      refine lv_bipush (v := nI 120) hx hb dX3_maskedSeconds_5 (by decide) ?_
      refine lv_icmp_ge (tgt := 30) hx hb dX3_maskedSeconds_7 (by decide) (fun c_7 => ?_) (fun c_7 => ?_)
      · skip
        have c_7 : 120 ≤ j := (nI_leI (a := 120) (b := j) (by omega) (by omega)).mp c_7
        refine lv_iload_n hx hb dX3_maskedSeconds_30 rfl (lv_at hl 1 rfl) ?_
        exact q_ri hx hb hr hlocks dX3_maskedSeconds_31 (by rw [show j = 120 by omega]; rfl)
      · skip
        have c_7 : ¬ (120 ≤ j) := fun h__ => c_7 ((nI_leI (a := 120) (b := j) (by omega) (by omega)).mpr h__)
        refine lv_iload_n hx hb dX3_maskedSeconds_10 rfl (lv_at hl 1 rfl) ?_
        refine lv_aload_n hx hb dX3_maskedSeconds_11 rfl (lv_at hl 0 rfl) ?_
        refine q_get hx hb hts hinX3 hown hG hW hm0 rfl 7 (by decide) (hts (.fieldLink RX3 37 "FoleyMixer$Mix" "masked" "[I") (List.mem_of_getElem? (i := 1) rfl)) rfl rfl dX3_maskedSeconds_12 ?_
        refine lv_iload_n hx hb dX3_maskedSeconds_15 rfl (lv_at hl 2 rfl) ?_
        refine q_R1 (va_runSN (As := [.ref (b + (k + 13)), .int (nI j)]) (rest := [.int (nI (sm (fun t => pop (mmk P t)) j))]) ⟨hx, hb, hml, hown, hts⟩ (c_entry_in l (RD.own hm7 (by decide)) (by decide) (j) (by omega)) ⟨(va_cnB 2 hts gX3_maskedSeconds_X6_entry_n61 rfl rfl rfl (hG.nest 49 rfl) (hts (.initialized RX6) (List.mem_of_getElem? (i := 3) rfl)) (by decide +kernel) ⟨Nat.le_of_ble_eq_true rfl, Nat.le_of_ble_eq_true rfl⟩), (hts (.static yX6_entry) (List.mem_of_getElem? (i := 2) rfl)), trivial⟩ (q_preS hG hW hS) rfl rfl hl.1 rfl (lv_room (Nat.le_of_ble_eq_true rfl)) dX3_maskedSeconds_16 ⟨Nat.le_of_ble_eq_true rfl, Nat.le_of_ble_eq_true rfl⟩) ?_
        refine q_R1 (va_runS (As := [.int (nI ((mmk P) j))]) (rest := [.int (nI (sm (fun t => pop (mmk P t)) j))]) ⟨hx, hb, hml, hown, hts⟩ (c_J6_bitCount l (nI ((mmk P) j))) (va_cwS 1 hts gX3_maskedSeconds_J6_bitCount_0f7a4 rfl rfl rfl (by decide +kernel) ⟨Nat.le_of_ble_eq_true rfl, Nat.le_of_ble_eq_true rfl⟩) (q_preS hG hW hS) rfl rfl hl.1 rfl (lv_room (Nat.le_of_ble_eq_true rfl)) dX3_maskedSeconds_19 ⟨Nat.le_of_ble_eq_true rfl, Nat.le_of_ble_eq_true rfl⟩) ?_
        refine q_top (y := nI (pop (mmk P j))) (by exact bcx_pop _ (mmk_lt hoP j)) ?_
        refine lv_iadd hx hb dX3_maskedSeconds_22 ?_
        refine q_top (y := nI ((sm (fun t => pop (mmk P t)) j) + (pop (mmk P j)))) (nI_add _ _) ?_
        refine lv_istore_n (lv' := [(1, .int (nI ((sm (fun t => pop (mmk P t)) j) + (pop (mmk P j))))), (0, .ref (b + k)), (2, .int (nI j))]) hx hb dX3_maskedSeconds_23 rfl hl (by decide) rfl (fun ls hl => ?_)
        refine lv_iinc (v := nI (j + 1)) (lv' := [(2, .int (nI (j + 1))), (1, .int (nI ((sm (fun t => pop (mmk P t)) j) + (pop (mmk P j))))), (0, .ref (b + k))]) hx hb dX3_maskedSeconds_24 hl (k := 2) rfl (nI_add _ 1) (by decide) rfl (fun ls hl => ?_)
        refine lv_goto (tgt := 4) hx hb dX3_maskedSeconds_27 (by decide) ?_
        exact ih4 (j + 1) (by omega) (by omega) _ _ (by refine congrArg nI ?_; rw [sm]) (by first | rfl | (congr 1; omega)) _ (lv_sub hl [2, 1, 0] rfl)
  exact L4 ((120 - 0) + 1) 0 (by omega) (Nat.lt_succ_self _) _ _ (by first | rfl | (congr 1; omega)) (by first | rfl | (congr 1; omega)) _ (lv_sub hl [2, 1, 0] rfl)

