theorem hd_ok (x : Int32) {y : Int32} (hy : y ≠ 0) : vf_n64 (FP.ddiv (FP.i2d x) (FP.i2d y)) := Jvm.Free.Fl.ddiv_out (Jvm.Free.Fl.i2d_fin x).noNaN (Jvm.Free.Fl.i2d_fin y) (Jvm.Free.Fl.i2d_nz hy)
section HD
variable {p : Program} {l : Launch} {e : Env} {R : Room} {s : State} {m : MethodId} {args : Array Value} {below : List Frame} {meth : Method} {c : Code} {H : Heap} {locs : List Loc} {cells slots : Nat}
variable {cc : ByteArray} {pc : Nat} {ls : Array Slot} {D : va_G} {b : Nat} {w : Wd} {mc ms : Nat} {post : Wd → Prop}
theorem q_wd {x y : UInt64} (hx : p.tables.exec = Jvm.exec) (hb : c.code = cc) (hr : meth.sig.returnType = some .double) (hlocks : meth.locks = false) (hW : WP D b w H) (hS : va_S (Fb b) s.heap H locs) (hdg : decode cc pc = .ok (.dreturn, 1)) (h : x = y) (hp : post w) (hc : cells ≤ mc) (hs : slots ≤ ms) : W p l e R s m args below meth c H locs cells slots (MQ below (QW D b (some (.double y)) post) args s mc ms (Fb b)) (F0 m pc ls [.double x]) := by
  subst h
  refine W.widen hc hs ?_
  exact W.dret hx hb hr (fun t ht _ => q_end hS hW hp ht) hS.2.2 hdg hlocks
end HD
/-- the seconds of all words -/
def lens (P : Pl) : Nat := sm (fun j => P.W j 1) P.w
/-- what heard tells -/
def hrP (P : Pl) : UInt64 := if lens P = 0 then FP.dconst1 else FP.ddiv (FP.i2d (nI (lens P) - nI (ams P))) (FP.i2d (nI (lens P)))
theorem lens_le {P : Pl} (h : okP P) : lens P ≤ P.w * 20 := sm_le (fun j hj => (h.2.2.1 j hj).2.2.1)

set_option maxHeartbeats 300000 in
set_option maxRecDepth 100000 in
/-- heard -/
theorem c_X6_heard (l : Launch) {D : va_G} {dA : Nat → Nat} {b : Nat} {w : Wd} {lo n nc : Nat} {P : Pl} {Hs : Nat → Pl} {SL : Nat → Option Pl} {C : Nat → Nat} (hs : isSys dA b w lo (P, (n, Hs), SL, (nc, C))) : Met l yX6_heard wsX6_heard ({ frames := 5, cells := 0, slots := 0, locals := 115 } : Room) (PC D dA b w [.ref (b + 0)]) (QW D b (some (.double (hrP P))) (fun w' => isSys dA b w' lo (P, (n, Hs), SL, (nc, C)) ∧ ∀ id : Nat, 36 ≤ id → id < lo → w' id = w id)) 0 0 (Fb b) := by
  refine q_of (cc := cX6_heard) (maxL := 3) (ret := (some .double)) (by decide) rfl rfl ?_
  intro p e s m args below meth c ls hx hb hr hml hts hown hlocks hG hW hS hl
  have hown : s.vm.findClass RX6 = some m.cls := hown
  have hinX4 : ∀ w ∈ u_ws RX4 TX4 3, w ∈ wsX6_heard := fun w h => (goodIn_r (big := wsX6_heard) (u_ws RX4 TX4 3) [93, 94, 95] (by decide +kernel) (by decide +kernel) w h).1
  have hinX6 : ∀ w ∈ u_ws RX6 TX6 8, w ∈ wsX6_heard := fun w h => (goodIn_r (big := wsX6_heard) (u_ws RX6 TX6 8) [85, 86, 87, 88, 89, 90, 91, 92] (by decide +kernel) (by decide +kernel) w h).1
  have hl : lv_has ls 3 [(0, .ref (b + 0))] := hl
  obtain ⟨hs0, hp1, hbk, hhs, hsc, hrd, hlo, hex⟩ := id hs
  change isPlay dA b w 2 P at hp1
  change isHS dA b w lo n Hs SL at hhs
  change isScr dA b w 32 nc C at hsc
  have hP := hp1.ok
  have hn6 := HS_le hhs
  have hnc := hsc.2.2.1
  obtain ⟨hPw, hPn, hPW, hPN, hPS⟩ := id hP
  have hll := lens_le hP
  obtain ⟨⟨PT, hp7⟩, hm13, hm21⟩ := id hbk
  refine lv_aload_n hx hb dX6_heard_0 rfl (lv_at hl 0 rfl) ?_
  refine q_get hx hb hts hinX6 hown hG hW hs0 rfl 0 (by decide) (hts (.fieldLink RX6 10 "FoleyMixer" "mix" "LFoleyMixer$Mix;") (List.mem_of_getElem? (i := 1) rfl)) rfl rfl dX6_heard_1 ?_
  refine q_W0 (va_runVN (As := []) (rest := []) ⟨hx, hb, hml, hown, hts⟩ (c_X3_refresh l hm13 hp1 (by omega)) ⟨(va_cnB 0 hts gX6_heard_X3_refresh_n181 rfl rfl rfl (hG.nest 45 rfl) (hts (.initialized RX3) (List.mem_of_getElem? (i := 4) rfl)) (by decide +kernel) ⟨Nat.le_of_ble_eq_true rfl, Nat.le_of_ble_eq_true rfl⟩), (hts (.instanceMethod yX3_refresh) (List.mem_of_getElem? (i := 3) rfl)), (hts (.selects RX3 yX3_refresh yX3_refresh) (List.mem_of_getElem? (i := 5) rfl))⟩ (q_preV hG hW hS (hm13).1 rfl) rfl rfl hl.1 rfl (lv_room (Nat.le_of_ble_eq_true rfl)) dX6_heard_4 ⟨Nat.le_of_ble_eq_true rfl, Nat.le_of_ble_eq_true rfl⟩) hS (fun w_4 H locs hp4 hW hS => ?_)
  obtain ⟨hm13, fr4⟩ := hp4
  replace hs0 : w_4 0 = some (sysO b) := (fr4 _ (by omega)).trans hs0
  replace hp1 : isPlay dA b w_4 2 P := hp1.fr (fun id9 h7 h8 => fr4 id9 (by omega))
  replace hhs : isHS dA b w_4 lo n Hs SL := hhs.fr (fun id9 h7 => (fr4 id9 (by omega)))
  replace hsc : isScr dA b w_4 32 nc C := hsc.fr (fr4 _ (by omega)) (fr4 _ (by omega))
  replace hrd : ∃ R : Rd, isRdr dA b w_4 34 R := rdr_fr hrd (fun id9 h7 h8 => (fr4 id9 (by omega)))
  replace hex : ∃ e : va_E, w_4 (lo - 1) = some e := exw_fr hex (fr4 _ (by omega))
  replace hp7 : isPlay dA b w_4 16 PT := hp7.fr (fun id9 h7 h8 => fr4 id9 (by omega))
  replace hm21 : anyMix dA b w_4 15 16 := hm21.fr (fun id9 h7 h8 => (fr4 id9 (by omega)))
  refine lv_iconst (v := nI 0) hx hb dX6_heard_7 (by decide) ?_
  refine lv_istore_n (lv' := [(1, .int (nI 0)), (0, .ref (b + 0))]) hx hb dX6_heard_8 rfl hl (by decide) rfl (fun ls hl => ?_)
  refine lv_iconst (v := nI 0) hx hb dX6_heard_9 (by decide) ?_
  refine lv_istore_n (lv' := [(2, .int (nI 0)), (1, .int (nI 0)), (0, .ref (b + 0))]) hx hb dX6_heard_10 rfl hl (by decide) rfl (fun ls hl => ?_)
  have L11 : ∀ (n11 : Nat) (u : Nat), u ≤ P.w → P.w - u < n11 → ∀ (x11_1 : Int32) (x11_2 : Int32), x11_1 = nI (sm (fun j => P.W j 1) u) → x11_2 = nI (u) → ∀ (ls : Array Slot), lv_has ls 3 [(0, .ref (b + 0)), (1, .int x11_1), (2, .int x11_2)] → W p l e ({ frames := 5, cells := 0, slots := 0, locals := 115 } : Room) s m args below meth c H locs 0 0 (MQ below (QW D b (some (.double (hrP P))) (fun w' => isSys dA b w' lo (P, (n, Hs), SL, (nc, C)) ∧ ∀ id : Nat, 36 ≤ id → id < lo → w' id = w id)) args s 0 0 (Fb b)) (F0 m 11 ls []) := by
    intro n11
    induction n11 with
    | zero =>
      intro u hj0 hn11 x11_1 x11_2 ex11_1 ex11_2 ls hl
      exact absurd hn11 (Nat.not_lt_zero _)
    | succ n11 ih11 =>
      intro u hj0 hn11 x11_1 x11_2 ex11_1 ex11_2 ls hl
      subst ex11_1 ex11_2
      refine lv_iload_n hx hb dX6_heard_11 rfl (lv_at hl 2 rfl) ?_
      refine lv_aload_n hx hb dX6_heard_12 rfl (lv_at hl 0 rfl) ?_
      refine q_get hx hb hts hinX6 hown hG hW hs0 rfl 2 (by decide) (hts (.fieldLink RX6 23 "FoleyMixer" "now" "LFoleyMixer$Play;") (List.mem_of_getElem? (i := 2) rfl)) rfl rfl dX6_heard_13 ?_
      refine q_getN hx hb hts hinX4 hown hG hW (hp1).1 rfl 0 (by decide) (hG.nest 11 rfl) rfl rfl dX6_heard_16 ?_
      refine q_R1 (va_runVN (As := []) (rest := [.int (nI u)]) ⟨hx, hb, hml, hown, hts⟩ (c_X1_size l (hp1).2.1) ⟨(va_cnB 0 hts gX6_heard_X1_size_n89 rfl rfl rfl (hG.nest 34 rfl) (hts (.initialized RX1) (List.mem_of_getElem? (i := 11) rfl)) (by decide +kernel) ⟨Nat.le_of_ble_eq_true rfl, Nat.le_of_ble_eq_true rfl⟩), (hts (.instanceMethod yX1_size) (List.mem_of_getElem? (i := 50) rfl)), (hts (.selects RX1 yX1_size yX1_size) (List.mem_of_getElem? (i := 51) rfl))⟩ (q_preV hG hW hS (isCues.obj (hp1).2.1) rfl) rfl rfl hl.1 rfl (lv_room (Nat.le_of_ble_eq_true rfl)) dX6_heard_19 ⟨Nat.le_of_ble_eq_true rfl, Nat.le_of_ble_eq_true rfl⟩) ?_
      refine lv_icmp_ge (tgt := 46) hx hb dX6_heard_22 (by decide) (fun c_22 => ?_) (fun c_22 => ?_)
      · skip
        have c_22 : P.w ≤ u := (nI_leI (a := P.w) (b := u) (by omega) (by omega)).mp c_22
        have el_46 : nI (sm (fun j => P.W j 1) u) = nI (lens P) := by rw [show u = P.w by omega]; rfl
        rw [el_46] at hl
        refine lv_iload_n hx hb dX6_heard_46 rfl (lv_at hl 1 rfl) ?_
        refine lv_if_ne (tgt := 52) hx hb dX6_heard_47 (by decide) (fun c_47 => ?_) (fun c_47 => ?_)
        · skip
          have c_47 : ¬ ((lens P) = 0) := fun h__ => c_47 ((nI_eq0 (i := lens P) (by omega)).mpr h__)
          refine lv_iload_n hx hb dX6_heard_52 rfl (lv_at hl 1 rfl) ?_
          refine lv_aload_n hx hb dX6_heard_53 rfl (lv_at hl 0 rfl) ?_
          refine q_get hx hb hts hinX6 hown hG hW hs0 rfl 0 (by decide) (hts (.fieldLink RX6 10 "FoleyMixer" "mix" "LFoleyMixer$Mix;") (List.mem_of_getElem? (i := 1) rfl)) rfl rfl dX6_heard_54 ?_
          refine q_R1 (va_runVN (As := []) (rest := [.int (nI (lens P))]) ⟨hx, hb, hml, hown, hts⟩ (c_X3_maskedSeconds l hm13 hp1) ⟨(va_cnB 0 hts gX6_heard_X3_maskedSeconds_n241 rfl rfl rfl (hG.nest 59 rfl) (hts (.initialized RX3) (List.mem_of_getElem? (i := 4) rfl)) (by decide +kernel) ⟨Nat.le_of_ble_eq_true rfl, Nat.le_of_ble_eq_true rfl⟩), (hts (.instanceMethod yX3_maskedSeconds) (List.mem_of_getElem? (i := 75) rfl)), (hts (.selects RX3 yX3_maskedSeconds yX3_maskedSeconds) (List.mem_of_getElem? (i := 76) rfl))⟩ (q_preV hG hW hS (hm13).1 rfl) rfl rfl hl.1 rfl (lv_room (Nat.le_of_ble_eq_true rfl)) dX6_heard_57 ⟨Nat.le_of_ble_eq_true rfl, Nat.le_of_ble_eq_true rfl⟩) ?_
          refine lv_isub hx hb dX6_heard_60 ?_
          refine lv_i2d hx hb dX6_heard_61 ?_
          refine lv_iload_n hx hb dX6_heard_62 rfl (lv_at hl 1 rfl) ?_
          refine lv_i2d hx hb dX6_heard_63 ?_
          refine lv_ddiv hx hb dX6_heard_64 (by exact hd_ok _ (fun q9 => c_47 ((nI_eq0 (i := lens P) (by omega)).mp q9))) ?_
          exact q_wd hx hb hr hlocks hW hS dX6_heard_65 (by unfold hrP; rw [if_neg c_47]) (by exact ⟨⟨hs0, hp1, ⟨⟨_, hp7⟩, (isMix.any hm13), hm21⟩, hhs, hsc, hrd, hlo, hex⟩, by intro id h8 h9; rw [fr4 id (by omega)]; try rfl⟩) (by decide) (by decide)
        · skip
          have c_47 : (lens P) = 0 := (nI_eq0 (i := lens P) (by omega)).mp c_47
          refine lv_dconst1 hx hb dX6_heard_50 ?_
          exact q_wd hx hb hr hlocks hW hS dX6_heard_51 (by unfold hrP; rw [if_pos c_47]) (by exact ⟨⟨hs0, hp1, ⟨⟨_, hp7⟩, (isMix.any hm13), hm21⟩, hhs, hsc, hrd, hlo, hex⟩, by intro id h8 h9; rw [fr4 id (by omega)]; try rfl⟩) (by decide) (by decide)
      · skip
        have c_22 : ¬ (P.w ≤ u) := fun h__ => c_22 ((nI_leI (a := P.w) (b := u) (by omega) (by omega)).mpr h__)
        refine lv_iload_n hx hb dX6_heard_25 rfl (lv_at hl 1 rfl) ?_
        refine lv_aload_n hx hb dX6_heard_26 rfl (lv_at hl 0 rfl) ?_
        refine q_get hx hb hts hinX6 hown hG hW hs0 rfl 2 (by decide) (hts (.fieldLink RX6 23 "FoleyMixer" "now" "LFoleyMixer$Play;") (List.mem_of_getElem? (i := 2) rfl)) rfl rfl dX6_heard_27 ?_
        refine q_getN hx hb hts hinX4 hown hG hW (hp1).1 rfl 0 (by decide) (hG.nest 11 rfl) rfl rfl dX6_heard_30 ?_
        refine lv_iload_n hx hb dX6_heard_33 rfl (lv_at hl 2 rfl) ?_
        refine lv_iconst (v := nI 1) hx hb dX6_heard_34 (by decide) ?_
        refine q_R1 (va_runVN (As := [.int (nI u), .int (nI 1)]) (rest := [.int (nI (sm (fun j => P.W j 1) u))]) ⟨hx, hb, hml, hown, hts⟩ (c_X1_numberOf l (hp1).2.1 (u) (1) (by omega) (by omega)) ⟨(va_cnB 2 hts gX6_heard_X1_numberOf_n100 rfl rfl rfl (hG.nest 58 rfl) (hts (.initialized RX1) (List.mem_of_getElem? (i := 11) rfl)) (by decide +kernel) ⟨Nat.le_of_ble_eq_true rfl, Nat.le_of_ble_eq_true rfl⟩), (hts (.instanceMethod yX1_numberOf) (List.mem_of_getElem? (i := 20) rfl)), (hts (.selects RX1 yX1_numberOf yX1_numberOf) (List.mem_of_getElem? (i := 21) rfl))⟩ (q_preV hG hW hS (isCues.obj (hp1).2.1) rfl) rfl rfl hl.1 rfl (lv_room (Nat.le_of_ble_eq_true rfl)) dX6_heard_35 ⟨Nat.le_of_ble_eq_true rfl, Nat.le_of_ble_eq_true rfl⟩) ?_
        have q_35 := (hp1).2.1.2.2.2.1 (u) (by omega)
        refine lv_iadd hx hb dX6_heard_38 ?_
        refine q_top (y := nI ((sm (fun j => P.W j 1) u) + (P.W u 1))) (nI_add _ _) ?_
        refine lv_istore_n (lv' := [(1, .int (nI ((sm (fun j => P.W j 1) u) + (P.W u 1)))), (0, .ref (b + 0)), (2, .int (nI u))]) hx hb dX6_heard_39 rfl hl (by decide) rfl (fun ls hl => ?_)
        refine lv_iinc (v := nI (u + 1)) (lv' := [(2, .int (nI (u + 1))), (1, .int (nI ((sm (fun j => P.W j 1) u) + (P.W u 1)))), (0, .ref (b + 0))]) hx hb dX6_heard_40 hl (k := 2) rfl (nI_add _ 1) (by decide) rfl (fun ls hl => ?_)
        refine lv_goto (tgt := 11) hx hb dX6_heard_43 (by decide) ?_
        exact ih11 (u + 1) (by omega) (by omega) _ _ (by refine congrArg nI ?_; rw [sm]) (by first | rfl | (congr 1; omega)) _ (lv_sub hl [2, 1, 0] rfl)
  exact L11 ((P.w - 0) + 1) 0 (by omega) (Nat.lt_succ_self _) _ _ (by first | rfl | (congr 1; omega)) (by first | rfl | (congr 1; omega)) _ (lv_sub hl [2, 1, 0] rfl)

