theorem okS_up0 {S : Nat → Nat} {x : Nat} (h : okS S) (hx : x ≤ 20) : okS (va_up S 0 x) := by
  unfold okS at h ⊢
  unfold va_up
  simp
  omega
theorem setS_setS (P : Pl) (i x y : Nat) : setS (setS P i x) i y = setS P i y := by
  unfold setS
  have e : va_up (va_up P.S i x) i y = va_up P.S i y := by
    funext j; unfold va_up; by_cases h : j = i
    · rw [if_pos h, if_pos h]
    · rw [if_neg h, if_neg h, if_neg h]
  show (P.w, P.W, P.n, P.N, va_up (va_up P.S i x) i y) = _
  rw [e]
theorem setV_setV (V : Nat → Nat → Nat) (i j x y : Nat) : setV (setV V i j x) i j y = setV V i j y := by
  funext a c; unfold setV
  by_cases h : a = i ∧ c = j
  · rw [if_pos h, if_pos h]
  · rw [if_neg h, if_neg h, if_neg h]
/-- the least ducking, with d settings left to try -/
def ldk (P : Pl) : Nat → Int32
  | 0 => -1
  | d + 1 => if und (setS P 0 (20 - d)) = 2 ^ P.w - 1 then nI (20 - d) else ldk P d
theorem ldk_yes {P : Pl} {j : Nat} (hj : j ≤ 20) (h : und (setS P 0 j) = 2 ^ P.w - 1) : ldk P (21 - j) = nI j := by
  rw [show 21 - j = (20 - j) + 1 by omega, ldk, show 20 - (20 - j) = j by omega, if_pos h]
theorem ldk_no {P : Pl} {j : Nat} (hj : j ≤ 20) (h : ¬ und (setS P 0 j) = 2 ^ P.w - 1) : ldk P (21 - j) = ldk P (21 - (j + 1)) := by
  rw [show 21 - j = (20 - j) + 1 by omega, ldk, show 20 - (20 - j) = j by omega, if_neg h, show 21 - (j + 1) = 20 - j by omega]
/-- the play with a noise's start, its loudness, or the noise taken away -/
def shN (P : Pl) (i x : Nat) : Pl := (P.w, P.W, P.n, setV P.N i 0 x, P.S)
def ldN (P : Pl) (i x : Nat) : Pl := (P.w, P.W, P.n, setV P.N i 2 x, P.S)
def delN (P : Pl) (i : Nat) : Pl := (P.w, P.W, P.n - 1, delV P.N i, P.S)
theorem shN_shN (P : Pl) (i x y : Nat) : shN (shN P i x) i y = shN P i y := by
  show (P.w, P.W, P.n, setV (setV P.N i 0 x) i 0 y, P.S) = _
  rw [setV_setV]; rfl
theorem ldN_ldN (P : Pl) (i x y : Nat) : ldN (ldN P i x) i y = ldN P i y := by
  show (P.w, P.W, P.n, setV (setV P.N i 2 x) i 2 y, P.S) = _
  rw [setV_setV]; rfl
/-- masked seconds with the noise moved by s -/
def msh (P : Pl) (i : Nat) (s : Int32) : Int32 := if fitI 0 (nI (P.N i 0) + s) then nI (ams (shN P i (i32n (nI (P.N i 0) + s)))) else -1
/-- the k-th shift that is tried -/
def sft (k : Nat) : Int32 := if k % 2 = 1 then nI ((k + 1) / 2) else -(nI ((k + 1) / 2))
/-- the best of the first k shifts, and its masked seconds -/
def bsh (P : Pl) (i : Nat) : Nat → Int32 × Int32
  | 0 => (0, -1)
  | k + 1 => if msh P i (sft k) ≠ -1 ∧ ((bsh P i k).2 = -1 ∨ msh P i (sft k) < (bsh P i k).2) then (sft k, msh P i (sft k)) else bsh P i k
/-- the loudest that masks no more than wo, from d down -/
def lqt (P : Pl) (i wo : Nat) : Nat → Nat
  | 0 => 0
  | d + 1 => if ams (ldN P i (d + 1)) ≤ wo then d + 1 else lqt P i wo d
theorem ams_le {P : Pl} (h : okP P) : ams P ≤ 1200 := mm_le h 120
theorem pk_m1w {j : Nat} (h : 1 ≤ j) : nI j + Int32.ofInt (-1) = nI (j - 1) := by
  obtain ⟨k, rfl⟩ : ∃ k, j = k + 1 := ⟨j - 1, by omega⟩
  rw [show Int32.ofInt (-1) = -1 from by decide, pk_m1]; rfl

set_option maxHeartbeats 300000 in
set_option maxRecDepth 100000 in
/-- leastDucking -/
theorem c_X6_leastDucking (l : Launch) {D : va_G} {dA : Nat → Nat} {b : Nat} {w : Wd} {lo n nc : Nat} {P : Pl} {Hs : Nat → Pl} {SL : Nat → Option Pl} {C : Nat → Nat} (hs : isSys dA b w lo (P, (n, Hs), SL, (nc, C))) : Met l yX6_leastDucking wsX6_leastDucking ({ frames := 5, cells := 0, slots := 0, locals := 115 } : Room) (PC D dA b w [.ref (b + 0)]) (QW D b (some (.int (ldk P 21))) (fun w' => isSys dA b w' lo (P, (n, Hs), SL, (nc, C)) ∧ ∀ id : Nat, 36 ≤ id → id < lo → w' id = w id)) 0 0 (Fb b) := by
  refine q_of (cc := cX6_leastDucking) (maxL := 2) (ret := (some .int)) (by decide) rfl rfl ?_
  intro p e s m args below meth c ls hx hb hr hml hts hown hlocks hG hW hS hl
  have hown : s.vm.findClass RX6 = some m.cls := hown
  have hinX4 : ∀ w ∈ u_ws RX4 TX4 3, w ∈ wsX6_leastDucking := fun w h => (goodIn_r (big := wsX6_leastDucking) (u_ws RX4 TX4 3) [114, 115, 116] (by decide +kernel) (by decide +kernel) w h).1
  have hinX6 : ∀ w ∈ u_ws RX6 TX6 8, w ∈ wsX6_leastDucking := fun w h => (goodIn_r (big := wsX6_leastDucking) (u_ws RX6 TX6 8) [106, 107, 108, 109, 110, 111, 112, 113] (by decide +kernel) (by decide +kernel) w h).1
  have hl : lv_has ls 2 [(0, .ref (b + 0))] := hl
  obtain ⟨hs0, hp1, hbk, hhs, hsc, hrd, hlo, hex⟩ := id hs
  change isPlay dA b w 2 P at hp1
  change isHS dA b w lo n Hs SL at hhs
  change isScr dA b w 32 nc C at hsc
  have hP := hp1.ok
  have hn6 := HS_le hhs
  have hnc := hsc.2.2.1
  obtain ⟨hPw, hPn, hPW, hPN, hPS⟩ := id hP
  have h2w : 2 ^ P.w ≤ 1024 := Nat.pow_le_pow_right (by decide) hPw
  have h2x : 1 ≤ 2 ^ P.w := Nat.one_le_two_pow
  obtain ⟨⟨PT, hp7⟩, hm13, hm21⟩ := id hbk
  refine lv_aload_n hx hb dX6_leastDucking_0 rfl (lv_at hl 0 rfl) ?_
  refine q_get hx hb hts hinX6 hown hG hW hs0 rfl 3 (by decide) (hts (.fieldLink RX6 26 "FoleyMixer" "trial" "LFoleyMixer$Play;") (List.mem_of_getElem? (i := 1) rfl)) rfl rfl dX6_leastDucking_1 ?_
  refine lv_aload_n hx hb dX6_leastDucking_4 rfl (lv_at hl 0 rfl) ?_
  refine q_get hx hb hts hinX6 hown hG hW hs0 rfl 2 (by decide) (hts (.fieldLink RX6 23 "FoleyMixer" "now" "LFoleyMixer$Play;") (List.mem_of_getElem? (i := 2) rfl)) rfl rfl dX6_leastDucking_5 ?_
  refine q_W0 (va_runVN (As := [.ref (b + 2)]) (rest := []) ⟨hx, hb, hml, hown, hts⟩ (c_X4_copyFrom l hp7 hp1 (by omega)) ⟨(va_cnB 1 hts gX6_leastDucking_X4_copyFrom_n173 rfl rfl rfl (hG.nest 39 rfl) (hts (.initialized RX4) (List.mem_of_getElem? (i := 7) rfl)) (by decide +kernel) ⟨Nat.le_of_ble_eq_true rfl, Nat.le_of_ble_eq_true rfl⟩), (hts (.instanceMethod yX4_copyFrom) (List.mem_of_getElem? (i := 6) rfl)), (hts (.selects RX4 yX4_copyFrom yX4_copyFrom) (List.mem_of_getElem? (i := 8) rfl))⟩ (q_preV hG hW hS (hp7).1 rfl) rfl rfl hl.1 rfl (lv_room (Nat.le_of_ble_eq_true rfl)) dX6_leastDucking_8 ⟨Nat.le_of_ble_eq_true rfl, Nat.le_of_ble_eq_true rfl⟩) hS (fun w_8 H locs hp8 hW hS => ?_)
  obtain ⟨hp7, fr8⟩ := hp8
  replace hs0 : w_8 0 = some (sysO b) := (fr8 _ (by omega)).trans hs0
  replace hp1 : isPlay dA b w_8 2 P := hp1.fr (fun id9 h7 h8 => fr8 id9 (by omega))
  replace hhs : isHS dA b w_8 lo n Hs SL := hhs.fr (fun id9 h7 => (fr8 id9 (by omega)))
  replace hsc : isScr dA b w_8 32 nc C := hsc.fr (fr8 _ (by omega)) (fr8 _ (by omega))
  replace hrd : ∃ R : Rd, isRdr dA b w_8 34 R := rdr_fr hrd (fun id9 h7 h8 => (fr8 id9 (by omega)))
  replace hex : ∃ e : va_E, w_8 (lo - 1) = some e := exw_fr hex (fr8 _ (by omega))
  replace hm13 : anyMix dA b w_8 1 2 := hm13.fr (fun id9 h7 h8 => (fr8 id9 (by omega)))
  replace hm21 : anyMix dA b w_8 15 16 := hm21.fr (fun id9 h7 h8 => (fr8 id9 (by omega)))
  refine va_gets hx hb (hG.2.2.1 3 _ rfl).1 hS hown (hts (.fieldLink RX6 253 "FoleyMixer" "LEAST_SETTINGS" "[I") (List.mem_of_getElem? (i := 3) rfl)) (fun _ h => h) dX6_leastDucking_11 ?_
  refine lv_iconst (v := nI 0) hx hb dX6_leastDucking_14 (by decide) ?_
  refine q_R1 (va_runS (As := [.ref (dA 13), .int (nI 0)]) (rest := []) ⟨hx, hb, hml, hown, hts⟩ (c_entry_in l (RD.st 3 rfl) (by decide) (0) (by decide)) (va_cwS 2 hts gX6_leastDucking_X6_entry rfl rfl rfl (by decide +kernel) ⟨Nat.le_of_ble_eq_true rfl, Nat.le_of_ble_eq_true rfl⟩) (q_preS hG hW hS) rfl rfl hl.1 rfl (lv_room (Nat.le_of_ble_eq_true rfl)) dX6_leastDucking_15 ⟨Nat.le_of_ble_eq_true rfl, Nat.le_of_ble_eq_true rfl⟩) ?_
  refine lv_istore_n (lv' := [(1, .int (nI 0)), (0, .ref (b + 0))]) hx hb dX6_leastDucking_18 rfl hl (by decide) rfl (fun ls hl => ?_)
  have L19 : ∀ (n19 : Nat) (j : Nat) (PT : Pl), j ≤ 21 → (∀ x, setS PT 0 x = setS P 0 x) → ldk P (21 - j) = ldk P 21 → 21 - j < n19 → ∀ (x19_1 : Int32), x19_1 = nI (j) → ∀ (wa : Wd) (H : Heap) (locs : List Loc), wa 0 = some (sysO b) → isPlay dA b wa 2 P → isPlay dA b wa 16 PT → anyMix dA b wa 15 16 → (∀ id : Nat, (id < 15 ∨ 29 ≤ id) → wa id = w_8 id) → WP D b wa H → va_S (Fb b) s.heap H locs → ∀ (ls : Array Slot), lv_has ls 2 [(0, .ref (b + 0)), (1, .int x19_1)] → W p l e ({ frames := 5, cells := 0, slots := 0, locals := 115 } : Room) s m args below meth c H locs 0 0 (MQ below (QW D b (some (.int (ldk P 21))) (fun w' => isSys dA b w' lo (P, (n, Hs), SL, (nc, C)) ∧ ∀ id : Nat, 36 ≤ id → id < lo → w' id = w id)) args s 0 0 (Fb b)) (F0 m 19 ls []) := by
    intro n19
    induction n19 with
    | zero =>
      intro j PT hj0 hPT hres hn19 x19_1 ex19_1 wa H locs hs0 hp1 hp7 hm21 fr hW hS ls hl
      exact absurd hn19 (Nat.not_lt_zero _)
    | succ n19 ih19 =>
      intro j PT hj0 hPT hres hn19 x19_1 ex19_1 wa H locs hs0 hp1 hp7 hm21 fr hW hS ls hl
      subst ex19_1
      replace hm13 := hm13.fr (fun id9 h7 h8 => fr id9 (by omega))
      replace hhs := hhs.fr (fun id9 h7 => fr id9 (by omega))
      replace hsc := hsc.fr (fr _ (by omega)) (fr _ (by omega))
      replace hrd := rdr_fr hrd (fun id9 h7 h8 => fr id9 (by omega))
      replace hex := exw_fr hex (fr _ (by omega))
      have hPT7 := hp7.ok
      obtain ⟨hT0, hT1, hT2, hT3, hT4⟩ := id hPT7
      refine lv_iload_n hx hb dX6_leastDucking_19 rfl (lv_at hl 1 rfl) ?_
      refine va_gets hx hb (hG.2.2.1 4 _ rfl).1 hS hown (hts (.fieldLink RX6 256 "FoleyMixer" "MOST_SETTINGS" "[I") (List.mem_of_getElem? (i := 4) rfl)) (fun _ h => h) dX6_leastDucking_20 ?_
      refine lv_iconst (v := nI 0) hx hb dX6_leastDucking_23 (by decide) ?_
      refine q_R1 (va_runS (As := [.ref (dA 14), .int (nI 0)]) (rest := [.int (nI j)]) ⟨hx, hb, hml, hown, hts⟩ (c_entry_in l (RD.st 4 rfl) (by decide) (0) (by decide)) (va_cwS 2 hts gX6_leastDucking_X6_entry rfl rfl rfl (by decide +kernel) ⟨Nat.le_of_ble_eq_true rfl, Nat.le_of_ble_eq_true rfl⟩) (q_preS hG hW hS) rfl rfl hl.1 rfl (lv_room (Nat.le_of_ble_eq_true rfl)) dX6_leastDucking_24 ⟨Nat.le_of_ble_eq_true rfl, Nat.le_of_ble_eq_true rfl⟩) ?_
      refine lv_icmp_gt (tgt := 74) hx hb dX6_leastDucking_27 (by decide) (fun c_27 => ?_) (fun c_27 => ?_)
      · skip
        have c_27 : 20 < j := (nI_ltI (a := 20) (b := j) (by omega) (by omega)).mp c_27
        refine lv_iconst (v := (-1)) hx hb dX6_leastDucking_74 (by decide) ?_
        exact q_wi hx hb hr hlocks hW hS dX6_leastDucking_75 (by rw [← hres, show 21 - j = 0 by omega]; rfl) (by exact ⟨⟨hs0, hp1, ⟨⟨_, hp7⟩, hm13, hm21⟩, hhs, hsc, hrd, hlo, hex⟩, by intro id h8 h9; rw [fr id (by omega)]; rw [fr8 id (by omega)]; try rfl⟩) (by decide) (by decide)
      · skip
        have c_27 : ¬ (20 < j) := fun h__ => c_27 ((nI_ltI (a := 20) (b := j) (by omega) (by omega)).mpr h__)
        refine lv_aload_n hx hb dX6_leastDucking_30 rfl (lv_at hl 0 rfl) ?_
        refine q_get hx hb hts hinX6 hown hG hW hs0 rfl 3 (by decide) (hts (.fieldLink RX6 26 "FoleyMixer" "trial" "LFoleyMixer$Play;") (List.mem_of_getElem? (i := 1) rfl)) rfl rfl dX6_leastDucking_31 ?_
        refine lv_iconst (v := nI 0) hx hb dX6_leastDucking_34 (by decide) ?_
        refine lv_iload_n hx hb dX6_leastDucking_35 rfl (lv_at hl 1 rfl) ?_
        refine q_W0 (va_runVN (As := [.int (nI 0), .int (nI j)]) (rest := []) ⟨hx, hb, hml, hown, hts⟩ (c_X4_change l hp7 (0) (j) (by omega) (by exact okS_up0 hT4 (by omega))) ⟨(va_cnB 2 hts gX6_leastDucking_X4_change_n123 rfl rfl rfl (hG.nest 43 rfl) (hts (.initialized RX4) (List.mem_of_getElem? (i := 7) rfl)) (by decide +kernel) ⟨Nat.le_of_ble_eq_true rfl, Nat.le_of_ble_eq_true rfl⟩), (hts (.instanceMethod yX4_change) (List.mem_of_getElem? (i := 25) rfl)), (hts (.selects RX4 yX4_change yX4_change) (List.mem_of_getElem? (i := 26) rfl))⟩ (q_preV hG hW hS (hp7).1 rfl) rfl rfl hl.1 rfl (lv_room (Nat.le_of_ble_eq_true rfl)) dX6_leastDucking_36 ⟨Nat.le_of_ble_eq_true rfl, Nat.le_of_ble_eq_true rfl⟩) hS (fun w_36 H locs hp36 hW hS => ?_)
        obtain ⟨hp7, fr36⟩ := hp36
        replace hs0 : w_36 0 = some (sysO b) := (fr36 _ (by omega)).trans hs0
        replace hp1 : isPlay dA b w_36 2 P := hp1.fr (fun id9 h7 h8 => fr36 id9 (by omega))
        replace hhs : isHS dA b w_36 lo n Hs SL := hhs.fr (fun id9 h7 => (fr36 id9 (by omega)))
        replace hsc : isScr dA b w_36 32 nc C := hsc.fr (fr36 _ (by omega)) (fr36 _ (by omega))
        replace hrd : ∃ R : Rd, isRdr dA b w_36 34 R := rdr_fr hrd (fun id9 h7 h8 => (fr36 id9 (by omega)))
        replace hex : ∃ e : va_E, w_36 (lo - 1) = some e := exw_fr hex (fr36 _ (by omega))
        replace hm13 : anyMix dA b w_36 1 2 := hm13.fr (fun id9 h7 h8 => (fr36 id9 (by omega)))
        replace hm21 : anyMix dA b w_36 15 16 := hm21.fr (fun id9 h7 h8 => (fr36 id9 (by omega)))
        rw [hPT j] at hp7
        refine lv_aload_n hx hb dX6_leastDucking_39 rfl (lv_at hl 0 rfl) ?_
        refine q_get hx hb hts hinX6 hown hG hW hs0 rfl 1 (by decide) (hts (.fieldLink RX6 16 "FoleyMixer" "trialMix" "LFoleyMixer$Mix;") (List.mem_of_getElem? (i := 5) rfl)) rfl rfl dX6_leastDucking_40 ?_
        refine q_W0 (va_runVN (As := []) (rest := []) ⟨hx, hb, hml, hown, hts⟩ (c_X3_refresh l hm21 hp7 (by omega)) ⟨(va_cnB 0 hts gX6_leastDucking_X3_refresh_n181 rfl rfl rfl (hG.nest 45 rfl) (hts (.initialized RX3) (List.mem_of_getElem? (i := 31) rfl)) (by decide +kernel) ⟨Nat.le_of_ble_eq_true rfl, Nat.le_of_ble_eq_true rfl⟩), (hts (.instanceMethod yX3_refresh) (List.mem_of_getElem? (i := 30) rfl)), (hts (.selects RX3 yX3_refresh yX3_refresh) (List.mem_of_getElem? (i := 32) rfl))⟩ (q_preV hG hW hS (hm21).1 rfl) rfl rfl hl.1 rfl (lv_room (Nat.le_of_ble_eq_true rfl)) dX6_leastDucking_43 ⟨Nat.le_of_ble_eq_true rfl, Nat.le_of_ble_eq_true rfl⟩) hS (fun w_43 H locs hp43 hW hS => ?_)
        obtain ⟨hm21, fr43⟩ := hp43
        replace hs0 : w_43 0 = some (sysO b) := (fr43 _ (by omega)).trans hs0
        replace hp1 : isPlay dA b w_43 2 P := hp1.fr (fun id9 h7 h8 => fr43 id9 (by omega))
        replace hhs : isHS dA b w_43 lo n Hs SL := hhs.fr (fun id9 h7 => (fr43 id9 (by omega)))
        replace hsc : isScr dA b w_43 32 nc C := hsc.fr (fr43 _ (by omega)) (fr43 _ (by omega))
        replace hrd : ∃ R : Rd, isRdr dA b w_43 34 R := rdr_fr hrd (fun id9 h7 h8 => (fr43 id9 (by omega)))
        replace hex : ∃ e : va_E, w_43 (lo - 1) = some e := exw_fr hex (fr43 _ (by omega))
        replace hm13 : anyMix dA b w_43 1 2 := hm13.fr (fun id9 h7 h8 => (fr43 id9 (by omega)))
        replace hp7 : isPlay dA b w_43 16 (setS P 0 j) := hp7.fr (fun id9 h7 h8 => fr43 id9 (by omega))
        refine lv_aload_n hx hb dX6_leastDucking_46 rfl (lv_at hl 0 rfl) ?_
        refine q_get hx hb hts hinX6 hown hG hW hs0 rfl 1 (by decide) (hts (.fieldLink RX6 16 "FoleyMixer" "trialMix" "LFoleyMixer$Mix;") (List.mem_of_getElem? (i := 5) rfl)) rfl rfl dX6_leastDucking_47 ?_
        refine q_R1 (va_runVN (As := []) (rest := []) ⟨hx, hb, hml, hown, hts⟩ (c_X3_understood l hm21 hp7) ⟨(va_cnB 0 hts gX6_leastDucking_X3_understood_n238 rfl rfl rfl (hG.nest 56 rfl) (hts (.initialized RX3) (List.mem_of_getElem? (i := 31) rfl)) (by decide +kernel) ⟨Nat.le_of_ble_eq_true rfl, Nat.le_of_ble_eq_true rfl⟩), (hts (.instanceMethod yX3_understood) (List.mem_of_getElem? (i := 92) rfl)), (hts (.selects RX3 yX3_understood yX3_understood) (List.mem_of_getElem? (i := 93) rfl))⟩ (q_preV hG hW hS (hm21).1 rfl) rfl rfl hl.1 rfl (lv_room (Nat.le_of_ble_eq_true rfl)) dX6_leastDucking_50 ⟨Nat.le_of_ble_eq_true rfl, Nat.le_of_ble_eq_true rfl⟩) ?_
        refine lv_aload_n hx hb dX6_leastDucking_53 rfl (lv_at hl 0 rfl) ?_
        refine q_get hx hb hts hinX6 hown hG hW hs0 rfl 2 (by decide) (hts (.fieldLink RX6 23 "FoleyMixer" "now" "LFoleyMixer$Play;") (List.mem_of_getElem? (i := 2) rfl)) rfl rfl dX6_leastDucking_54 ?_
        refine q_getN hx hb hts hinX4 hown hG hW (hp1).1 rfl 0 (by decide) (hG.nest 11 rfl) rfl rfl dX6_leastDucking_57 ?_
        refine q_R1 (va_runVN (As := []) (rest := [.int (nI (und (setS P 0 j)))]) ⟨hx, hb, hml, hown, hts⟩ (c_X1_all l (hp1).2.1) ⟨(va_cnB 0 hts gX6_leastDucking_X1_all_n259 rfl rfl rfl (hG.nest 57 rfl) (hts (.initialized RX1) (List.mem_of_getElem? (i := 14) rfl)) (by decide +kernel) ⟨Nat.le_of_ble_eq_true rfl, Nat.le_of_ble_eq_true rfl⟩), (hts (.instanceMethod yX1_all) (List.mem_of_getElem? (i := 103) rfl)), (hts (.selects RX1 yX1_all yX1_all) (List.mem_of_getElem? (i := 104) rfl))⟩ (q_preV hG hW hS (isCues.obj (hp1).2.1) rfl) rfl rfl hl.1 rfl (lv_room (Nat.le_of_ble_eq_true rfl)) dX6_leastDucking_60 ⟨Nat.le_of_ble_eq_true rfl, Nat.le_of_ble_eq_true rfl⟩) ?_
        have hu := und_lt (P := setS P 0 j) hPw
        refine lv_icmp_ne (tgt := 68) hx hb dX6_leastDucking_63 (by decide) (fun c_63 => ?_) (fun c_63 => ?_)
        · skip
          have c_63 : ¬ (und (setS P 0 j) = 2 ^ P.w - 1) := fun h__ => c_63 ((nI_eq (a := und (setS P 0 j)) (b := 2 ^ P.w - 1) (by omega) (by omega)).mpr h__)
          refine lv_iinc (v := nI (j + 1)) (lv' := [(1, .int (nI (j + 1))), (0, .ref (b + 0))]) hx hb dX6_leastDucking_68 hl (k := 1) rfl (nI_add _ 1) (by decide) rfl (fun ls hl => ?_)
          refine lv_goto (tgt := 19) hx hb dX6_leastDucking_71 (by decide) ?_
          exact ih19 (j + 1) (setS P 0 j) (by omega) (by first | exact fun _ => rfl | exact fun x => setS_setS P 0 j x) (by first | rfl | exact (ldk_no (by omega) c_63).symm.trans hres) (by omega) _ (by first | rfl | (congr 1; omega)) _ _ _ (by exact hs0) (by exact hp1) (by exact hp7) (by first | exact hm21 | exact isMix.any hm21) (by intro id h9; rw [fr43 id (by omega)]; rw [fr36 id (by omega)]; exact fr id h9) hW hS _ (lv_sub hl [1, 0] rfl)
        · skip
          have c_63 : und (setS P 0 j) = 2 ^ P.w - 1 := (nI_eq (a := und (setS P 0 j)) (b := 2 ^ P.w - 1) (by omega) (by omega)).mp c_63
          refine lv_iload_n hx hb dX6_leastDucking_66 rfl (lv_at hl 1 rfl) ?_
          exact q_wi hx hb hr hlocks hW hS dX6_leastDucking_67 (by rw [← hres, ldk_yes (by omega) c_63]) (by exact ⟨⟨hs0, hp1, ⟨⟨_, hp7⟩, hm13, (isMix.any hm21)⟩, hhs, hsc, hrd, hlo, hex⟩, by intro id h8 h9; rw [fr43 id (by omega)]; rw [fr36 id (by omega)]; rw [fr id (by omega)]; rw [fr8 id (by omega)]; try rfl⟩) (by decide) (by decide)
  exact L19 ((21 - 0) + 1) 0 P (by omega) (by first | exact fun _ => rfl | exact fun x => setS_setS P 0 j x) (by first | rfl | exact (ldk_no (by omega) c_63).symm.trans hres) (Nat.lt_succ_self _) _ (by first | rfl | (congr 1; omega)) _ _ _ (by exact hs0) (by exact hp1) (by exact hp7) (by first | exact hm21 | exact isMix.any hm21) (by intro id h9; rfl) hW hS _ (lv_sub hl [1, 0] rfl)

set_option maxHeartbeats 300000 in
set_option maxRecDepth 100000 in
/-- ifSet -/
theorem c_X6_ifSet (l : Launch) (hl0 : l.stackTraces = false) {D : va_G} {dA : Nat → Nat} {b : Nat} {w : Wd} {lo n nc : Nat} {P : Pl} {Hs : Nat → Pl} {SL : Nat → Option Pl} {C : Nat → Nat} (hs : isSys dA b w lo (P, (n, Hs), SL, (nc, C))) (x y z : Int32) : vx_Met l yX6_ifSet wsX6_ifSet ({ frames := 7, cells := 2, slots := 12, locals := 115 } : Room) (PC D dA b w [.ref (b + 0), .int (x), .int (y), .int (z)]) (QW D b (some (.int (nI (if i32n z = 0 then und (setS P (i32n x) (i32n y)) else ams (setS P (i32n x) (i32n y)))))) (fun w' => ((0 ≤ x ∧ x < nI 5) ∧ fitS (i32n x) y ∧ (0 ≤ z ∧ z ≤ nI 1)) ∧ isSys dA b w' lo (P, (n, Hs), SL, (nc, C)) ∧ ∀ id : Nat, 36 ≤ id → id < lo → w' id = w id)) (XW D b (fun E w' => ((E = IOE ∧ ¬ (0 ≤ x ∧ x < nI 5)) ∨ ((0 ≤ x ∧ x < nI 5) ∧ E = IAE ∧ ¬ (fitS (i32n x) y ∧ (0 ≤ z ∧ z ≤ nI 1)))) ∧ w' = w)) 2 12 (Fb b) := by
  refine q_ofX (cc := cX6_ifSet) (maxL := 4) (ret := (some .int)) (by decide) rfl rfl ?_
  intro p e s m args below meth c ls hx hb hr hml hts hown hlocks hxt hG hW hS hl
  have hown : s.vm.findClass RX6 = some m.cls := hown
  have hinX6 : ∀ w ∈ u_ws RX6 TX6 8, w ∈ wsX6_ifSet := fun w h => (goodIn_r (big := wsX6_ifSet) (u_ws RX6 TX6 8) [123, 124, 125, 126, 127, 128, 129, 130] (by decide +kernel) (by decide +kernel) w h).1
  have hl : lv_has ls 4 [(0, .ref (b + 0)), (1, .int (x)), (2, .int (y)), (3, .int (z))] := hl
  obtain ⟨hs0, hp1, hbk, hhs, hsc, hrd, hlo, hex⟩ := id hs
  change isPlay dA b w 2 P at hp1
  change isHS dA b w lo n Hs SL at hhs
  change isScr dA b w 32 nc C at hsc
  have hP := hp1.ok
  have hn6 := HS_le hhs
  have hnc := hsc.2.2.1
  obtain ⟨hPw, hPn, hPW, hPN, hPS⟩ := id hP
  refine lv_iload_n hx hb dX6_ifSet_0 rfl (lv_at hl 1 rfl) ?_
  refine lv_iload_n hx hb dX6_ifSet_1 rfl (lv_at hl 2 rfl) ?_
  refine q_X0 (vx_runS (As := [.int (x), .int (y)]) (rest := []) ⟨hx, hb, hml, hown, hts⟩ (c_X6_checkSetting l hl0 (x) (y)) (va_cwS 2 hts gX6_ifSet_X6_checkSetting rfl rfl rfl (by decide +kernel) ⟨Nat.le_of_ble_eq_true rfl, Nat.le_of_ble_eq_true rfl⟩) (q_preS hG hW hS) rfl rfl hl.1 rfl (lv_room (Nat.le_of_ble_eq_true rfl)) dX6_ifSet_2 ⟨Nat.le_of_ble_eq_true rfl, Nat.le_of_ble_eq_true rfl⟩) hS (fun E9 w9 H9 L9 q9 ce9 hpx hW9 hS9 hce hcv hcl => q_prop hxt hlocks hW9 hS9 hce hcv hcl (by exact ⟨hpx.1.imp id (fun h9 => ⟨h9.1, h9.2.1, fun q8 => h9.2.2 q8.1⟩), hpx.2⟩) (Nat.le_of_ble_eq_true rfl) (Nat.le_of_ble_eq_true rfl)) (fun w_2 H locs hp2 hW hS => ?_)
  obtain ⟨ho2, hw9⟩ := hp2
  replace hw9 := hw9.symm
  subst hw9
  obtain ⟨ex9, bx9⟩ := has_n (n := 5) (by decide) ho2.1.1 ho2.1.2
  have ey9 := fitS_n bx9 ho2.2
  have oz9 := okS_set hPS bx9 ho2.2
  have el_5 : x = nI (i32n x) := by exact ex9
  rw [el_5] at hl
  have el_5 : y = nI (i32n y) := by exact ey9
  rw [el_5] at hl
  refine lv_iload_n hx hb dX6_ifSet_5 rfl (lv_at hl 3 rfl) ?_
  refine lv_iconst (v := nI 1) hx hb dX6_ifSet_6 (by decide) ?_
  refine q_X0 (vx_runS (As := [.int (z), .int (nI 1)]) (rest := []) ⟨hx, hb, hml, hown, hts⟩ (c_X6_checkWhat l hl0 (z) 1) (va_cwS 2 hts gX6_ifSet_X6_checkWhat rfl rfl rfl (by decide +kernel) ⟨Nat.le_of_ble_eq_true rfl, Nat.le_of_ble_eq_true rfl⟩) (q_preS hG hW hS) rfl rfl hl.1 rfl (lv_room (Nat.le_of_ble_eq_true rfl)) dX6_ifSet_7 ⟨Nat.le_of_ble_eq_true rfl, Nat.le_of_ble_eq_true rfl⟩) hS (fun E9 w9 H9 L9 q9 ce9 hpx hW9 hS9 hce hcv hcl => q_prop hxt hlocks hW9 hS9 hce hcv hcl (by exact ⟨Or.inr ⟨ho2.1, hpx.1.1, fun q9 => hpx.1.2 q9.2⟩, hpx.2⟩) (Nat.le_of_ble_eq_true rfl) (Nat.le_of_ble_eq_true rfl)) (fun w_7 H locs hp7 hW hS => ?_)
  obtain ⟨ho7, hw9⟩ := hp7
  replace hw9 := hw9.symm
  subst hw9
  obtain ⟨exz9, bxz9⟩ := le_n (k := 1) (by decide) ho7.1 ho7.2
  have el_10 : z = nI (i32n z) := by exact exz9
  rw [el_10] at hl
  obtain ⟨⟨PT, hp7⟩, hm13, hm21⟩ := id hbk
  refine lv_aload_n hx hb dX6_ifSet_10 rfl (lv_at hl 0 rfl) ?_
  refine q_get hx hb hts hinX6 hown hG hW hs0 rfl 3 (by decide) (hts (.fieldLink RX6 26 "FoleyMixer" "trial" "LFoleyMixer$Play;") (List.mem_of_getElem? (i := 1) rfl)) rfl rfl dX6_ifSet_11 ?_
  refine lv_aload_n hx hb dX6_ifSet_14 rfl (lv_at hl 0 rfl) ?_
  refine q_get hx hb hts hinX6 hown hG hW hs0 rfl 2 (by decide) (hts (.fieldLink RX6 23 "FoleyMixer" "now" "LFoleyMixer$Play;") (List.mem_of_getElem? (i := 2) rfl)) rfl rfl dX6_ifSet_15 ?_
  refine q_W0 (va_runVN (As := [.ref (b + 2)]) (rest := []) ⟨hx, hb, hml, hown, hts⟩ (c_X4_copyFrom l hp7 hp1 (by omega)) ⟨(va_cnB 1 hts gX6_ifSet_X4_copyFrom_n173 rfl rfl rfl (hG.nest 39 rfl) (hts (.initialized RX4) (List.mem_of_getElem? (i := 21) rfl)) (by decide +kernel) ⟨Nat.le_of_ble_eq_true rfl, Nat.le_of_ble_eq_true rfl⟩), (hts (.instanceMethod yX4_copyFrom) (List.mem_of_getElem? (i := 20) rfl)), (hts (.selects RX4 yX4_copyFrom yX4_copyFrom) (List.mem_of_getElem? (i := 22) rfl))⟩ (q_preV hG hW hS (hp7).1 rfl) rfl rfl hl.1 rfl (lv_room (Nat.le_of_ble_eq_true rfl)) dX6_ifSet_18 ⟨Nat.le_of_ble_eq_true rfl, Nat.le_of_ble_eq_true rfl⟩) hS (fun w_18 H locs hp18 hW hS => ?_)
  obtain ⟨hp7, fr18⟩ := hp18
  replace hs0 : w_18 0 = some (sysO b) := (fr18 _ (by omega)).trans hs0
  replace hp1 : isPlay dA b w_18 2 P := hp1.fr (fun id9 h7 h8 => fr18 id9 (by omega))
  replace hhs : isHS dA b w_18 lo n Hs SL := hhs.fr (fun id9 h7 => (fr18 id9 (by omega)))
  replace hsc : isScr dA b w_18 32 nc C := hsc.fr (fr18 _ (by omega)) (fr18 _ (by omega))
  replace hrd : ∃ R : Rd, isRdr dA b w_18 34 R := rdr_fr hrd (fun id9 h7 h8 => (fr18 id9 (by omega)))
  replace hex : ∃ e : va_E, w_18 (lo - 1) = some e := exw_fr hex (fr18 _ (by omega))
  replace hm13 : anyMix dA b w_18 1 2 := hm13.fr (fun id9 h7 h8 => (fr18 id9 (by omega)))
  replace hm21 : anyMix dA b w_18 15 16 := hm21.fr (fun id9 h7 h8 => (fr18 id9 (by omega)))
  refine lv_aload_n hx hb dX6_ifSet_21 rfl (lv_at hl 0 rfl) ?_
  refine q_get hx hb hts hinX6 hown hG hW hs0 rfl 3 (by decide) (hts (.fieldLink RX6 26 "FoleyMixer" "trial" "LFoleyMixer$Play;") (List.mem_of_getElem? (i := 1) rfl)) rfl rfl dX6_ifSet_22 ?_
  refine lv_iload_n hx hb dX6_ifSet_25 rfl (lv_at hl 1 rfl) ?_
  refine lv_iload_n hx hb dX6_ifSet_26 rfl (lv_at hl 2 rfl) ?_
  refine q_W0 (va_runVN (As := [.int (nI (i32n x)), .int (nI (i32n y))]) (rest := []) ⟨hx, hb, hml, hown, hts⟩ (c_X4_change l hp7 (i32n x) (i32n y) (by omega) (by exact oz9)) ⟨(va_cnB 2 hts gX6_ifSet_X4_change_n123 rfl rfl rfl (hG.nest 43 rfl) (hts (.initialized RX4) (List.mem_of_getElem? (i := 21) rfl)) (by decide +kernel) ⟨Nat.le_of_ble_eq_true rfl, Nat.le_of_ble_eq_true rfl⟩), (hts (.instanceMethod yX4_change) (List.mem_of_getElem? (i := 35) rfl)), (hts (.selects RX4 yX4_change yX4_change) (List.mem_of_getElem? (i := 36) rfl))⟩ (q_preV hG hW hS (hp7).1 rfl) rfl rfl hl.1 rfl (lv_room (Nat.le_of_ble_eq_true rfl)) dX6_ifSet_27 ⟨Nat.le_of_ble_eq_true rfl, Nat.le_of_ble_eq_true rfl⟩) hS (fun w_27 H locs hp27 hW hS => ?_)
  obtain ⟨hp7, fr27⟩ := hp27
  replace hs0 : w_27 0 = some (sysO b) := (fr27 _ (by omega)).trans hs0
  replace hp1 : isPlay dA b w_27 2 P := hp1.fr (fun id9 h7 h8 => fr27 id9 (by omega))
  replace hhs : isHS dA b w_27 lo n Hs SL := hhs.fr (fun id9 h7 => (fr27 id9 (by omega)))
  replace hsc : isScr dA b w_27 32 nc C := hsc.fr (fr27 _ (by omega)) (fr27 _ (by omega))
  replace hrd : ∃ R : Rd, isRdr dA b w_27 34 R := rdr_fr hrd (fun id9 h7 h8 => (fr27 id9 (by omega)))
  replace hex : ∃ e : va_E, w_27 (lo - 1) = some e := exw_fr hex (fr27 _ (by omega))
  replace hm13 : anyMix dA b w_27 1 2 := hm13.fr (fun id9 h7 h8 => (fr27 id9 (by omega)))
  replace hm21 : anyMix dA b w_27 15 16 := hm21.fr (fun id9 h7 h8 => (fr27 id9 (by omega)))
  refine lv_aload_n hx hb dX6_ifSet_30 rfl (lv_at hl 0 rfl) ?_
  refine q_get hx hb hts hinX6 hown hG hW hs0 rfl 1 (by decide) (hts (.fieldLink RX6 16 "FoleyMixer" "trialMix" "LFoleyMixer$Mix;") (List.mem_of_getElem? (i := 3) rfl)) rfl rfl dX6_ifSet_31 ?_
  refine q_W0 (va_runVN (As := []) (rest := []) ⟨hx, hb, hml, hown, hts⟩ (c_X3_refresh l hm21 hp7 (by omega)) ⟨(va_cnB 0 hts gX6_ifSet_X3_refresh_n181 rfl rfl rfl (hG.nest 45 rfl) (hts (.initialized RX3) (List.mem_of_getElem? (i := 41) rfl)) (by decide +kernel) ⟨Nat.le_of_ble_eq_true rfl, Nat.le_of_ble_eq_true rfl⟩), (hts (.instanceMethod yX3_refresh) (List.mem_of_getElem? (i := 40) rfl)), (hts (.selects RX3 yX3_refresh yX3_refresh) (List.mem_of_getElem? (i := 42) rfl))⟩ (q_preV hG hW hS (hm21).1 rfl) rfl rfl hl.1 rfl (lv_room (Nat.le_of_ble_eq_true rfl)) dX6_ifSet_34 ⟨Nat.le_of_ble_eq_true rfl, Nat.le_of_ble_eq_true rfl⟩) hS (fun w_34 H locs hp34 hW hS => ?_)
  obtain ⟨hm21, fr34⟩ := hp34
  replace hs0 : w_34 0 = some (sysO b) := (fr34 _ (by omega)).trans hs0
  replace hp1 : isPlay dA b w_34 2 P := hp1.fr (fun id9 h7 h8 => fr34 id9 (by omega))
  replace hhs : isHS dA b w_34 lo n Hs SL := hhs.fr (fun id9 h7 => (fr34 id9 (by omega)))
  replace hsc : isScr dA b w_34 32 nc C := hsc.fr (fr34 _ (by omega)) (fr34 _ (by omega))
  replace hrd : ∃ R : Rd, isRdr dA b w_34 34 R := rdr_fr hrd (fun id9 h7 h8 => (fr34 id9 (by omega)))
  replace hex : ∃ e : va_E, w_34 (lo - 1) = some e := exw_fr hex (fr34 _ (by omega))
  replace hm13 : anyMix dA b w_34 1 2 := hm13.fr (fun id9 h7 h8 => (fr34 id9 (by omega)))
  replace hp7 : isPlay dA b w_34 16 (setS P (i32n x) (i32n y)) := hp7.fr (fun id9 h7 h8 => fr34 id9 (by omega))
  refine lv_iload_n hx hb dX6_ifSet_37 rfl (lv_at hl 3 rfl) ?_
  refine lv_if_ne (tgt := 51) hx hb dX6_ifSet_38 (by decide) (fun c_38 => ?_) (fun c_38 => ?_)
  · skip
    have c_38 : ¬ ((i32n z) = 0) := fun h__ => c_38 ((nI_eq0 (i := i32n z) (by omega)).mpr h__)
    refine lv_aload_n hx hb dX6_ifSet_51 rfl (lv_at hl 0 rfl) ?_
    refine q_get hx hb hts hinX6 hown hG hW hs0 rfl 1 (by decide) (hts (.fieldLink RX6 16 "FoleyMixer" "trialMix" "LFoleyMixer$Mix;") (List.mem_of_getElem? (i := 3) rfl)) rfl rfl dX6_ifSet_52 ?_
    refine q_R1 (va_runVN (As := []) (rest := []) ⟨hx, hb, hml, hown, hts⟩ (c_X3_maskedSeconds l hm21 hp7) ⟨(va_cnB 0 hts gX6_ifSet_X3_maskedSeconds_n241 rfl rfl rfl (hG.nest 59 rfl) (hts (.initialized RX3) (List.mem_of_getElem? (i := 41) rfl)) (by decide +kernel) ⟨Nat.le_of_ble_eq_true rfl, Nat.le_of_ble_eq_true rfl⟩), (hts (.instanceMethod yX3_maskedSeconds) (List.mem_of_getElem? (i := 113) rfl)), (hts (.selects RX3 yX3_maskedSeconds yX3_maskedSeconds) (List.mem_of_getElem? (i := 114) rfl))⟩ (q_preV hG hW hS (hm21).1 rfl) rfl rfl hl.1 rfl (lv_room (Nat.le_of_ble_eq_true rfl)) dX6_ifSet_55 ⟨Nat.le_of_ble_eq_true rfl, Nat.le_of_ble_eq_true rfl⟩) ?_
    exact vx_ret (q_wi hx hb hr hlocks hW hS dX6_ifSet_58 (by first | (rw [if_pos (by omega)]; done) | (rw [if_neg (by omega)]; done)) (by exact ⟨⟨ho2.1, ho2.2, ho7⟩, ⟨hs0, hp1, ⟨⟨_, hp7⟩, hm13, (isMix.any hm21)⟩, hhs, hsc, hrd, hlo, hex⟩, by intro id h8 h9; rw [fr34 id (by omega)]; rw [fr27 id (by omega)]; rw [fr18 id (by omega)]; try rfl⟩) (by decide) (by decide))
  · skip
    have c_38 : (i32n z) = 0 := (nI_eq0 (i := i32n z) (by omega)).mp c_38
    refine lv_aload_n hx hb dX6_ifSet_41 rfl (lv_at hl 0 rfl) ?_
    refine q_get hx hb hts hinX6 hown hG hW hs0 rfl 1 (by decide) (hts (.fieldLink RX6 16 "FoleyMixer" "trialMix" "LFoleyMixer$Mix;") (List.mem_of_getElem? (i := 3) rfl)) rfl rfl dX6_ifSet_42 ?_
    refine q_R1 (va_runVN (As := []) (rest := []) ⟨hx, hb, hml, hown, hts⟩ (c_X3_understood l hm21 hp7) ⟨(va_cnB 0 hts gX6_ifSet_X3_understood_n238 rfl rfl rfl (hG.nest 56 rfl) (hts (.initialized RX3) (List.mem_of_getElem? (i := 41) rfl)) (by decide +kernel) ⟨Nat.le_of_ble_eq_true rfl, Nat.le_of_ble_eq_true rfl⟩), (hts (.instanceMethod yX3_understood) (List.mem_of_getElem? (i := 102) rfl)), (hts (.selects RX3 yX3_understood yX3_understood) (List.mem_of_getElem? (i := 103) rfl))⟩ (q_preV hG hW hS (hm21).1 rfl) rfl rfl hl.1 rfl (lv_room (Nat.le_of_ble_eq_true rfl)) dX6_ifSet_45 ⟨Nat.le_of_ble_eq_true rfl, Nat.le_of_ble_eq_true rfl⟩) ?_
    refine lv_goto (tgt := 58) hx hb dX6_ifSet_48 (by decide) ?_
    exact vx_ret (q_wi hx hb hr hlocks hW hS dX6_ifSet_58 (by first | (rw [if_pos (by omega)]; done) | (rw [if_neg (by omega)]; done)) (by exact ⟨⟨ho2.1, ho2.2, ho7⟩, ⟨hs0, hp1, ⟨⟨_, hp7⟩, hm13, (isMix.any hm21)⟩, hhs, hsc, hrd, hlo, hex⟩, by intro id h8 h9; rw [fr34 id (by omega)]; rw [fr27 id (by omega)]; rw [fr18 id (by omega)]; try rfl⟩) (by decide) (by decide))

set_option maxHeartbeats 300000 in
set_option maxRecDepth 100000 in
/-- maskedIfShifted -/
theorem c_X6_maskedIfShifted (l : Launch) {D : va_G} {dA : Nat → Nat} {b : Nat} {w : Wd} {P PT : Pl} (hs0 : w 0 = some (sysO b)) (hp1 : isPlay dA b w 2 P) (hp7 : isPlay dA b w 16 PT) (hm21 : anyMix dA b w 15 16) (i : Nat) (hi : i < P.n) (hPT : ∀ x, shN PT i x = shN P i x) (s9 : Int32) : Met l yX6_maskedIfShifted wsX6_maskedIfShifted ({ frames := 5, cells := 0, slots := 0, locals := 115 } : Room) (PC D dA b w [.ref (b + 0), .int (nI i), .int (s9)]) (QW D b (some (.int (msh P i s9))) (fun w' => (∃ PT' : Pl, isPlay dA b w' 16 PT' ∧ ∀ x, shN PT' i x = shN P i x) ∧ anyMix dA b w' 15 16 ∧ ∀ id : Nat, (id < 15 ∨ 29 ≤ id) → w' id = w id)) 0 0 (Fb b) := by
  refine q_of (cc := cX6_maskedIfShifted) (maxL := 4) (ret := (some .int)) (by decide) rfl rfl ?_
  intro p e s m args below meth c ls hx hb hr hml hts hown hlocks hG hW hS hl
  have hown : s.vm.findClass RX6 = some m.cls := hown
  have hinX4 : ∀ w ∈ u_ws RX4 TX4 3, w ∈ wsX6_maskedIfShifted := fun w h => (goodIn_r (big := wsX6_maskedIfShifted) (u_ws RX4 TX4 3) [103, 104, 105] (by decide +kernel) (by decide +kernel) w h).1
  have hinX6 : ∀ w ∈ u_ws RX6 TX6 8, w ∈ wsX6_maskedIfShifted := fun w h => (goodIn_r (big := wsX6_maskedIfShifted) (u_ws RX6 TX6 8) [95, 96, 97, 98, 99, 100, 101, 102] (by decide +kernel) (by decide +kernel) w h).1
  have hl : lv_has ls 4 [(0, .ref (b + 0)), (1, .int (nI i)), (2, .int (s9))] := hl
  have hP := hp1.ok
  obtain ⟨hPw, hPn, hPW, hPN, hPS⟩ := id hP
  have hTn : PT.n = P.n := by show (shN PT i 0).n = (shN P i 0).n; rw [hPT]
  refine lv_aload_n hx hb dX6_maskedIfShifted_0 rfl (lv_at hl 0 rfl) ?_
  refine q_get hx hb hts hinX6 hown hG hW hs0 rfl 2 (by decide) (hts (.fieldLink RX6 23 "FoleyMixer" "now" "LFoleyMixer$Play;") (List.mem_of_getElem? (i := 1) rfl)) rfl rfl dX6_maskedIfShifted_1 ?_
  refine q_getN hx hb hts hinX4 hown hG hW (hp1).1 rfl 1 (by decide) (hG.nest 13 rfl) rfl rfl dX6_maskedIfShifted_4 ?_
  refine lv_iload_n hx hb dX6_maskedIfShifted_7 rfl (lv_at hl 1 rfl) ?_
  refine lv_iconst (v := nI 0) hx hb dX6_maskedIfShifted_8 (by decide) ?_
  refine q_R1 (va_runVN (As := [.int (nI i), .int (nI 0)]) (rest := []) ⟨hx, hb, hml, hown, hts⟩ (c_X1_numberOf l (hp1).2.2.1 (i) (0) (by omega) (by omega)) ⟨(va_cnB 2 hts gX6_maskedIfShifted_X1_numberOf_n100 rfl rfl rfl (hG.nest 58 rfl) (hts (.initialized RX1) (List.mem_of_getElem? (i := 5) rfl)) (by decide +kernel) ⟨Nat.le_of_ble_eq_true rfl, Nat.le_of_ble_eq_true rfl⟩), (hts (.instanceMethod yX1_numberOf) (List.mem_of_getElem? (i := 4) rfl)), (hts (.selects RX1 yX1_numberOf yX1_numberOf) (List.mem_of_getElem? (i := 6) rfl))⟩ (q_preV hG hW hS (isCues.obj (hp1).2.2.1) rfl) rfl rfl hl.1 rfl (lv_room (Nat.le_of_ble_eq_true rfl)) dX6_maskedIfShifted_9 ⟨Nat.le_of_ble_eq_true rfl, Nat.le_of_ble_eq_true rfl⟩) ?_
  have q_9 := (hp1).2.2.1.2.2.2.1 (i) (by omega)
  refine lv_iload_n hx hb dX6_maskedIfShifted_12 rfl (lv_at hl 2 rfl) ?_
  refine lv_iadd hx hb dX6_maskedIfShifted_13 ?_
  refine lv_istore_n (lv' := [(3, .int ((nI (P.N i 0)) + s9)), (0, .ref (b + 0)), (1, .int (nI i)), (2, .int (s9))]) hx hb dX6_maskedIfShifted_14 rfl hl (by decide) rfl (fun ls hl => ?_)
  refine lv_iconst (v := nI 0) hx hb dX6_maskedIfShifted_15 (by decide) ?_
  refine lv_iload_n hx hb dX6_maskedIfShifted_16 rfl (lv_at hl 0 rfl) ?_
  refine q_R1 (va_runS (As := [.int (nI 0), .int ((nI (P.N i 0)) + s9)]) (rest := []) ⟨hx, hb, hml, hown, hts⟩ (c_X6_fitsCue l (0) (by omega) ((nI (P.N i 0)) + s9)) (va_cwS 2 hts gX6_maskedIfShifted_X6_fitsCue rfl rfl rfl (by decide +kernel) ⟨Nat.le_of_ble_eq_true rfl, Nat.le_of_ble_eq_true rfl⟩) (q_preS hG hW hS) rfl rfl hl.1 rfl (lv_room (Nat.le_of_ble_eq_true rfl)) dX6_maskedIfShifted_17 ⟨Nat.le_of_ble_eq_true rfl, Nat.le_of_ble_eq_true rfl⟩) ?_
  refine lv_if_ne (tgt := 25) hx hb dX6_maskedIfShifted_20 (by decide) (fun c_20 => ?_) (fun c_20 => ?_)
  · skip
    have c_20 : fitI 0 ((nI (P.N i 0)) + s9) := Decidable.byContradiction (fun h__ => c_20 (pI_eq0.mpr h__))
    have ey9 := (fitI_i32n (by omega) c_20).1
    have hb9 := (fitI_i32n (by omega) c_20).2
    have hb8 : cHi 0 = 99 := rfl
    have el_25 : (nI (P.N i 0)) + s9 = nI (i32n (nI (P.N i 0) + s9)) := by exact ey9
    rw [el_25] at hl
    refine lv_aload_n hx hb dX6_maskedIfShifted_25 rfl (lv_at hl 1 rfl) ?_
    refine q_get hx hb hts hinX6 hown hG hW hs0 rfl 3 (by decide) (hts (.fieldLink RX6 26 "FoleyMixer" "trial" "LFoleyMixer$Play;") (List.mem_of_getElem? (i := 2) rfl)) rfl rfl dX6_maskedIfShifted_26 ?_
    refine q_getN hx hb hts hinX4 hown hG hW (hp7).1 rfl 1 (by decide) (hG.nest 13 rfl) rfl rfl dX6_maskedIfShifted_29 ?_
    refine lv_iload_n hx hb dX6_maskedIfShifted_32 rfl (lv_at hl 2 rfl) ?_
    refine lv_iconst (v := nI 0) hx hb dX6_maskedIfShifted_33 (by decide) ?_
    refine lv_iload_n hx hb dX6_maskedIfShifted_34 rfl (lv_at hl 0 rfl) ?_
    obtain ⟨ht0, ht1, ht3, htS, ht5⟩ := id hp7
    refine q_W0 (va_runVN (As := [.int (nI i), .int (nI 0), .int (nI (i32n (nI (P.N i 0) + s9)))]) (rest := []) ⟨hx, hb, hml, hown, hts⟩ (c_change_V l ht3 (i) (0) (i32n (nI (P.N i 0) + s9)) (by omega) (by omega) (by omega)) ⟨(va_cnB 3 hts gX6_maskedIfShifted_X1_change_n110 rfl rfl rfl (hG.nest 67 rfl) (hts (.initialized RX1) (List.mem_of_getElem? (i := 5) rfl)) (by decide +kernel) ⟨Nat.le_of_ble_eq_true rfl, Nat.le_of_ble_eq_true rfl⟩), (hts (.instanceMethod yX1_change) (List.mem_of_getElem? (i := 18) rfl)), (hts (.selects RX1 yX1_change yX1_change) (List.mem_of_getElem? (i := 19) rfl))⟩ (q_preV hG hW hS (isCues.obj ht3) rfl) rfl rfl hl.1 rfl (lv_room (Nat.le_of_ble_eq_true rfl)) dX6_maskedIfShifted_35 ⟨Nat.le_of_ble_eq_true rfl, Nat.le_of_ble_eq_true rfl⟩) hS (fun w_35 H locs hp35 hW hS => ?_)
    obtain ⟨ht3, fr35⟩ := hp35
    replace hs0 : w_35 0 = some (sysO b) := (fr35 _ (by omega)).trans hs0
    replace hp1 : isPlay dA b w_35 2 P := hp1.fr (fun id9 h7 h8 => fr35 id9 (by omega))
    replace hm21 : anyMix dA b w_35 15 16 := hm21.fr (fun id9 h7 h8 => (fr35 id9 (by omega)))
    replace ht0 : w_35 16 = some (.inr (4, [.ref (b + (16 + 1)), .ref (b + (16 + 3)), .ref (b + (16 + 5))])) := (fr35 _ (by omega)).trans ht0
    replace ht1 : isCues dA b w_35 (16 + 1) 10 PT.w PT.W := ht1.fr (fr35 _ (by omega)) (fr35 _ (by omega))
    replace ht5 : w_35 (16 + 5) = some (eN dA 5 PT.S) := (fr35 _ (by omega)).trans ht5
    replace hp7 : isPlay dA b w_35 16 ((PT.w, PT.W, PT.n, setV PT.N i 0 (i32n (nI (P.N i 0) + s9)), PT.S)) := ⟨ht0, ht1, ht3, htS, ht5⟩
    change isPlay dA b _ 16 (shN PT i (i32n (nI (P.N i 0) + s9))) at hp7
    rw [hPT] at hp7
    refine lv_aload_n hx hb dX6_maskedIfShifted_38 rfl (lv_at hl 1 rfl) ?_
    refine q_get hx hb hts hinX6 hown hG hW hs0 rfl 1 (by decide) (hts (.fieldLink RX6 16 "FoleyMixer" "trialMix" "LFoleyMixer$Mix;") (List.mem_of_getElem? (i := 3) rfl)) rfl rfl dX6_maskedIfShifted_39 ?_
    refine q_W0 (va_runVN (As := []) (rest := []) ⟨hx, hb, hml, hown, hts⟩ (c_X3_refresh l hm21 hp7 (by omega)) ⟨(va_cnB 0 hts gX6_maskedIfShifted_X3_refresh_n181 rfl rfl rfl (hG.nest 45 rfl) (hts (.initialized RX3) (List.mem_of_getElem? (i := 24) rfl)) (by decide +kernel) ⟨Nat.le_of_ble_eq_true rfl, Nat.le_of_ble_eq_true rfl⟩), (hts (.instanceMethod yX3_refresh) (List.mem_of_getElem? (i := 23) rfl)), (hts (.selects RX3 yX3_refresh yX3_refresh) (List.mem_of_getElem? (i := 25) rfl))⟩ (q_preV hG hW hS (hm21).1 rfl) rfl rfl hl.1 rfl (lv_room (Nat.le_of_ble_eq_true rfl)) dX6_maskedIfShifted_42 ⟨Nat.le_of_ble_eq_true rfl, Nat.le_of_ble_eq_true rfl⟩) hS (fun w_42 H locs hp42 hW hS => ?_)
    obtain ⟨hm21, fr42⟩ := hp42
    replace hs0 : w_42 0 = some (sysO b) := (fr42 _ (by omega)).trans hs0
    replace hp1 : isPlay dA b w_42 2 P := hp1.fr (fun id9 h7 h8 => fr42 id9 (by omega))
    replace hp7 : isPlay dA b w_42 16 (shN P i (i32n (nI (P.N i 0) + s9))) := hp7.fr (fun id9 h7 h8 => fr42 id9 (by omega))
    refine lv_aload_n hx hb dX6_maskedIfShifted_45 rfl (lv_at hl 1 rfl) ?_
    refine q_get hx hb hts hinX6 hown hG hW hs0 rfl 1 (by decide) (hts (.fieldLink RX6 16 "FoleyMixer" "trialMix" "LFoleyMixer$Mix;") (List.mem_of_getElem? (i := 3) rfl)) rfl rfl dX6_maskedIfShifted_46 ?_
    refine q_R1 (va_runVN (As := []) (rest := []) ⟨hx, hb, hml, hown, hts⟩ (c_X3_maskedSeconds l hm21 hp7) ⟨(va_cnB 0 hts gX6_maskedIfShifted_X3_maskedSeconds_n241 rfl rfl rfl (hG.nest 59 rfl) (hts (.initialized RX3) (List.mem_of_getElem? (i := 24) rfl)) (by decide +kernel) ⟨Nat.le_of_ble_eq_true rfl, Nat.le_of_ble_eq_true rfl⟩), (hts (.instanceMethod yX3_maskedSeconds) (List.mem_of_getElem? (i := 85) rfl)), (hts (.selects RX3 yX3_maskedSeconds yX3_maskedSeconds) (List.mem_of_getElem? (i := 86) rfl))⟩ (q_preV hG hW hS (hm21).1 rfl) rfl rfl hl.1 rfl (lv_room (Nat.le_of_ble_eq_true rfl)) dX6_maskedIfShifted_49 ⟨Nat.le_of_ble_eq_true rfl, Nat.le_of_ble_eq_true rfl⟩) ?_
    exact q_wi hx hb hr hlocks hW hS dX6_maskedIfShifted_52 (by unfold msh; rw [if_pos c_20]) (by exact ⟨⟨_, hp7, fun x => shN_shN P i _ x⟩, isMix.any hm21, by intro id h9; rw [fr42 id (by omega)]; rw [fr35 id (by omega)]⟩) (by decide) (by decide)
  · skip
    have c_20 : ¬ (fitI 0 ((nI (P.N i 0)) + s9)) := pI_eq0.mp c_20
    refine lv_iconst (v := (-1)) hx hb dX6_maskedIfShifted_23 (by decide) ?_
    exact q_wi hx hb hr hlocks hW hS dX6_maskedIfShifted_24 (by unfold msh; rw [if_neg c_20]) (by exact ⟨⟨_, hp7, hPT⟩, hm21, fun _ _ => rfl⟩) (by decide) (by decide)

set_option maxHeartbeats 300000 in
set_option maxRecDepth 100000 in
/-- bestShift -/
theorem c_X6_bestShift (l : Launch) (hl0 : l.stackTraces = false) {D : va_G} {dA : Nat → Nat} {b : Nat} {w : Wd} {lo n nc : Nat} {P : Pl} {Hs : Nat → Pl} {SL : Nat → Option Pl} {C : Nat → Nat} (hs : isSys dA b w lo (P, (n, Hs), SL, (nc, C))) (x : Int32) : vx_Met l yX6_bestShift wsX6_bestShift ({ frames := 7, cells := 1, slots := 6, locals := 138 } : Room) (PC D dA b w [.ref (b + 0), .int (x)]) (QW D b (some (.int ((bsh P (i32n x) 21).1 + nI 10))) (fun w' => (0 ≤ x ∧ x < nI P.n) ∧ isSys dA b w' lo (P, (n, Hs), SL, (nc, C)) ∧ ∀ id : Nat, 36 ≤ id → id < lo → w' id = w id)) (XW D b (fun E w' => (E = IOE ∧ ¬ (0 ≤ x ∧ x < nI P.n)) ∧ w' = w)) 1 6 (Fb b) := by
  refine q_ofX (cc := cX6_bestShift) (maxL := 8) (ret := (some .int)) (by decide) rfl rfl ?_
  intro p e s m args below meth c ls hx hb hr hml hts hown hlocks hxt hG hW hS hl
  have hown : s.vm.findClass RX6 = some m.cls := hown
  have hinX4 : ∀ w ∈ u_ws RX4 TX4 3, w ∈ wsX6_bestShift := fun w h => (goodIn_r (big := wsX6_bestShift) (u_ws RX4 TX4 3) [125, 126, 127] (by decide +kernel) (by decide +kernel) w h).1
  have hinX6 : ∀ w ∈ u_ws RX6 TX6 8, w ∈ wsX6_bestShift := fun w h => (goodIn_r (big := wsX6_bestShift) (u_ws RX6 TX6 8) [117, 118, 119, 120, 121, 122, 123, 124] (by decide +kernel) (by decide +kernel) w h).1
  have hl : lv_has ls 8 [(0, .ref (b + 0)), (1, .int (x))] := hl
  obtain ⟨hs0, hp1, hbk, hhs, hsc, hrd, hlo, hex⟩ := id hs
  change isPlay dA b w 2 P at hp1
  change isHS dA b w lo n Hs SL at hhs
  change isScr dA b w 32 nc C at hsc
  have hP := hp1.ok
  have hn6 := HS_le hhs
  have hnc := hsc.2.2.1
  obtain ⟨hPw, hPn, hPW, hPN, hPS⟩ := id hP
  refine lv_aload_n hx hb dX6_bestShift_0 rfl (lv_at hl 0 rfl) ?_
  refine q_get hx hb hts hinX6 hown hG hW hs0 rfl 2 (by decide) (hts (.fieldLink RX6 23 "FoleyMixer" "now" "LFoleyMixer$Play;") (List.mem_of_getElem? (i := 1) rfl)) rfl rfl dX6_bestShift_1 ?_
  refine q_getN hx hb hts hinX4 hown hG hW (hp1).1 rfl 1 (by decide) (hG.nest 13 rfl) rfl rfl dX6_bestShift_4 ?_
  refine lv_iload_n hx hb dX6_bestShift_7 rfl (lv_at hl 1 rfl) ?_
  refine q_X0 (vx_runS (As := [.ref (b + (2 + 3)), .int (x)]) (rest := []) ⟨hx, hb, hml, hown, hts⟩ (c_X6_checkNumber l hl0 (hp1).2.2.1 (x)) (va_cwS 2 hts gX6_bestShift_X6_checkNumber rfl rfl rfl (by decide +kernel) ⟨Nat.le_of_ble_eq_true rfl, Nat.le_of_ble_eq_true rfl⟩) (q_preS hG hW hS) rfl rfl hl.1 rfl (lv_room (Nat.le_of_ble_eq_true rfl)) dX6_bestShift_8 ⟨Nat.le_of_ble_eq_true rfl, Nat.le_of_ble_eq_true rfl⟩) hS (fun E9 w9 H9 L9 q9 ce9 hpx hW9 hS9 hce hcv hcl => q_prop hxt hlocks hW9 hS9 hce hcv hcl (by exact hpx) (Nat.le_of_ble_eq_true rfl) (Nat.le_of_ble_eq_true rfl)) (fun w_8 H locs hp8 hW hS => ?_)
  obtain ⟨ho8, hw9⟩ := hp8
  replace hw9 := hw9.symm
  subst hw9
  obtain ⟨exx9, bxx9⟩ := has_n (by omega) ho8.1 ho8.2
  have el_11 : x = nI (i32n x) := by exact exx9
  rw [el_11] at hl
  obtain ⟨⟨PT, hp7⟩, hm13, hm21⟩ := id hbk
  refine lv_aload_n hx hb dX6_bestShift_11 rfl (lv_at hl 0 rfl) ?_
  refine q_get hx hb hts hinX6 hown hG hW hs0 rfl 3 (by decide) (hts (.fieldLink RX6 26 "FoleyMixer" "trial" "LFoleyMixer$Play;") (List.mem_of_getElem? (i := 2) rfl)) rfl rfl dX6_bestShift_12 ?_
  refine lv_aload_n hx hb dX6_bestShift_15 rfl (lv_at hl 0 rfl) ?_
  refine q_get hx hb hts hinX6 hown hG hW hs0 rfl 2 (by decide) (hts (.fieldLink RX6 23 "FoleyMixer" "now" "LFoleyMixer$Play;") (List.mem_of_getElem? (i := 1) rfl)) rfl rfl dX6_bestShift_16 ?_
  refine q_W0 (va_runVN (As := [.ref (b + 2)]) (rest := []) ⟨hx, hb, hml, hown, hts⟩ (c_X4_copyFrom l hp7 hp1 (by omega)) ⟨(va_cnB 1 hts gX6_bestShift_X4_copyFrom_n173 rfl rfl rfl (hG.nest 39 rfl) (hts (.initialized RX4) (List.mem_of_getElem? (i := 15) rfl)) (by decide +kernel) ⟨Nat.le_of_ble_eq_true rfl, Nat.le_of_ble_eq_true rfl⟩), (hts (.instanceMethod yX4_copyFrom) (List.mem_of_getElem? (i := 14) rfl)), (hts (.selects RX4 yX4_copyFrom yX4_copyFrom) (List.mem_of_getElem? (i := 16) rfl))⟩ (q_preV hG hW hS (hp7).1 rfl) rfl rfl hl.1 rfl (lv_room (Nat.le_of_ble_eq_true rfl)) dX6_bestShift_19 ⟨Nat.le_of_ble_eq_true rfl, Nat.le_of_ble_eq_true rfl⟩) hS (fun w_19 H locs hp19 hW hS => ?_)
  obtain ⟨hp7, fr19⟩ := hp19
  replace hs0 : w_19 0 = some (sysO b) := (fr19 _ (by omega)).trans hs0
  replace hp1 : isPlay dA b w_19 2 P := hp1.fr (fun id9 h7 h8 => fr19 id9 (by omega))
  replace hhs : isHS dA b w_19 lo n Hs SL := hhs.fr (fun id9 h7 => (fr19 id9 (by omega)))
  replace hsc : isScr dA b w_19 32 nc C := hsc.fr (fr19 _ (by omega)) (fr19 _ (by omega))
  replace hrd : ∃ R : Rd, isRdr dA b w_19 34 R := rdr_fr hrd (fun id9 h7 h8 => (fr19 id9 (by omega)))
  replace hex : ∃ e : va_E, w_19 (lo - 1) = some e := exw_fr hex (fr19 _ (by omega))
  replace hm13 : anyMix dA b w_19 1 2 := hm13.fr (fun id9 h7 h8 => (fr19 id9 (by omega)))
  replace hm21 : anyMix dA b w_19 15 16 := hm21.fr (fun id9 h7 h8 => (fr19 id9 (by omega)))
  refine lv_iconst (v := nI 0) hx hb dX6_bestShift_22 (by decide) ?_
  refine lv_istore_n (lv' := [(2, .int (nI 0)), (0, .ref (b + 0)), (1, .int (nI (i32n x)))]) hx hb dX6_bestShift_23 rfl hl (by decide) rfl (fun ls hl => ?_)
  refine lv_iconst (v := (-1)) hx hb dX6_bestShift_24 (by decide) ?_
  refine lv_istore_n (lv' := [(3, .int (-1)), (2, .int (nI 0)), (0, .ref (b + 0)), (1, .int (nI (i32n x)))]) hx hb dX6_bestShift_25 rfl hl (by decide) rfl (fun ls hl => ?_)
  refine lv_iconst (v := nI 0) hx hb dX6_bestShift_26 (by decide) ?_
  refine lv_istore (lv' := [(4, .int (nI 0)), (3, .int (-1)), (2, .int (nI 0)), (0, .ref (b + 0)), (1, .int (nI (i32n x)))]) hx hb dX6_bestShift_27 hl (by decide) rfl (fun ls hl => ?_)
  have L29 : ∀ (n29 : Nat) (j : Nat) (PT : Pl), j ≤ 21 → (∀ x9, shN PT (i32n x) x9 = shN P (i32n x) x9) → 21 - j < n29 → ∀ (x29_2 : Int32) (x29_3 : Int32) (x29_4 : Int32), x29_2 = (bsh P (i32n x) j).1 → x29_3 = (bsh P (i32n x) j).2 → x29_4 = nI (j) → ∀ (wa : Wd) (H : Heap) (locs : List Loc), wa 0 = some (sysO b) → isPlay dA b wa 2 P → isPlay dA b wa 16 PT → anyMix dA b wa 15 16 → (∀ id : Nat, (id < 15 ∨ 29 ≤ id) → wa id = w_19 id) → WP D b wa H → va_S (Fb b) s.heap H locs → ∀ (ls : Array Slot), lv_has ls 8 [(0, .ref (b + 0)), (1, .int (nI (i32n x))), (2, .int x29_2), (3, .int x29_3), (4, .int x29_4)] → W p l e ({ frames := 7, cells := 1, slots := 6, locals := 138 } : Room) s m args below meth c H locs 1 6 (vx_MQ below (QW D b (some (.int ((bsh P (i32n x) 21).1 + nI 10))) (fun w' => (0 ≤ x ∧ x < nI P.n) ∧ isSys dA b w' lo (P, (n, Hs), SL, (nc, C)) ∧ ∀ id : Nat, 36 ≤ id → id < lo → w' id = w id)) (XW D b (fun E w' => (E = IOE ∧ ¬ (0 ≤ x ∧ x < nI P.n)) ∧ w' = w)) args s 1 6 (Fb b)) (F0 m 29 ls []) := by
    intro n29
    induction n29 with
    | zero =>
      intro j PT hj0 hPT hn29 x29_2 x29_3 x29_4 ex29_2 ex29_3 ex29_4 wa H locs hs0 hp1 hp7 hm21 fr hW hS ls hl
      exact absurd hn29 (Nat.not_lt_zero _)
    | succ n29 ih29 =>
      intro j PT hj0 hPT hn29 x29_2 x29_3 x29_4 ex29_2 ex29_3 ex29_4 wa H locs hs0 hp1 hp7 hm21 fr hW hS ls hl
      subst ex29_2 ex29_3 ex29_4
      replace hm13 := hm13.fr (fun id9 h7 h8 => fr id9 (by omega))
      replace hhs := hhs.fr (fun id9 h7 => fr id9 (by omega))
      replace hsc := hsc.fr (fr _ (by omega)) (fr _ (by omega))
      replace hrd := rdr_fr hrd (fun id9 h7 h8 => fr id9 (by omega))
      replace hex := exw_fr hex (fr _ (by omega))
      have hPT7 := hp7.ok
      obtain ⟨hT0, hT1, hT2, hT3, hT4⟩ := id hPT7
      refine lv_iload hx hb dX6_bestShift_29 (lv_at hl 4 rfl) ?_
      refine lv_bipush (v := nI 20) hx hb dX6_bestShift_31 (by decide) ?_
      refine lv_icmp_gt (tgt := 100) hx hb dX6_bestShift_33 (by decide) (fun c_33 => ?_) (fun c_33 => ?_)
      · skip
        have c_33 : 20 < j := (nI_ltI (a := 20) (b := j) (by omega) (by omega)).mp c_33
        refine lv_iload_n hx hb dX6_bestShift_100 rfl (lv_at hl 2 rfl) ?_
        refine lv_bipush (v := nI 10) hx hb dX6_bestShift_101 (by decide) ?_
        refine lv_iadd hx hb dX6_bestShift_103 ?_
        exact vx_ret (q_wi hx hb hr hlocks hW hS dX6_bestShift_104 (by rw [show j = 21 by omega]) (by exact ⟨ho8, ⟨hs0, hp1, ⟨⟨_, hp7⟩, hm13, hm21⟩, hhs, hsc, hrd, hlo, hex⟩, by intro id h8 h9; rw [fr id (by omega)]; rw [fr19 id (by omega)]; try rfl⟩) (by decide) (by decide))
      · skip
        have c_33 : ¬ (20 < j) := fun h__ => c_33 ((nI_ltI (a := 20) (b := j) (by omega) (by omega)).mpr h__)
        refine lv_iload hx hb dX6_bestShift_36 (lv_at hl 4 rfl) ?_
        refine lv_iconst (v := nI 1) hx hb dX6_bestShift_38 (by decide) ?_
        refine lv_iadd hx hb dX6_bestShift_39 ?_
        refine q_top (y := nI (j + 1)) (nI_add _ _) ?_
        refine lv_iconst (v := nI 2) hx hb dX6_bestShift_40 (by decide) ?_
        refine lv_idiv hx hb dX6_bestShift_41 (by decide) ?_
        refine q_top (y := nI ((j + 1) / 2)) (pk_div (by omega) (by omega) (by omega)) ?_
        refine lv_istore (lv' := [(5, .int (nI ((j + 1) / 2))), (0, .ref (b + 0)), (1, .int (nI (i32n x))), (2, .int ((bsh P (i32n x) j).1)), (3, .int ((bsh P (i32n x) j).2)), (4, .int (nI j))]) hx hb dX6_bestShift_42 hl (by decide) rfl (fun ls hl => ?_)
        refine lv_iload hx hb dX6_bestShift_44 (lv_at hl 5 rfl) ?_
        refine lv_iconst (v := nI 2) hx hb dX6_bestShift_46 (by decide) ?_
        refine lv_irem hx hb dX6_bestShift_47 (by decide) ?_
        refine q_top (y := nI (j % 2)) (pk_rem (by omega) (by omega) (by omega)) ?_
        refine lv_iconst (v := nI 1) hx hb dX6_bestShift_48 (by decide) ?_
        refine lv_icmp_ne (tgt := 57) hx hb dX6_bestShift_49 (by decide) (fun c_49 => ?_) (fun c_49 => ?_)
        · skip
          have c_49 : ¬ (j % 2 = 1) := fun h__ => c_49 ((nI_eq (a := j % 2) (b := 1) (by omega) (by omega)).mpr h__)
          refine lv_iload hx hb dX6_bestShift_57 (lv_at hl 0 rfl) ?_
          refine lv_ineg hx hb dX6_bestShift_59 ?_
          refine q_topv (v' := .int (sft j)) (by unfold sft; first | (rw [if_pos (by omega)]; done) | (rw [if_neg (by omega)]; done)) ?_
          refine lv_istore (lv' := [(6, .int (sft j)), (5, .int (nI ((j + 1) / 2))), (0, .ref (b + 0)), (1, .int (nI (i32n x))), (2, .int ((bsh P (i32n x) j).1)), (3, .int ((bsh P (i32n x) j).2)), (4, .int (nI j))]) hx hb dX6_bestShift_60 hl (by decide) rfl (fun ls hl => ?_)
          refine lv_aload_n hx hb dX6_bestShift_62 rfl (lv_at hl 2 rfl) ?_
          refine lv_iload_n hx hb dX6_bestShift_63 rfl (lv_at hl 3 rfl) ?_
          refine lv_iload hx hb dX6_bestShift_64 (lv_at hl 0 rfl) ?_
          refine q_W1 (va_runV (As := [.int (nI (i32n x)), .int (sft j)]) (rest := []) ⟨hx, hb, hml, hown, hts⟩ (c_X6_maskedIfShifted l hs0 hp1 hp7 hm21 (i32n x) (by omega) hPT (sft j)) (cwV 2 hts gX6_bestShift_X6_maskedIfShifted rfl rfl rfl (by decide +kernel) ⟨Nat.le_of_ble_eq_true rfl, Nat.le_of_ble_eq_true rfl⟩) (q_preV hG hW hS hs0 rfl) rfl rfl hl.1 rfl (lv_room (Nat.le_of_ble_eq_true rfl)) dX6_bestShift_66 ⟨Nat.le_of_ble_eq_true rfl, Nat.le_of_ble_eq_true rfl⟩) hS (fun w_66 H locs hp66 hW hS => ?_)
          obtain ⟨⟨PU, hpu7, hPU⟩, hm21, fr66⟩ := hp66
          have hp7 := hpu7
          replace hs0 : w_66 0 = some (sysO b) := (fr66 _ (by omega)).trans hs0
          replace hp1 : isPlay dA b w_66 2 P := hp1.fr (fun id9 h7 h8 => fr66 id9 (by omega))
          replace hhs : isHS dA b w_66 lo n Hs SL := hhs.fr (fun id9 h7 => (fr66 id9 (by omega)))
          replace hsc : isScr dA b w_66 32 nc C := hsc.fr (fr66 _ (by omega)) (fr66 _ (by omega))
          replace hrd : ∃ R : Rd, isRdr dA b w_66 34 R := rdr_fr hrd (fun id9 h7 h8 => (fr66 id9 (by omega)))
          replace hex : ∃ e : va_E, w_66 (lo - 1) = some e := exw_fr hex (fr66 _ (by omega))
          replace hm13 : anyMix dA b w_66 1 2 := hm13.fr (fun id9 h7 h8 => (fr66 id9 (by omega)))
          refine lv_istore (lv' := [(7, .int (msh P (i32n x) (sft j))), (6, .int (sft j)), (5, .int (nI ((j + 1) / 2))), (0, .ref (b + 0)), (1, .int (nI (i32n x))), (2, .int ((bsh P (i32n x) j).1)), (3, .int ((bsh P (i32n x) j).2)), (4, .int (nI j))]) hx hb dX6_bestShift_69 hl (by decide) rfl (fun ls hl => ?_)
          refine lv_iload hx hb dX6_bestShift_71 (lv_at hl 0 rfl) ?_
          refine lv_iconst (v := (-1)) hx hb dX6_bestShift_73 (by decide) ?_
          refine lv_icmp_eq (tgt := 94) hx hb dX6_bestShift_74 (by decide) (fun c_74 => ?_) (fun c_74 => ?_)
          · skip
            have hbs : ¬ (msh P (i32n x) (sft j) ≠ -1 ∧ ((bsh P (i32n x) j).2 = -1 ∨ msh P (i32n x) (sft j) < (bsh P (i32n x) j).2)) := by first | exact fun q9 => q9.1 c_74 | exact fun q9 => q9.2.elim (fun q8 => c_79 q8) (fun q8 => absurd q8 (Int32.not_lt.mpr c_85))
            refine lv_iinc (v := nI (j + 1)) (lv' := [(4, .int (nI (j + 1))), (7, .int (msh P (i32n x) (sft j))), (6, .int (sft j)), (5, .int (nI ((j + 1) / 2))), (0, .ref (b + 0)), (1, .int (nI (i32n x))), (2, .int ((bsh P (i32n x) j).1)), (3, .int ((bsh P (i32n x) j).2))]) hx hb dX6_bestShift_94 hl (k := 7) rfl (nI_add _ 1) (by decide) rfl (fun ls hl => ?_)
            refine lv_goto (tgt := 29) hx hb dX6_bestShift_97 (by decide) ?_
            exact ih29 (j + 1) PU (by omega) (by first | exact fun _ => rfl | exact hPU) (by omega) _ _ _ (by rw [bsh]; first | (rw [if_pos hbs]; done) | (rw [if_neg hbs]; done)) (by rw [bsh]; first | (rw [if_pos hbs]; done) | (rw [if_neg hbs]; done)) (by first | rfl | (congr 1; omega)) _ _ _ (by exact hs0) (by exact hp1) (by exact hp7) (by first | exact hm21 | exact isMix.any hm21) (by intro id h9; rw [fr66 id (by omega)]; exact fr id h9) hW hS _ (lv_sub hl [4, 5, 6, 7, 0] rfl)
          · skip
            refine lv_iload_n hx hb dX6_bestShift_77 rfl (lv_at hl 6 rfl) ?_
            refine lv_iconst (v := (-1)) hx hb dX6_bestShift_78 (by decide) ?_
            refine lv_icmp_eq (tgt := 88) hx hb dX6_bestShift_79 (by decide) (fun c_79 => ?_) (fun c_79 => ?_)
            · skip
              have hbs : msh P (i32n x) (sft j) ≠ -1 ∧ ((bsh P (i32n x) j).2 = -1 ∨ msh P (i32n x) (sft j) < (bsh P (i32n x) j).2) := by first | exact ⟨c_74, Or.inl (by first | exact c_79 | exact Decidable.of_not_not c_79)⟩ | exact ⟨c_74, Or.inr (by first | exact c_85 | exact Int32.not_le.mp c_85)⟩
              refine lv_iload hx hb dX6_bestShift_88 (lv_at hl 0 rfl) ?_
              refine lv_istore_n (lv' := [(3, .int (msh P (i32n x) (sft j))), (7, .int (msh P (i32n x) (sft j))), (6, .int (sft j)), (5, .int (nI ((j + 1) / 2))), (0, .ref (b + 0)), (1, .int (nI (i32n x))), (2, .int ((bsh P (i32n x) j).1)), (4, .int (nI j))]) hx hb dX6_bestShift_90 rfl hl (by decide) rfl (fun ls hl => ?_)
              refine lv_iload hx hb dX6_bestShift_91 (lv_at hl 2 rfl) ?_
              refine lv_istore_n (lv' := [(2, .int (sft j)), (3, .int (msh P (i32n x) (sft j))), (7, .int (msh P (i32n x) (sft j))), (6, .int (sft j)), (5, .int (nI ((j + 1) / 2))), (0, .ref (b + 0)), (1, .int (nI (i32n x))), (4, .int (nI j))]) hx hb dX6_bestShift_93 rfl hl (by decide) rfl (fun ls hl => ?_)
              refine lv_iinc (v := nI (j + 1)) (lv' := [(4, .int (nI (j + 1))), (2, .int (sft j)), (3, .int (msh P (i32n x) (sft j))), (7, .int (msh P (i32n x) (sft j))), (6, .int (sft j)), (5, .int (nI ((j + 1) / 2))), (0, .ref (b + 0)), (1, .int (nI (i32n x)))]) hx hb dX6_bestShift_94 hl (k := 7) rfl (nI_add _ 1) (by decide) rfl (fun ls hl => ?_)
              refine lv_goto (tgt := 29) hx hb dX6_bestShift_97 (by decide) ?_
              exact ih29 (j + 1) PU (by omega) (by first | exact fun _ => rfl | exact hPU) (by omega) _ _ _ (by rw [bsh]; first | (rw [if_pos hbs]; done) | (rw [if_neg hbs]; done)) (by rw [bsh]; first | (rw [if_pos hbs]; done) | (rw [if_neg hbs]; done)) (by first | rfl | (congr 1; omega)) _ _ _ (by exact hs0) (by exact hp1) (by exact hp7) (by first | exact hm21 | exact isMix.any hm21) (by intro id h9; rw [fr66 id (by omega)]; exact fr id h9) hW hS _ (lv_sub hl [6, 7, 1, 2, 0] rfl)
            · skip
              refine lv_iload hx hb dX6_bestShift_82 (lv_at hl 0 rfl) ?_
              refine lv_iload_n hx hb dX6_bestShift_84 rfl (lv_at hl 6 rfl) ?_
              refine lv_icmp_ge (tgt := 94) hx hb dX6_bestShift_85 (by decide) (fun c_85 => ?_) (fun c_85 => ?_)
              · skip
                have hbs : ¬ (msh P (i32n x) (sft j) ≠ -1 ∧ ((bsh P (i32n x) j).2 = -1 ∨ msh P (i32n x) (sft j) < (bsh P (i32n x) j).2)) := by first | exact fun q9 => q9.1 c_74 | exact fun q9 => q9.2.elim (fun q8 => c_79 q8) (fun q8 => absurd q8 (Int32.not_lt.mpr c_85))
                refine lv_iinc (v := nI (j + 1)) (lv' := [(4, .int (nI (j + 1))), (7, .int (msh P (i32n x) (sft j))), (6, .int (sft j)), (5, .int (nI ((j + 1) / 2))), (0, .ref (b + 0)), (1, .int (nI (i32n x))), (2, .int ((bsh P (i32n x) j).1)), (3, .int ((bsh P (i32n x) j).2))]) hx hb dX6_bestShift_94 hl (k := 7) rfl (nI_add _ 1) (by decide) rfl (fun ls hl => ?_)
                refine lv_goto (tgt := 29) hx hb dX6_bestShift_97 (by decide) ?_
                exact ih29 (j + 1) PU (by omega) (by first | exact fun _ => rfl | exact hPU) (by omega) _ _ _ (by rw [bsh]; first | (rw [if_pos hbs]; done) | (rw [if_neg hbs]; done)) (by rw [bsh]; first | (rw [if_pos hbs]; done) | (rw [if_neg hbs]; done)) (by first | rfl | (congr 1; omega)) _ _ _ (by exact hs0) (by exact hp1) (by exact hp7) (by first | exact hm21 | exact isMix.any hm21) (by intro id h9; rw [fr66 id (by omega)]; exact fr id h9) hW hS _ (lv_sub hl [4, 5, 6, 7, 0] rfl)
              · skip
                have hbs : msh P (i32n x) (sft j) ≠ -1 ∧ ((bsh P (i32n x) j).2 = -1 ∨ msh P (i32n x) (sft j) < (bsh P (i32n x) j).2) := by first | exact ⟨c_74, Or.inl (by first | exact c_79 | exact Decidable.of_not_not c_79)⟩ | exact ⟨c_74, Or.inr (by first | exact c_85 | exact Int32.not_le.mp c_85)⟩
                refine lv_iload hx hb dX6_bestShift_88 (lv_at hl 0 rfl) ?_
                refine lv_istore_n (lv' := [(3, .int (msh P (i32n x) (sft j))), (7, .int (msh P (i32n x) (sft j))), (6, .int (sft j)), (5, .int (nI ((j + 1) / 2))), (0, .ref (b + 0)), (1, .int (nI (i32n x))), (2, .int ((bsh P (i32n x) j).1)), (4, .int (nI j))]) hx hb dX6_bestShift_90 rfl hl (by decide) rfl (fun ls hl => ?_)
                refine lv_iload hx hb dX6_bestShift_91 (lv_at hl 2 rfl) ?_
                refine lv_istore_n (lv' := [(2, .int (sft j)), (3, .int (msh P (i32n x) (sft j))), (7, .int (msh P (i32n x) (sft j))), (6, .int (sft j)), (5, .int (nI ((j + 1) / 2))), (0, .ref (b + 0)), (1, .int (nI (i32n x))), (4, .int (nI j))]) hx hb dX6_bestShift_93 rfl hl (by decide) rfl (fun ls hl => ?_)
                refine lv_iinc (v := nI (j + 1)) (lv' := [(4, .int (nI (j + 1))), (2, .int (sft j)), (3, .int (msh P (i32n x) (sft j))), (7, .int (msh P (i32n x) (sft j))), (6, .int (sft j)), (5, .int (nI ((j + 1) / 2))), (0, .ref (b + 0)), (1, .int (nI (i32n x)))]) hx hb dX6_bestShift_94 hl (k := 7) rfl (nI_add _ 1) (by decide) rfl (fun ls hl => ?_)
                refine lv_goto (tgt := 29) hx hb dX6_bestShift_97 (by decide) ?_
                exact ih29 (j + 1) PU (by omega) (by first | exact fun _ => rfl | exact hPU) (by omega) _ _ _ (by rw [bsh]; first | (rw [if_pos hbs]; done) | (rw [if_neg hbs]; done)) (by rw [bsh]; first | (rw [if_pos hbs]; done) | (rw [if_neg hbs]; done)) (by first | rfl | (congr 1; omega)) _ _ _ (by exact hs0) (by exact hp1) (by exact hp7) (by first | exact hm21 | exact isMix.any hm21) (by intro id h9; rw [fr66 id (by omega)]; exact fr id h9) hW hS _ (lv_sub hl [6, 7, 1, 2, 0] rfl)
        · skip
          have c_49 : j % 2 = 1 := (nI_eq (a := j % 2) (b := 1) (by omega) (by omega)).mp c_49
          refine lv_iload hx hb dX6_bestShift_52 (lv_at hl 0 rfl) ?_
          refine lv_goto (tgt := 60) hx hb dX6_bestShift_54 (by decide) ?_
          refine q_topv (v' := .int (sft j)) (by unfold sft; first | (rw [if_pos (by omega)]; done) | (rw [if_neg (by omega)]; done)) ?_
          refine lv_istore (lv' := [(6, .int (sft j)), (5, .int (nI ((j + 1) / 2))), (0, .ref (b + 0)), (1, .int (nI (i32n x))), (2, .int ((bsh P (i32n x) j).1)), (3, .int ((bsh P (i32n x) j).2)), (4, .int (nI j))]) hx hb dX6_bestShift_60 hl (by decide) rfl (fun ls hl => ?_)
          refine lv_aload_n hx hb dX6_bestShift_62 rfl (lv_at hl 2 rfl) ?_
          refine lv_iload_n hx hb dX6_bestShift_63 rfl (lv_at hl 3 rfl) ?_
          refine lv_iload hx hb dX6_bestShift_64 (lv_at hl 0 rfl) ?_
          refine q_W1 (va_runV (As := [.int (nI (i32n x)), .int (sft j)]) (rest := []) ⟨hx, hb, hml, hown, hts⟩ (c_X6_maskedIfShifted l hs0 hp1 hp7 hm21 (i32n x) (by omega) hPT (sft j)) (cwV 2 hts gX6_bestShift_X6_maskedIfShifted rfl rfl rfl (by decide +kernel) ⟨Nat.le_of_ble_eq_true rfl, Nat.le_of_ble_eq_true rfl⟩) (q_preV hG hW hS hs0 rfl) rfl rfl hl.1 rfl (lv_room (Nat.le_of_ble_eq_true rfl)) dX6_bestShift_66 ⟨Nat.le_of_ble_eq_true rfl, Nat.le_of_ble_eq_true rfl⟩) hS (fun w_66 H locs hp66 hW hS => ?_)
          obtain ⟨⟨PU, hpu7, hPU⟩, hm21, fr66⟩ := hp66
          have hp7 := hpu7
          replace hs0 : w_66 0 = some (sysO b) := (fr66 _ (by omega)).trans hs0
          replace hp1 : isPlay dA b w_66 2 P := hp1.fr (fun id9 h7 h8 => fr66 id9 (by omega))
          replace hhs : isHS dA b w_66 lo n Hs SL := hhs.fr (fun id9 h7 => (fr66 id9 (by omega)))
          replace hsc : isScr dA b w_66 32 nc C := hsc.fr (fr66 _ (by omega)) (fr66 _ (by omega))
          replace hrd : ∃ R : Rd, isRdr dA b w_66 34 R := rdr_fr hrd (fun id9 h7 h8 => (fr66 id9 (by omega)))
          replace hex : ∃ e : va_E, w_66 (lo - 1) = some e := exw_fr hex (fr66 _ (by omega))
          replace hm13 : anyMix dA b w_66 1 2 := hm13.fr (fun id9 h7 h8 => (fr66 id9 (by omega)))
          refine lv_istore (lv' := [(7, .int (msh P (i32n x) (sft j))), (6, .int (sft j)), (5, .int (nI ((j + 1) / 2))), (0, .ref (b + 0)), (1, .int (nI (i32n x))), (2, .int ((bsh P (i32n x) j).1)), (3, .int ((bsh P (i32n x) j).2)), (4, .int (nI j))]) hx hb dX6_bestShift_69 hl (by decide) rfl (fun ls hl => ?_)
          refine lv_iload hx hb dX6_bestShift_71 (lv_at hl 0 rfl) ?_
          refine lv_iconst (v := (-1)) hx hb dX6_bestShift_73 (by decide) ?_
          refine lv_icmp_eq (tgt := 94) hx hb dX6_bestShift_74 (by decide) (fun c_74 => ?_) (fun c_74 => ?_)
          · skip
            have hbs : ¬ (msh P (i32n x) (sft j) ≠ -1 ∧ ((bsh P (i32n x) j).2 = -1 ∨ msh P (i32n x) (sft j) < (bsh P (i32n x) j).2)) := by first | exact fun q9 => q9.1 c_74 | exact fun q9 => q9.2.elim (fun q8 => c_79 q8) (fun q8 => absurd q8 (Int32.not_lt.mpr c_85))
            refine lv_iinc (v := nI (j + 1)) (lv' := [(4, .int (nI (j + 1))), (7, .int (msh P (i32n x) (sft j))), (6, .int (sft j)), (5, .int (nI ((j + 1) / 2))), (0, .ref (b + 0)), (1, .int (nI (i32n x))), (2, .int ((bsh P (i32n x) j).1)), (3, .int ((bsh P (i32n x) j).2))]) hx hb dX6_bestShift_94 hl (k := 7) rfl (nI_add _ 1) (by decide) rfl (fun ls hl => ?_)
            refine lv_goto (tgt := 29) hx hb dX6_bestShift_97 (by decide) ?_
            exact ih29 (j + 1) PU (by omega) (by first | exact fun _ => rfl | exact hPU) (by omega) _ _ _ (by rw [bsh]; first | (rw [if_pos hbs]; done) | (rw [if_neg hbs]; done)) (by rw [bsh]; first | (rw [if_pos hbs]; done) | (rw [if_neg hbs]; done)) (by first | rfl | (congr 1; omega)) _ _ _ (by exact hs0) (by exact hp1) (by exact hp7) (by first | exact hm21 | exact isMix.any hm21) (by intro id h9; rw [fr66 id (by omega)]; exact fr id h9) hW hS _ (lv_sub hl [4, 5, 6, 7, 0] rfl)
          · skip
            refine lv_iload_n hx hb dX6_bestShift_77 rfl (lv_at hl 6 rfl) ?_
            refine lv_iconst (v := (-1)) hx hb dX6_bestShift_78 (by decide) ?_
            refine lv_icmp_eq (tgt := 88) hx hb dX6_bestShift_79 (by decide) (fun c_79 => ?_) (fun c_79 => ?_)
            · skip
              have hbs : msh P (i32n x) (sft j) ≠ -1 ∧ ((bsh P (i32n x) j).2 = -1 ∨ msh P (i32n x) (sft j) < (bsh P (i32n x) j).2) := by first | exact ⟨c_74, Or.inl (by first | exact c_79 | exact Decidable.of_not_not c_79)⟩ | exact ⟨c_74, Or.inr (by first | exact c_85 | exact Int32.not_le.mp c_85)⟩
              refine lv_iload hx hb dX6_bestShift_88 (lv_at hl 0 rfl) ?_
              refine lv_istore_n (lv' := [(3, .int (msh P (i32n x) (sft j))), (7, .int (msh P (i32n x) (sft j))), (6, .int (sft j)), (5, .int (nI ((j + 1) / 2))), (0, .ref (b + 0)), (1, .int (nI (i32n x))), (2, .int ((bsh P (i32n x) j).1)), (4, .int (nI j))]) hx hb dX6_bestShift_90 rfl hl (by decide) rfl (fun ls hl => ?_)
              refine lv_iload hx hb dX6_bestShift_91 (lv_at hl 2 rfl) ?_
              refine lv_istore_n (lv' := [(2, .int (sft j)), (3, .int (msh P (i32n x) (sft j))), (7, .int (msh P (i32n x) (sft j))), (6, .int (sft j)), (5, .int (nI ((j + 1) / 2))), (0, .ref (b + 0)), (1, .int (nI (i32n x))), (4, .int (nI j))]) hx hb dX6_bestShift_93 rfl hl (by decide) rfl (fun ls hl => ?_)
              refine lv_iinc (v := nI (j + 1)) (lv' := [(4, .int (nI (j + 1))), (2, .int (sft j)), (3, .int (msh P (i32n x) (sft j))), (7, .int (msh P (i32n x) (sft j))), (6, .int (sft j)), (5, .int (nI ((j + 1) / 2))), (0, .ref (b + 0)), (1, .int (nI (i32n x)))]) hx hb dX6_bestShift_94 hl (k := 7) rfl (nI_add _ 1) (by decide) rfl (fun ls hl => ?_)
              refine lv_goto (tgt := 29) hx hb dX6_bestShift_97 (by decide) ?_
              exact ih29 (j + 1) PU (by omega) (by first | exact fun _ => rfl | exact hPU) (by omega) _ _ _ (by rw [bsh]; first | (rw [if_pos hbs]; done) | (rw [if_neg hbs]; done)) (by rw [bsh]; first | (rw [if_pos hbs]; done) | (rw [if_neg hbs]; done)) (by first | rfl | (congr 1; omega)) _ _ _ (by exact hs0) (by exact hp1) (by exact hp7) (by first | exact hm21 | exact isMix.any hm21) (by intro id h9; rw [fr66 id (by omega)]; exact fr id h9) hW hS _ (lv_sub hl [6, 7, 1, 2, 0] rfl)
            · skip
              refine lv_iload hx hb dX6_bestShift_82 (lv_at hl 0 rfl) ?_
              refine lv_iload_n hx hb dX6_bestShift_84 rfl (lv_at hl 6 rfl) ?_
              refine lv_icmp_ge (tgt := 94) hx hb dX6_bestShift_85 (by decide) (fun c_85 => ?_) (fun c_85 => ?_)
              · skip
                have hbs : ¬ (msh P (i32n x) (sft j) ≠ -1 ∧ ((bsh P (i32n x) j).2 = -1 ∨ msh P (i32n x) (sft j) < (bsh P (i32n x) j).2)) := by first | exact fun q9 => q9.1 c_74 | exact fun q9 => q9.2.elim (fun q8 => c_79 q8) (fun q8 => absurd q8 (Int32.not_lt.mpr c_85))
                refine lv_iinc (v := nI (j + 1)) (lv' := [(4, .int (nI (j + 1))), (7, .int (msh P (i32n x) (sft j))), (6, .int (sft j)), (5, .int (nI ((j + 1) / 2))), (0, .ref (b + 0)), (1, .int (nI (i32n x))), (2, .int ((bsh P (i32n x) j).1)), (3, .int ((bsh P (i32n x) j).2))]) hx hb dX6_bestShift_94 hl (k := 7) rfl (nI_add _ 1) (by decide) rfl (fun ls hl => ?_)
                refine lv_goto (tgt := 29) hx hb dX6_bestShift_97 (by decide) ?_
                exact ih29 (j + 1) PU (by omega) (by first | exact fun _ => rfl | exact hPU) (by omega) _ _ _ (by rw [bsh]; first | (rw [if_pos hbs]; done) | (rw [if_neg hbs]; done)) (by rw [bsh]; first | (rw [if_pos hbs]; done) | (rw [if_neg hbs]; done)) (by first | rfl | (congr 1; omega)) _ _ _ (by exact hs0) (by exact hp1) (by exact hp7) (by first | exact hm21 | exact isMix.any hm21) (by intro id h9; rw [fr66 id (by omega)]; exact fr id h9) hW hS _ (lv_sub hl [4, 5, 6, 7, 0] rfl)
              · skip
                have hbs : msh P (i32n x) (sft j) ≠ -1 ∧ ((bsh P (i32n x) j).2 = -1 ∨ msh P (i32n x) (sft j) < (bsh P (i32n x) j).2) := by first | exact ⟨c_74, Or.inl (by first | exact c_79 | exact Decidable.of_not_not c_79)⟩ | exact ⟨c_74, Or.inr (by first | exact c_85 | exact Int32.not_le.mp c_85)⟩
                refine lv_iload hx hb dX6_bestShift_88 (lv_at hl 0 rfl) ?_
                refine lv_istore_n (lv' := [(3, .int (msh P (i32n x) (sft j))), (7, .int (msh P (i32n x) (sft j))), (6, .int (sft j)), (5, .int (nI ((j + 1) / 2))), (0, .ref (b + 0)), (1, .int (nI (i32n x))), (2, .int ((bsh P (i32n x) j).1)), (4, .int (nI j))]) hx hb dX6_bestShift_90 rfl hl (by decide) rfl (fun ls hl => ?_)
                refine lv_iload hx hb dX6_bestShift_91 (lv_at hl 2 rfl) ?_
                refine lv_istore_n (lv' := [(2, .int (sft j)), (3, .int (msh P (i32n x) (sft j))), (7, .int (msh P (i32n x) (sft j))), (6, .int (sft j)), (5, .int (nI ((j + 1) / 2))), (0, .ref (b + 0)), (1, .int (nI (i32n x))), (4, .int (nI j))]) hx hb dX6_bestShift_93 rfl hl (by decide) rfl (fun ls hl => ?_)
                refine lv_iinc (v := nI (j + 1)) (lv' := [(4, .int (nI (j + 1))), (2, .int (sft j)), (3, .int (msh P (i32n x) (sft j))), (7, .int (msh P (i32n x) (sft j))), (6, .int (sft j)), (5, .int (nI ((j + 1) / 2))), (0, .ref (b + 0)), (1, .int (nI (i32n x)))]) hx hb dX6_bestShift_94 hl (k := 7) rfl (nI_add _ 1) (by decide) rfl (fun ls hl => ?_)
                refine lv_goto (tgt := 29) hx hb dX6_bestShift_97 (by decide) ?_
                exact ih29 (j + 1) PU (by omega) (by first | exact fun _ => rfl | exact hPU) (by omega) _ _ _ (by rw [bsh]; first | (rw [if_pos hbs]; done) | (rw [if_neg hbs]; done)) (by rw [bsh]; first | (rw [if_pos hbs]; done) | (rw [if_neg hbs]; done)) (by first | rfl | (congr 1; omega)) _ _ _ (by exact hs0) (by exact hp1) (by exact hp7) (by first | exact hm21 | exact isMix.any hm21) (by intro id h9; rw [fr66 id (by omega)]; exact fr id h9) hW hS _ (lv_sub hl [6, 7, 1, 2, 0] rfl)
  exact L29 ((21 - 0) + 1) 0 P (by omega) (by first | exact fun _ => rfl | exact hPU) (Nat.lt_succ_self _) _ _ _ (by rfl) (by rfl) (by first | rfl | (congr 1; omega)) _ _ _ (by exact hs0) (by exact hp1) (by exact hp7) (by first | exact hm21 | exact isMix.any hm21) (by intro id h9; rfl) hW hS _ (lv_sub hl [3, 4, 2, 1, 0] rfl)

set_option maxHeartbeats 300000 in
set_option maxRecDepth 100000 in
/-- loudestQuiet -/
theorem c_X6_loudestQuiet (l : Launch) (hl0 : l.stackTraces = false) {D : va_G} {dA : Nat → Nat} {b : Nat} {w : Wd} {lo n nc : Nat} {P : Pl} {Hs : Nat → Pl} {SL : Nat → Option Pl} {C : Nat → Nat} (hs : isSys dA b w lo (P, (n, Hs), SL, (nc, C))) (x : Int32) : vx_Met l yX6_loudestQuiet wsX6_loudestQuiet ({ frames := 7, cells := 1, slots := 6, locals := 115 } : Room) (PC D dA b w [.ref (b + 0), .int (x)]) (QW D b (some (.int (nI (lqt P (i32n x) (ams (delN P (i32n x))) 30)))) (fun w' => (0 ≤ x ∧ x < nI P.n) ∧ isSys dA b w' lo (P, (n, Hs), SL, (nc, C)) ∧ ∀ id : Nat, 36 ≤ id → id < lo → w' id = w id)) (XW D b (fun E w' => (E = IOE ∧ ¬ (0 ≤ x ∧ x < nI P.n)) ∧ w' = w)) 1 6 (Fb b) := by
  refine q_ofX (cc := cX6_loudestQuiet) (maxL := 4) (ret := (some .int)) (by decide) rfl rfl ?_
  intro p e s m args below meth c ls hx hb hr hml hts hown hlocks hxt hG hW hS hl
  have hown : s.vm.findClass RX6 = some m.cls := hown
  have hinX4 : ∀ w ∈ u_ws RX4 TX4 3, w ∈ wsX6_loudestQuiet := fun w h => (goodIn_r (big := wsX6_loudestQuiet) (u_ws RX4 TX4 3) [122, 123, 124] (by decide +kernel) (by decide +kernel) w h).1
  have hinX6 : ∀ w ∈ u_ws RX6 TX6 8, w ∈ wsX6_loudestQuiet := fun w h => (goodIn_r (big := wsX6_loudestQuiet) (u_ws RX6 TX6 8) [114, 115, 116, 117, 118, 119, 120, 121] (by decide +kernel) (by decide +kernel) w h).1
  have hl : lv_has ls 4 [(0, .ref (b + 0)), (1, .int (x))] := hl
  obtain ⟨hs0, hp1, hbk, hhs, hsc, hrd, hlo, hex⟩ := id hs
  change isPlay dA b w 2 P at hp1
  change isHS dA b w lo n Hs SL at hhs
  change isScr dA b w 32 nc C at hsc
  have hP := hp1.ok
  have hn6 := HS_le hhs
  have hnc := hsc.2.2.1
  obtain ⟨hPw, hPn, hPW, hPN, hPS⟩ := id hP
  refine lv_aload_n hx hb dX6_loudestQuiet_0 rfl (lv_at hl 0 rfl) ?_
  refine q_get hx hb hts hinX6 hown hG hW hs0 rfl 2 (by decide) (hts (.fieldLink RX6 23 "FoleyMixer" "now" "LFoleyMixer$Play;") (List.mem_of_getElem? (i := 1) rfl)) rfl rfl dX6_loudestQuiet_1 ?_
  refine q_getN hx hb hts hinX4 hown hG hW (hp1).1 rfl 1 (by decide) (hG.nest 13 rfl) rfl rfl dX6_loudestQuiet_4 ?_
  refine lv_iload_n hx hb dX6_loudestQuiet_7 rfl (lv_at hl 1 rfl) ?_
  refine q_X0 (vx_runS (As := [.ref (b + (2 + 3)), .int (x)]) (rest := []) ⟨hx, hb, hml, hown, hts⟩ (c_X6_checkNumber l hl0 (hp1).2.2.1 (x)) (va_cwS 2 hts gX6_loudestQuiet_X6_checkNumber rfl rfl rfl (by decide +kernel) ⟨Nat.le_of_ble_eq_true rfl, Nat.le_of_ble_eq_true rfl⟩) (q_preS hG hW hS) rfl rfl hl.1 rfl (lv_room (Nat.le_of_ble_eq_true rfl)) dX6_loudestQuiet_8 ⟨Nat.le_of_ble_eq_true rfl, Nat.le_of_ble_eq_true rfl⟩) hS (fun E9 w9 H9 L9 q9 ce9 hpx hW9 hS9 hce hcv hcl => q_prop hxt hlocks hW9 hS9 hce hcv hcl (by exact hpx) (Nat.le_of_ble_eq_true rfl) (Nat.le_of_ble_eq_true rfl)) (fun w_8 H locs hp8 hW hS => ?_)
  obtain ⟨ho8, hw9⟩ := hp8
  replace hw9 := hw9.symm
  subst hw9
  obtain ⟨exx9, bxx9⟩ := has_n (by omega) ho8.1 ho8.2
  have el_11 : x = nI (i32n x) := by exact exx9
  rw [el_11] at hl
  obtain ⟨⟨PT, hp7⟩, hm13, hm21⟩ := id hbk
  refine lv_aload_n hx hb dX6_loudestQuiet_11 rfl (lv_at hl 0 rfl) ?_
  refine q_get hx hb hts hinX6 hown hG hW hs0 rfl 3 (by decide) (hts (.fieldLink RX6 26 "FoleyMixer" "trial" "LFoleyMixer$Play;") (List.mem_of_getElem? (i := 2) rfl)) rfl rfl dX6_loudestQuiet_12 ?_
  refine lv_aload_n hx hb dX6_loudestQuiet_15 rfl (lv_at hl 0 rfl) ?_
  refine q_get hx hb hts hinX6 hown hG hW hs0 rfl 2 (by decide) (hts (.fieldLink RX6 23 "FoleyMixer" "now" "LFoleyMixer$Play;") (List.mem_of_getElem? (i := 1) rfl)) rfl rfl dX6_loudestQuiet_16 ?_
  refine q_W0 (va_runVN (As := [.ref (b + 2)]) (rest := []) ⟨hx, hb, hml, hown, hts⟩ (c_X4_copyFrom l hp7 hp1 (by omega)) ⟨(va_cnB 1 hts gX6_loudestQuiet_X4_copyFrom_n173 rfl rfl rfl (hG.nest 39 rfl) (hts (.initialized RX4) (List.mem_of_getElem? (i := 18) rfl)) (by decide +kernel) ⟨Nat.le_of_ble_eq_true rfl, Nat.le_of_ble_eq_true rfl⟩), (hts (.instanceMethod yX4_copyFrom) (List.mem_of_getElem? (i := 17) rfl)), (hts (.selects RX4 yX4_copyFrom yX4_copyFrom) (List.mem_of_getElem? (i := 19) rfl))⟩ (q_preV hG hW hS (hp7).1 rfl) rfl rfl hl.1 rfl (lv_room (Nat.le_of_ble_eq_true rfl)) dX6_loudestQuiet_19 ⟨Nat.le_of_ble_eq_true rfl, Nat.le_of_ble_eq_true rfl⟩) hS (fun w_19 H locs hp19 hW hS => ?_)
  obtain ⟨hp7, fr19⟩ := hp19
  replace hs0 : w_19 0 = some (sysO b) := (fr19 _ (by omega)).trans hs0
  replace hp1 : isPlay dA b w_19 2 P := hp1.fr (fun id9 h7 h8 => fr19 id9 (by omega))
  replace hhs : isHS dA b w_19 lo n Hs SL := hhs.fr (fun id9 h7 => (fr19 id9 (by omega)))
  replace hsc : isScr dA b w_19 32 nc C := hsc.fr (fr19 _ (by omega)) (fr19 _ (by omega))
  replace hrd : ∃ R : Rd, isRdr dA b w_19 34 R := rdr_fr hrd (fun id9 h7 h8 => (fr19 id9 (by omega)))
  replace hex : ∃ e : va_E, w_19 (lo - 1) = some e := exw_fr hex (fr19 _ (by omega))
  replace hm13 : anyMix dA b w_19 1 2 := hm13.fr (fun id9 h7 h8 => (fr19 id9 (by omega)))
  replace hm21 : anyMix dA b w_19 15 16 := hm21.fr (fun id9 h7 h8 => (fr19 id9 (by omega)))
  refine lv_aload_n hx hb dX6_loudestQuiet_22 rfl (lv_at hl 0 rfl) ?_
  refine q_get hx hb hts hinX6 hown hG hW hs0 rfl 3 (by decide) (hts (.fieldLink RX6 26 "FoleyMixer" "trial" "LFoleyMixer$Play;") (List.mem_of_getElem? (i := 2) rfl)) rfl rfl dX6_loudestQuiet_23 ?_
  refine q_getN hx hb hts hinX4 hown hG hW (hp7).1 rfl 1 (by decide) (hG.nest 13 rfl) rfl rfl dX6_loudestQuiet_26 ?_
  refine lv_iload_n hx hb dX6_loudestQuiet_29 rfl (lv_at hl 1 rfl) ?_
  obtain ⟨ht0, ht1, ht3, htS, ht5⟩ := id hp7
  refine q_W0 (va_runVN (As := [.int (nI (i32n x))]) (rest := []) ⟨hx, hb, hml, hown, hts⟩ (c_X1_drop l ht3 (i32n x) (by omega)) ⟨(va_cnB 1 hts gX6_loudestQuiet_X1_drop_n83 rfl rfl rfl (hG.nest 66 rfl) (hts (.initialized RX1) (List.mem_of_getElem? (i := 13) rfl)) (by decide +kernel) ⟨Nat.le_of_ble_eq_true rfl, Nat.le_of_ble_eq_true rfl⟩), (hts (.instanceMethod yX1_drop) (List.mem_of_getElem? (i := 30) rfl)), (hts (.selects RX1 yX1_drop yX1_drop) (List.mem_of_getElem? (i := 31) rfl))⟩ (q_preV hG hW hS (isCues.obj ht3) rfl) rfl rfl hl.1 rfl (lv_room (Nat.le_of_ble_eq_true rfl)) dX6_loudestQuiet_30 ⟨Nat.le_of_ble_eq_true rfl, Nat.le_of_ble_eq_true rfl⟩) hS (fun w_30 H locs hp30 hW hS => ?_)
  obtain ⟨ht3, fr30⟩ := hp30
  replace hs0 : w_30 0 = some (sysO b) := (fr30 _ (by omega) (by omega)).trans hs0
  replace hp1 : isPlay dA b w_30 2 P := hp1.fr (fun id9 h7 h8 => fr30 id9 (by omega) (by omega))
  replace hhs : isHS dA b w_30 lo n Hs SL := hhs.fr (fun id9 h7 => (fr30 id9 (by omega) (by omega)))
  replace hsc : isScr dA b w_30 32 nc C := hsc.fr (fr30 _ (by omega) (by omega)) (fr30 _ (by omega) (by omega))
  replace hrd : ∃ R : Rd, isRdr dA b w_30 34 R := rdr_fr hrd (fun id9 h7 h8 => (fr30 id9 (by omega) (by omega)))
  replace hex : ∃ e : va_E, w_30 (lo - 1) = some e := exw_fr hex (fr30 _ (by omega) (by omega))
  replace hm13 : anyMix dA b w_30 1 2 := hm13.fr (fun id9 h7 h8 => (fr30 id9 (by omega) (by omega)))
  replace hm21 : anyMix dA b w_30 15 16 := hm21.fr (fun id9 h7 h8 => (fr30 id9 (by omega) (by omega)))
  replace ht0 : w_30 16 = some (.inr (4, [.ref (b + (16 + 1)), .ref (b + (16 + 3)), .ref (b + (16 + 5))])) := (fr30 _ (by omega) (by omega)).trans ht0
  replace ht1 : isCues dA b w_30 (16 + 1) 10 P.w P.W := ht1.fr (fr30 _ (by omega) (by omega)) (fr30 _ (by omega) (by omega))
  replace ht5 : w_30 (16 + 5) = some (eN dA 5 P.S) := (fr30 _ (by omega) (by omega)).trans ht5
  replace hp7 : isPlay dA b w_30 16 ((P.w, P.W, P.n - 1, delV P.N (i32n x), P.S)) := ⟨ht0, ht1, ht3, htS, ht5⟩
  change isPlay dA b _ 16 (delN P (i32n x)) at hp7
  have hdo := ams_le hp7.ok
  refine lv_aload_n hx hb dX6_loudestQuiet_33 rfl (lv_at hl 0 rfl) ?_
  refine q_get hx hb hts hinX6 hown hG hW hs0 rfl 1 (by decide) (hts (.fieldLink RX6 16 "FoleyMixer" "trialMix" "LFoleyMixer$Mix;") (List.mem_of_getElem? (i := 3) rfl)) rfl rfl dX6_loudestQuiet_34 ?_
  refine q_W0 (va_runVN (As := []) (rest := []) ⟨hx, hb, hml, hown, hts⟩ (c_X3_refresh l hm21 hp7 (by omega)) ⟨(va_cnB 0 hts gX6_loudestQuiet_X3_refresh_n181 rfl rfl rfl (hG.nest 45 rfl) (hts (.initialized RX3) (List.mem_of_getElem? (i := 39) rfl)) (by decide +kernel) ⟨Nat.le_of_ble_eq_true rfl, Nat.le_of_ble_eq_true rfl⟩), (hts (.instanceMethod yX3_refresh) (List.mem_of_getElem? (i := 38) rfl)), (hts (.selects RX3 yX3_refresh yX3_refresh) (List.mem_of_getElem? (i := 40) rfl))⟩ (q_preV hG hW hS (hm21).1 rfl) rfl rfl hl.1 rfl (lv_room (Nat.le_of_ble_eq_true rfl)) dX6_loudestQuiet_37 ⟨Nat.le_of_ble_eq_true rfl, Nat.le_of_ble_eq_true rfl⟩) hS (fun w_37 H locs hp37 hW hS => ?_)
  obtain ⟨hm21, fr37⟩ := hp37
  replace hs0 : w_37 0 = some (sysO b) := (fr37 _ (by omega)).trans hs0
  replace hp1 : isPlay dA b w_37 2 P := hp1.fr (fun id9 h7 h8 => fr37 id9 (by omega))
  replace hhs : isHS dA b w_37 lo n Hs SL := hhs.fr (fun id9 h7 => (fr37 id9 (by omega)))
  replace hsc : isScr dA b w_37 32 nc C := hsc.fr (fr37 _ (by omega)) (fr37 _ (by omega))
  replace hrd : ∃ R : Rd, isRdr dA b w_37 34 R := rdr_fr hrd (fun id9 h7 h8 => (fr37 id9 (by omega)))
  replace hex : ∃ e : va_E, w_37 (lo - 1) = some e := exw_fr hex (fr37 _ (by omega))
  replace hm13 : anyMix dA b w_37 1 2 := hm13.fr (fun id9 h7 h8 => (fr37 id9 (by omega)))
  replace hp7 : isPlay dA b w_37 16 (delN P (i32n x)) := hp7.fr (fun id9 h7 h8 => fr37 id9 (by omega))
  refine lv_aload_n hx hb dX6_loudestQuiet_40 rfl (lv_at hl 0 rfl) ?_
  refine q_get hx hb hts hinX6 hown hG hW hs0 rfl 1 (by decide) (hts (.fieldLink RX6 16 "FoleyMixer" "trialMix" "LFoleyMixer$Mix;") (List.mem_of_getElem? (i := 3) rfl)) rfl rfl dX6_loudestQuiet_41 ?_
  refine q_R1 (va_runVN (As := []) (rest := []) ⟨hx, hb, hml, hown, hts⟩ (c_X3_maskedSeconds l hm21 hp7) ⟨(va_cnB 0 hts gX6_loudestQuiet_X3_maskedSeconds_n241 rfl rfl rfl (hG.nest 59 rfl) (hts (.initialized RX3) (List.mem_of_getElem? (i := 39) rfl)) (by decide +kernel) ⟨Nat.le_of_ble_eq_true rfl, Nat.le_of_ble_eq_true rfl⟩), (hts (.instanceMethod yX3_maskedSeconds) (List.mem_of_getElem? (i := 100) rfl)), (hts (.selects RX3 yX3_maskedSeconds yX3_maskedSeconds) (List.mem_of_getElem? (i := 101) rfl))⟩ (q_preV hG hW hS (hm21).1 rfl) rfl rfl hl.1 rfl (lv_room (Nat.le_of_ble_eq_true rfl)) dX6_loudestQuiet_44 ⟨Nat.le_of_ble_eq_true rfl, Nat.le_of_ble_eq_true rfl⟩) ?_
  refine lv_istore_n (lv' := [(2, .int (nI (ams (delN P (i32n x))))), (0, .ref (b + 0)), (1, .int (nI (i32n x)))]) hx hb dX6_loudestQuiet_47 rfl hl (by decide) rfl (fun ls hl => ?_)
  refine lv_aload_n hx hb dX6_loudestQuiet_48 rfl (lv_at hl 1 rfl) ?_
  refine q_get hx hb hts hinX6 hown hG hW hs0 rfl 3 (by decide) (hts (.fieldLink RX6 26 "FoleyMixer" "trial" "LFoleyMixer$Play;") (List.mem_of_getElem? (i := 2) rfl)) rfl rfl dX6_loudestQuiet_49 ?_
  refine lv_aload_n hx hb dX6_loudestQuiet_52 rfl (lv_at hl 1 rfl) ?_
  refine q_get hx hb hts hinX6 hown hG hW hs0 rfl 2 (by decide) (hts (.fieldLink RX6 23 "FoleyMixer" "now" "LFoleyMixer$Play;") (List.mem_of_getElem? (i := 1) rfl)) rfl rfl dX6_loudestQuiet_53 ?_
  refine q_W0 (va_runVN (As := [.ref (b + 2)]) (rest := []) ⟨hx, hb, hml, hown, hts⟩ (c_X4_copyFrom l hp7 hp1 (by omega)) ⟨(va_cnB 1 hts gX6_loudestQuiet_X4_copyFrom_n173 rfl rfl rfl (hG.nest 39 rfl) (hts (.initialized RX4) (List.mem_of_getElem? (i := 18) rfl)) (by decide +kernel) ⟨Nat.le_of_ble_eq_true rfl, Nat.le_of_ble_eq_true rfl⟩), (hts (.instanceMethod yX4_copyFrom) (List.mem_of_getElem? (i := 17) rfl)), (hts (.selects RX4 yX4_copyFrom yX4_copyFrom) (List.mem_of_getElem? (i := 19) rfl))⟩ (q_preV hG hW hS (hp7).1 rfl) rfl rfl hl.1 rfl (lv_room (Nat.le_of_ble_eq_true rfl)) dX6_loudestQuiet_56 ⟨Nat.le_of_ble_eq_true rfl, Nat.le_of_ble_eq_true rfl⟩) hS (fun w_56 H locs hp56 hW hS => ?_)
  obtain ⟨hp7, fr56⟩ := hp56
  replace hs0 : w_56 0 = some (sysO b) := (fr56 _ (by omega)).trans hs0
  replace hp1 : isPlay dA b w_56 2 P := hp1.fr (fun id9 h7 h8 => fr56 id9 (by omega))
  replace hhs : isHS dA b w_56 lo n Hs SL := hhs.fr (fun id9 h7 => (fr56 id9 (by omega)))
  replace hsc : isScr dA b w_56 32 nc C := hsc.fr (fr56 _ (by omega)) (fr56 _ (by omega))
  replace hrd : ∃ R : Rd, isRdr dA b w_56 34 R := rdr_fr hrd (fun id9 h7 h8 => (fr56 id9 (by omega)))
  replace hex : ∃ e : va_E, w_56 (lo - 1) = some e := exw_fr hex (fr56 _ (by omega))
  replace hm13 : anyMix dA b w_56 1 2 := hm13.fr (fun id9 h7 h8 => (fr56 id9 (by omega)))
  replace hm21 : isMix dA b w_56 15 16 (delN P (i32n x)) := hm21.fr (fun id9 h7 h8 => fr56 id9 (by omega))
  refine va_gets hx hb (hG.2.2.1 1 _ rfl).1 hS hown (hts (.fieldLink RX6 265 "FoleyMixer" "MOST_OF_CUE" "[I") (List.mem_of_getElem? (i := 4) rfl)) (fun _ h => h) dX6_loudestQuiet_59 ?_
  refine lv_iconst (v := nI 2) hx hb dX6_loudestQuiet_62 (by decide) ?_
  refine q_R1 (va_runS (As := [.ref (dA 11), .int (nI 2)]) (rest := []) ⟨hx, hb, hml, hown, hts⟩ (c_entry_in l (RD.st 1 rfl) (by decide) (2) (by decide)) (va_cwS 2 hts gX6_loudestQuiet_X6_entry rfl rfl rfl (by decide +kernel) ⟨Nat.le_of_ble_eq_true rfl, Nat.le_of_ble_eq_true rfl⟩) (q_preS hG hW hS) rfl rfl hl.1 rfl (lv_room (Nat.le_of_ble_eq_true rfl)) dX6_loudestQuiet_63 ⟨Nat.le_of_ble_eq_true rfl, Nat.le_of_ble_eq_true rfl⟩) ?_
  refine lv_istore_n (lv' := [(3, .int (nI 30)), (2, .int (nI (ams (delN P (i32n x))))), (0, .ref (b + 0)), (1, .int (nI (i32n x)))]) hx hb dX6_loudestQuiet_66 rfl hl (by decide) rfl (fun ls hl => ?_)
  have L67 : ∀ (n67 : Nat) (j : Nat) (PT : Pl), j ≤ 30 → (∀ x9, ldN PT (i32n x) x9 = ldN P (i32n x) x9) → lqt P (i32n x) (ams (delN P (i32n x))) j = lqt P (i32n x) (ams (delN P (i32n x))) 30 → j < n67 → ∀ (x67_3 : Int32), x67_3 = nI (j) → ∀ (wa : Wd) (H : Heap) (locs : List Loc), wa 0 = some (sysO b) → isPlay dA b wa 2 P → isPlay dA b wa 16 PT → anyMix dA b wa 15 16 → (∀ id : Nat, (id < 15 ∨ 29 ≤ id) → wa id = w_56 id) → WP D b wa H → va_S (Fb b) s.heap H locs → ∀ (ls : Array Slot), lv_has ls 4 [(0, .ref (b + 0)), (1, .int (nI (i32n x))), (2, .int (nI (ams (delN P (i32n x))))), (3, .int x67_3)] → W p l e ({ frames := 7, cells := 1, slots := 6, locals := 115 } : Room) s m args below meth c H locs 1 6 (vx_MQ below (QW D b (some (.int (nI (lqt P (i32n x) (ams (delN P (i32n x))) 30)))) (fun w' => (0 ≤ x ∧ x < nI P.n) ∧ isSys dA b w' lo (P, (n, Hs), SL, (nc, C)) ∧ ∀ id : Nat, 36 ≤ id → id < lo → w' id = w id)) (XW D b (fun E w' => (E = IOE ∧ ¬ (0 ≤ x ∧ x < nI P.n)) ∧ w' = w)) args s 1 6 (Fb b)) (F0 m 67 ls []) := by
    intro n67
    induction n67 with
    | zero =>
      intro j PT hj0 hPT hres hn67 x67_3 ex67_3 wa H locs hs0 hp1 hp7 hm21 fr hW hS ls hl
      exact absurd hn67 (Nat.not_lt_zero _)
    | succ n67 ih67 =>
      intro j PT hj0 hPT hres hn67 x67_3 ex67_3 wa H locs hs0 hp1 hp7 hm21 fr hW hS ls hl
      subst ex67_3
      replace hm13 := hm13.fr (fun id9 h7 h8 => fr id9 (by omega))
      replace hhs := hhs.fr (fun id9 h7 => fr id9 (by omega))
      replace hsc := hsc.fr (fr _ (by omega)) (fr _ (by omega))
      replace hrd := rdr_fr hrd (fun id9 h7 h8 => fr id9 (by omega))
      replace hex := exw_fr hex (fr _ (by omega))
      have hPT7 := hp7.ok
      obtain ⟨hT0, hT1, hT2, hT3, hT4⟩ := id hPT7
      have hTn : PT.n = P.n := by show (ldN PT (i32n x) 0).n = (ldN P (i32n x) 0).n; rw [hPT]
      refine lv_iload_n hx hb dX6_loudestQuiet_67 rfl (lv_at hl 3 rfl) ?_
      refine va_gets hx hb (hG.2.2.1 0 _ rfl).1 hS hown (hts (.fieldLink RX6 268 "FoleyMixer" "LEAST_OF_CUE" "[I") (List.mem_of_getElem? (i := 5) rfl)) (fun _ h => h) dX6_loudestQuiet_68 ?_
      refine lv_iconst (v := nI 2) hx hb dX6_loudestQuiet_71 (by decide) ?_
      refine q_R1 (va_runS (As := [.ref (dA 10), .int (nI 2)]) (rest := [.int (nI j)]) ⟨hx, hb, hml, hown, hts⟩ (c_entry_in l (RD.st 0 rfl) (by decide) (2) (by decide)) (va_cwS 2 hts gX6_loudestQuiet_X6_entry rfl rfl rfl (by decide +kernel) ⟨Nat.le_of_ble_eq_true rfl, Nat.le_of_ble_eq_true rfl⟩) (q_preS hG hW hS) rfl rfl hl.1 rfl (lv_room (Nat.le_of_ble_eq_true rfl)) dX6_loudestQuiet_72 ⟨Nat.le_of_ble_eq_true rfl, Nat.le_of_ble_eq_true rfl⟩) ?_
      refine lv_icmp_lt (tgt := 117) hx hb dX6_loudestQuiet_75 (by decide) (fun c_75 => ?_) (fun c_75 => ?_)
      · skip
        have c_75 : j < 1 := (nI_ltI (a := j) (b := 1) (by omega) (by omega)).mp c_75
        refine lv_iconst (v := nI 0) hx hb dX6_loudestQuiet_117 (by decide) ?_
        exact vx_ret (q_wi hx hb hr hlocks hW hS dX6_loudestQuiet_118 (by rw [← hres, show j = 0 by omega]; rfl) (by exact ⟨ho8, ⟨hs0, hp1, ⟨⟨_, hp7⟩, hm13, hm21⟩, hhs, hsc, hrd, hlo, hex⟩, by intro id h8 h9; rw [fr id (by omega)]; rw [fr56 id (by omega)]; rw [fr37 id (by omega)]; rw [fr30 id (by omega) (by omega)]; rw [fr19 id (by omega)]; try rfl⟩) (by decide) (by decide))
      · skip
        have c_75 : ¬ (j < 1) := fun h__ => c_75 ((nI_ltI (a := j) (b := 1) (by omega) (by omega)).mpr h__)
        refine lv_aload_n hx hb dX6_loudestQuiet_78 rfl (lv_at hl 0 rfl) ?_
        refine q_get hx hb hts hinX6 hown hG hW hs0 rfl 3 (by decide) (hts (.fieldLink RX6 26 "FoleyMixer" "trial" "LFoleyMixer$Play;") (List.mem_of_getElem? (i := 2) rfl)) rfl rfl dX6_loudestQuiet_79 ?_
        refine q_getN hx hb hts hinX4 hown hG hW (hp7).1 rfl 1 (by decide) (hG.nest 13 rfl) rfl rfl dX6_loudestQuiet_82 ?_
        refine lv_iload_n hx hb dX6_loudestQuiet_85 rfl (lv_at hl 1 rfl) ?_
        refine lv_iconst (v := nI 2) hx hb dX6_loudestQuiet_86 (by decide) ?_
        refine lv_iload_n hx hb dX6_loudestQuiet_87 rfl (lv_at hl 3 rfl) ?_
        obtain ⟨ht0, ht1, ht3, htS, ht5⟩ := id hp7
        refine q_W0 (va_runVN (As := [.int (nI (i32n x)), .int (nI 2), .int (nI j)]) (rest := []) ⟨hx, hb, hml, hown, hts⟩ (c_change_V l ht3 (i32n x) (2) (j) (by omega) (by omega) (by omega)) ⟨(va_cnB 3 hts gX6_loudestQuiet_X1_change_n110 rfl rfl rfl (hG.nest 67 rfl) (hts (.initialized RX1) (List.mem_of_getElem? (i := 13) rfl)) (by decide +kernel) ⟨Nat.le_of_ble_eq_true rfl, Nat.le_of_ble_eq_true rfl⟩), (hts (.instanceMethod yX1_change) (List.mem_of_getElem? (i := 111) rfl)), (hts (.selects RX1 yX1_change yX1_change) (List.mem_of_getElem? (i := 112) rfl))⟩ (q_preV hG hW hS (isCues.obj ht3) rfl) rfl rfl hl.1 rfl (lv_room (Nat.le_of_ble_eq_true rfl)) dX6_loudestQuiet_88 ⟨Nat.le_of_ble_eq_true rfl, Nat.le_of_ble_eq_true rfl⟩) hS (fun w_88 H locs hp88 hW hS => ?_)
        obtain ⟨ht3, fr88⟩ := hp88
        replace hs0 : w_88 0 = some (sysO b) := (fr88 _ (by omega)).trans hs0
        replace hp1 : isPlay dA b w_88 2 P := hp1.fr (fun id9 h7 h8 => fr88 id9 (by omega))
        replace hhs : isHS dA b w_88 lo n Hs SL := hhs.fr (fun id9 h7 => (fr88 id9 (by omega)))
        replace hsc : isScr dA b w_88 32 nc C := hsc.fr (fr88 _ (by omega)) (fr88 _ (by omega))
        replace hrd : ∃ R : Rd, isRdr dA b w_88 34 R := rdr_fr hrd (fun id9 h7 h8 => (fr88 id9 (by omega)))
        replace hex : ∃ e : va_E, w_88 (lo - 1) = some e := exw_fr hex (fr88 _ (by omega))
        replace hm13 : anyMix dA b w_88 1 2 := hm13.fr (fun id9 h7 h8 => (fr88 id9 (by omega)))
        replace hm21 : anyMix dA b w_88 15 16 := hm21.fr (fun id9 h7 h8 => (fr88 id9 (by omega)))
        replace ht0 : w_88 16 = some (.inr (4, [.ref (b + (16 + 1)), .ref (b + (16 + 3)), .ref (b + (16 + 5))])) := (fr88 _ (by omega)).trans ht0
        replace ht1 : isCues dA b w_88 (16 + 1) 10 PT.w PT.W := ht1.fr (fr88 _ (by omega)) (fr88 _ (by omega))
        replace ht5 : w_88 (16 + 5) = some (eN dA 5 PT.S) := (fr88 _ (by omega)).trans ht5
        replace hp7 : isPlay dA b w_88 16 ((PT.w, PT.W, PT.n, setV PT.N (i32n x) 2 j, PT.S)) := ⟨ht0, ht1, ht3, htS, ht5⟩
        change isPlay dA b _ 16 (ldN PT (i32n x) j) at hp7
        rw [hPT] at hp7
        have hdp := ams_le hp7.ok
        refine lv_aload_n hx hb dX6_loudestQuiet_91 rfl (lv_at hl 0 rfl) ?_
        refine q_get hx hb hts hinX6 hown hG hW hs0 rfl 1 (by decide) (hts (.fieldLink RX6 16 "FoleyMixer" "trialMix" "LFoleyMixer$Mix;") (List.mem_of_getElem? (i := 3) rfl)) rfl rfl dX6_loudestQuiet_92 ?_
        refine q_W0 (va_runVN (As := []) (rest := []) ⟨hx, hb, hml, hown, hts⟩ (c_X3_refresh l hm21 hp7 (by omega)) ⟨(va_cnB 0 hts gX6_loudestQuiet_X3_refresh_n181 rfl rfl rfl (hG.nest 45 rfl) (hts (.initialized RX3) (List.mem_of_getElem? (i := 39) rfl)) (by decide +kernel) ⟨Nat.le_of_ble_eq_true rfl, Nat.le_of_ble_eq_true rfl⟩), (hts (.instanceMethod yX3_refresh) (List.mem_of_getElem? (i := 38) rfl)), (hts (.selects RX3 yX3_refresh yX3_refresh) (List.mem_of_getElem? (i := 40) rfl))⟩ (q_preV hG hW hS (hm21).1 rfl) rfl rfl hl.1 rfl (lv_room (Nat.le_of_ble_eq_true rfl)) dX6_loudestQuiet_95 ⟨Nat.le_of_ble_eq_true rfl, Nat.le_of_ble_eq_true rfl⟩) hS (fun w_95 H locs hp95 hW hS => ?_)
        obtain ⟨hm21, fr95⟩ := hp95
        replace hs0 : w_95 0 = some (sysO b) := (fr95 _ (by omega)).trans hs0
        replace hp1 : isPlay dA b w_95 2 P := hp1.fr (fun id9 h7 h8 => fr95 id9 (by omega))
        replace hhs : isHS dA b w_95 lo n Hs SL := hhs.fr (fun id9 h7 => (fr95 id9 (by omega)))
        replace hsc : isScr dA b w_95 32 nc C := hsc.fr (fr95 _ (by omega)) (fr95 _ (by omega))
        replace hrd : ∃ R : Rd, isRdr dA b w_95 34 R := rdr_fr hrd (fun id9 h7 h8 => (fr95 id9 (by omega)))
        replace hex : ∃ e : va_E, w_95 (lo - 1) = some e := exw_fr hex (fr95 _ (by omega))
        replace hm13 : anyMix dA b w_95 1 2 := hm13.fr (fun id9 h7 h8 => (fr95 id9 (by omega)))
        replace hp7 : isPlay dA b w_95 16 (ldN P (i32n x) j) := hp7.fr (fun id9 h7 h8 => fr95 id9 (by omega))
        refine lv_aload_n hx hb dX6_loudestQuiet_98 rfl (lv_at hl 0 rfl) ?_
        refine q_get hx hb hts hinX6 hown hG hW hs0 rfl 1 (by decide) (hts (.fieldLink RX6 16 "FoleyMixer" "trialMix" "LFoleyMixer$Mix;") (List.mem_of_getElem? (i := 3) rfl)) rfl rfl dX6_loudestQuiet_99 ?_
        refine q_R1 (va_runVN (As := []) (rest := []) ⟨hx, hb, hml, hown, hts⟩ (c_X3_maskedSeconds l hm21 hp7) ⟨(va_cnB 0 hts gX6_loudestQuiet_X3_maskedSeconds_n241 rfl rfl rfl (hG.nest 59 rfl) (hts (.initialized RX3) (List.mem_of_getElem? (i := 39) rfl)) (by decide +kernel) ⟨Nat.le_of_ble_eq_true rfl, Nat.le_of_ble_eq_true rfl⟩), (hts (.instanceMethod yX3_maskedSeconds) (List.mem_of_getElem? (i := 100) rfl)), (hts (.selects RX3 yX3_maskedSeconds yX3_maskedSeconds) (List.mem_of_getElem? (i := 101) rfl))⟩ (q_preV hG hW hS (hm21).1 rfl) rfl rfl hl.1 rfl (lv_room (Nat.le_of_ble_eq_true rfl)) dX6_loudestQuiet_102 ⟨Nat.le_of_ble_eq_true rfl, Nat.le_of_ble_eq_true rfl⟩) ?_
        refine lv_iload_n hx hb dX6_loudestQuiet_105 rfl (lv_at hl 2 rfl) ?_
        refine lv_icmp_gt (tgt := 111) hx hb dX6_loudestQuiet_106 (by decide) (fun c_106 => ?_) (fun c_106 => ?_)
        · skip
          have c_106 : ams (delN P (i32n x)) < ams (ldN P (i32n x) j) := (nI_ltI (a := ams (delN P (i32n x))) (b := ams (ldN P (i32n x) j)) (by omega) (by omega)).mp c_106
          refine lv_iinc (v := nI (j - 1)) (lv' := [(3, .int (nI (j - 1))), (0, .ref (b + 0)), (1, .int (nI (i32n x))), (2, .int (nI (ams (delN P (i32n x)))))]) hx hb dX6_loudestQuiet_111 hl (k := 3) rfl (pk_m1w (by omega)) (by decide) rfl (fun ls hl => ?_)
          refine lv_goto (tgt := 67) hx hb dX6_loudestQuiet_114 (by decide) ?_
          exact ih67 (j - 1) (ldN P (i32n x) j) (by omega) (by first | exact fun _ => rfl | exact fun x9 => ldN_ldN P (i32n x) j x9) (by first | rfl | (rw [← hres]; conv => rhs; rw [show j = (j - 1) + 1 by omega, lqt, show j - 1 + 1 = j by omega, if_neg (by omega)])) (by omega) _ (by first | rfl | (congr 1; omega)) _ _ _ (by exact hs0) (by exact hp1) (by exact hp7) (by first | exact hm21 | exact isMix.any hm21) (by intro id h9; rw [fr95 id (by omega)]; rw [fr88 id (by omega)]; exact fr id h9) hW hS _ (lv_sub hl [1, 2, 3, 0] rfl)
        · skip
          have c_106 : ¬ (ams (delN P (i32n x)) < ams (ldN P (i32n x) j)) := fun h__ => c_106 ((nI_ltI (a := ams (delN P (i32n x))) (b := ams (ldN P (i32n x) j)) (by omega) (by omega)).mpr h__)
          refine lv_iload_n hx hb dX6_loudestQuiet_109 rfl (lv_at hl 3 rfl) ?_
          exact vx_ret (q_wi hx hb hr hlocks hW hS dX6_loudestQuiet_110 (by rw [← hres]; conv => rhs; rw [show j = (j - 1) + 1 by omega, lqt, show j - 1 + 1 = j by omega, if_pos (by omega)]) (by exact ⟨ho8, ⟨hs0, hp1, ⟨⟨_, hp7⟩, hm13, (isMix.any hm21)⟩, hhs, hsc, hrd, hlo, hex⟩, by intro id h8 h9; rw [fr95 id (by omega)]; rw [fr88 id (by omega)]; rw [fr id (by omega)]; rw [fr56 id (by omega)]; rw [fr37 id (by omega)]; rw [fr30 id (by omega) (by omega)]; rw [fr19 id (by omega)]; try rfl⟩) (by decide) (by decide))
  exact L67 (30 + 1) 30 P (by omega) (by first | exact fun _ => rfl | exact fun x9 => ldN_ldN P (i32n x) j x9) (by first | rfl | (rw [← hres]; conv => rhs; rw [show j = (j - 1) + 1 by omega, lqt, show j - 1 + 1 = j by omega, if_neg (by omega)])) (Nat.lt_succ_self _) _ (by first | rfl | (congr 1; omega)) _ _ _ (by exact hs0) (by exact hp1) (by exact hp7) (by first | exact hm21 | exact isMix.any hm21) (by intro id h9; rfl) hW hS _ (lv_sub hl [2, 3, 1, 0] rfl)

