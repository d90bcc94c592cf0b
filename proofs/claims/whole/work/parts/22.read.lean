/-- what a reader holds on its way -/
def invR (R : Rd) : Prop := R.1 ≤ 3 ∧ (R.1 < 3 → (R.2.1 = nI 119 ∨ R.2.1 = nI 110 ∨ R.2.1 = nI 78) ∧ (∀ i, i < R.1 → R.2.2 i ≠ none) ∧ ∀ i, i ≤ R.1 → ∀ v, R.2.2 i = some v → cLo i ≤ v ∧ v ≤ cHi i)
theorem invR_rst (R : Rd) : invR (rst R) := ⟨Nat.le_refl _, fun h => absurd (show 3 < 3 from h) (by decide)⟩
theorem invR_nx {R : Rd} (h : invR R) (c : Option Nat) : invR (rnx R c) := by
  unfold rnx
  by_cases k : rok R c = true
  · rw [if_pos k]
    obtain ⟨h1, h2⟩ := h
    by_cases e : R.1 = 3
    · rw [if_pos e]
      unfold rok at k
      rw [if_pos e] at k
      refine ⟨Nat.zero_le _, fun _ => ⟨?_, fun i hi => absurd (show i < 0 from hi) (Nat.not_lt_zero _), fun i hi v hv => ?_⟩⟩
      · unfold kOk at k
        simp only [Bool.or_eq_true, decide_eq_true_eq] at k
        rcases k with (k | k) | k
        · subst k; exact Or.inl rfl
        · subst k; exact Or.inr (Or.inl rfl)
        · subst k; exact Or.inr (Or.inr rfl)
      · have : i = 0 := Nat.le_zero.mp hi
        subst this
        simp [rbeg, va_up] at hv
    · rw [if_neg e]
      have h3 := h2 (by omega)
      cases c with
      | none => exact ⟨h1, h2⟩
      | some n =>
        unfold rok at k
        rw [if_neg e] at k
        dsimp only at k ⊢
        by_cases d : 48 ≤ n ∧ n ≤ 57
        · rw [if_pos d] at k ⊢
          unfold dOk at k
          simp only [Bool.and_eq_true, decide_eq_true_eq] at k
          refine ⟨h1, fun _ => ⟨h3.1, fun i hi => ?_, fun i hi v hv => ?_⟩⟩
          · unfold rdig va_up
            have hi' : i < R.1 := hi
            dsimp only
            rw [if_neg (by omega)]; exact h3.2.1 i hi'
          · unfold rdig va_up at hv
            dsimp only at hv
            by_cases f : i = R.1
            · rw [if_pos f] at hv; cases hv; subst f; exact k.2
            · rw [if_neg f] at hv; exact h3.2.2 i hi v hv
        · rw [if_neg d] at k ⊢
          unfold sOk at k
          simp only [Bool.and_eq_true, decide_eq_true_eq] at k
          refine ⟨by show R.1 + 1 ≤ 3; omega, fun hl => ⟨h3.1, fun i hi => ?_, fun i hi v hv => ?_⟩⟩
          · have hi' : i < R.1 + 1 := hi
            have hl' : R.1 + 1 < 3 := hl
            unfold rbeg va_up; dsimp only
            rw [if_pos hl']
            rw [if_neg (by omega)]
            by_cases f : i = R.1
            · rw [f]; exact k.1
            · exact h3.2.1 i (by omega)
          · have hi' : i ≤ R.1 + 1 := hi
            have hl' : R.1 + 1 < 3 := hl
            unfold rbeg va_up at hv; dsimp only at hv
            rw [if_pos hl'] at hv
            by_cases f : i = R.1 + 1
            · rw [if_pos f] at hv; cases hv
            · rw [if_neg f] at hv; exact h3.2.2 i (by omega) v hv
  · rw [if_neg k]; exact h
theorem invR_run {n : Nat} {C : Nat → Nat} {R : Rd} (h : invR R) : ∀ i, invR (rrun n C R i)
  | 0 => h
  | i + 1 => invR_nx (invR_run h i) _
theorem rerr_le (n : Nat) (C : Nat → Nat) (R : Rd) : ∀ d, rerr n C R d ≤ n
  | 0 => Nat.le_refl _
  | d + 1 => by
    unfold rerr
    split
    · exact rerr_le n C R d
    · omega
theorem rerr_all {n : Nat} {C : Nat → Nat} {R : Rd} : ∀ d, d ≤ n → n ≤ rerr n C R d → ∀ i, n - d ≤ i → i < n → rok (rrun n C R i) (cAt n C i) = true
  | 0, _, _ => fun i h1 h2 => absurd h1 (by omega)
  | d + 1, hd, h => fun i h1 h2 => by
    unfold rerr at h
    by_cases k : rok (rrun n C R (n - (d + 1))) (cAt n C (n - (d + 1))) = true
    · rw [if_pos k] at h
      by_cases e : i = n - (d + 1)
      · rw [e]; exact k
      · exact rerr_all d (by omega) h i (by omega) h2
    · rw [if_neg k] at h; omega
/-- the codes are a whole script -/
def whl (n : Nat) (C : Nat → Nat) (R : Rd) : Prop := n ≤ rerr n C R n ∧ (rrun n C R n).1 = 2 ∧ (rrun n C R n).2.2 2 ≠ none
/-- a cue is read to its end -/
abbrev cEnd (n : Nat) (C : Nat → Nat) (j : Nat) : Prop := j = n ∨ cAt n C j = some 59
theorem whl_at {n : Nat} {C : Nat → Nat} {R : Rd} (hw : whl n C R) {j : Nat} (hj : j ≤ n) (hc : cEnd n C j) : (rrun n C R j).1 = 2 ∧ (rrun n C R j).2.2 2 ≠ none := by
  rcases hc with rfl | hc
  · exact hw.2
  · have hjn : j < n := by
      unfold cAt at hc
      by_cases e : j < n
      · exact e
      · rw [if_neg e] at hc; cases hc
    have k := rerr_all n (Nat.le_refl _) hw.1 j (by omega) hjn
    rw [hc] at k
    unfold rok at k
    by_cases e : (rrun n C R j).1 = 3
    · rw [if_pos e] at k; exact absurd k (by decide)
    · rw [if_neg e] at k
      dsimp only at k
      rw [if_neg (by decide)] at k
      unfold sOk at k
      simp only [Bool.and_eq_true, decide_eq_true_eq, Option.some.injEq] at k
      have hs : (rrun n C R j).1 = 2 := by
        have := k.2
        generalize (rrun n C R j).1 = q at this e
        match q with
        | 0 => exact absurd this (by decide)
        | 1 => exact absurd this (by decide)
        | 2 => rfl
        | q + 3 => simp [sgn] at this
      exact ⟨hs, by rw [hs] at k; exact k.1⟩
theorem whl_num {n : Nat} {C : Nat → Nat} {R : Rd} (hi : invR R) (hw : whl n C R) {j : Nat} (hj : j ≤ n) (hc : cEnd n C j) :
    ((rrun n C R j).2.1 = nI 119 ∨ (rrun n C R j).2.1 = nI 110 ∨ (rrun n C R j).2.1 = nI 78) ∧ ∃ s9 l9 d9 : Nat, (rrun n C R j).2.2 0 = some s9 ∧ (rrun n C R j).2.2 1 = some l9 ∧ (rrun n C R j).2.2 2 = some d9 ∧ s9 ≤ 99 ∧ 1 ≤ l9 ∧ l9 ≤ 20 ∧ d9 ≤ 30 := by
  have h1 := whl_at hw hj hc
  have h2 := (invR_run (n := n) (C := C) hi j).2 (by omega)
  refine ⟨h2.1, ?_⟩
  have k0 := h2.2.1 0 (by omega)
  have k1 := h2.2.1 1 (by omega)
  have k2 := h1.2
  cases e0 : (rrun n C R j).2.2 0 with
  | none => exact absurd e0 k0
  | some s9 =>
    cases e1 : (rrun n C R j).2.2 1 with
    | none => exact absurd e1 k1
    | some l9 =>
      cases e2 : (rrun n C R j).2.2 2 with
      | none => exact absurd e2 k2
      | some d9 =>
        have b0 := h2.2.2 0 (by omega) _ e0
        have b1 := h2.2.2 1 (by omega) _ e1
        have b2 := h2.2.2 2 (by omega) _ e2
        have q1 : cHi 0 = 99 := rfl
        have q2 : cLo 1 = 1 := rfl
        have q3 : cHi 1 = 20 := rfl
        have q4 : cHi 2 = 30 := rfl
        exact ⟨s9, l9, d9, rfl, rfl, rfl, by omega, by omega, by omega, by omega⟩
/-- the number read, or 0 -/
def rnm (R : Rd) (i : Nat) : Nat := (R.2.2 i).getD 0
/-- no room for the cue read -/
abbrev rfull (P : Pl) (R : Rd) : Prop := if R.2.1 = nI 119 then 10 ≤ P.w else 12 ≤ P.n
/-- the play with the cue read -/
def radd (P : Pl) (R : Rd) : Pl := if R.2.1 = nI 119 then (P.w + 1, addV P.W P.w (rnm R 0) (rnm R 1) (rnm R 2) 0, P.n, P.N, P.S) else (P.w, P.W, P.n + 1, addV P.N P.n (rnm R 0) (rnm R 1) (rnm R 2) (if R.2.1 = nI 78 then 1 else 0), P.S)
/-- the cues read from the place n + 1 - d on: the play, and how many -/
def rgo (n : Nat) (C : Nat → Nat) (R : Rd) : Nat → Pl → Nat → Pl × Nat
  | 0, P, c => (P, c)
  | d + 1, P, c => if cEnd n C (n - d) then (if rfull P (rrun n C R (n - d)) then (P, c) else rgo n C R d (radd P (rrun n C R (n - d))) (c + 1)) else rgo n C R d P c
theorem rgo_full {n : Nat} {C : Nat → Nat} {R : Rd} {j : Nat} {P : Pl} {c : Nat} (hj : j ≤ n) (hc : cEnd n C j) (hf : rfull P (rrun n C R j)) : rgo n C R (n + 1 - j) P c = (P, c) := by
  rw [show n + 1 - j = (n - j) + 1 by omega, rgo, show n - (n - j) = j by omega, if_pos hc, if_pos hf]
theorem rgo_add {n : Nat} {C : Nat → Nat} {R : Rd} {j : Nat} {P : Pl} {c : Nat} (hj : j ≤ n) (hc : cEnd n C j) (hf : ¬ rfull P (rrun n C R j)) : rgo n C R (n + 1 - j) P c = rgo n C R (n + 1 - (j + 1)) (radd P (rrun n C R j)) (c + 1) := by
  rw [show n + 1 - j = (n - j) + 1 by omega, rgo, show n - (n - j) = j by omega, if_pos hc, if_neg hf, show n + 1 - (j + 1) = n - j by omega]
theorem rgo_pass {n : Nat} {C : Nat → Nat} {R : Rd} {j : Nat} {P : Pl} {c : Nat} (hj : j ≤ n) (hc : ¬ cEnd n C j) : rgo n C R (n + 1 - j) P c = rgo n C R (n + 1 - (j + 1)) P c := by
  rw [show n + 1 - j = (n - j) + 1 by omega, rgo, show n - (n - j) = j by omega, if_neg hc, show n + 1 - (j + 1) = n - j by omega]
theorem rgo_R0 {n : Nat} {C : Nat → Nat} {R : Rd} (hr : okR R) (hw : whl n C (rst R)) : ∀ d P c, d ≤ n + 1 → rgo n C (rst R) d P c = rgo n C R0 d P c
  | 0, P, c, _ => rfl
  | d + 1, P, c, hd => by
    unfold rgo
    by_cases hc : cEnd n C (n - d)
    · rw [if_pos hc, if_pos hc]
      have h1 := whl_at hw (Nat.sub_le n d) hc
      have hs := (rsim_run (n := n) (C := C) (rsim_rst R) (okR_rst hr) (n - d)).1
      obtain ⟨e1, e2⟩ := hs
      have e3 := e2 (by omega)
      have e4 : ∀ i, i < 3 → rnm (rrun n C (rst R) (n - d)) i = rnm (rrun n C R0 (n - d)) i := fun i hi => by unfold rnm; rw [e3.2 i (by omega)]
      have ef : rfull P (rrun n C (rst R) (n - d)) = rfull P (rrun n C R0 (n - d)) := by unfold rfull; rw [e3.1]
      have ea : radd P (rrun n C (rst R) (n - d)) = radd P (rrun n C R0 (n - d)) := by unfold radd; rw [e3.1, e4 0 (by omega), e4 1 (by omega), e4 2 (by omega)]
      by_cases f : rfull P (rrun n C (rst R) (n - d))
      · rw [if_pos f, if_pos (ef ▸ f)]
      · rw [if_neg f, if_neg (ef ▸ f), ea]; exact rgo_R0 hr hw d _ _ (by omega)
    · rw [if_neg hc, if_neg hc]; exact rgo_R0 hr hw d _ _ (by omega)
theorem whl_R0 {n : Nat} {C : Nat → Nat} {R : Rd} (hr : okR R) : whl n C (rst R) ↔ whl n C R0 := by
  unfold whl
  rw [rerr_R0 hr]
  have hs := (rsim_run (n := n) (C := C) (rsim_rst R) (okR_rst hr) n).1
  obtain ⟨e1, e2⟩ := hs
  rw [← e1]
  constructor
  · rintro ⟨a, c, d⟩; exact ⟨a, c, by rw [← (e2 (by omega)).2 2 (by omega)]; exact d⟩
  · rintro ⟨a, c, d⟩; exact ⟨a, c, by rw [(e2 (by omega)).2 2 (by omega)]; exact d⟩
theorem rgo_cnt {n : Nat} {C : Nat → Nat} {R : Rd} : ∀ d P c, (rgo n C R d P c).2 ≤ c + d
  | 0, P, c => Nat.le_refl _
  | d + 1, P, c => by
    unfold rgo
    split
    · split
      · show c ≤ _; omega
      · have := rgo_cnt (n := n) (C := C) (R := R) d (radd P (rrun n C R (n - d))) (c + 1); omega
    · have := rgo_cnt (n := n) (C := C) (R := R) d P c; omega
theorem cAt_b {n : Nat} {C : Nat → Nat} (h : ∀ i, i < n → C i < 128) {j v : Nat} (hv : cAt n C j = some v) : v < 2 ^ 31 := by
  unfold cAt at hv
  by_cases e : j < n
  · rw [if_pos e] at hv; cases hv; have := h j e; omega
  · rw [if_neg e] at hv; cases hv

theorem c_take_o (l : Launch) {D : va_G} {dA : Nat → Nat} {b : Nat} {w : Wd} {k : Nat} {R : Rd} (hR : isRdr dA b w k R) (c9 : Option Nat) (hc9 : ∀ v, c9 = some v → v < 2 ^ 31) : Met l yX0_take wsX0_take ({ frames := 3, cells := 0, slots := 0, locals := 65 } : Room) (PC D dA b w [.ref (b + k), .int (oI c9)]) (QW D b (some (.int (if rok R c9 = true then 1 else 0))) (fun w' => isRdr dA b w' k (rnx R c9) ∧ ∀ id : Nat, id ≠ k → id ≠ k + 1 → w' id = w id)) 0 0 (Fb b) := by
  cases c9 with
  | none => exact c_take_none l hR
  | some v => exact c_take_some l hR v (hc9 v rfl)
set_option maxHeartbeats 300000 in
set_option maxRecDepth 100000 in
/-- addScriptCues -/
theorem c_X6_addScriptCues (l : Launch) {D : va_G} {dA : Nat → Nat} {b : Nat} {w : Wd} {nc : Nat} {P : Pl} {C : Nat → Nat} {R : Rd} (hs0 : w 0 = some (sysO b)) (hp1 : isPlay dA b w 2 P) (hsc : isScr dA b w 32 nc C) (hR : isRdr dA b w 34 R) (hw : whl nc C (rst R)) : Met l yX6_addScriptCues wsX6_addScriptCues ({ frames := 4, cells := 0, slots := 0, locals := 86 } : Room) (PC D dA b w [.ref (b + 0)]) (QW D b (some (.int (nI ((rgo nc C (rst R) (nc + 1) P 0).2)))) (fun w' => isPlay dA b w' 2 (rgo nc C (rst R) (nc + 1) P 0).1 ∧ (∃ R' : Rd, isRdr dA b w' 34 R') ∧ ∀ id : Nat, (id < 2 ∨ 8 ≤ id) → id ≠ 34 → id ≠ 35 → w' id = w id)) 0 0 (Fb b) := by
  refine q_of (cc := cX6_addScriptCues) (maxL := 5) (ret := (some .int)) (by decide) rfl rfl ?_
  intro p e s m args below meth c ls hx hb hr hml hts hown hlocks hG hW hS hl
  have hown : s.vm.findClass RX6 = some m.cls := hown
  have hinX6 : ∀ w ∈ u_ws RX6 TX6 8, w ∈ wsX6_addScriptCues := fun w h => (goodIn_r (big := wsX6_addScriptCues) (u_ws RX6 TX6 8) [76, 77, 78, 79, 80, 81, 82, 83] (by decide +kernel) (by decide +kernel) w h).1
  have hl : lv_has ls 5 [(0, .ref (b + 0))] := hl
  have hnc := hsc.2.2.1
  refine lv_iconst (v := nI 0) hx hb dX6_addScriptCues_0 (by decide) ?_
  refine lv_istore_n (lv' := [(1, .int (nI 0)), (0, .ref (b + 0))]) hx hb dX6_addScriptCues_1 rfl hl (by decide) rfl (fun ls hl => ?_)
  refine lv_aload_n hx hb dX6_addScriptCues_2 rfl (lv_at hl 1 rfl) ?_
  refine q_get hx hb hts hinX6 hown hG hW hs0 rfl 7 (by decide) (hts (.fieldLink RX6 52 "FoleyMixer" "reader" "LFoleyMixer$CueReader;") (List.mem_of_getElem? (i := 1) rfl)) rfl rfl dX6_addScriptCues_3 ?_
  refine q_W0 (va_runVN (As := []) (rest := []) ⟨hx, hb, hml, hown, hts⟩ (c_X0_restart l hR) ⟨(va_cnB 0 hts gX6_addScriptCues_X0_restart_n290 rfl rfl rfl (hG.nest 72 rfl) (hts (.initialized RX0) (List.mem_of_getElem? (i := 5) rfl)) (by decide +kernel) ⟨Nat.le_of_ble_eq_true rfl, Nat.le_of_ble_eq_true rfl⟩), (hts (.instanceMethod yX0_restart) (List.mem_of_getElem? (i := 4) rfl)), (hts (.selects RX0 yX0_restart yX0_restart) (List.mem_of_getElem? (i := 6) rfl))⟩ (q_preV hG hW hS (hR).1 rfl) rfl rfl hl.1 rfl (lv_room (Nat.le_of_ble_eq_true rfl)) dX6_addScriptCues_6 ⟨Nat.le_of_ble_eq_true rfl, Nat.le_of_ble_eq_true rfl⟩) hS (fun w_6 H locs hp6 hW hS => ?_)
  obtain ⟨hR, fr6⟩ := hp6
  replace hs0 : w_6 0 = some (sysO b) := (fr6 _ (by omega) (by omega)).trans hs0
  replace hp1 : isPlay dA b w_6 2 P := hp1.fr (fun id9 h7 h8 => fr6 id9 (by omega) (by omega))
  replace hsc : isScr dA b w_6 32 nc C := hsc.fr (fr6 _ (by omega) (by omega)) (fr6 _ (by omega) (by omega))
  refine lv_iconst (v := nI 0) hx hb dX6_addScriptCues_9 (by decide) ?_
  refine lv_istore_n (lv' := [(2, .int (nI 0)), (1, .int (nI 0)), (0, .ref (b + 0))]) hx hb dX6_addScriptCues_10 rfl hl (by decide) rfl (fun ls hl => ?_)
  have L11 : ∀ (n11 : Nat) (j cj : Nat) (Pj : Pl), j ≤ nc + 1 → cj ≤ j → rgo nc C (rst R) (nc + 1 - j) Pj cj = rgo nc C (rst R) (nc + 1) P 0 → nc + 1 - j < n11 → ∀ (x11_1 : Int32) (x11_2 : Int32), x11_1 = nI (cj) → x11_2 = nI (j) → ∀ (wa : Wd) (H : Heap) (locs : List Loc), wa 0 = some (sysO b) → isPlay dA b wa 2 Pj → isScr dA b wa 32 nc C → isRdr dA b wa 34 (rrun nc C (rst R) j) → (∀ id : Nat, (id < 2 ∨ 8 ≤ id) → id ≠ 34 → id ≠ 35 → wa id = w id) → WP D b wa H → va_S (Fb b) s.heap H locs → ∀ (ls : Array Slot), lv_has ls 5 [(0, .ref (b + 0)), (1, .int x11_1), (2, .int x11_2)] → W p l e ({ frames := 4, cells := 0, slots := 0, locals := 86 } : Room) s m args below meth c H locs 0 0 (MQ below (QW D b (some (.int (nI ((rgo nc C (rst R) (nc + 1) P 0).2)))) (fun w' => isPlay dA b w' 2 (rgo nc C (rst R) (nc + 1) P 0).1 ∧ (∃ R' : Rd, isRdr dA b w' 34 R') ∧ ∀ id : Nat, (id < 2 ∨ 8 ≤ id) → id ≠ 34 → id ≠ 35 → w' id = w id)) args s 0 0 (Fb b)) (F0 m 11 ls []) := by
    intro n11
    induction n11 with
    | zero =>
      intro j cj Pj hj0 hj1 hres hn11 x11_1 x11_2 ex11_1 ex11_2 wa H locs hs0 hp1 hsc hR fr hW hS ls hl
      exact absurd hn11 (Nat.not_lt_zero _)
    | succ n11 ih11 =>
      intro j cj Pj hj0 hj1 hres hn11 x11_1 x11_2 ex11_1 ex11_2 wa H locs hs0 hp1 hsc hR fr hW hS ls hl
      subst ex11_1 ex11_2
      refine lv_iload_n hx hb dX6_addScriptCues_11 rfl (lv_at hl 2 rfl) ?_
      refine lv_aload_n hx hb dX6_addScriptCues_12 rfl (lv_at hl 0 rfl) ?_
      refine q_get hx hb hts hinX6 hown hG hW hs0 rfl 6 (by decide) (hts (.fieldLink RX6 45 "FoleyMixer" "script" "LFoleyMixer$Script;") (List.mem_of_getElem? (i := 2) rfl)) rfl rfl dX6_addScriptCues_13 ?_
      refine q_R1 (va_runVN (As := []) (rest := [.int (nI j)]) ⟨hx, hb, hml, hown, hts⟩ (c_X5_size l hsc) ⟨(va_cnB 0 hts gX6_addScriptCues_X5_size_n139 rfl rfl rfl (hG.nest 23 rfl) (hts (.initialized RX5) (List.mem_of_getElem? (i := 10) rfl)) (by decide +kernel) ⟨Nat.le_of_ble_eq_true rfl, Nat.le_of_ble_eq_true rfl⟩), (hts (.instanceMethod yX5_size) (List.mem_of_getElem? (i := 9) rfl)), (hts (.selects RX5 yX5_size yX5_size) (List.mem_of_getElem? (i := 11) rfl))⟩ (q_preV hG hW hS (hsc).1 rfl) rfl rfl hl.1 rfl (lv_room (Nat.le_of_ble_eq_true rfl)) dX6_addScriptCues_16 ⟨Nat.le_of_ble_eq_true rfl, Nat.le_of_ble_eq_true rfl⟩) ?_
      refine lv_icmp_gt (tgt := 154) hx hb dX6_addScriptCues_19 (by decide) (fun c_19 => ?_) (fun c_19 => ?_)
      · skip
        have c_19 : nc < j := (nI_ltI (a := nc) (b := j) (by omega) (by omega)).mp c_19
        refine lv_iload_n hx hb dX6_addScriptCues_154 rfl (lv_at hl 1 rfl) ?_
        exact q_wi hx hb hr hlocks hW hS dX6_addScriptCues_155 (by rw [← hres, show nc + 1 - j = 0 by omega]; rfl) (by rw [← hres, show nc + 1 - j = 0 by omega]; exact ⟨hp1, ⟨_, hR⟩, fr⟩) (by decide) (by decide)
      · skip
        have c_19 : ¬ (nc < j) := fun h__ => c_19 ((nI_ltI (a := nc) (b := j) (by omega) (by omega)).mpr h__)
        refine lv_iload_n hx hb dX6_addScriptCues_22 rfl (lv_at hl 2 rfl) ?_
        refine lv_aload_n hx hb dX6_addScriptCues_23 rfl (lv_at hl 0 rfl) ?_
        refine q_get hx hb hts hinX6 hown hG hW hs0 rfl 6 (by decide) (hts (.fieldLink RX6 45 "FoleyMixer" "script" "LFoleyMixer$Script;") (List.mem_of_getElem? (i := 2) rfl)) rfl rfl dX6_addScriptCues_24 ?_
        refine q_R1 (va_runVN (As := []) (rest := [.int (nI j)]) ⟨hx, hb, hml, hown, hts⟩ (c_X5_size l hsc) ⟨(va_cnB 0 hts gX6_addScriptCues_X5_size_n139 rfl rfl rfl (hG.nest 23 rfl) (hts (.initialized RX5) (List.mem_of_getElem? (i := 10) rfl)) (by decide +kernel) ⟨Nat.le_of_ble_eq_true rfl, Nat.le_of_ble_eq_true rfl⟩), (hts (.instanceMethod yX5_size) (List.mem_of_getElem? (i := 9) rfl)), (hts (.selects RX5 yX5_size yX5_size) (List.mem_of_getElem? (i := 11) rfl))⟩ (q_preV hG hW hS (hsc).1 rfl) rfl rfl hl.1 rfl (lv_room (Nat.le_of_ble_eq_true rfl)) dX6_addScriptCues_27 ⟨Nat.le_of_ble_eq_true rfl, Nat.le_of_ble_eq_true rfl⟩) ?_
        refine lv_icmp_eq (tgt := 46) hx hb dX6_addScriptCues_30 (by decide) (fun c_30 => ?_) (fun c_30 => ?_)
        · skip
          have c_30 : j = nc := (nI_eq (a := j) (b := nc) (by omega) (by omega)).mp c_30
          have hce : cEnd nc C j := by first | exact Or.inl (by omega) | exact Or.inr ((oI_some (fun v hv => cAt_b hsc.2.2.2 hv) (by omega)).mp (by first | exact c_43 | exact Decidable.of_not_not c_43))
          obtain ⟨hkd, s9, l9, d9, hn0, hn1, hn2, hb0, hb1, hb2, hb3⟩ := whl_num (invR_rst R) hw (by omega) hce
          refine lv_aload_n hx hb dX6_addScriptCues_46 rfl (lv_at hl 0 rfl) ?_
          refine q_get hx hb hts hinX6 hown hG hW hs0 rfl 2 (by decide) (hts (.fieldLink RX6 23 "FoleyMixer" "now" "LFoleyMixer$Play;") (List.mem_of_getElem? (i := 3) rfl)) rfl rfl dX6_addScriptCues_47 ?_
          refine lv_aload_n hx hb dX6_addScriptCues_50 rfl (lv_at hl 0 rfl) ?_
          refine q_get hx hb hts hinX6 hown hG hW hs0 rfl 7 (by decide) (hts (.fieldLink RX6 52 "FoleyMixer" "reader" "LFoleyMixer$CueReader;") (List.mem_of_getElem? (i := 1) rfl)) rfl rfl dX6_addScriptCues_51 ?_
          refine q_R1 (va_runVN (As := []) (rest := [.ref (b + 2)]) ⟨hx, hb, hml, hown, hts⟩ (c_X0_kind l hR) ⟨(va_cnB 0 hts gX6_addScriptCues_X0_kind_n293 rfl rfl rfl (hG.nest 74 rfl) (hts (.initialized RX0) (List.mem_of_getElem? (i := 5) rfl)) (by decide +kernel) ⟨Nat.le_of_ble_eq_true rfl, Nat.le_of_ble_eq_true rfl⟩), (hts (.instanceMethod yX0_kind) (List.mem_of_getElem? (i := 21) rfl)), (hts (.selects RX0 yX0_kind yX0_kind) (List.mem_of_getElem? (i := 22) rfl))⟩ (q_preV hG hW hS (hR).1 rfl) rfl rfl hl.1 rfl (lv_room (Nat.le_of_ble_eq_true rfl)) dX6_addScriptCues_54 ⟨Nat.le_of_ble_eq_true rfl, Nat.le_of_ble_eq_true rfl⟩) ?_
          refine lv_bipush (v := nI 119) hx hb dX6_addScriptCues_57 (by decide) ?_
          refine lv_icmp_ne (tgt := 66) hx hb dX6_addScriptCues_59 (by decide) (fun c_59 => ?_) (fun c_59 => ?_)
          · skip
            have hk9 : ¬ (rrun nc C (rst R) j).2.1 = nI 119 := c_59
            refine lv_iconst (v := nI 0) hx hb dX6_addScriptCues_66 (by decide) ?_
            refine q_R1 (va_runVN (As := [.int (nI 0)]) (rest := []) ⟨hx, hb, hml, hown, hts⟩ (c_cuesOf_f l hp1) ⟨(va_cnB 1 hts gX6_addScriptCues_X4_cuesOf_n71 rfl rfl rfl (hG.nest 33 rfl) (hts (.initialized RX4) (List.mem_of_getElem? (i := 26) rfl)) (by decide +kernel) ⟨Nat.le_of_ble_eq_true rfl, Nat.le_of_ble_eq_true rfl⟩), (hts (.instanceMethod yX4_cuesOf) (List.mem_of_getElem? (i := 25) rfl)), (hts (.selects RX4 yX4_cuesOf yX4_cuesOf) (List.mem_of_getElem? (i := 27) rfl))⟩ (q_preV hG hW hS (hp1).1 rfl) rfl rfl hl.1 rfl (lv_room (Nat.le_of_ble_eq_true rfl)) dX6_addScriptCues_67 ⟨Nat.le_of_ble_eq_true rfl, Nat.le_of_ble_eq_true rfl⟩) ?_
            refine lv_astore_n (lv' := [(3, .ref (b + (2 + 3))), (0, .ref (b + 0)), (1, .int (nI cj)), (2, .int (nI j))]) hx hb dX6_addScriptCues_70 rfl hl (by decide) rfl (fun ls hl => ?_)
            refine lv_aload_n hx hb dX6_addScriptCues_71 rfl (lv_at hl 0 rfl) ?_
            refine q_R1 (va_runVN (As := []) (rest := []) ⟨hx, hb, hml, hown, hts⟩ (c_X1_isFull l (hp1).2.2.1) ⟨(va_cnB 0 hts gX6_addScriptCues_X1_isFull_n284 rfl rfl rfl (hG.nest 60 rfl) (hts (.initialized RX1) (List.mem_of_getElem? (i := 32) rfl)) (by decide +kernel) ⟨Nat.le_of_ble_eq_true rfl, Nat.le_of_ble_eq_true rfl⟩), (hts (.instanceMethod yX1_isFull) (List.mem_of_getElem? (i := 31) rfl)), (hts (.selects RX1 yX1_isFull yX1_isFull) (List.mem_of_getElem? (i := 33) rfl))⟩ (q_preV hG hW hS (isCues.obj (hp1).2.2.1) rfl) rfl rfl hl.1 rfl (lv_room (Nat.le_of_ble_eq_true rfl)) dX6_addScriptCues_72 ⟨Nat.le_of_ble_eq_true rfl, Nat.le_of_ble_eq_true rfl⟩) ?_
            refine lv_if_eq (tgt := 80) hx hb dX6_addScriptCues_75 (by decide) (fun c_75 => ?_) (fun c_75 => ?_)
            · skip
              have c_75 : ¬ (12 ≤ Pj.n) := pI_eq0.mp c_75
              have hnf : ¬ rfull Pj (rrun nc C (rst R) j) := by unfold rfull; first | (rw [if_pos hk9]; omega) | (rw [if_neg hk9]; omega)
              refine lv_aload_n hx hb dX6_addScriptCues_80 rfl (lv_at hl 1 rfl) ?_
              refine q_get hx hb hts hinX6 hown hG hW hs0 rfl 7 (by decide) (hts (.fieldLink RX6 52 "FoleyMixer" "reader" "LFoleyMixer$CueReader;") (List.mem_of_getElem? (i := 1) rfl)) rfl rfl dX6_addScriptCues_81 ?_
              refine q_R1 (va_runVN (As := []) (rest := []) ⟨hx, hb, hml, hown, hts⟩ (c_X0_kind l hR) ⟨(va_cnB 0 hts gX6_addScriptCues_X0_kind_n293 rfl rfl rfl (hG.nest 74 rfl) (hts (.initialized RX0) (List.mem_of_getElem? (i := 5) rfl)) (by decide +kernel) ⟨Nat.le_of_ble_eq_true rfl, Nat.le_of_ble_eq_true rfl⟩), (hts (.instanceMethod yX0_kind) (List.mem_of_getElem? (i := 21) rfl)), (hts (.selects RX0 yX0_kind yX0_kind) (List.mem_of_getElem? (i := 22) rfl))⟩ (q_preV hG hW hS (hR).1 rfl) rfl rfl hl.1 rfl (lv_room (Nat.le_of_ble_eq_true rfl)) dX6_addScriptCues_84 ⟨Nat.le_of_ble_eq_true rfl, Nat.le_of_ble_eq_true rfl⟩) ?_
              refine lv_bipush (v := nI 78) hx hb dX6_addScriptCues_87 (by decide) ?_
              refine lv_icmp_ne (tgt := 96) hx hb dX6_addScriptCues_89 (by decide) (fun c_89 => ?_) (fun c_89 => ?_)
              · skip
                have hg9 : ¬ (rrun nc C (rst R) j).2.1 = nI 78 := c_89
                refine lv_iconst (v := nI 0) hx hb dX6_addScriptCues_96 (by decide) ?_
                refine lv_istore (lv' := [(4, .int (nI 0)), (3, .ref (b + (2 + 3))), (0, .ref (b + 0)), (1, .int (nI cj)), (2, .int (nI j))]) hx hb dX6_addScriptCues_97 hl (by decide) rfl (fun ls hl => ?_)
                refine lv_aload_n hx hb dX6_addScriptCues_99 rfl (lv_at hl 1 rfl) ?_
                refine lv_aload_n hx hb dX6_addScriptCues_100 rfl (lv_at hl 2 rfl) ?_
                refine q_get hx hb hts hinX6 hown hG hW hs0 rfl 7 (by decide) (hts (.fieldLink RX6 52 "FoleyMixer" "reader" "LFoleyMixer$CueReader;") (List.mem_of_getElem? (i := 1) rfl)) rfl rfl dX6_addScriptCues_101 ?_
                refine lv_iconst (v := nI 0) hx hb dX6_addScriptCues_104 (by decide) ?_
                refine q_R1 (va_runVN (As := [.int (nI 0)]) (rest := [.ref (b + (2 + 3))]) ⟨hx, hb, hml, hown, hts⟩ (c_X0_numberOf l hR (0) (by omega)) ⟨(va_cnB 1 hts gX6_addScriptCues_X0_numberOf_n296 rfl rfl rfl (hG.nest 75 rfl) (hts (.initialized RX0) (List.mem_of_getElem? (i := 5) rfl)) (by decide +kernel) ⟨Nat.le_of_ble_eq_true rfl, Nat.le_of_ble_eq_true rfl⟩), (hts (.instanceMethod yX0_numberOf) (List.mem_of_getElem? (i := 37) rfl)), (hts (.selects RX0 yX0_numberOf yX0_numberOf) (List.mem_of_getElem? (i := 38) rfl))⟩ (q_preV hG hW hS (hR).1 rfl) rfl rfl hl.1 rfl (lv_room (Nat.le_of_ble_eq_true rfl)) dX6_addScriptCues_105 ⟨Nat.le_of_ble_eq_true rfl, Nat.le_of_ble_eq_true rfl⟩) ?_
                refine q_top (y := nI (s9)) (by rw [hn0]; rfl) ?_
                refine lv_aload_n hx hb dX6_addScriptCues_108 rfl (lv_at hl 2 rfl) ?_
                refine q_get hx hb hts hinX6 hown hG hW hs0 rfl 7 (by decide) (hts (.fieldLink RX6 52 "FoleyMixer" "reader" "LFoleyMixer$CueReader;") (List.mem_of_getElem? (i := 1) rfl)) rfl rfl dX6_addScriptCues_109 ?_
                refine lv_iconst (v := nI 1) hx hb dX6_addScriptCues_112 (by decide) ?_
                refine q_R1 (va_runVN (As := [.int (nI 1)]) (rest := [.int (nI s9), .ref (b + (2 + 3))]) ⟨hx, hb, hml, hown, hts⟩ (c_X0_numberOf l hR (1) (by omega)) ⟨(va_cnB 1 hts gX6_addScriptCues_X0_numberOf_n296 rfl rfl rfl (hG.nest 75 rfl) (hts (.initialized RX0) (List.mem_of_getElem? (i := 5) rfl)) (by decide +kernel) ⟨Nat.le_of_ble_eq_true rfl, Nat.le_of_ble_eq_true rfl⟩), (hts (.instanceMethod yX0_numberOf) (List.mem_of_getElem? (i := 37) rfl)), (hts (.selects RX0 yX0_numberOf yX0_numberOf) (List.mem_of_getElem? (i := 38) rfl))⟩ (q_preV hG hW hS (hR).1 rfl) rfl rfl hl.1 rfl (lv_room (Nat.le_of_ble_eq_true rfl)) dX6_addScriptCues_113 ⟨Nat.le_of_ble_eq_true rfl, Nat.le_of_ble_eq_true rfl⟩) ?_
                refine q_top (y := nI (l9)) (by rw [hn1]; rfl) ?_
                refine lv_aload_n hx hb dX6_addScriptCues_116 rfl (lv_at hl 2 rfl) ?_
                refine q_get hx hb hts hinX6 hown hG hW hs0 rfl 7 (by decide) (hts (.fieldLink RX6 52 "FoleyMixer" "reader" "LFoleyMixer$CueReader;") (List.mem_of_getElem? (i := 1) rfl)) rfl rfl dX6_addScriptCues_117 ?_
                refine lv_iconst (v := nI 2) hx hb dX6_addScriptCues_120 (by decide) ?_
                refine q_R1 (va_runVN (As := [.int (nI 2)]) (rest := [.int (nI l9), .int (nI s9), .ref (b + (2 + 3))]) ⟨hx, hb, hml, hown, hts⟩ (c_X0_numberOf l hR (2) (by omega)) ⟨(va_cnB 1 hts gX6_addScriptCues_X0_numberOf_n296 rfl rfl rfl (hG.nest 75 rfl) (hts (.initialized RX0) (List.mem_of_getElem? (i := 5) rfl)) (by decide +kernel) ⟨Nat.le_of_ble_eq_true rfl, Nat.le_of_ble_eq_true rfl⟩), (hts (.instanceMethod yX0_numberOf) (List.mem_of_getElem? (i := 37) rfl)), (hts (.selects RX0 yX0_numberOf yX0_numberOf) (List.mem_of_getElem? (i := 38) rfl))⟩ (q_preV hG hW hS (hR).1 rfl) rfl rfl hl.1 rfl (lv_room (Nat.le_of_ble_eq_true rfl)) dX6_addScriptCues_121 ⟨Nat.le_of_ble_eq_true rfl, Nat.le_of_ble_eq_true rfl⟩) ?_
                refine q_top (y := nI (d9)) (by rw [hn2]; rfl) ?_
                refine lv_iload hx hb dX6_addScriptCues_124 (lv_at hl 0 rfl) ?_
                obtain ⟨hq0, hq1, hq3, hoS, hq5⟩ := id hp1
                refine q_W0 (va_runVN (As := [.int (nI s9), .int (nI l9), .int (nI d9), .int (nI 0)]) (rest := []) ⟨hx, hb, hml, hown, hts⟩ (c_X1_add l hq3 (s9) (l9) (d9) (0) (by omega) (by omega) (by omega) (by omega) (by omega) (by omega)) ⟨(va_cnB 4 hts gX6_addScriptCues_X1_add_n287 rfl rfl rfl (hG.nest 64 rfl) (hts (.initialized RX1) (List.mem_of_getElem? (i := 32) rfl)) (by decide +kernel) ⟨Nat.le_of_ble_eq_true rfl, Nat.le_of_ble_eq_true rfl⟩), (hts (.instanceMethod yX1_add) (List.mem_of_getElem? (i := 41) rfl)), (hts (.selects RX1 yX1_add yX1_add) (List.mem_of_getElem? (i := 42) rfl))⟩ (q_preV hG hW hS (isCues.obj (hp1).2.2.1) rfl) rfl rfl hl.1 rfl (lv_room (Nat.le_of_ble_eq_true rfl)) dX6_addScriptCues_126 ⟨Nat.le_of_ble_eq_true rfl, Nat.le_of_ble_eq_true rfl⟩) hS (fun w_126 H locs hp126 hW hS => ?_)
                obtain ⟨hq3, fr126⟩ := hp126
                replace hs0 : w_126 0 = some (sysO b) := (fr126 _ (by omega) (by omega)).trans hs0
                replace hsc : isScr dA b w_126 32 nc C := hsc.fr (fr126 _ (by omega) (by omega)) (fr126 _ (by omega) (by omega))
                replace hR : isRdr dA b w_126 34 ((rrun nc C (rst R) j)) := hR.fr (fr126 _ (by omega) (by omega)) (fr126 _ (by omega) (by omega))
                replace hq0 : w_126 2 = some (.inr (4, [.ref (b + (2 + 1)), .ref (b + (2 + 3)), .ref (b + (2 + 5))])) := (fr126 _ (by omega) (by omega)).trans hq0
                replace hq1 : isCues dA b w_126 (2 + 1) 10 Pj.w Pj.W := hq1.fr (fr126 _ (by omega) (by omega)) (fr126 _ (by omega) (by omega))
                replace hq5 : w_126 (2 + 5) = some (eN dA 5 Pj.S) := (fr126 _ (by omega) (by omega)).trans hq5
                have e9 : radd Pj (rrun nc C (rst R) j) = (Pj.w, Pj.W, Pj.n + 1, addV Pj.N Pj.n s9 l9 d9 0, Pj.S) := by unfold radd rnm; rw [if_neg hk9, hn0, hn1, hn2, if_neg hg9]; rfl
                have hp1 : isPlay dA b w_126 2 (radd Pj (rrun nc C (rst R) j)) := by rw [e9]; exact ⟨hq0, hq1, hq3, hoS, hq5⟩
                refine lv_iinc (v := nI (cj + 1)) (lv' := [(1, .int (nI (cj + 1))), (4, .int (nI 0)), (3, .ref (b + (2 + 3))), (0, .ref (b + 0)), (2, .int (nI j))]) hx hb dX6_addScriptCues_129 hl (k := 3) rfl (nI_add _ 1) (by decide) rfl (fun ls hl => ?_)
                refine lv_aload_n hx hb dX6_addScriptCues_132 rfl (lv_at hl 3 rfl) ?_
                refine q_get hx hb hts hinX6 hown hG hW hs0 rfl 7 (by decide) (hts (.fieldLink RX6 52 "FoleyMixer" "reader" "LFoleyMixer$CueReader;") (List.mem_of_getElem? (i := 1) rfl)) rfl rfl dX6_addScriptCues_133 ?_
                refine lv_aload_n hx hb dX6_addScriptCues_136 rfl (lv_at hl 3 rfl) ?_
                refine q_get hx hb hts hinX6 hown hG hW hs0 rfl 6 (by decide) (hts (.fieldLink RX6 45 "FoleyMixer" "script" "LFoleyMixer$Script;") (List.mem_of_getElem? (i := 2) rfl)) rfl rfl dX6_addScriptCues_137 ?_
                refine lv_iload_n hx hb dX6_addScriptCues_140 rfl (lv_at hl 4 rfl) ?_
                refine q_R1 (va_runVN (As := [.int (nI j)]) (rest := [.ref (b + 34)]) ⟨hx, hb, hml, hown, hts⟩ (c_X5_codeAt l hsc (j) (by omega)) ⟨(va_cnB 1 hts gX6_addScriptCues_X5_codeAt_n161 rfl rfl rfl (hG.nest 73 rfl) (hts (.initialized RX5) (List.mem_of_getElem? (i := 10) rfl)) (by decide +kernel) ⟨Nat.le_of_ble_eq_true rfl, Nat.le_of_ble_eq_true rfl⟩), (hts (.instanceMethod yX5_codeAt) (List.mem_of_getElem? (i := 14) rfl)), (hts (.selects RX5 yX5_codeAt yX5_codeAt) (List.mem_of_getElem? (i := 15) rfl))⟩ (q_preV hG hW hS (hsc).1 rfl) rfl rfl hl.1 rfl (lv_room (Nat.le_of_ble_eq_true rfl)) dX6_addScriptCues_141 ⟨Nat.le_of_ble_eq_true rfl, Nat.le_of_ble_eq_true rfl⟩) ?_
                refine q_W1 (va_runVN (As := [.int (oI (cAt nc C j))]) (rest := []) ⟨hx, hb, hml, hown, hts⟩ (c_take_o l hR (cAt nc C j) (fun v hv => cAt_b hsc.2.2.2 hv)) ⟨(va_cnB 1 hts gX6_addScriptCues_X0_take_n298 rfl rfl rfl (hG.nest 76 rfl) (hts (.initialized RX0) (List.mem_of_getElem? (i := 5) rfl)) (by decide +kernel) ⟨Nat.le_of_ble_eq_true rfl, Nat.le_of_ble_eq_true rfl⟩), (hts (.instanceMethod yX0_take) (List.mem_of_getElem? (i := 51) rfl)), (hts (.selects RX0 yX0_take yX0_take) (List.mem_of_getElem? (i := 52) rfl))⟩ (q_preV hG hW hS (hR).1 rfl) rfl rfl hl.1 rfl (lv_room (Nat.le_of_ble_eq_true rfl)) dX6_addScriptCues_144 ⟨Nat.le_of_ble_eq_true rfl, Nat.le_of_ble_eq_true rfl⟩) hS (fun w_144 H locs hp144 hW hS => ?_)
                obtain ⟨hR, fr144⟩ := hp144
                replace hs0 : w_144 0 = some (sysO b) := (fr144 _ (by omega) (by omega)).trans hs0
                replace hsc : isScr dA b w_144 32 nc C := hsc.fr (fr144 _ (by omega) (by omega)) (fr144 _ (by omega) (by omega))
                replace hp1 : isPlay dA b w_144 2 (radd Pj (rrun nc C (rst R) j)) := hp1.fr (fun id9 h7 h8 => fr144 id9 (by omega) (by omega))
                refine lv_pop hx hb dX6_addScriptCues_147 rfl ?_
                refine lv_iinc (v := nI (j + 1)) (lv' := [(2, .int (nI (j + 1))), (1, .int (nI (cj + 1))), (4, .int (nI 0)), (3, .ref (b + (2 + 3))), (0, .ref (b + 0))]) hx hb dX6_addScriptCues_148 hl (k := 4) rfl (nI_add _ 1) (by decide) rfl (fun ls hl => ?_)
                refine lv_goto (tgt := 11) hx hb dX6_addScriptCues_151 (by decide) ?_
                exact ih11 (j + 1) (cj + 1) (radd Pj (rrun nc C (rst R) j)) (by omega) (by omega) (by first | rfl | exact (rgo_add (by omega) hce hnf).symm.trans hres | exact (rgo_pass (by omega) hnc9).symm.trans hres) (by omega) _ _ (by first | rfl | (congr 1; omega)) (by first | rfl | (congr 1; omega)) _ _ _ (by exact hs0) (by exact hp1) (by exact hsc) (by exact hR) (by intro id h7 h8 h9; rw [fr144 id (by omega) (by omega)]; rw [fr126 id (by omega) (by omega)]; exact fr id h7 h8 h9) hW hS _ (lv_sub hl [4, 1, 0] rfl)
              · skip
                have hg9 : (rrun nc C (rst R) j).2.1 = nI 78 := by first | exact c_89 | exact Decidable.of_not_not c_89
                refine lv_iconst (v := nI 1) hx hb dX6_addScriptCues_92 (by decide) ?_
                refine lv_goto (tgt := 97) hx hb dX6_addScriptCues_93 (by decide) ?_
                refine lv_istore (lv' := [(4, .int (nI 1)), (3, .ref (b + (2 + 3))), (0, .ref (b + 0)), (1, .int (nI cj)), (2, .int (nI j))]) hx hb dX6_addScriptCues_97 hl (by decide) rfl (fun ls hl => ?_)
                refine lv_aload_n hx hb dX6_addScriptCues_99 rfl (lv_at hl 1 rfl) ?_
                refine lv_aload_n hx hb dX6_addScriptCues_100 rfl (lv_at hl 2 rfl) ?_
                refine q_get hx hb hts hinX6 hown hG hW hs0 rfl 7 (by decide) (hts (.fieldLink RX6 52 "FoleyMixer" "reader" "LFoleyMixer$CueReader;") (List.mem_of_getElem? (i := 1) rfl)) rfl rfl dX6_addScriptCues_101 ?_
                refine lv_iconst (v := nI 0) hx hb dX6_addScriptCues_104 (by decide) ?_
                refine q_R1 (va_runVN (As := [.int (nI 0)]) (rest := [.ref (b + (2 + 3))]) ⟨hx, hb, hml, hown, hts⟩ (c_X0_numberOf l hR (0) (by omega)) ⟨(va_cnB 1 hts gX6_addScriptCues_X0_numberOf_n296 rfl rfl rfl (hG.nest 75 rfl) (hts (.initialized RX0) (List.mem_of_getElem? (i := 5) rfl)) (by decide +kernel) ⟨Nat.le_of_ble_eq_true rfl, Nat.le_of_ble_eq_true rfl⟩), (hts (.instanceMethod yX0_numberOf) (List.mem_of_getElem? (i := 37) rfl)), (hts (.selects RX0 yX0_numberOf yX0_numberOf) (List.mem_of_getElem? (i := 38) rfl))⟩ (q_preV hG hW hS (hR).1 rfl) rfl rfl hl.1 rfl (lv_room (Nat.le_of_ble_eq_true rfl)) dX6_addScriptCues_105 ⟨Nat.le_of_ble_eq_true rfl, Nat.le_of_ble_eq_true rfl⟩) ?_
                refine q_top (y := nI (s9)) (by rw [hn0]; rfl) ?_
                refine lv_aload_n hx hb dX6_addScriptCues_108 rfl (lv_at hl 2 rfl) ?_
                refine q_get hx hb hts hinX6 hown hG hW hs0 rfl 7 (by decide) (hts (.fieldLink RX6 52 "FoleyMixer" "reader" "LFoleyMixer$CueReader;") (List.mem_of_getElem? (i := 1) rfl)) rfl rfl dX6_addScriptCues_109 ?_
                refine lv_iconst (v := nI 1) hx hb dX6_addScriptCues_112 (by decide) ?_
                refine q_R1 (va_runVN (As := [.int (nI 1)]) (rest := [.int (nI s9), .ref (b + (2 + 3))]) ⟨hx, hb, hml, hown, hts⟩ (c_X0_numberOf l hR (1) (by omega)) ⟨(va_cnB 1 hts gX6_addScriptCues_X0_numberOf_n296 rfl rfl rfl (hG.nest 75 rfl) (hts (.initialized RX0) (List.mem_of_getElem? (i := 5) rfl)) (by decide +kernel) ⟨Nat.le_of_ble_eq_true rfl, Nat.le_of_ble_eq_true rfl⟩), (hts (.instanceMethod yX0_numberOf) (List.mem_of_getElem? (i := 37) rfl)), (hts (.selects RX0 yX0_numberOf yX0_numberOf) (List.mem_of_getElem? (i := 38) rfl))⟩ (q_preV hG hW hS (hR).1 rfl) rfl rfl hl.1 rfl (lv_room (Nat.le_of_ble_eq_true rfl)) dX6_addScriptCues_113 ⟨Nat.le_of_ble_eq_true rfl, Nat.le_of_ble_eq_true rfl⟩) ?_
                refine q_top (y := nI (l9)) (by rw [hn1]; rfl) ?_
                refine lv_aload_n hx hb dX6_addScriptCues_116 rfl (lv_at hl 2 rfl) ?_
                refine q_get hx hb hts hinX6 hown hG hW hs0 rfl 7 (by decide) (hts (.fieldLink RX6 52 "FoleyMixer" "reader" "LFoleyMixer$CueReader;") (List.mem_of_getElem? (i := 1) rfl)) rfl rfl dX6_addScriptCues_117 ?_
                refine lv_iconst (v := nI 2) hx hb dX6_addScriptCues_120 (by decide) ?_
                refine q_R1 (va_runVN (As := [.int (nI 2)]) (rest := [.int (nI l9), .int (nI s9), .ref (b + (2 + 3))]) ⟨hx, hb, hml, hown, hts⟩ (c_X0_numberOf l hR (2) (by omega)) ⟨(va_cnB 1 hts gX6_addScriptCues_X0_numberOf_n296 rfl rfl rfl (hG.nest 75 rfl) (hts (.initialized RX0) (List.mem_of_getElem? (i := 5) rfl)) (by decide +kernel) ⟨Nat.le_of_ble_eq_true rfl, Nat.le_of_ble_eq_true rfl⟩), (hts (.instanceMethod yX0_numberOf) (List.mem_of_getElem? (i := 37) rfl)), (hts (.selects RX0 yX0_numberOf yX0_numberOf) (List.mem_of_getElem? (i := 38) rfl))⟩ (q_preV hG hW hS (hR).1 rfl) rfl rfl hl.1 rfl (lv_room (Nat.le_of_ble_eq_true rfl)) dX6_addScriptCues_121 ⟨Nat.le_of_ble_eq_true rfl, Nat.le_of_ble_eq_true rfl⟩) ?_
                refine q_top (y := nI (d9)) (by rw [hn2]; rfl) ?_
                refine lv_iload hx hb dX6_addScriptCues_124 (lv_at hl 0 rfl) ?_
                obtain ⟨hq0, hq1, hq3, hoS, hq5⟩ := id hp1
                refine q_W0 (va_runVN (As := [.int (nI s9), .int (nI l9), .int (nI d9), .int (nI 1)]) (rest := []) ⟨hx, hb, hml, hown, hts⟩ (c_X1_add l hq3 (s9) (l9) (d9) (1) (by omega) (by omega) (by omega) (by omega) (by omega) (by omega)) ⟨(va_cnB 4 hts gX6_addScriptCues_X1_add_n287 rfl rfl rfl (hG.nest 64 rfl) (hts (.initialized RX1) (List.mem_of_getElem? (i := 32) rfl)) (by decide +kernel) ⟨Nat.le_of_ble_eq_true rfl, Nat.le_of_ble_eq_true rfl⟩), (hts (.instanceMethod yX1_add) (List.mem_of_getElem? (i := 41) rfl)), (hts (.selects RX1 yX1_add yX1_add) (List.mem_of_getElem? (i := 42) rfl))⟩ (q_preV hG hW hS (isCues.obj (hp1).2.2.1) rfl) rfl rfl hl.1 rfl (lv_room (Nat.le_of_ble_eq_true rfl)) dX6_addScriptCues_126 ⟨Nat.le_of_ble_eq_true rfl, Nat.le_of_ble_eq_true rfl⟩) hS (fun w_126 H locs hp126 hW hS => ?_)
                obtain ⟨hq3, fr126⟩ := hp126
                replace hs0 : w_126 0 = some (sysO b) := (fr126 _ (by omega) (by omega)).trans hs0
                replace hsc : isScr dA b w_126 32 nc C := hsc.fr (fr126 _ (by omega) (by omega)) (fr126 _ (by omega) (by omega))
                replace hR : isRdr dA b w_126 34 ((rrun nc C (rst R) j)) := hR.fr (fr126 _ (by omega) (by omega)) (fr126 _ (by omega) (by omega))
                replace hq0 : w_126 2 = some (.inr (4, [.ref (b + (2 + 1)), .ref (b + (2 + 3)), .ref (b + (2 + 5))])) := (fr126 _ (by omega) (by omega)).trans hq0
                replace hq1 : isCues dA b w_126 (2 + 1) 10 Pj.w Pj.W := hq1.fr (fr126 _ (by omega) (by omega)) (fr126 _ (by omega) (by omega))
                replace hq5 : w_126 (2 + 5) = some (eN dA 5 Pj.S) := (fr126 _ (by omega) (by omega)).trans hq5
                have e9 : radd Pj (rrun nc C (rst R) j) = (Pj.w, Pj.W, Pj.n + 1, addV Pj.N Pj.n s9 l9 d9 1, Pj.S) := by unfold radd rnm; rw [if_neg hk9, hn0, hn1, hn2, if_pos hg9]; rfl
                have hp1 : isPlay dA b w_126 2 (radd Pj (rrun nc C (rst R) j)) := by rw [e9]; exact ⟨hq0, hq1, hq3, hoS, hq5⟩
                refine lv_iinc (v := nI (cj + 1)) (lv' := [(1, .int (nI (cj + 1))), (4, .int (nI 1)), (3, .ref (b + (2 + 3))), (0, .ref (b + 0)), (2, .int (nI j))]) hx hb dX6_addScriptCues_129 hl (k := 3) rfl (nI_add _ 1) (by decide) rfl (fun ls hl => ?_)
                refine lv_aload_n hx hb dX6_addScriptCues_132 rfl (lv_at hl 3 rfl) ?_
                refine q_get hx hb hts hinX6 hown hG hW hs0 rfl 7 (by decide) (hts (.fieldLink RX6 52 "FoleyMixer" "reader" "LFoleyMixer$CueReader;") (List.mem_of_getElem? (i := 1) rfl)) rfl rfl dX6_addScriptCues_133 ?_
                refine lv_aload_n hx hb dX6_addScriptCues_136 rfl (lv_at hl 3 rfl) ?_
                refine q_get hx hb hts hinX6 hown hG hW hs0 rfl 6 (by decide) (hts (.fieldLink RX6 45 "FoleyMixer" "script" "LFoleyMixer$Script;") (List.mem_of_getElem? (i := 2) rfl)) rfl rfl dX6_addScriptCues_137 ?_
                refine lv_iload_n hx hb dX6_addScriptCues_140 rfl (lv_at hl 4 rfl) ?_
                refine q_R1 (va_runVN (As := [.int (nI j)]) (rest := [.ref (b + 34)]) ⟨hx, hb, hml, hown, hts⟩ (c_X5_codeAt l hsc (j) (by omega)) ⟨(va_cnB 1 hts gX6_addScriptCues_X5_codeAt_n161 rfl rfl rfl (hG.nest 73 rfl) (hts (.initialized RX5) (List.mem_of_getElem? (i := 10) rfl)) (by decide +kernel) ⟨Nat.le_of_ble_eq_true rfl, Nat.le_of_ble_eq_true rfl⟩), (hts (.instanceMethod yX5_codeAt) (List.mem_of_getElem? (i := 14) rfl)), (hts (.selects RX5 yX5_codeAt yX5_codeAt) (List.mem_of_getElem? (i := 15) rfl))⟩ (q_preV hG hW hS (hsc).1 rfl) rfl rfl hl.1 rfl (lv_room (Nat.le_of_ble_eq_true rfl)) dX6_addScriptCues_141 ⟨Nat.le_of_ble_eq_true rfl, Nat.le_of_ble_eq_true rfl⟩) ?_
                refine q_W1 (va_runVN (As := [.int (oI (cAt nc C j))]) (rest := []) ⟨hx, hb, hml, hown, hts⟩ (c_take_o l hR (cAt nc C j) (fun v hv => cAt_b hsc.2.2.2 hv)) ⟨(va_cnB 1 hts gX6_addScriptCues_X0_take_n298 rfl rfl rfl (hG.nest 76 rfl) (hts (.initialized RX0) (List.mem_of_getElem? (i := 5) rfl)) (by decide +kernel) ⟨Nat.le_of_ble_eq_true rfl, Nat.le_of_ble_eq_true rfl⟩), (hts (.instanceMethod yX0_take) (List.mem_of_getElem? (i := 51) rfl)), (hts (.selects RX0 yX0_take yX0_take) (List.mem_of_getElem? (i := 52) rfl))⟩ (q_preV hG hW hS (hR).1 rfl) rfl rfl hl.1 rfl (lv_room (Nat.le_of_ble_eq_true rfl)) dX6_addScriptCues_144 ⟨Nat.le_of_ble_eq_true rfl, Nat.le_of_ble_eq_true rfl⟩) hS (fun w_144 H locs hp144 hW hS => ?_)
                obtain ⟨hR, fr144⟩ := hp144
                replace hs0 : w_144 0 = some (sysO b) := (fr144 _ (by omega) (by omega)).trans hs0
                replace hsc : isScr dA b w_144 32 nc C := hsc.fr (fr144 _ (by omega) (by omega)) (fr144 _ (by omega) (by omega))
                replace hp1 : isPlay dA b w_144 2 (radd Pj (rrun nc C (rst R) j)) := hp1.fr (fun id9 h7 h8 => fr144 id9 (by omega) (by omega))
                refine lv_pop hx hb dX6_addScriptCues_147 rfl ?_
                refine lv_iinc (v := nI (j + 1)) (lv' := [(2, .int (nI (j + 1))), (1, .int (nI (cj + 1))), (4, .int (nI 1)), (3, .ref (b + (2 + 3))), (0, .ref (b + 0))]) hx hb dX6_addScriptCues_148 hl (k := 4) rfl (nI_add _ 1) (by decide) rfl (fun ls hl => ?_)
                refine lv_goto (tgt := 11) hx hb dX6_addScriptCues_151 (by decide) ?_
                exact ih11 (j + 1) (cj + 1) (radd Pj (rrun nc C (rst R) j)) (by omega) (by omega) (by first | rfl | exact (rgo_add (by omega) hce hnf).symm.trans hres | exact (rgo_pass (by omega) hnc9).symm.trans hres) (by omega) _ _ (by first | rfl | (congr 1; omega)) (by first | rfl | (congr 1; omega)) _ _ _ (by exact hs0) (by exact hp1) (by exact hsc) (by exact hR) (by intro id h7 h8 h9; rw [fr144 id (by omega) (by omega)]; rw [fr126 id (by omega) (by omega)]; exact fr id h7 h8 h9) hW hS _ (lv_sub hl [4, 1, 0] rfl)
            · skip
              have c_75 : 12 ≤ Pj.n := Decidable.byContradiction (fun h__ => c_75 (pI_eq0.mpr h__))
              have hrf : rgo nc C (rst R) (nc + 1) P 0 = (Pj, cj) := hres.symm.trans (rgo_full (by omega) hce (by unfold rfull; first | (rw [if_pos hk9]; omega) | (rw [if_neg hk9]; omega)))
              refine lv_iload_n hx hb dX6_addScriptCues_78 rfl (lv_at hl 2 rfl) ?_
              exact q_wi hx hb hr hlocks hW hS dX6_addScriptCues_79 (by rw [hrf]) (by rw [hrf]; exact ⟨hp1, ⟨_, hR⟩, fr⟩) (by decide) (by decide)
          · skip
            have hk9 : (rrun nc C (rst R) j).2.1 = nI 119 := by first | exact c_59 | exact Decidable.of_not_not c_59
            refine lv_iconst (v := nI 1) hx hb dX6_addScriptCues_62 (by decide) ?_
            refine lv_goto (tgt := 67) hx hb dX6_addScriptCues_63 (by decide) ?_
            refine q_R1 (va_runVN (As := [.int (nI 1)]) (rest := []) ⟨hx, hb, hml, hown, hts⟩ (c_cuesOf_t l hp1) ⟨(va_cnB 1 hts gX6_addScriptCues_X4_cuesOf_n71 rfl rfl rfl (hG.nest 33 rfl) (hts (.initialized RX4) (List.mem_of_getElem? (i := 26) rfl)) (by decide +kernel) ⟨Nat.le_of_ble_eq_true rfl, Nat.le_of_ble_eq_true rfl⟩), (hts (.instanceMethod yX4_cuesOf) (List.mem_of_getElem? (i := 25) rfl)), (hts (.selects RX4 yX4_cuesOf yX4_cuesOf) (List.mem_of_getElem? (i := 27) rfl))⟩ (q_preV hG hW hS (hp1).1 rfl) rfl rfl hl.1 rfl (lv_room (Nat.le_of_ble_eq_true rfl)) dX6_addScriptCues_67 ⟨Nat.le_of_ble_eq_true rfl, Nat.le_of_ble_eq_true rfl⟩) ?_
            refine lv_astore_n (lv' := [(3, .ref (b + (2 + 1))), (0, .ref (b + 0)), (1, .int (nI cj)), (2, .int (nI j))]) hx hb dX6_addScriptCues_70 rfl hl (by decide) rfl (fun ls hl => ?_)
            refine lv_aload_n hx hb dX6_addScriptCues_71 rfl (lv_at hl 0 rfl) ?_
            refine q_R1 (va_runVN (As := []) (rest := []) ⟨hx, hb, hml, hown, hts⟩ (c_X1_isFull l (hp1).2.1) ⟨(va_cnB 0 hts gX6_addScriptCues_X1_isFull_n284 rfl rfl rfl (hG.nest 60 rfl) (hts (.initialized RX1) (List.mem_of_getElem? (i := 32) rfl)) (by decide +kernel) ⟨Nat.le_of_ble_eq_true rfl, Nat.le_of_ble_eq_true rfl⟩), (hts (.instanceMethod yX1_isFull) (List.mem_of_getElem? (i := 31) rfl)), (hts (.selects RX1 yX1_isFull yX1_isFull) (List.mem_of_getElem? (i := 33) rfl))⟩ (q_preV hG hW hS (isCues.obj (hp1).2.1) rfl) rfl rfl hl.1 rfl (lv_room (Nat.le_of_ble_eq_true rfl)) dX6_addScriptCues_72 ⟨Nat.le_of_ble_eq_true rfl, Nat.le_of_ble_eq_true rfl⟩) ?_
            refine lv_if_eq (tgt := 80) hx hb dX6_addScriptCues_75 (by decide) (fun c_75 => ?_) (fun c_75 => ?_)
            · skip
              have c_75 : ¬ (10 ≤ Pj.w) := pI_eq0.mp c_75
              have hnf : ¬ rfull Pj (rrun nc C (rst R) j) := by unfold rfull; first | (rw [if_pos hk9]; omega) | (rw [if_neg hk9]; omega)
              refine lv_aload_n hx hb dX6_addScriptCues_80 rfl (lv_at hl 1 rfl) ?_
              refine q_get hx hb hts hinX6 hown hG hW hs0 rfl 7 (by decide) (hts (.fieldLink RX6 52 "FoleyMixer" "reader" "LFoleyMixer$CueReader;") (List.mem_of_getElem? (i := 1) rfl)) rfl rfl dX6_addScriptCues_81 ?_
              refine q_R1 (va_runVN (As := []) (rest := []) ⟨hx, hb, hml, hown, hts⟩ (c_X0_kind l hR) ⟨(va_cnB 0 hts gX6_addScriptCues_X0_kind_n293 rfl rfl rfl (hG.nest 74 rfl) (hts (.initialized RX0) (List.mem_of_getElem? (i := 5) rfl)) (by decide +kernel) ⟨Nat.le_of_ble_eq_true rfl, Nat.le_of_ble_eq_true rfl⟩), (hts (.instanceMethod yX0_kind) (List.mem_of_getElem? (i := 21) rfl)), (hts (.selects RX0 yX0_kind yX0_kind) (List.mem_of_getElem? (i := 22) rfl))⟩ (q_preV hG hW hS (hR).1 rfl) rfl rfl hl.1 rfl (lv_room (Nat.le_of_ble_eq_true rfl)) dX6_addScriptCues_84 ⟨Nat.le_of_ble_eq_true rfl, Nat.le_of_ble_eq_true rfl⟩) ?_
              refine lv_bipush (v := nI 78) hx hb dX6_addScriptCues_87 (by decide) ?_
              refine lv_icmp_ne (tgt := 96) hx hb dX6_addScriptCues_89 (by decide) (fun c_89 => ?_) (fun c_89 => ?_)
              · skip
                have hg9 : ¬ (rrun nc C (rst R) j).2.1 = nI 78 := c_89
                refine lv_iconst (v := nI 0) hx hb dX6_addScriptCues_96 (by decide) ?_
                refine lv_istore (lv' := [(4, .int (nI 0)), (3, .ref (b + (2 + 1))), (0, .ref (b + 0)), (1, .int (nI cj)), (2, .int (nI j))]) hx hb dX6_addScriptCues_97 hl (by decide) rfl (fun ls hl => ?_)
                refine lv_aload_n hx hb dX6_addScriptCues_99 rfl (lv_at hl 1 rfl) ?_
                refine lv_aload_n hx hb dX6_addScriptCues_100 rfl (lv_at hl 2 rfl) ?_
                refine q_get hx hb hts hinX6 hown hG hW hs0 rfl 7 (by decide) (hts (.fieldLink RX6 52 "FoleyMixer" "reader" "LFoleyMixer$CueReader;") (List.mem_of_getElem? (i := 1) rfl)) rfl rfl dX6_addScriptCues_101 ?_
                refine lv_iconst (v := nI 0) hx hb dX6_addScriptCues_104 (by decide) ?_
                refine q_R1 (va_runVN (As := [.int (nI 0)]) (rest := [.ref (b + (2 + 1))]) ⟨hx, hb, hml, hown, hts⟩ (c_X0_numberOf l hR (0) (by omega)) ⟨(va_cnB 1 hts gX6_addScriptCues_X0_numberOf_n296 rfl rfl rfl (hG.nest 75 rfl) (hts (.initialized RX0) (List.mem_of_getElem? (i := 5) rfl)) (by decide +kernel) ⟨Nat.le_of_ble_eq_true rfl, Nat.le_of_ble_eq_true rfl⟩), (hts (.instanceMethod yX0_numberOf) (List.mem_of_getElem? (i := 37) rfl)), (hts (.selects RX0 yX0_numberOf yX0_numberOf) (List.mem_of_getElem? (i := 38) rfl))⟩ (q_preV hG hW hS (hR).1 rfl) rfl rfl hl.1 rfl (lv_room (Nat.le_of_ble_eq_true rfl)) dX6_addScriptCues_105 ⟨Nat.le_of_ble_eq_true rfl, Nat.le_of_ble_eq_true rfl⟩) ?_
                refine q_top (y := nI (s9)) (by rw [hn0]; rfl) ?_
                refine lv_aload_n hx hb dX6_addScriptCues_108 rfl (lv_at hl 2 rfl) ?_
                refine q_get hx hb hts hinX6 hown hG hW hs0 rfl 7 (by decide) (hts (.fieldLink RX6 52 "FoleyMixer" "reader" "LFoleyMixer$CueReader;") (List.mem_of_getElem? (i := 1) rfl)) rfl rfl dX6_addScriptCues_109 ?_
                refine lv_iconst (v := nI 1) hx hb dX6_addScriptCues_112 (by decide) ?_
                refine q_R1 (va_runVN (As := [.int (nI 1)]) (rest := [.int (nI s9), .ref (b + (2 + 1))]) ⟨hx, hb, hml, hown, hts⟩ (c_X0_numberOf l hR (1) (by omega)) ⟨(va_cnB 1 hts gX6_addScriptCues_X0_numberOf_n296 rfl rfl rfl (hG.nest 75 rfl) (hts (.initialized RX0) (List.mem_of_getElem? (i := 5) rfl)) (by decide +kernel) ⟨Nat.le_of_ble_eq_true rfl, Nat.le_of_ble_eq_true rfl⟩), (hts (.instanceMethod yX0_numberOf) (List.mem_of_getElem? (i := 37) rfl)), (hts (.selects RX0 yX0_numberOf yX0_numberOf) (List.mem_of_getElem? (i := 38) rfl))⟩ (q_preV hG hW hS (hR).1 rfl) rfl rfl hl.1 rfl (lv_room (Nat.le_of_ble_eq_true rfl)) dX6_addScriptCues_113 ⟨Nat.le_of_ble_eq_true rfl, Nat.le_of_ble_eq_true rfl⟩) ?_
                refine q_top (y := nI (l9)) (by rw [hn1]; rfl) ?_
                refine lv_aload_n hx hb dX6_addScriptCues_116 rfl (lv_at hl 2 rfl) ?_
                refine q_get hx hb hts hinX6 hown hG hW hs0 rfl 7 (by decide) (hts (.fieldLink RX6 52 "FoleyMixer" "reader" "LFoleyMixer$CueReader;") (List.mem_of_getElem? (i := 1) rfl)) rfl rfl dX6_addScriptCues_117 ?_
                refine lv_iconst (v := nI 2) hx hb dX6_addScriptCues_120 (by decide) ?_
                refine q_R1 (va_runVN (As := [.int (nI 2)]) (rest := [.int (nI l9), .int (nI s9), .ref (b + (2 + 1))]) ⟨hx, hb, hml, hown, hts⟩ (c_X0_numberOf l hR (2) (by omega)) ⟨(va_cnB 1 hts gX6_addScriptCues_X0_numberOf_n296 rfl rfl rfl (hG.nest 75 rfl) (hts (.initialized RX0) (List.mem_of_getElem? (i := 5) rfl)) (by decide +kernel) ⟨Nat.le_of_ble_eq_true rfl, Nat.le_of_ble_eq_true rfl⟩), (hts (.instanceMethod yX0_numberOf) (List.mem_of_getElem? (i := 37) rfl)), (hts (.selects RX0 yX0_numberOf yX0_numberOf) (List.mem_of_getElem? (i := 38) rfl))⟩ (q_preV hG hW hS (hR).1 rfl) rfl rfl hl.1 rfl (lv_room (Nat.le_of_ble_eq_true rfl)) dX6_addScriptCues_121 ⟨Nat.le_of_ble_eq_true rfl, Nat.le_of_ble_eq_true rfl⟩) ?_
                refine q_top (y := nI (d9)) (by rw [hn2]; rfl) ?_
                refine lv_iload hx hb dX6_addScriptCues_124 (lv_at hl 0 rfl) ?_
                obtain ⟨hq0, hq1, hq3, hoS, hq5⟩ := id hp1
                refine q_W0 (va_runVN (As := [.int (nI s9), .int (nI l9), .int (nI d9), .int (nI 0)]) (rest := []) ⟨hx, hb, hml, hown, hts⟩ (c_X1_add l hq1 (s9) (l9) (d9) (0) (by omega) (by omega) (by omega) (by omega) (by omega) (by omega)) ⟨(va_cnB 4 hts gX6_addScriptCues_X1_add_n287 rfl rfl rfl (hG.nest 64 rfl) (hts (.initialized RX1) (List.mem_of_getElem? (i := 32) rfl)) (by decide +kernel) ⟨Nat.le_of_ble_eq_true rfl, Nat.le_of_ble_eq_true rfl⟩), (hts (.instanceMethod yX1_add) (List.mem_of_getElem? (i := 41) rfl)), (hts (.selects RX1 yX1_add yX1_add) (List.mem_of_getElem? (i := 42) rfl))⟩ (q_preV hG hW hS (isCues.obj (hp1).2.1) rfl) rfl rfl hl.1 rfl (lv_room (Nat.le_of_ble_eq_true rfl)) dX6_addScriptCues_126 ⟨Nat.le_of_ble_eq_true rfl, Nat.le_of_ble_eq_true rfl⟩) hS (fun w_126 H locs hp126 hW hS => ?_)
                obtain ⟨hq1, fr126⟩ := hp126
                replace hs0 : w_126 0 = some (sysO b) := (fr126 _ (by omega) (by omega)).trans hs0
                replace hsc : isScr dA b w_126 32 nc C := hsc.fr (fr126 _ (by omega) (by omega)) (fr126 _ (by omega) (by omega))
                replace hR : isRdr dA b w_126 34 ((rrun nc C (rst R) j)) := hR.fr (fr126 _ (by omega) (by omega)) (fr126 _ (by omega) (by omega))
                replace hq0 : w_126 2 = some (.inr (4, [.ref (b + (2 + 1)), .ref (b + (2 + 3)), .ref (b + (2 + 5))])) := (fr126 _ (by omega) (by omega)).trans hq0
                replace hq3 : isCues dA b w_126 (2 + 3) 12 Pj.n Pj.N := hq3.fr (fr126 _ (by omega) (by omega)) (fr126 _ (by omega) (by omega))
                replace hq5 : w_126 (2 + 5) = some (eN dA 5 Pj.S) := (fr126 _ (by omega) (by omega)).trans hq5
                have e9 : radd Pj (rrun nc C (rst R) j) = (Pj.w + 1, addV Pj.W Pj.w s9 l9 d9 0, Pj.n, Pj.N, Pj.S) := by unfold radd rnm; rw [if_pos hk9, hn0, hn1, hn2]; rfl
                have hp1 : isPlay dA b w_126 2 (radd Pj (rrun nc C (rst R) j)) := by rw [e9]; exact ⟨hq0, hq1, hq3, hoS, hq5⟩
                refine lv_iinc (v := nI (cj + 1)) (lv' := [(1, .int (nI (cj + 1))), (4, .int (nI 0)), (3, .ref (b + (2 + 1))), (0, .ref (b + 0)), (2, .int (nI j))]) hx hb dX6_addScriptCues_129 hl (k := 3) rfl (nI_add _ 1) (by decide) rfl (fun ls hl => ?_)
                refine lv_aload_n hx hb dX6_addScriptCues_132 rfl (lv_at hl 3 rfl) ?_
                refine q_get hx hb hts hinX6 hown hG hW hs0 rfl 7 (by decide) (hts (.fieldLink RX6 52 "FoleyMixer" "reader" "LFoleyMixer$CueReader;") (List.mem_of_getElem? (i := 1) rfl)) rfl rfl dX6_addScriptCues_133 ?_
                refine lv_aload_n hx hb dX6_addScriptCues_136 rfl (lv_at hl 3 rfl) ?_
                refine q_get hx hb hts hinX6 hown hG hW hs0 rfl 6 (by decide) (hts (.fieldLink RX6 45 "FoleyMixer" "script" "LFoleyMixer$Script;") (List.mem_of_getElem? (i := 2) rfl)) rfl rfl dX6_addScriptCues_137 ?_
                refine lv_iload_n hx hb dX6_addScriptCues_140 rfl (lv_at hl 4 rfl) ?_
                refine q_R1 (va_runVN (As := [.int (nI j)]) (rest := [.ref (b + 34)]) ⟨hx, hb, hml, hown, hts⟩ (c_X5_codeAt l hsc (j) (by omega)) ⟨(va_cnB 1 hts gX6_addScriptCues_X5_codeAt_n161 rfl rfl rfl (hG.nest 73 rfl) (hts (.initialized RX5) (List.mem_of_getElem? (i := 10) rfl)) (by decide +kernel) ⟨Nat.le_of_ble_eq_true rfl, Nat.le_of_ble_eq_true rfl⟩), (hts (.instanceMethod yX5_codeAt) (List.mem_of_getElem? (i := 14) rfl)), (hts (.selects RX5 yX5_codeAt yX5_codeAt) (List.mem_of_getElem? (i := 15) rfl))⟩ (q_preV hG hW hS (hsc).1 rfl) rfl rfl hl.1 rfl (lv_room (Nat.le_of_ble_eq_true rfl)) dX6_addScriptCues_141 ⟨Nat.le_of_ble_eq_true rfl, Nat.le_of_ble_eq_true rfl⟩) ?_
                refine q_W1 (va_runVN (As := [.int (oI (cAt nc C j))]) (rest := []) ⟨hx, hb, hml, hown, hts⟩ (c_take_o l hR (cAt nc C j) (fun v hv => cAt_b hsc.2.2.2 hv)) ⟨(va_cnB 1 hts gX6_addScriptCues_X0_take_n298 rfl rfl rfl (hG.nest 76 rfl) (hts (.initialized RX0) (List.mem_of_getElem? (i := 5) rfl)) (by decide +kernel) ⟨Nat.le_of_ble_eq_true rfl, Nat.le_of_ble_eq_true rfl⟩), (hts (.instanceMethod yX0_take) (List.mem_of_getElem? (i := 51) rfl)), (hts (.selects RX0 yX0_take yX0_take) (List.mem_of_getElem? (i := 52) rfl))⟩ (q_preV hG hW hS (hR).1 rfl) rfl rfl hl.1 rfl (lv_room (Nat.le_of_ble_eq_true rfl)) dX6_addScriptCues_144 ⟨Nat.le_of_ble_eq_true rfl, Nat.le_of_ble_eq_true rfl⟩) hS (fun w_144 H locs hp144 hW hS => ?_)
                obtain ⟨hR, fr144⟩ := hp144
                replace hs0 : w_144 0 = some (sysO b) := (fr144 _ (by omega) (by omega)).trans hs0
                replace hsc : isScr dA b w_144 32 nc C := hsc.fr (fr144 _ (by omega) (by omega)) (fr144 _ (by omega) (by omega))
                replace hp1 : isPlay dA b w_144 2 (radd Pj (rrun nc C (rst R) j)) := hp1.fr (fun id9 h7 h8 => fr144 id9 (by omega) (by omega))
                refine lv_pop hx hb dX6_addScriptCues_147 rfl ?_
                refine lv_iinc (v := nI (j + 1)) (lv' := [(2, .int (nI (j + 1))), (1, .int (nI (cj + 1))), (4, .int (nI 0)), (3, .ref (b + (2 + 1))), (0, .ref (b + 0))]) hx hb dX6_addScriptCues_148 hl (k := 4) rfl (nI_add _ 1) (by decide) rfl (fun ls hl => ?_)
                refine lv_goto (tgt := 11) hx hb dX6_addScriptCues_151 (by decide) ?_
                exact ih11 (j + 1) (cj + 1) (radd Pj (rrun nc C (rst R) j)) (by omega) (by omega) (by first | rfl | exact (rgo_add (by omega) hce hnf).symm.trans hres | exact (rgo_pass (by omega) hnc9).symm.trans hres) (by omega) _ _ (by first | rfl | (congr 1; omega)) (by first | rfl | (congr 1; omega)) _ _ _ (by exact hs0) (by exact hp1) (by exact hsc) (by exact hR) (by intro id h7 h8 h9; rw [fr144 id (by omega) (by omega)]; rw [fr126 id (by omega) (by omega)]; exact fr id h7 h8 h9) hW hS _ (lv_sub hl [4, 1, 0] rfl)
              · skip
                exact absurd (hk9.symm.trans (by first | exact c_89 | exact Decidable.of_not_not c_89)) (by decide)
            · skip
              have c_75 : 10 ≤ Pj.w := Decidable.byContradiction (fun h__ => c_75 (pI_eq0.mpr h__))
              have hrf : rgo nc C (rst R) (nc + 1) P 0 = (Pj, cj) := hres.symm.trans (rgo_full (by omega) hce (by unfold rfull; first | (rw [if_pos hk9]; omega) | (rw [if_neg hk9]; omega)))
              refine lv_iload_n hx hb dX6_addScriptCues_78 rfl (lv_at hl 2 rfl) ?_
              exact q_wi hx hb hr hlocks hW hS dX6_addScriptCues_79 (by rw [hrf]) (by rw [hrf]; exact ⟨hp1, ⟨_, hR⟩, fr⟩) (by decide) (by decide)
        · skip
          have c_30 : ¬ (j = nc) := fun h__ => c_30 ((nI_eq (a := j) (b := nc) (by omega) (by omega)).mpr h__)
          refine lv_aload_n hx hb dX6_addScriptCues_33 rfl (lv_at hl 0 rfl) ?_
          refine q_get hx hb hts hinX6 hown hG hW hs0 rfl 6 (by decide) (hts (.fieldLink RX6 45 "FoleyMixer" "script" "LFoleyMixer$Script;") (List.mem_of_getElem? (i := 2) rfl)) rfl rfl dX6_addScriptCues_34 ?_
          refine lv_iload_n hx hb dX6_addScriptCues_37 rfl (lv_at hl 2 rfl) ?_
          refine q_R1 (va_runVN (As := [.int (nI j)]) (rest := []) ⟨hx, hb, hml, hown, hts⟩ (c_X5_codeAt l hsc (j) (by omega)) ⟨(va_cnB 1 hts gX6_addScriptCues_X5_codeAt_n161 rfl rfl rfl (hG.nest 73 rfl) (hts (.initialized RX5) (List.mem_of_getElem? (i := 10) rfl)) (by decide +kernel) ⟨Nat.le_of_ble_eq_true rfl, Nat.le_of_ble_eq_true rfl⟩), (hts (.instanceMethod yX5_codeAt) (List.mem_of_getElem? (i := 14) rfl)), (hts (.selects RX5 yX5_codeAt yX5_codeAt) (List.mem_of_getElem? (i := 15) rfl))⟩ (q_preV hG hW hS (hsc).1 rfl) rfl rfl hl.1 rfl (lv_room (Nat.le_of_ble_eq_true rfl)) dX6_addScriptCues_38 ⟨Nat.le_of_ble_eq_true rfl, Nat.le_of_ble_eq_true rfl⟩) ?_
          refine lv_bipush (v := nI 59) hx hb dX6_addScriptCues_41 (by decide) ?_
          refine lv_icmp_ne (tgt := 132) hx hb dX6_addScriptCues_43 (by decide) (fun c_43 => ?_) (fun c_43 => ?_)
          · skip
            have hnc9 : ¬ cEnd nc C j := fun q9 => q9.elim (fun q8 => absurd q8 c_30) (fun q8 => c_43 ((oI_some (fun v hv => cAt_b hsc.2.2.2 hv) (by omega)).mpr q8))
            refine lv_aload_n hx hb dX6_addScriptCues_132 rfl (lv_at hl 0 rfl) ?_
            refine q_get hx hb hts hinX6 hown hG hW hs0 rfl 7 (by decide) (hts (.fieldLink RX6 52 "FoleyMixer" "reader" "LFoleyMixer$CueReader;") (List.mem_of_getElem? (i := 1) rfl)) rfl rfl dX6_addScriptCues_133 ?_
            refine lv_aload_n hx hb dX6_addScriptCues_136 rfl (lv_at hl 0 rfl) ?_
            refine q_get hx hb hts hinX6 hown hG hW hs0 rfl 6 (by decide) (hts (.fieldLink RX6 45 "FoleyMixer" "script" "LFoleyMixer$Script;") (List.mem_of_getElem? (i := 2) rfl)) rfl rfl dX6_addScriptCues_137 ?_
            refine lv_iload_n hx hb dX6_addScriptCues_140 rfl (lv_at hl 2 rfl) ?_
            refine q_R1 (va_runVN (As := [.int (nI j)]) (rest := [.ref (b + 34)]) ⟨hx, hb, hml, hown, hts⟩ (c_X5_codeAt l hsc (j) (by omega)) ⟨(va_cnB 1 hts gX6_addScriptCues_X5_codeAt_n161 rfl rfl rfl (hG.nest 73 rfl) (hts (.initialized RX5) (List.mem_of_getElem? (i := 10) rfl)) (by decide +kernel) ⟨Nat.le_of_ble_eq_true rfl, Nat.le_of_ble_eq_true rfl⟩), (hts (.instanceMethod yX5_codeAt) (List.mem_of_getElem? (i := 14) rfl)), (hts (.selects RX5 yX5_codeAt yX5_codeAt) (List.mem_of_getElem? (i := 15) rfl))⟩ (q_preV hG hW hS (hsc).1 rfl) rfl rfl hl.1 rfl (lv_room (Nat.le_of_ble_eq_true rfl)) dX6_addScriptCues_141 ⟨Nat.le_of_ble_eq_true rfl, Nat.le_of_ble_eq_true rfl⟩) ?_
            refine q_W1 (va_runVN (As := [.int (oI (cAt nc C j))]) (rest := []) ⟨hx, hb, hml, hown, hts⟩ (c_take_o l hR (cAt nc C j) (fun v hv => cAt_b hsc.2.2.2 hv)) ⟨(va_cnB 1 hts gX6_addScriptCues_X0_take_n298 rfl rfl rfl (hG.nest 76 rfl) (hts (.initialized RX0) (List.mem_of_getElem? (i := 5) rfl)) (by decide +kernel) ⟨Nat.le_of_ble_eq_true rfl, Nat.le_of_ble_eq_true rfl⟩), (hts (.instanceMethod yX0_take) (List.mem_of_getElem? (i := 51) rfl)), (hts (.selects RX0 yX0_take yX0_take) (List.mem_of_getElem? (i := 52) rfl))⟩ (q_preV hG hW hS (hR).1 rfl) rfl rfl hl.1 rfl (lv_room (Nat.le_of_ble_eq_true rfl)) dX6_addScriptCues_144 ⟨Nat.le_of_ble_eq_true rfl, Nat.le_of_ble_eq_true rfl⟩) hS (fun w_144 H locs hp144 hW hS => ?_)
            obtain ⟨hR, fr144⟩ := hp144
            replace hs0 : w_144 0 = some (sysO b) := (fr144 _ (by omega) (by omega)).trans hs0
            replace hp1 : isPlay dA b w_144 2 Pj := hp1.fr (fun id9 h7 h8 => fr144 id9 (by omega) (by omega))
            replace hsc : isScr dA b w_144 32 nc C := hsc.fr (fr144 _ (by omega) (by omega)) (fr144 _ (by omega) (by omega))
            refine lv_pop hx hb dX6_addScriptCues_147 rfl ?_
            refine lv_iinc (v := nI (j + 1)) (lv' := [(2, .int (nI (j + 1))), (0, .ref (b + 0)), (1, .int (nI cj))]) hx hb dX6_addScriptCues_148 hl (k := 2) rfl (nI_add _ 1) (by decide) rfl (fun ls hl => ?_)
            refine lv_goto (tgt := 11) hx hb dX6_addScriptCues_151 (by decide) ?_
            exact ih11 (j + 1) cj Pj (by omega) (by omega) (by first | rfl | exact (rgo_add (by omega) hce hnf).symm.trans hres | exact (rgo_pass (by omega) hnc9).symm.trans hres) (by omega) _ _ (by first | rfl | (congr 1; omega)) (by first | rfl | (congr 1; omega)) _ _ _ (by exact hs0) (by exact hp1) (by exact hsc) (by exact hR) (by intro id h7 h8 h9; rw [fr144 id (by omega) (by omega)]; exact fr id h7 h8 h9) hW hS _ (lv_sub hl [1, 2, 0] rfl)
          · skip
            have hce : cEnd nc C j := by first | exact Or.inl (by omega) | exact Or.inr ((oI_some (fun v hv => cAt_b hsc.2.2.2 hv) (by omega)).mp (by first | exact c_43 | exact Decidable.of_not_not c_43))
            obtain ⟨hkd, s9, l9, d9, hn0, hn1, hn2, hb0, hb1, hb2, hb3⟩ := whl_num (invR_rst R) hw (by omega) hce
            refine lv_aload_n hx hb dX6_addScriptCues_46 rfl (lv_at hl 0 rfl) ?_
            refine q_get hx hb hts hinX6 hown hG hW hs0 rfl 2 (by decide) (hts (.fieldLink RX6 23 "FoleyMixer" "now" "LFoleyMixer$Play;") (List.mem_of_getElem? (i := 3) rfl)) rfl rfl dX6_addScriptCues_47 ?_
            refine lv_aload_n hx hb dX6_addScriptCues_50 rfl (lv_at hl 0 rfl) ?_
            refine q_get hx hb hts hinX6 hown hG hW hs0 rfl 7 (by decide) (hts (.fieldLink RX6 52 "FoleyMixer" "reader" "LFoleyMixer$CueReader;") (List.mem_of_getElem? (i := 1) rfl)) rfl rfl dX6_addScriptCues_51 ?_
            refine q_R1 (va_runVN (As := []) (rest := [.ref (b + 2)]) ⟨hx, hb, hml, hown, hts⟩ (c_X0_kind l hR) ⟨(va_cnB 0 hts gX6_addScriptCues_X0_kind_n293 rfl rfl rfl (hG.nest 74 rfl) (hts (.initialized RX0) (List.mem_of_getElem? (i := 5) rfl)) (by decide +kernel) ⟨Nat.le_of_ble_eq_true rfl, Nat.le_of_ble_eq_true rfl⟩), (hts (.instanceMethod yX0_kind) (List.mem_of_getElem? (i := 21) rfl)), (hts (.selects RX0 yX0_kind yX0_kind) (List.mem_of_getElem? (i := 22) rfl))⟩ (q_preV hG hW hS (hR).1 rfl) rfl rfl hl.1 rfl (lv_room (Nat.le_of_ble_eq_true rfl)) dX6_addScriptCues_54 ⟨Nat.le_of_ble_eq_true rfl, Nat.le_of_ble_eq_true rfl⟩) ?_
            refine lv_bipush (v := nI 119) hx hb dX6_addScriptCues_57 (by decide) ?_
            refine lv_icmp_ne (tgt := 66) hx hb dX6_addScriptCues_59 (by decide) (fun c_59 => ?_) (fun c_59 => ?_)
            · skip
              have hk9 : ¬ (rrun nc C (rst R) j).2.1 = nI 119 := c_59
              refine lv_iconst (v := nI 0) hx hb dX6_addScriptCues_66 (by decide) ?_
              refine q_R1 (va_runVN (As := [.int (nI 0)]) (rest := []) ⟨hx, hb, hml, hown, hts⟩ (c_cuesOf_f l hp1) ⟨(va_cnB 1 hts gX6_addScriptCues_X4_cuesOf_n71 rfl rfl rfl (hG.nest 33 rfl) (hts (.initialized RX4) (List.mem_of_getElem? (i := 26) rfl)) (by decide +kernel) ⟨Nat.le_of_ble_eq_true rfl, Nat.le_of_ble_eq_true rfl⟩), (hts (.instanceMethod yX4_cuesOf) (List.mem_of_getElem? (i := 25) rfl)), (hts (.selects RX4 yX4_cuesOf yX4_cuesOf) (List.mem_of_getElem? (i := 27) rfl))⟩ (q_preV hG hW hS (hp1).1 rfl) rfl rfl hl.1 rfl (lv_room (Nat.le_of_ble_eq_true rfl)) dX6_addScriptCues_67 ⟨Nat.le_of_ble_eq_true rfl, Nat.le_of_ble_eq_true rfl⟩) ?_
              refine lv_astore_n (lv' := [(3, .ref (b + (2 + 3))), (0, .ref (b + 0)), (1, .int (nI cj)), (2, .int (nI j))]) hx hb dX6_addScriptCues_70 rfl hl (by decide) rfl (fun ls hl => ?_)
              refine lv_aload_n hx hb dX6_addScriptCues_71 rfl (lv_at hl 0 rfl) ?_
              refine q_R1 (va_runVN (As := []) (rest := []) ⟨hx, hb, hml, hown, hts⟩ (c_X1_isFull l (hp1).2.2.1) ⟨(va_cnB 0 hts gX6_addScriptCues_X1_isFull_n284 rfl rfl rfl (hG.nest 60 rfl) (hts (.initialized RX1) (List.mem_of_getElem? (i := 32) rfl)) (by decide +kernel) ⟨Nat.le_of_ble_eq_true rfl, Nat.le_of_ble_eq_true rfl⟩), (hts (.instanceMethod yX1_isFull) (List.mem_of_getElem? (i := 31) rfl)), (hts (.selects RX1 yX1_isFull yX1_isFull) (List.mem_of_getElem? (i := 33) rfl))⟩ (q_preV hG hW hS (isCues.obj (hp1).2.2.1) rfl) rfl rfl hl.1 rfl (lv_room (Nat.le_of_ble_eq_true rfl)) dX6_addScriptCues_72 ⟨Nat.le_of_ble_eq_true rfl, Nat.le_of_ble_eq_true rfl⟩) ?_
              refine lv_if_eq (tgt := 80) hx hb dX6_addScriptCues_75 (by decide) (fun c_75 => ?_) (fun c_75 => ?_)
              · skip
                have c_75 : ¬ (12 ≤ Pj.n) := pI_eq0.mp c_75
                have hnf : ¬ rfull Pj (rrun nc C (rst R) j) := by unfold rfull; first | (rw [if_pos hk9]; omega) | (rw [if_neg hk9]; omega)
                refine lv_aload_n hx hb dX6_addScriptCues_80 rfl (lv_at hl 1 rfl) ?_
                refine q_get hx hb hts hinX6 hown hG hW hs0 rfl 7 (by decide) (hts (.fieldLink RX6 52 "FoleyMixer" "reader" "LFoleyMixer$CueReader;") (List.mem_of_getElem? (i := 1) rfl)) rfl rfl dX6_addScriptCues_81 ?_
                refine q_R1 (va_runVN (As := []) (rest := []) ⟨hx, hb, hml, hown, hts⟩ (c_X0_kind l hR) ⟨(va_cnB 0 hts gX6_addScriptCues_X0_kind_n293 rfl rfl rfl (hG.nest 74 rfl) (hts (.initialized RX0) (List.mem_of_getElem? (i := 5) rfl)) (by decide +kernel) ⟨Nat.le_of_ble_eq_true rfl, Nat.le_of_ble_eq_true rfl⟩), (hts (.instanceMethod yX0_kind) (List.mem_of_getElem? (i := 21) rfl)), (hts (.selects RX0 yX0_kind yX0_kind) (List.mem_of_getElem? (i := 22) rfl))⟩ (q_preV hG hW hS (hR).1 rfl) rfl rfl hl.1 rfl (lv_room (Nat.le_of_ble_eq_true rfl)) dX6_addScriptCues_84 ⟨Nat.le_of_ble_eq_true rfl, Nat.le_of_ble_eq_true rfl⟩) ?_
                refine lv_bipush (v := nI 78) hx hb dX6_addScriptCues_87 (by decide) ?_
                refine lv_icmp_ne (tgt := 96) hx hb dX6_addScriptCues_89 (by decide) (fun c_89 => ?_) (fun c_89 => ?_)
                · skip
                  have hg9 : ¬ (rrun nc C (rst R) j).2.1 = nI 78 := c_89
                  refine lv_iconst (v := nI 0) hx hb dX6_addScriptCues_96 (by decide) ?_
                  refine lv_istore (lv' := [(4, .int (nI 0)), (3, .ref (b + (2 + 3))), (0, .ref (b + 0)), (1, .int (nI cj)), (2, .int (nI j))]) hx hb dX6_addScriptCues_97 hl (by decide) rfl (fun ls hl => ?_)
                  refine lv_aload_n hx hb dX6_addScriptCues_99 rfl (lv_at hl 1 rfl) ?_
                  refine lv_aload_n hx hb dX6_addScriptCues_100 rfl (lv_at hl 2 rfl) ?_
                  refine q_get hx hb hts hinX6 hown hG hW hs0 rfl 7 (by decide) (hts (.fieldLink RX6 52 "FoleyMixer" "reader" "LFoleyMixer$CueReader;") (List.mem_of_getElem? (i := 1) rfl)) rfl rfl dX6_addScriptCues_101 ?_
                  refine lv_iconst (v := nI 0) hx hb dX6_addScriptCues_104 (by decide) ?_
                  refine q_R1 (va_runVN (As := [.int (nI 0)]) (rest := [.ref (b + (2 + 3))]) ⟨hx, hb, hml, hown, hts⟩ (c_X0_numberOf l hR (0) (by omega)) ⟨(va_cnB 1 hts gX6_addScriptCues_X0_numberOf_n296 rfl rfl rfl (hG.nest 75 rfl) (hts (.initialized RX0) (List.mem_of_getElem? (i := 5) rfl)) (by decide +kernel) ⟨Nat.le_of_ble_eq_true rfl, Nat.le_of_ble_eq_true rfl⟩), (hts (.instanceMethod yX0_numberOf) (List.mem_of_getElem? (i := 37) rfl)), (hts (.selects RX0 yX0_numberOf yX0_numberOf) (List.mem_of_getElem? (i := 38) rfl))⟩ (q_preV hG hW hS (hR).1 rfl) rfl rfl hl.1 rfl (lv_room (Nat.le_of_ble_eq_true rfl)) dX6_addScriptCues_105 ⟨Nat.le_of_ble_eq_true rfl, Nat.le_of_ble_eq_true rfl⟩) ?_
                  refine q_top (y := nI (s9)) (by rw [hn0]; rfl) ?_
                  refine lv_aload_n hx hb dX6_addScriptCues_108 rfl (lv_at hl 2 rfl) ?_
                  refine q_get hx hb hts hinX6 hown hG hW hs0 rfl 7 (by decide) (hts (.fieldLink RX6 52 "FoleyMixer" "reader" "LFoleyMixer$CueReader;") (List.mem_of_getElem? (i := 1) rfl)) rfl rfl dX6_addScriptCues_109 ?_
                  refine lv_iconst (v := nI 1) hx hb dX6_addScriptCues_112 (by decide) ?_
                  refine q_R1 (va_runVN (As := [.int (nI 1)]) (rest := [.int (nI s9), .ref (b + (2 + 3))]) ⟨hx, hb, hml, hown, hts⟩ (c_X0_numberOf l hR (1) (by omega)) ⟨(va_cnB 1 hts gX6_addScriptCues_X0_numberOf_n296 rfl rfl rfl (hG.nest 75 rfl) (hts (.initialized RX0) (List.mem_of_getElem? (i := 5) rfl)) (by decide +kernel) ⟨Nat.le_of_ble_eq_true rfl, Nat.le_of_ble_eq_true rfl⟩), (hts (.instanceMethod yX0_numberOf) (List.mem_of_getElem? (i := 37) rfl)), (hts (.selects RX0 yX0_numberOf yX0_numberOf) (List.mem_of_getElem? (i := 38) rfl))⟩ (q_preV hG hW hS (hR).1 rfl) rfl rfl hl.1 rfl (lv_room (Nat.le_of_ble_eq_true rfl)) dX6_addScriptCues_113 ⟨Nat.le_of_ble_eq_true rfl, Nat.le_of_ble_eq_true rfl⟩) ?_
                  refine q_top (y := nI (l9)) (by rw [hn1]; rfl) ?_
                  refine lv_aload_n hx hb dX6_addScriptCues_116 rfl (lv_at hl 2 rfl) ?_
                  refine q_get hx hb hts hinX6 hown hG hW hs0 rfl 7 (by decide) (hts (.fieldLink RX6 52 "FoleyMixer" "reader" "LFoleyMixer$CueReader;") (List.mem_of_getElem? (i := 1) rfl)) rfl rfl dX6_addScriptCues_117 ?_
                  refine lv_iconst (v := nI 2) hx hb dX6_addScriptCues_120 (by decide) ?_
                  refine q_R1 (va_runVN (As := [.int (nI 2)]) (rest := [.int (nI l9), .int (nI s9), .ref (b + (2 + 3))]) ⟨hx, hb, hml, hown, hts⟩ (c_X0_numberOf l hR (2) (by omega)) ⟨(va_cnB 1 hts gX6_addScriptCues_X0_numberOf_n296 rfl rfl rfl (hG.nest 75 rfl) (hts (.initialized RX0) (List.mem_of_getElem? (i := 5) rfl)) (by decide +kernel) ⟨Nat.le_of_ble_eq_true rfl, Nat.le_of_ble_eq_true rfl⟩), (hts (.instanceMethod yX0_numberOf) (List.mem_of_getElem? (i := 37) rfl)), (hts (.selects RX0 yX0_numberOf yX0_numberOf) (List.mem_of_getElem? (i := 38) rfl))⟩ (q_preV hG hW hS (hR).1 rfl) rfl rfl hl.1 rfl (lv_room (Nat.le_of_ble_eq_true rfl)) dX6_addScriptCues_121 ⟨Nat.le_of_ble_eq_true rfl, Nat.le_of_ble_eq_true rfl⟩) ?_
                  refine q_top (y := nI (d9)) (by rw [hn2]; rfl) ?_
                  refine lv_iload hx hb dX6_addScriptCues_124 (lv_at hl 0 rfl) ?_
                  obtain ⟨hq0, hq1, hq3, hoS, hq5⟩ := id hp1
                  refine q_W0 (va_runVN (As := [.int (nI s9), .int (nI l9), .int (nI d9), .int (nI 0)]) (rest := []) ⟨hx, hb, hml, hown, hts⟩ (c_X1_add l hq3 (s9) (l9) (d9) (0) (by omega) (by omega) (by omega) (by omega) (by omega) (by omega)) ⟨(va_cnB 4 hts gX6_addScriptCues_X1_add_n287 rfl rfl rfl (hG.nest 64 rfl) (hts (.initialized RX1) (List.mem_of_getElem? (i := 32) rfl)) (by decide +kernel) ⟨Nat.le_of_ble_eq_true rfl, Nat.le_of_ble_eq_true rfl⟩), (hts (.instanceMethod yX1_add) (List.mem_of_getElem? (i := 41) rfl)), (hts (.selects RX1 yX1_add yX1_add) (List.mem_of_getElem? (i := 42) rfl))⟩ (q_preV hG hW hS (isCues.obj (hp1).2.2.1) rfl) rfl rfl hl.1 rfl (lv_room (Nat.le_of_ble_eq_true rfl)) dX6_addScriptCues_126 ⟨Nat.le_of_ble_eq_true rfl, Nat.le_of_ble_eq_true rfl⟩) hS (fun w_126 H locs hp126 hW hS => ?_)
                  obtain ⟨hq3, fr126⟩ := hp126
                  replace hs0 : w_126 0 = some (sysO b) := (fr126 _ (by omega) (by omega)).trans hs0
                  replace hsc : isScr dA b w_126 32 nc C := hsc.fr (fr126 _ (by omega) (by omega)) (fr126 _ (by omega) (by omega))
                  replace hR : isRdr dA b w_126 34 ((rrun nc C (rst R) j)) := hR.fr (fr126 _ (by omega) (by omega)) (fr126 _ (by omega) (by omega))
                  replace hq0 : w_126 2 = some (.inr (4, [.ref (b + (2 + 1)), .ref (b + (2 + 3)), .ref (b + (2 + 5))])) := (fr126 _ (by omega) (by omega)).trans hq0
                  replace hq1 : isCues dA b w_126 (2 + 1) 10 Pj.w Pj.W := hq1.fr (fr126 _ (by omega) (by omega)) (fr126 _ (by omega) (by omega))
                  replace hq5 : w_126 (2 + 5) = some (eN dA 5 Pj.S) := (fr126 _ (by omega) (by omega)).trans hq5
                  have e9 : radd Pj (rrun nc C (rst R) j) = (Pj.w, Pj.W, Pj.n + 1, addV Pj.N Pj.n s9 l9 d9 0, Pj.S) := by unfold radd rnm; rw [if_neg hk9, hn0, hn1, hn2, if_neg hg9]; rfl
                  have hp1 : isPlay dA b w_126 2 (radd Pj (rrun nc C (rst R) j)) := by rw [e9]; exact ⟨hq0, hq1, hq3, hoS, hq5⟩
                  refine lv_iinc (v := nI (cj + 1)) (lv' := [(1, .int (nI (cj + 1))), (4, .int (nI 0)), (3, .ref (b + (2 + 3))), (0, .ref (b + 0)), (2, .int (nI j))]) hx hb dX6_addScriptCues_129 hl (k := 3) rfl (nI_add _ 1) (by decide) rfl (fun ls hl => ?_)
                  refine lv_aload_n hx hb dX6_addScriptCues_132 rfl (lv_at hl 3 rfl) ?_
                  refine q_get hx hb hts hinX6 hown hG hW hs0 rfl 7 (by decide) (hts (.fieldLink RX6 52 "FoleyMixer" "reader" "LFoleyMixer$CueReader;") (List.mem_of_getElem? (i := 1) rfl)) rfl rfl dX6_addScriptCues_133 ?_
                  refine lv_aload_n hx hb dX6_addScriptCues_136 rfl (lv_at hl 3 rfl) ?_
                  refine q_get hx hb hts hinX6 hown hG hW hs0 rfl 6 (by decide) (hts (.fieldLink RX6 45 "FoleyMixer" "script" "LFoleyMixer$Script;") (List.mem_of_getElem? (i := 2) rfl)) rfl rfl dX6_addScriptCues_137 ?_
                  refine lv_iload_n hx hb dX6_addScriptCues_140 rfl (lv_at hl 4 rfl) ?_
                  refine q_R1 (va_runVN (As := [.int (nI j)]) (rest := [.ref (b + 34)]) ⟨hx, hb, hml, hown, hts⟩ (c_X5_codeAt l hsc (j) (by omega)) ⟨(va_cnB 1 hts gX6_addScriptCues_X5_codeAt_n161 rfl rfl rfl (hG.nest 73 rfl) (hts (.initialized RX5) (List.mem_of_getElem? (i := 10) rfl)) (by decide +kernel) ⟨Nat.le_of_ble_eq_true rfl, Nat.le_of_ble_eq_true rfl⟩), (hts (.instanceMethod yX5_codeAt) (List.mem_of_getElem? (i := 14) rfl)), (hts (.selects RX5 yX5_codeAt yX5_codeAt) (List.mem_of_getElem? (i := 15) rfl))⟩ (q_preV hG hW hS (hsc).1 rfl) rfl rfl hl.1 rfl (lv_room (Nat.le_of_ble_eq_true rfl)) dX6_addScriptCues_141 ⟨Nat.le_of_ble_eq_true rfl, Nat.le_of_ble_eq_true rfl⟩) ?_
                  refine q_W1 (va_runVN (As := [.int (oI (cAt nc C j))]) (rest := []) ⟨hx, hb, hml, hown, hts⟩ (c_take_o l hR (cAt nc C j) (fun v hv => cAt_b hsc.2.2.2 hv)) ⟨(va_cnB 1 hts gX6_addScriptCues_X0_take_n298 rfl rfl rfl (hG.nest 76 rfl) (hts (.initialized RX0) (List.mem_of_getElem? (i := 5) rfl)) (by decide +kernel) ⟨Nat.le_of_ble_eq_true rfl, Nat.le_of_ble_eq_true rfl⟩), (hts (.instanceMethod yX0_take) (List.mem_of_getElem? (i := 51) rfl)), (hts (.selects RX0 yX0_take yX0_take) (List.mem_of_getElem? (i := 52) rfl))⟩ (q_preV hG hW hS (hR).1 rfl) rfl rfl hl.1 rfl (lv_room (Nat.le_of_ble_eq_true rfl)) dX6_addScriptCues_144 ⟨Nat.le_of_ble_eq_true rfl, Nat.le_of_ble_eq_true rfl⟩) hS (fun w_144 H locs hp144 hW hS => ?_)
                  obtain ⟨hR, fr144⟩ := hp144
                  replace hs0 : w_144 0 = some (sysO b) := (fr144 _ (by omega) (by omega)).trans hs0
                  replace hsc : isScr dA b w_144 32 nc C := hsc.fr (fr144 _ (by omega) (by omega)) (fr144 _ (by omega) (by omega))
                  replace hp1 : isPlay dA b w_144 2 (radd Pj (rrun nc C (rst R) j)) := hp1.fr (fun id9 h7 h8 => fr144 id9 (by omega) (by omega))
                  refine lv_pop hx hb dX6_addScriptCues_147 rfl ?_
                  refine lv_iinc (v := nI (j + 1)) (lv' := [(2, .int (nI (j + 1))), (1, .int (nI (cj + 1))), (4, .int (nI 0)), (3, .ref (b + (2 + 3))), (0, .ref (b + 0))]) hx hb dX6_addScriptCues_148 hl (k := 4) rfl (nI_add _ 1) (by decide) rfl (fun ls hl => ?_)
                  refine lv_goto (tgt := 11) hx hb dX6_addScriptCues_151 (by decide) ?_
                  exact ih11 (j + 1) (cj + 1) (radd Pj (rrun nc C (rst R) j)) (by omega) (by omega) (by first | rfl | exact (rgo_add (by omega) hce hnf).symm.trans hres | exact (rgo_pass (by omega) hnc9).symm.trans hres) (by omega) _ _ (by first | rfl | (congr 1; omega)) (by first | rfl | (congr 1; omega)) _ _ _ (by exact hs0) (by exact hp1) (by exact hsc) (by exact hR) (by intro id h7 h8 h9; rw [fr144 id (by omega) (by omega)]; rw [fr126 id (by omega) (by omega)]; exact fr id h7 h8 h9) hW hS _ (lv_sub hl [4, 1, 0] rfl)
                · skip
                  have hg9 : (rrun nc C (rst R) j).2.1 = nI 78 := by first | exact c_89 | exact Decidable.of_not_not c_89
                  refine lv_iconst (v := nI 1) hx hb dX6_addScriptCues_92 (by decide) ?_
                  refine lv_goto (tgt := 97) hx hb dX6_addScriptCues_93 (by decide) ?_
                  refine lv_istore (lv' := [(4, .int (nI 1)), (3, .ref (b + (2 + 3))), (0, .ref (b + 0)), (1, .int (nI cj)), (2, .int (nI j))]) hx hb dX6_addScriptCues_97 hl (by decide) rfl (fun ls hl => ?_)
                  refine lv_aload_n hx hb dX6_addScriptCues_99 rfl (lv_at hl 1 rfl) ?_
                  refine lv_aload_n hx hb dX6_addScriptCues_100 rfl (lv_at hl 2 rfl) ?_
                  refine q_get hx hb hts hinX6 hown hG hW hs0 rfl 7 (by decide) (hts (.fieldLink RX6 52 "FoleyMixer" "reader" "LFoleyMixer$CueReader;") (List.mem_of_getElem? (i := 1) rfl)) rfl rfl dX6_addScriptCues_101 ?_
                  refine lv_iconst (v := nI 0) hx hb dX6_addScriptCues_104 (by decide) ?_
                  refine q_R1 (va_runVN (As := [.int (nI 0)]) (rest := [.ref (b + (2 + 3))]) ⟨hx, hb, hml, hown, hts⟩ (c_X0_numberOf l hR (0) (by omega)) ⟨(va_cnB 1 hts gX6_addScriptCues_X0_numberOf_n296 rfl rfl rfl (hG.nest 75 rfl) (hts (.initialized RX0) (List.mem_of_getElem? (i := 5) rfl)) (by decide +kernel) ⟨Nat.le_of_ble_eq_true rfl, Nat.le_of_ble_eq_true rfl⟩), (hts (.instanceMethod yX0_numberOf) (List.mem_of_getElem? (i := 37) rfl)), (hts (.selects RX0 yX0_numberOf yX0_numberOf) (List.mem_of_getElem? (i := 38) rfl))⟩ (q_preV hG hW hS (hR).1 rfl) rfl rfl hl.1 rfl (lv_room (Nat.le_of_ble_eq_true rfl)) dX6_addScriptCues_105 ⟨Nat.le_of_ble_eq_true rfl, Nat.le_of_ble_eq_true rfl⟩) ?_
                  refine q_top (y := nI (s9)) (by rw [hn0]; rfl) ?_
                  refine lv_aload_n hx hb dX6_addScriptCues_108 rfl (lv_at hl 2 rfl) ?_
                  refine q_get hx hb hts hinX6 hown hG hW hs0 rfl 7 (by decide) (hts (.fieldLink RX6 52 "FoleyMixer" "reader" "LFoleyMixer$CueReader;") (List.mem_of_getElem? (i := 1) rfl)) rfl rfl dX6_addScriptCues_109 ?_
                  refine lv_iconst (v := nI 1) hx hb dX6_addScriptCues_112 (by decide) ?_
                  refine q_R1 (va_runVN (As := [.int (nI 1)]) (rest := [.int (nI s9), .ref (b + (2 + 3))]) ⟨hx, hb, hml, hown, hts⟩ (c_X0_numberOf l hR (1) (by omega)) ⟨(va_cnB 1 hts gX6_addScriptCues_X0_numberOf_n296 rfl rfl rfl (hG.nest 75 rfl) (hts (.initialized RX0) (List.mem_of_getElem? (i := 5) rfl)) (by decide +kernel) ⟨Nat.le_of_ble_eq_true rfl, Nat.le_of_ble_eq_true rfl⟩), (hts (.instanceMethod yX0_numberOf) (List.mem_of_getElem? (i := 37) rfl)), (hts (.selects RX0 yX0_numberOf yX0_numberOf) (List.mem_of_getElem? (i := 38) rfl))⟩ (q_preV hG hW hS (hR).1 rfl) rfl rfl hl.1 rfl (lv_room (Nat.le_of_ble_eq_true rfl)) dX6_addScriptCues_113 ⟨Nat.le_of_ble_eq_true rfl, Nat.le_of_ble_eq_true rfl⟩) ?_
                  refine q_top (y := nI (l9)) (by rw [hn1]; rfl) ?_
                  refine lv_aload_n hx hb dX6_addScriptCues_116 rfl (lv_at hl 2 rfl) ?_
                  refine q_get hx hb hts hinX6 hown hG hW hs0 rfl 7 (by decide) (hts (.fieldLink RX6 52 "FoleyMixer" "reader" "LFoleyMixer$CueReader;") (List.mem_of_getElem? (i := 1) rfl)) rfl rfl dX6_addScriptCues_117 ?_
                  refine lv_iconst (v := nI 2) hx hb dX6_addScriptCues_120 (by decide) ?_
                  refine q_R1 (va_runVN (As := [.int (nI 2)]) (rest := [.int (nI l9), .int (nI s9), .ref (b + (2 + 3))]) ⟨hx, hb, hml, hown, hts⟩ (c_X0_numberOf l hR (2) (by omega)) ⟨(va_cnB 1 hts gX6_addScriptCues_X0_numberOf_n296 rfl rfl rfl (hG.nest 75 rfl) (hts (.initialized RX0) (List.mem_of_getElem? (i := 5) rfl)) (by decide +kernel) ⟨Nat.le_of_ble_eq_true rfl, Nat.le_of_ble_eq_true rfl⟩), (hts (.instanceMethod yX0_numberOf) (List.mem_of_getElem? (i := 37) rfl)), (hts (.selects RX0 yX0_numberOf yX0_numberOf) (List.mem_of_getElem? (i := 38) rfl))⟩ (q_preV hG hW hS (hR).1 rfl) rfl rfl hl.1 rfl (lv_room (Nat.le_of_ble_eq_true rfl)) dX6_addScriptCues_121 ⟨Nat.le_of_ble_eq_true rfl, Nat.le_of_ble_eq_true rfl⟩) ?_
                  refine q_top (y := nI (d9)) (by rw [hn2]; rfl) ?_
                  refine lv_iload hx hb dX6_addScriptCues_124 (lv_at hl 0 rfl) ?_
                  obtain ⟨hq0, hq1, hq3, hoS, hq5⟩ := id hp1
                  refine q_W0 (va_runVN (As := [.int (nI s9), .int (nI l9), .int (nI d9), .int (nI 1)]) (rest := []) ⟨hx, hb, hml, hown, hts⟩ (c_X1_add l hq3 (s9) (l9) (d9) (1) (by omega) (by omega) (by omega) (by omega) (by omega) (by omega)) ⟨(va_cnB 4 hts gX6_addScriptCues_X1_add_n287 rfl rfl rfl (hG.nest 64 rfl) (hts (.initialized RX1) (List.mem_of_getElem? (i := 32) rfl)) (by decide +kernel) ⟨Nat.le_of_ble_eq_true rfl, Nat.le_of_ble_eq_true rfl⟩), (hts (.instanceMethod yX1_add) (List.mem_of_getElem? (i := 41) rfl)), (hts (.selects RX1 yX1_add yX1_add) (List.mem_of_getElem? (i := 42) rfl))⟩ (q_preV hG hW hS (isCues.obj (hp1).2.2.1) rfl) rfl rfl hl.1 rfl (lv_room (Nat.le_of_ble_eq_true rfl)) dX6_addScriptCues_126 ⟨Nat.le_of_ble_eq_true rfl, Nat.le_of_ble_eq_true rfl⟩) hS (fun w_126 H locs hp126 hW hS => ?_)
                  obtain ⟨hq3, fr126⟩ := hp126
                  replace hs0 : w_126 0 = some (sysO b) := (fr126 _ (by omega) (by omega)).trans hs0
                  replace hsc : isScr dA b w_126 32 nc C := hsc.fr (fr126 _ (by omega) (by omega)) (fr126 _ (by omega) (by omega))
                  replace hR : isRdr dA b w_126 34 ((rrun nc C (rst R) j)) := hR.fr (fr126 _ (by omega) (by omega)) (fr126 _ (by omega) (by omega))
                  replace hq0 : w_126 2 = some (.inr (4, [.ref (b + (2 + 1)), .ref (b + (2 + 3)), .ref (b + (2 + 5))])) := (fr126 _ (by omega) (by omega)).trans hq0
                  replace hq1 : isCues dA b w_126 (2 + 1) 10 Pj.w Pj.W := hq1.fr (fr126 _ (by omega) (by omega)) (fr126 _ (by omega) (by omega))
                  replace hq5 : w_126 (2 + 5) = some (eN dA 5 Pj.S) := (fr126 _ (by omega) (by omega)).trans hq5
                  have e9 : radd Pj (rrun nc C (rst R) j) = (Pj.w, Pj.W, Pj.n + 1, addV Pj.N Pj.n s9 l9 d9 1, Pj.S) := by unfold radd rnm; rw [if_neg hk9, hn0, hn1, hn2, if_pos hg9]; rfl
                  have hp1 : isPlay dA b w_126 2 (radd Pj (rrun nc C (rst R) j)) := by rw [e9]; exact ⟨hq0, hq1, hq3, hoS, hq5⟩
                  refine lv_iinc (v := nI (cj + 1)) (lv' := [(1, .int (nI (cj + 1))), (4, .int (nI 1)), (3, .ref (b + (2 + 3))), (0, .ref (b + 0)), (2, .int (nI j))]) hx hb dX6_addScriptCues_129 hl (k := 3) rfl (nI_add _ 1) (by decide) rfl (fun ls hl => ?_)
                  refine lv_aload_n hx hb dX6_addScriptCues_132 rfl (lv_at hl 3 rfl) ?_
                  refine q_get hx hb hts hinX6 hown hG hW hs0 rfl 7 (by decide) (hts (.fieldLink RX6 52 "FoleyMixer" "reader" "LFoleyMixer$CueReader;") (List.mem_of_getElem? (i := 1) rfl)) rfl rfl dX6_addScriptCues_133 ?_
                  refine lv_aload_n hx hb dX6_addScriptCues_136 rfl (lv_at hl 3 rfl) ?_
                  refine q_get hx hb hts hinX6 hown hG hW hs0 rfl 6 (by decide) (hts (.fieldLink RX6 45 "FoleyMixer" "script" "LFoleyMixer$Script;") (List.mem_of_getElem? (i := 2) rfl)) rfl rfl dX6_addScriptCues_137 ?_
                  refine lv_iload_n hx hb dX6_addScriptCues_140 rfl (lv_at hl 4 rfl) ?_
                  refine q_R1 (va_runVN (As := [.int (nI j)]) (rest := [.ref (b + 34)]) ⟨hx, hb, hml, hown, hts⟩ (c_X5_codeAt l hsc (j) (by omega)) ⟨(va_cnB 1 hts gX6_addScriptCues_X5_codeAt_n161 rfl rfl rfl (hG.nest 73 rfl) (hts (.initialized RX5) (List.mem_of_getElem? (i := 10) rfl)) (by decide +kernel) ⟨Nat.le_of_ble_eq_true rfl, Nat.le_of_ble_eq_true rfl⟩), (hts (.instanceMethod yX5_codeAt) (List.mem_of_getElem? (i := 14) rfl)), (hts (.selects RX5 yX5_codeAt yX5_codeAt) (List.mem_of_getElem? (i := 15) rfl))⟩ (q_preV hG hW hS (hsc).1 rfl) rfl rfl hl.1 rfl (lv_room (Nat.le_of_ble_eq_true rfl)) dX6_addScriptCues_141 ⟨Nat.le_of_ble_eq_true rfl, Nat.le_of_ble_eq_true rfl⟩) ?_
                  refine q_W1 (va_runVN (As := [.int (oI (cAt nc C j))]) (rest := []) ⟨hx, hb, hml, hown, hts⟩ (c_take_o l hR (cAt nc C j) (fun v hv => cAt_b hsc.2.2.2 hv)) ⟨(va_cnB 1 hts gX6_addScriptCues_X0_take_n298 rfl rfl rfl (hG.nest 76 rfl) (hts (.initialized RX0) (List.mem_of_getElem? (i := 5) rfl)) (by decide +kernel) ⟨Nat.le_of_ble_eq_true rfl, Nat.le_of_ble_eq_true rfl⟩), (hts (.instanceMethod yX0_take) (List.mem_of_getElem? (i := 51) rfl)), (hts (.selects RX0 yX0_take yX0_take) (List.mem_of_getElem? (i := 52) rfl))⟩ (q_preV hG hW hS (hR).1 rfl) rfl rfl hl.1 rfl (lv_room (Nat.le_of_ble_eq_true rfl)) dX6_addScriptCues_144 ⟨Nat.le_of_ble_eq_true rfl, Nat.le_of_ble_eq_true rfl⟩) hS (fun w_144 H locs hp144 hW hS => ?_)
                  obtain ⟨hR, fr144⟩ := hp144
                  replace hs0 : w_144 0 = some (sysO b) := (fr144 _ (by omega) (by omega)).trans hs0
                  replace hsc : isScr dA b w_144 32 nc C := hsc.fr (fr144 _ (by omega) (by omega)) (fr144 _ (by omega) (by omega))
                  replace hp1 : isPlay dA b w_144 2 (radd Pj (rrun nc C (rst R) j)) := hp1.fr (fun id9 h7 h8 => fr144 id9 (by omega) (by omega))
                  refine lv_pop hx hb dX6_addScriptCues_147 rfl ?_
                  refine lv_iinc (v := nI (j + 1)) (lv' := [(2, .int (nI (j + 1))), (1, .int (nI (cj + 1))), (4, .int (nI 1)), (3, .ref (b + (2 + 3))), (0, .ref (b + 0))]) hx hb dX6_addScriptCues_148 hl (k := 4) rfl (nI_add _ 1) (by decide) rfl (fun ls hl => ?_)
                  refine lv_goto (tgt := 11) hx hb dX6_addScriptCues_151 (by decide) ?_
                  exact ih11 (j + 1) (cj + 1) (radd Pj (rrun nc C (rst R) j)) (by omega) (by omega) (by first | rfl | exact (rgo_add (by omega) hce hnf).symm.trans hres | exact (rgo_pass (by omega) hnc9).symm.trans hres) (by omega) _ _ (by first | rfl | (congr 1; omega)) (by first | rfl | (congr 1; omega)) _ _ _ (by exact hs0) (by exact hp1) (by exact hsc) (by exact hR) (by intro id h7 h8 h9; rw [fr144 id (by omega) (by omega)]; rw [fr126 id (by omega) (by omega)]; exact fr id h7 h8 h9) hW hS _ (lv_sub hl [4, 1, 0] rfl)
              · skip
                have c_75 : 12 ≤ Pj.n := Decidable.byContradiction (fun h__ => c_75 (pI_eq0.mpr h__))
                have hrf : rgo nc C (rst R) (nc + 1) P 0 = (Pj, cj) := hres.symm.trans (rgo_full (by omega) hce (by unfold rfull; first | (rw [if_pos hk9]; omega) | (rw [if_neg hk9]; omega)))
                refine lv_iload_n hx hb dX6_addScriptCues_78 rfl (lv_at hl 2 rfl) ?_
                exact q_wi hx hb hr hlocks hW hS dX6_addScriptCues_79 (by rw [hrf]) (by rw [hrf]; exact ⟨hp1, ⟨_, hR⟩, fr⟩) (by decide) (by decide)
            · skip
              have hk9 : (rrun nc C (rst R) j).2.1 = nI 119 := by first | exact c_59 | exact Decidable.of_not_not c_59
              refine lv_iconst (v := nI 1) hx hb dX6_addScriptCues_62 (by decide) ?_
              refine lv_goto (tgt := 67) hx hb dX6_addScriptCues_63 (by decide) ?_
              refine q_R1 (va_runVN (As := [.int (nI 1)]) (rest := []) ⟨hx, hb, hml, hown, hts⟩ (c_cuesOf_t l hp1) ⟨(va_cnB 1 hts gX6_addScriptCues_X4_cuesOf_n71 rfl rfl rfl (hG.nest 33 rfl) (hts (.initialized RX4) (List.mem_of_getElem? (i := 26) rfl)) (by decide +kernel) ⟨Nat.le_of_ble_eq_true rfl, Nat.le_of_ble_eq_true rfl⟩), (hts (.instanceMethod yX4_cuesOf) (List.mem_of_getElem? (i := 25) rfl)), (hts (.selects RX4 yX4_cuesOf yX4_cuesOf) (List.mem_of_getElem? (i := 27) rfl))⟩ (q_preV hG hW hS (hp1).1 rfl) rfl rfl hl.1 rfl (lv_room (Nat.le_of_ble_eq_true rfl)) dX6_addScriptCues_67 ⟨Nat.le_of_ble_eq_true rfl, Nat.le_of_ble_eq_true rfl⟩) ?_
              refine lv_astore_n (lv' := [(3, .ref (b + (2 + 1))), (0, .ref (b + 0)), (1, .int (nI cj)), (2, .int (nI j))]) hx hb dX6_addScriptCues_70 rfl hl (by decide) rfl (fun ls hl => ?_)
              refine lv_aload_n hx hb dX6_addScriptCues_71 rfl (lv_at hl 0 rfl) ?_
              refine q_R1 (va_runVN (As := []) (rest := []) ⟨hx, hb, hml, hown, hts⟩ (c_X1_isFull l (hp1).2.1) ⟨(va_cnB 0 hts gX6_addScriptCues_X1_isFull_n284 rfl rfl rfl (hG.nest 60 rfl) (hts (.initialized RX1) (List.mem_of_getElem? (i := 32) rfl)) (by decide +kernel) ⟨Nat.le_of_ble_eq_true rfl, Nat.le_of_ble_eq_true rfl⟩), (hts (.instanceMethod yX1_isFull) (List.mem_of_getElem? (i := 31) rfl)), (hts (.selects RX1 yX1_isFull yX1_isFull) (List.mem_of_getElem? (i := 33) rfl))⟩ (q_preV hG hW hS (isCues.obj (hp1).2.1) rfl) rfl rfl hl.1 rfl (lv_room (Nat.le_of_ble_eq_true rfl)) dX6_addScriptCues_72 ⟨Nat.le_of_ble_eq_true rfl, Nat.le_of_ble_eq_true rfl⟩) ?_
              refine lv_if_eq (tgt := 80) hx hb dX6_addScriptCues_75 (by decide) (fun c_75 => ?_) (fun c_75 => ?_)
              · skip
                have c_75 : ¬ (10 ≤ Pj.w) := pI_eq0.mp c_75
                have hnf : ¬ rfull Pj (rrun nc C (rst R) j) := by unfold rfull; first | (rw [if_pos hk9]; omega) | (rw [if_neg hk9]; omega)
                refine lv_aload_n hx hb dX6_addScriptCues_80 rfl (lv_at hl 1 rfl) ?_
                refine q_get hx hb hts hinX6 hown hG hW hs0 rfl 7 (by decide) (hts (.fieldLink RX6 52 "FoleyMixer" "reader" "LFoleyMixer$CueReader;") (List.mem_of_getElem? (i := 1) rfl)) rfl rfl dX6_addScriptCues_81 ?_
                refine q_R1 (va_runVN (As := []) (rest := []) ⟨hx, hb, hml, hown, hts⟩ (c_X0_kind l hR) ⟨(va_cnB 0 hts gX6_addScriptCues_X0_kind_n293 rfl rfl rfl (hG.nest 74 rfl) (hts (.initialized RX0) (List.mem_of_getElem? (i := 5) rfl)) (by decide +kernel) ⟨Nat.le_of_ble_eq_true rfl, Nat.le_of_ble_eq_true rfl⟩), (hts (.instanceMethod yX0_kind) (List.mem_of_getElem? (i := 21) rfl)), (hts (.selects RX0 yX0_kind yX0_kind) (List.mem_of_getElem? (i := 22) rfl))⟩ (q_preV hG hW hS (hR).1 rfl) rfl rfl hl.1 rfl (lv_room (Nat.le_of_ble_eq_true rfl)) dX6_addScriptCues_84 ⟨Nat.le_of_ble_eq_true rfl, Nat.le_of_ble_eq_true rfl⟩) ?_
                refine lv_bipush (v := nI 78) hx hb dX6_addScriptCues_87 (by decide) ?_
                refine lv_icmp_ne (tgt := 96) hx hb dX6_addScriptCues_89 (by decide) (fun c_89 => ?_) (fun c_89 => ?_)
                · skip
                  have hg9 : ¬ (rrun nc C (rst R) j).2.1 = nI 78 := c_89
                  refine lv_iconst (v := nI 0) hx hb dX6_addScriptCues_96 (by decide) ?_
                  refine lv_istore (lv' := [(4, .int (nI 0)), (3, .ref (b + (2 + 1))), (0, .ref (b + 0)), (1, .int (nI cj)), (2, .int (nI j))]) hx hb dX6_addScriptCues_97 hl (by decide) rfl (fun ls hl => ?_)
                  refine lv_aload_n hx hb dX6_addScriptCues_99 rfl (lv_at hl 1 rfl) ?_
                  refine lv_aload_n hx hb dX6_addScriptCues_100 rfl (lv_at hl 2 rfl) ?_
                  refine q_get hx hb hts hinX6 hown hG hW hs0 rfl 7 (by decide) (hts (.fieldLink RX6 52 "FoleyMixer" "reader" "LFoleyMixer$CueReader;") (List.mem_of_getElem? (i := 1) rfl)) rfl rfl dX6_addScriptCues_101 ?_
                  refine lv_iconst (v := nI 0) hx hb dX6_addScriptCues_104 (by decide) ?_
                  refine q_R1 (va_runVN (As := [.int (nI 0)]) (rest := [.ref (b + (2 + 1))]) ⟨hx, hb, hml, hown, hts⟩ (c_X0_numberOf l hR (0) (by omega)) ⟨(va_cnB 1 hts gX6_addScriptCues_X0_numberOf_n296 rfl rfl rfl (hG.nest 75 rfl) (hts (.initialized RX0) (List.mem_of_getElem? (i := 5) rfl)) (by decide +kernel) ⟨Nat.le_of_ble_eq_true rfl, Nat.le_of_ble_eq_true rfl⟩), (hts (.instanceMethod yX0_numberOf) (List.mem_of_getElem? (i := 37) rfl)), (hts (.selects RX0 yX0_numberOf yX0_numberOf) (List.mem_of_getElem? (i := 38) rfl))⟩ (q_preV hG hW hS (hR).1 rfl) rfl rfl hl.1 rfl (lv_room (Nat.le_of_ble_eq_true rfl)) dX6_addScriptCues_105 ⟨Nat.le_of_ble_eq_true rfl, Nat.le_of_ble_eq_true rfl⟩) ?_
                  refine q_top (y := nI (s9)) (by rw [hn0]; rfl) ?_
                  refine lv_aload_n hx hb dX6_addScriptCues_108 rfl (lv_at hl 2 rfl) ?_
                  refine q_get hx hb hts hinX6 hown hG hW hs0 rfl 7 (by decide) (hts (.fieldLink RX6 52 "FoleyMixer" "reader" "LFoleyMixer$CueReader;") (List.mem_of_getElem? (i := 1) rfl)) rfl rfl dX6_addScriptCues_109 ?_
                  refine lv_iconst (v := nI 1) hx hb dX6_addScriptCues_112 (by decide) ?_
                  refine q_R1 (va_runVN (As := [.int (nI 1)]) (rest := [.int (nI s9), .ref (b + (2 + 1))]) ⟨hx, hb, hml, hown, hts⟩ (c_X0_numberOf l hR (1) (by omega)) ⟨(va_cnB 1 hts gX6_addScriptCues_X0_numberOf_n296 rfl rfl rfl (hG.nest 75 rfl) (hts (.initialized RX0) (List.mem_of_getElem? (i := 5) rfl)) (by decide +kernel) ⟨Nat.le_of_ble_eq_true rfl, Nat.le_of_ble_eq_true rfl⟩), (hts (.instanceMethod yX0_numberOf) (List.mem_of_getElem? (i := 37) rfl)), (hts (.selects RX0 yX0_numberOf yX0_numberOf) (List.mem_of_getElem? (i := 38) rfl))⟩ (q_preV hG hW hS (hR).1 rfl) rfl rfl hl.1 rfl (lv_room (Nat.le_of_ble_eq_true rfl)) dX6_addScriptCues_113 ⟨Nat.le_of_ble_eq_true rfl, Nat.le_of_ble_eq_true rfl⟩) ?_
                  refine q_top (y := nI (l9)) (by rw [hn1]; rfl) ?_
                  refine lv_aload_n hx hb dX6_addScriptCues_116 rfl (lv_at hl 2 rfl) ?_
                  refine q_get hx hb hts hinX6 hown hG hW hs0 rfl 7 (by decide) (hts (.fieldLink RX6 52 "FoleyMixer" "reader" "LFoleyMixer$CueReader;") (List.mem_of_getElem? (i := 1) rfl)) rfl rfl dX6_addScriptCues_117 ?_
                  refine lv_iconst (v := nI 2) hx hb dX6_addScriptCues_120 (by decide) ?_
                  refine q_R1 (va_runVN (As := [.int (nI 2)]) (rest := [.int (nI l9), .int (nI s9), .ref (b + (2 + 1))]) ⟨hx, hb, hml, hown, hts⟩ (c_X0_numberOf l hR (2) (by omega)) ⟨(va_cnB 1 hts gX6_addScriptCues_X0_numberOf_n296 rfl rfl rfl (hG.nest 75 rfl) (hts (.initialized RX0) (List.mem_of_getElem? (i := 5) rfl)) (by decide +kernel) ⟨Nat.le_of_ble_eq_true rfl, Nat.le_of_ble_eq_true rfl⟩), (hts (.instanceMethod yX0_numberOf) (List.mem_of_getElem? (i := 37) rfl)), (hts (.selects RX0 yX0_numberOf yX0_numberOf) (List.mem_of_getElem? (i := 38) rfl))⟩ (q_preV hG hW hS (hR).1 rfl) rfl rfl hl.1 rfl (lv_room (Nat.le_of_ble_eq_true rfl)) dX6_addScriptCues_121 ⟨Nat.le_of_ble_eq_true rfl, Nat.le_of_ble_eq_true rfl⟩) ?_
                  refine q_top (y := nI (d9)) (by rw [hn2]; rfl) ?_
                  refine lv_iload hx hb dX6_addScriptCues_124 (lv_at hl 0 rfl) ?_
                  obtain ⟨hq0, hq1, hq3, hoS, hq5⟩ := id hp1
                  refine q_W0 (va_runVN (As := [.int (nI s9), .int (nI l9), .int (nI d9), .int (nI 0)]) (rest := []) ⟨hx, hb, hml, hown, hts⟩ (c_X1_add l hq1 (s9) (l9) (d9) (0) (by omega) (by omega) (by omega) (by omega) (by omega) (by omega)) ⟨(va_cnB 4 hts gX6_addScriptCues_X1_add_n287 rfl rfl rfl (hG.nest 64 rfl) (hts (.initialized RX1) (List.mem_of_getElem? (i := 32) rfl)) (by decide +kernel) ⟨Nat.le_of_ble_eq_true rfl, Nat.le_of_ble_eq_true rfl⟩), (hts (.instanceMethod yX1_add) (List.mem_of_getElem? (i := 41) rfl)), (hts (.selects RX1 yX1_add yX1_add) (List.mem_of_getElem? (i := 42) rfl))⟩ (q_preV hG hW hS (isCues.obj (hp1).2.1) rfl) rfl rfl hl.1 rfl (lv_room (Nat.le_of_ble_eq_true rfl)) dX6_addScriptCues_126 ⟨Nat.le_of_ble_eq_true rfl, Nat.le_of_ble_eq_true rfl⟩) hS (fun w_126 H locs hp126 hW hS => ?_)
                  obtain ⟨hq1, fr126⟩ := hp126
                  replace hs0 : w_126 0 = some (sysO b) := (fr126 _ (by omega) (by omega)).trans hs0
                  replace hsc : isScr dA b w_126 32 nc C := hsc.fr (fr126 _ (by omega) (by omega)) (fr126 _ (by omega) (by omega))
                  replace hR : isRdr dA b w_126 34 ((rrun nc C (rst R) j)) := hR.fr (fr126 _ (by omega) (by omega)) (fr126 _ (by omega) (by omega))
                  replace hq0 : w_126 2 = some (.inr (4, [.ref (b + (2 + 1)), .ref (b + (2 + 3)), .ref (b + (2 + 5))])) := (fr126 _ (by omega) (by omega)).trans hq0
                  replace hq3 : isCues dA b w_126 (2 + 3) 12 Pj.n Pj.N := hq3.fr (fr126 _ (by omega) (by omega)) (fr126 _ (by omega) (by omega))
                  replace hq5 : w_126 (2 + 5) = some (eN dA 5 Pj.S) := (fr126 _ (by omega) (by omega)).trans hq5
                  have e9 : radd Pj (rrun nc C (rst R) j) = (Pj.w + 1, addV Pj.W Pj.w s9 l9 d9 0, Pj.n, Pj.N, Pj.S) := by unfold radd rnm; rw [if_pos hk9, hn0, hn1, hn2]; rfl
                  have hp1 : isPlay dA b w_126 2 (radd Pj (rrun nc C (rst R) j)) := by rw [e9]; exact ⟨hq0, hq1, hq3, hoS, hq5⟩
                  refine lv_iinc (v := nI (cj + 1)) (lv' := [(1, .int (nI (cj + 1))), (4, .int (nI 0)), (3, .ref (b + (2 + 1))), (0, .ref (b + 0)), (2, .int (nI j))]) hx hb dX6_addScriptCues_129 hl (k := 3) rfl (nI_add _ 1) (by decide) rfl (fun ls hl => ?_)
                  refine lv_aload_n hx hb dX6_addScriptCues_132 rfl (lv_at hl 3 rfl) ?_
                  refine q_get hx hb hts hinX6 hown hG hW hs0 rfl 7 (by decide) (hts (.fieldLink RX6 52 "FoleyMixer" "reader" "LFoleyMixer$CueReader;") (List.mem_of_getElem? (i := 1) rfl)) rfl rfl dX6_addScriptCues_133 ?_
                  refine lv_aload_n hx hb dX6_addScriptCues_136 rfl (lv_at hl 3 rfl) ?_
                  refine q_get hx hb hts hinX6 hown hG hW hs0 rfl 6 (by decide) (hts (.fieldLink RX6 45 "FoleyMixer" "script" "LFoleyMixer$Script;") (List.mem_of_getElem? (i := 2) rfl)) rfl rfl dX6_addScriptCues_137 ?_
                  refine lv_iload_n hx hb dX6_addScriptCues_140 rfl (lv_at hl 4 rfl) ?_
                  refine q_R1 (va_runVN (As := [.int (nI j)]) (rest := [.ref (b + 34)]) ⟨hx, hb, hml, hown, hts⟩ (c_X5_codeAt l hsc (j) (by omega)) ⟨(va_cnB 1 hts gX6_addScriptCues_X5_codeAt_n161 rfl rfl rfl (hG.nest 73 rfl) (hts (.initialized RX5) (List.mem_of_getElem? (i := 10) rfl)) (by decide +kernel) ⟨Nat.le_of_ble_eq_true rfl, Nat.le_of_ble_eq_true rfl⟩), (hts (.instanceMethod yX5_codeAt) (List.mem_of_getElem? (i := 14) rfl)), (hts (.selects RX5 yX5_codeAt yX5_codeAt) (List.mem_of_getElem? (i := 15) rfl))⟩ (q_preV hG hW hS (hsc).1 rfl) rfl rfl hl.1 rfl (lv_room (Nat.le_of_ble_eq_true rfl)) dX6_addScriptCues_141 ⟨Nat.le_of_ble_eq_true rfl, Nat.le_of_ble_eq_true rfl⟩) ?_
                  refine q_W1 (va_runVN (As := [.int (oI (cAt nc C j))]) (rest := []) ⟨hx, hb, hml, hown, hts⟩ (c_take_o l hR (cAt nc C j) (fun v hv => cAt_b hsc.2.2.2 hv)) ⟨(va_cnB 1 hts gX6_addScriptCues_X0_take_n298 rfl rfl rfl (hG.nest 76 rfl) (hts (.initialized RX0) (List.mem_of_getElem? (i := 5) rfl)) (by decide +kernel) ⟨Nat.le_of_ble_eq_true rfl, Nat.le_of_ble_eq_true rfl⟩), (hts (.instanceMethod yX0_take) (List.mem_of_getElem? (i := 51) rfl)), (hts (.selects RX0 yX0_take yX0_take) (List.mem_of_getElem? (i := 52) rfl))⟩ (q_preV hG hW hS (hR).1 rfl) rfl rfl hl.1 rfl (lv_room (Nat.le_of_ble_eq_true rfl)) dX6_addScriptCues_144 ⟨Nat.le_of_ble_eq_true rfl, Nat.le_of_ble_eq_true rfl⟩) hS (fun w_144 H locs hp144 hW hS => ?_)
                  obtain ⟨hR, fr144⟩ := hp144
                  replace hs0 : w_144 0 = some (sysO b) := (fr144 _ (by omega) (by omega)).trans hs0
                  replace hsc : isScr dA b w_144 32 nc C := hsc.fr (fr144 _ (by omega) (by omega)) (fr144 _ (by omega) (by omega))
                  replace hp1 : isPlay dA b w_144 2 (radd Pj (rrun nc C (rst R) j)) := hp1.fr (fun id9 h7 h8 => fr144 id9 (by omega) (by omega))
                  refine lv_pop hx hb dX6_addScriptCues_147 rfl ?_
                  refine lv_iinc (v := nI (j + 1)) (lv' := [(2, .int (nI (j + 1))), (1, .int (nI (cj + 1))), (4, .int (nI 0)), (3, .ref (b + (2 + 1))), (0, .ref (b + 0))]) hx hb dX6_addScriptCues_148 hl (k := 4) rfl (nI_add _ 1) (by decide) rfl (fun ls hl => ?_)
                  refine lv_goto (tgt := 11) hx hb dX6_addScriptCues_151 (by decide) ?_
                  exact ih11 (j + 1) (cj + 1) (radd Pj (rrun nc C (rst R) j)) (by omega) (by omega) (by first | rfl | exact (rgo_add (by omega) hce hnf).symm.trans hres | exact (rgo_pass (by omega) hnc9).symm.trans hres) (by omega) _ _ (by first | rfl | (congr 1; omega)) (by first | rfl | (congr 1; omega)) _ _ _ (by exact hs0) (by exact hp1) (by exact hsc) (by exact hR) (by intro id h7 h8 h9; rw [fr144 id (by omega) (by omega)]; rw [fr126 id (by omega) (by omega)]; exact fr id h7 h8 h9) hW hS _ (lv_sub hl [4, 1, 0] rfl)
                · skip
                  exact absurd (hk9.symm.trans (by first | exact c_89 | exact Decidable.of_not_not c_89)) (by decide)
              · skip
                have c_75 : 10 ≤ Pj.w := Decidable.byContradiction (fun h__ => c_75 (pI_eq0.mpr h__))
                have hrf : rgo nc C (rst R) (nc + 1) P 0 = (Pj, cj) := hres.symm.trans (rgo_full (by omega) hce (by unfold rfull; first | (rw [if_pos hk9]; omega) | (rw [if_neg hk9]; omega)))
                refine lv_iload_n hx hb dX6_addScriptCues_78 rfl (lv_at hl 2 rfl) ?_
                exact q_wi hx hb hr hlocks hW hS dX6_addScriptCues_79 (by rw [hrf]) (by rw [hrf]; exact ⟨hp1, ⟨_, hR⟩, fr⟩) (by decide) (by decide)
  exact L11 ((nc + 1 - 0) + 1) 0 0 P (by omega) (by omega) (by first | rfl | exact (rgo_add (by omega) hce hnf).symm.trans hres | exact (rgo_pass (by omega) hnc9).symm.trans hres) (Nat.lt_succ_self _) _ _ (by first | rfl | (congr 1; omega)) (by first | rfl | (congr 1; omega)) _ _ _ (by exact hs0) (by exact hp1) (by exact hsc) (by exact hR) (by intro id h7 h8 h9; rw [fr6 id (by omega) (by omega)]) hW hS _ (lv_sub hl [2, 1, 0] rfl)

/-- what addScriptCues leaves, told of the reader at its start -/
theorem rd_post {dA : Nat → Nat} {b : Nat} {w w' : Wd} {nc : Nat} {C : Nat → Nat} {R : Rd} {P : Pl} (hr : okR R) (hw : whl nc C (rst R)) (h : isPlay dA b w' 2 (rgo nc C (rst R) (nc + 1) P 0).1 ∧ (∃ R' : Rd, isRdr dA b w' 34 R') ∧ ∀ id : Nat, (id < 2 ∨ 8 ≤ id) → id ≠ 34 → id ≠ 35 → w' id = w id) :
    isPlay dA b w' 2 (rgo nc C R0 (nc + 1) P 0).1 ∧ (∃ R' : Rd, isRdr dA b w' 34 R') ∧ ∀ id : Nat, (id < 2 ∨ 8 ≤ id) ∧ id ≠ 34 ∧ id ≠ 35 → w' id = w id := by
  rw [rgo_R0 hr hw _ _ _ (Nat.le_refl _)] at h
  exact ⟨h.1, h.2.1, fun id h9 => h.2.2 id h9.1 h9.2.1 h9.2.2⟩
theorem whl_of {n : Nat} {C : Nat → Nat} {R : Rd} (hr : okR R) (h1 : ¬ rerr n C (rst R) n < n) (h2 : (rrun n C (rst R) (rerr n C (rst R) n)).1 = 2 ∧ (rrun n C (rst R) (rerr n C (rst R) n)).2.2 2 ≠ none) : whl n C R0 := by
  have h3 := rerr_le n C (rst R) n
  have e : rerr n C (rst R) n = n := by omega
  rw [e] at h2
  exact (whl_R0 hr).mp ⟨by omega, h2⟩
theorem whl_not {n : Nat} {C : Nat → Nat} {R : Rd} (hr : okR R) (h : rerr n C (rst R) n < n ∨ ¬ ((rrun n C (rst R) (rerr n C (rst R) n)).1 = 2 ∧ (rrun n C (rst R) (rerr n C (rst R) n)).2.2 2 ≠ none)) : ¬ whl n C R0 := by
  intro hw
  have hw2 := (whl_R0 hr).mpr hw
  have h3 := rerr_le n C (rst R) n
  have e : rerr n C (rst R) n = n := by have := hw2.1; omega
  rcases h with h | h
  · omega
  · rw [e] at h; exact h hw2.2
/-- the signs of noises -/
def sgN (V : Nat → Nat → Nat) (i : Nat) : Nat := if V i 3 = 1 then 78 else 110
def sgW (_ : Nat) : Nat := 119
/-- cues written from the place cnt - d on, as long as there is room: the buffer, and how many -/
def wgo (sg : Nat → Nat) (V : Nat → Nat → Nat) (cnt : Nat) : Nat → Nat × (Nat → Nat) → (Nat × (Nat → Nat)) × Nat
  | 0, B => (B, cnt)
  | d + 1, B => if B.1 + needC B.1 (V (cnt - (d + 1)) 0) (V (cnt - (d + 1)) 1) (V (cnt - (d + 1)) 2) ≤ 80 then wgo sg V cnt d (apC B (sg (cnt - (d + 1))) (V (cnt - (d + 1)) 0) (V (cnt - (d + 1)) 1) (V (cnt - (d + 1)) 2)) else (B, cnt - (d + 1))
theorem wgo_go {sg : Nat → Nat} {V : Nat → Nat → Nat} {cnt j n : Nat} {C : Nat → Nat} (hj : j < cnt) (h : n + needC n (V j 0) (V j 1) (V j 2) ≤ 80) : wgo sg V cnt (cnt - j) (n, C) = wgo sg V cnt (cnt - (j + 1)) (apC (n, C) (sg j) (V j 0) (V j 1) (V j 2)) := by
  rw [show cnt - j = (cnt - (j + 1)) + 1 by omega, wgo, show cnt - (cnt - (j + 1) + 1) = j by omega, if_pos h]
theorem wgo_no {sg : Nat → Nat} {V : Nat → Nat → Nat} {cnt j n : Nat} {C : Nat → Nat} (hj : j < cnt) (h : ¬ n + needC n (V j 0) (V j 1) (V j 2) ≤ 80) : wgo sg V cnt (cnt - j) (n, C) = ((n, C), j) := by
  rw [show cnt - j = (cnt - (j + 1)) + 1 by omega, wgo, show cnt - (cnt - (j + 1) + 1) = j by omega, if_neg h]
theorem wgo_le (sg : Nat → Nat) (V : Nat → Nat → Nat) (cnt : Nat) : ∀ d B, (wgo sg V cnt d B).2 ≤ cnt
  | 0, B => Nat.le_refl _
  | d + 1, B => by
    unfold wgo
    split
    · exact wgo_le sg V cnt d _
    · show cnt - (d + 1) ≤ cnt; omega
/-- the whole of write -/
def wrt (P : Pl) (C : Nat → Nat) : (Nat × (Nat → Nat)) × Nat :=
  let a := wgo sgW P.W P.w P.w (0, C)
  if a.2 < P.w then a else let r := wgo (sgN P.N) P.N P.n P.n a.1; (r.1, a.2 + r.2)

set_option maxHeartbeats 300000 in
set_option maxRecDepth 100000 in
/-- read -/
theorem c_X6_read (l : Launch) (hl0 : l.stackTraces = false) {D : va_G} {dA : Nat → Nat} {b : Nat} {w : Wd} {lo n nc : Nat} {P : Pl} {Hs : Nat → Pl} {SL : Nat → Option Pl} {C : Nat → Nat} (hs : isSys dA b w lo (P, (n, Hs), SL, (nc, C))) : vx_Met l yX6_read wsX6_read ({ frames := 6, cells := 6, slots := 110, locals := 110 } : Room) (PC D dA b w [.ref (b + 0)]) (QW D b (some (.int (nI ((rgo nc C R0 (nc + 1) P 0).2)))) (fun w' => whl nc C R0 ∧ isSys dA b w' lo ((rgo nc C R0 (nc + 1) P 0).1, (pshN n, psh n Hs P), SL, (0, C)) ∧ ∀ id : Nat, 36 ≤ id → id < lo → w' id = w id)) (XW D b (fun E w' => (E = IAE ∧ ¬ whl nc C R0) ∧ isSys dA b w' lo (P, (n, Hs), SL, (nc, C)) ∧ ∀ id : Nat, 36 ≤ id → id < lo → w' id = w id)) 6 110 (Fb b) := by
  refine q_ofX (cc := cX6_read) (maxL := 2) (ret := (some .int)) (by decide) rfl rfl ?_
  intro p e s m args below meth c ls hx hb hr hml hts hown hlocks hxt hG hW hS hl
  have hown : s.vm.findClass RX6 = some m.cls := hown
  have hinX6 : ∀ w ∈ u_ws RX6 TX6 8, w ∈ wsX6_read := fun w h => (goodIn_r (big := wsX6_read) (u_ws RX6 TX6 8) [131, 132, 133, 134, 135, 136, 137, 138] (by decide +kernel) (by decide +kernel) w h).1
  have hl : lv_has ls 2 [(0, .ref (b + 0))] := hl
  obtain ⟨hs0, hp1, hbk, hhs, hsc, hrd, hlo, hex⟩ := id hs
  change isPlay dA b w 2 P at hp1
  change isHS dA b w lo n Hs SL at hhs
  change isScr dA b w 32 nc C at hsc
  have hP := hp1.ok
  have hn6 := HS_le hhs
  have hnc := hsc.2.2.1
  obtain ⟨hPw, hPn, hPW, hPN, hPS⟩ := id hP
  obtain ⟨R, hR⟩ := hrd
  have hok8 := hR.2.2
  have hrl9 := rerr_le nc C (rst R) nc
  refine lv_aload_n hx hb dX6_read_0 rfl (lv_at hl 0 rfl) ?_
  refine q_get hx hb hts hinX6 hown hG hW hs0 rfl 6 (by decide) (hts (.fieldLink RX6 45 "FoleyMixer" "script" "LFoleyMixer$Script;") (List.mem_of_getElem? (i := 3) rfl)) rfl rfl dX6_read_1 ?_
  refine lv_aload_n hx hb dX6_read_4 rfl (lv_at hl 0 rfl) ?_
  refine q_get hx hb hts hinX6 hown hG hW hs0 rfl 7 (by decide) (hts (.fieldLink RX6 52 "FoleyMixer" "reader" "LFoleyMixer$CueReader;") (List.mem_of_getElem? (i := 4) rfl)) rfl rfl dX6_read_5 ?_
  refine q_W1 (va_runVN (As := [.ref (b + 34)]) (rest := []) ⟨hx, hb, hml, hown, hts⟩ (c_X5_errorFor l hsc hR (by omega)) ⟨(va_cnB 1 hts gX6_read_X5_errorFor_n143 rfl rfl rfl (hG.nest 25 rfl) (hts (.initialized RX5) (List.mem_of_getElem? (i := 8) rfl)) (by decide +kernel) ⟨Nat.le_of_ble_eq_true rfl, Nat.le_of_ble_eq_true rfl⟩), (hts (.instanceMethod yX5_errorFor) (List.mem_of_getElem? (i := 7) rfl)), (hts (.selects RX5 yX5_errorFor yX5_errorFor) (List.mem_of_getElem? (i := 9) rfl))⟩ (q_preV hG hW hS (hsc).1 rfl) rfl rfl hl.1 rfl (lv_room (Nat.le_of_ble_eq_true rfl)) dX6_read_8 ⟨Nat.le_of_ble_eq_true rfl, Nat.le_of_ble_eq_true rfl⟩) hS (fun w_8 H locs hp8 hW hS => ?_)
  obtain ⟨hR, fr8⟩ := hp8
  replace hs0 : w_8 0 = some (sysO b) := (fr8 _ (by omega) (by omega)).trans hs0
  replace hp1 : isPlay dA b w_8 2 P := hp1.fr (fun id9 h7 h8 => fr8 id9 (by omega) (by omega))
  replace hbk : isBk dA b w_8 := hbk.fr (fun id9 h7 h8 => (fr8 id9 (by omega) (by omega)))
  replace hhs : isHS dA b w_8 lo n Hs SL := hhs.fr (fun id9 h7 => (fr8 id9 (by omega) (by omega)))
  replace hsc : isScr dA b w_8 32 nc C := hsc.fr (fr8 _ (by omega) (by omega)) (fr8 _ (by omega) (by omega))
  replace hex : ∃ e : va_E, w_8 (lo - 1) = some e := exw_fr hex (fr8 _ (by omega) (by omega))
  refine lv_aload_n hx hb dX6_read_11 rfl (lv_at hl 0 rfl) ?_
  refine q_get hx hb hts hinX6 hown hG hW hs0 rfl 6 (by decide) (hts (.fieldLink RX6 45 "FoleyMixer" "script" "LFoleyMixer$Script;") (List.mem_of_getElem? (i := 3) rfl)) rfl rfl dX6_read_12 ?_
  refine q_R1 (va_runVN (As := []) (rest := [.int (nI (rerr nc C (rst R) nc))]) ⟨hx, hb, hml, hown, hts⟩ (c_X5_size l hsc) ⟨(va_cnB 0 hts gX6_read_X5_size_n139 rfl rfl rfl (hG.nest 23 rfl) (hts (.initialized RX5) (List.mem_of_getElem? (i := 8) rfl)) (by decide +kernel) ⟨Nat.le_of_ble_eq_true rfl, Nat.le_of_ble_eq_true rfl⟩), (hts (.instanceMethod yX5_size) (List.mem_of_getElem? (i := 57) rfl)), (hts (.selects RX5 yX5_size yX5_size) (List.mem_of_getElem? (i := 58) rfl))⟩ (q_preV hG hW hS (hsc).1 rfl) rfl rfl hl.1 rfl (lv_room (Nat.le_of_ble_eq_true rfl)) dX6_read_15 ⟨Nat.le_of_ble_eq_true rfl, Nat.le_of_ble_eq_true rfl⟩) ?_
  refine lv_icmp_lt (tgt := 31) hx hb dX6_read_18 (by decide) (fun c_18 => ?_) (fun c_18 => ?_)
  · skip
    have c_18 : rerr nc C (rst R) nc < nc := (nI_ltI (a := rerr nc C (rst R) nc) (b := nc) (by omega) (by omega)).mp c_18
    exact q_thrS hx hb hl0 (by rw [hml]; exact hl.1) hxt hlocks hown hG hW hS (by decide +kernel) (hts (.classLink RX6 93 "java/lang/IllegalArgumentException") (List.mem_of_getElem? (i := 1) rfl)) (hts (.initialized "java/lang/IllegalArgumentException") (List.mem_of_getElem? (i := 2) rfl)) 10 0 rfl rfl ngA otA (fun w h => hts w (List.mem_cons_of_mem _ (List.mem_append_right _ h))) dX6_read_31 dX6_read_34 dX6_read_35 dX6_read_37 dX6_read_40 (Nat.le_of_ble_eq_true rfl) (Nat.le_of_ble_eq_true rfl) (Nat.le_of_ble_eq_true rfl) (Nat.le_of_ble_eq_true rfl) (Nat.le_of_ble_eq_true rfl) (Nat.le_of_ble_eq_true rfl) (by refine ⟨⟨rfl, whl_not hok8 (by first | exact Or.inl (by omega) | exact Or.inr c_28)⟩, ⟨hs0, hp1, hbk, hhs, hsc, ⟨_, hR⟩, hlo, hex⟩, by intro id h8 h9; rw [fr8 id (by omega) (by omega)]; try rfl⟩)
  · skip
    have c_18 : ¬ (rerr nc C (rst R) nc < nc) := fun h__ => c_18 ((nI_ltI (a := rerr nc C (rst R) nc) (b := nc) (by omega) (by omega)).mpr h__)
    refine lv_aload_n hx hb dX6_read_21 rfl (lv_at hl 0 rfl) ?_
    refine q_get hx hb hts hinX6 hown hG hW hs0 rfl 7 (by decide) (hts (.fieldLink RX6 52 "FoleyMixer" "reader" "LFoleyMixer$CueReader;") (List.mem_of_getElem? (i := 4) rfl)) rfl rfl dX6_read_22 ?_
    refine q_R1 (va_runVN (As := []) (rest := []) ⟨hx, hb, hml, hown, hts⟩ (c_X0_isComplete l hR) ⟨(va_cnB 0 hts gX6_read_X0_isComplete_n147 rfl rfl rfl (hG.nest 71 rfl) (hts (.initialized RX0) (List.mem_of_getElem? (i := 13) rfl)) (by decide +kernel) ⟨Nat.le_of_ble_eq_true rfl, Nat.le_of_ble_eq_true rfl⟩), (hts (.instanceMethod yX0_isComplete) (List.mem_of_getElem? (i := 60) rfl)), (hts (.selects RX0 yX0_isComplete yX0_isComplete) (List.mem_of_getElem? (i := 61) rfl))⟩ (q_preV hG hW hS (hR).1 rfl) rfl rfl hl.1 rfl (lv_room (Nat.le_of_ble_eq_true rfl)) dX6_read_25 ⟨Nat.le_of_ble_eq_true rfl, Nat.le_of_ble_eq_true rfl⟩) ?_
    refine lv_if_ne (tgt := 41) hx hb dX6_read_28 (by decide) (fun c_28 => ?_) (fun c_28 => ?_)
    · skip
      have c_28 : (rrun nc C (rst R) (rerr nc C (rst R) nc)).1 = 2 ∧ (rrun nc C (rst R) (rerr nc C (rst R) nc)).2.2 2 ≠ none := Decidable.byContradiction (fun h__ => c_28 (pI_eq0.mpr h__))
      have hw9 := whl_of hok8 (by omega) c_28
      refine lv_aload_n hx hb dX6_read_41 rfl (lv_at hl 0 rfl) ?_
      refine q_get hx hb hts hinX6 hown hG hW hs0 rfl 4 (by decide) (hts (.fieldLink RX6 32 "FoleyMixer" "history" "LFoleyMixer$History;") (List.mem_of_getElem? (i := 5) rfl)) rfl rfl dX6_read_42 ?_
      refine lv_aload_n hx hb dX6_read_45 rfl (lv_at hl 0 rfl) ?_
      refine q_get hx hb hts hinX6 hown hG hW hs0 rfl 2 (by decide) (hts (.fieldLink RX6 23 "FoleyMixer" "now" "LFoleyMixer$Play;") (List.mem_of_getElem? (i := 6) rfl)) rfl rfl dX6_read_46 ?_
      obtain ⟨mh9, a9, H9, gz9, hh9, hv2, hv3, hv4, hv5, hv6⟩ := id hhs
      refine q_W0 (va_runVN (As := [.ref (b + 2)]) (rest := []) ⟨hx, hb, hml, hown, hts⟩ (c_X2_push l hh9 hp1 (by omega) (by omega) (by omega) hex (by omega)) ⟨(va_cnB 1 hts gX6_read_X2_push_n79 rfl rfl rfl (hG.nest 61 rfl) (hts (.initialized RX2) (List.mem_of_getElem? (i := 64) rfl)) (by decide +kernel) ⟨Nat.le_of_ble_eq_true rfl, Nat.le_of_ble_eq_true rfl⟩), (hts (.instanceMethod yX2_push) (List.mem_of_getElem? (i := 63) rfl)), (hts (.selects RX2 yX2_push yX2_push) (List.mem_of_getElem? (i := 65) rfl))⟩ (q_preV hG hW hS hh9.1 rfl) rfl rfl hl.1 rfl (lv_room (Nat.le_of_ble_eq_true rfl)) dX6_read_49 ⟨Nat.le_of_ble_eq_true rfl, Nat.le_of_ble_eq_true rfl⟩) hS (fun w_49 H locs hp49 hW hS => ?_)
      replace hp49 := HS_push (by omega) hv2 hv3 hv4 hv5 hv6 (HS_le hhs) hp49
      obtain ⟨hhs, fr49⟩ := hp49
      replace hs0 : w_49 0 = some (sysO b) := (fr49 _ (by omega)).trans hs0
      replace hp1 : isPlay dA b w_49 2 P := hp1.fr (fun id9 h7 h8 => fr49 id9 (by omega))
      replace hbk : isBk dA b w_49 := hbk.fr (fun id9 h7 h8 => (fr49 id9 (by omega)))
      replace hsc : isScr dA b w_49 32 nc C := hsc.fr (fr49 _ (by omega)) (fr49 _ (by omega))
      replace hex : ∃ e : va_E, w_49 (lo - 1) = some e := exw_fr hex (fr49 _ (by omega))
      replace hR : isRdr dA b w_49 34 (rrun nc C (rst R) (rerr nc C (rst R) nc)) := hR.fr (fr49 _ (by omega)) (fr49 _ (by omega))
      refine lv_aload_n hx hb dX6_read_52 rfl (lv_at hl 0 rfl) ?_
      have hwl9 : whl nc C (rst (rrun nc C (rst R) (rerr nc C (rst R) nc))) := (whl_R0 hR.2.2).mpr hw9
      have hok9 := hR.2.2
      refine q_W1 (va_runV (As := []) (rest := []) ⟨hx, hb, hml, hown, hts⟩ (c_X6_addScriptCues l hs0 hp1 hsc hR hwl9) (cwV 0 hts gX6_read_X6_addScriptCues rfl rfl rfl (by decide +kernel) ⟨Nat.le_of_ble_eq_true rfl, Nat.le_of_ble_eq_true rfl⟩) (q_preV hG hW hS hs0 rfl) rfl rfl hl.1 rfl (lv_room (Nat.le_of_ble_eq_true rfl)) dX6_read_53 ⟨Nat.le_of_ble_eq_true rfl, Nat.le_of_ble_eq_true rfl⟩) hS (fun w_53 H locs hp53 hW hS => ?_)
      replace hp53 := rd_post hok9 hwl9 hp53
      obtain ⟨hp1, hrd, fr53⟩ := hp53
      replace hs0 : w_53 0 = some (sysO b) := (fr53 _ (by omega)).trans hs0
      replace hbk : isBk dA b w_53 := hbk.fr (fun id9 h7 h8 => (fr53 id9 (by omega)))
      replace hsc : isScr dA b w_53 32 nc C := hsc.fr (fr53 _ (by omega)) (fr53 _ (by omega))
      replace hex : ∃ e : va_E, w_53 (lo - 1) = some e := exw_fr hex (fr53 _ (by omega))
      replace hhs : isHS dA b w_53 lo (pshN n) (psh n Hs P) SL := hhs.fr (fun id9 h7 => (fr53 id9 (by omega)))
      refine q_top (y := nI (rgo nc C R0 (nc + 1) P 0).2) (by rw [rgo_R0 hok9 hwl9 _ _ _ (Nat.le_refl _)]) ?_
      refine lv_istore_n (lv' := [(1, .int (nI ((rgo nc C R0 (nc + 1) P 0).2))), (0, .ref (b + 0))]) hx hb dX6_read_56 rfl hl (by decide) rfl (fun ls hl => ?_)
      refine lv_aload_n hx hb dX6_read_57 rfl (lv_at hl 1 rfl) ?_
      refine q_get hx hb hts hinX6 hown hG hW hs0 rfl 6 (by decide) (hts (.fieldLink RX6 45 "FoleyMixer" "script" "LFoleyMixer$Script;") (List.mem_of_getElem? (i := 3) rfl)) rfl rfl dX6_read_58 ?_
      refine q_W0 (va_runVN (As := []) (rest := []) ⟨hx, hb, hml, hown, hts⟩ (c_X5_clear l hsc) ⟨(va_cnB 0 hts gX6_read_X5_clear_n140 rfl rfl rfl (hG.nest 24 rfl) (hts (.initialized RX5) (List.mem_of_getElem? (i := 8) rfl)) (by decide +kernel) ⟨Nat.le_of_ble_eq_true rfl, Nat.le_of_ble_eq_true rfl⟩), (hts (.instanceMethod yX5_clear) (List.mem_of_getElem? (i := 128) rfl)), (hts (.selects RX5 yX5_clear yX5_clear) (List.mem_of_getElem? (i := 129) rfl))⟩ (q_preV hG hW hS (hsc).1 rfl) rfl rfl hl.1 rfl (lv_room (Nat.le_of_ble_eq_true rfl)) dX6_read_61 ⟨Nat.le_of_ble_eq_true rfl, Nat.le_of_ble_eq_true rfl⟩) hS (fun w_61 H locs hp61 hW hS => ?_)
      obtain ⟨hsc, fr61⟩ := hp61
      replace hs0 : w_61 0 = some (sysO b) := (fr61 _ (by omega)).trans hs0
      replace hbk : isBk dA b w_61 := hbk.fr (fun id9 h7 h8 => (fr61 id9 (by omega)))
      replace hex : ∃ e : va_E, w_61 (lo - 1) = some e := exw_fr hex (fr61 _ (by omega))
      replace hhs : isHS dA b w_61 lo (pshN n) (psh n Hs P) SL := hhs.fr (fun id9 h7 => (fr61 id9 (by omega)))
      replace hp1 : isPlay dA b w_61 2 ((rgo nc C R0 (nc + 1) P 0).1) := hp1.fr (fun id9 h7 h8 => fr61 id9 (by omega))
      replace hrd : ∃ R : Rd, isRdr dA b w_61 34 R := rdr_fr hrd (fun id9 h7 h8 => (fr61 id9 (by omega)))
      refine lv_iload_n hx hb dX6_read_64 rfl (lv_at hl 0 rfl) ?_
      exact vx_ret (q_wi hx hb hr hlocks hW hS dX6_read_65 (by rfl) (by exact ⟨hw9, ⟨hs0, hp1, hbk, hhs, hsc, hrd, hlo, hex⟩, by intro id h8 h9; rw [fr61 id (by omega)]; rw [fr53 id (by omega)]; rw [fr49 id (by omega)]; rw [fr8 id (by omega) (by omega)]; try rfl⟩) (by decide) (by decide))
    · skip
      have c_28 : ¬ ((rrun nc C (rst R) (rerr nc C (rst R) nc)).1 = 2 ∧ (rrun nc C (rst R) (rerr nc C (rst R) nc)).2.2 2 ≠ none) := pI_eq0.mp c_28
      exact q_thrS hx hb hl0 (by rw [hml]; exact hl.1) hxt hlocks hown hG hW hS (by decide +kernel) (hts (.classLink RX6 93 "java/lang/IllegalArgumentException") (List.mem_of_getElem? (i := 1) rfl)) (hts (.initialized "java/lang/IllegalArgumentException") (List.mem_of_getElem? (i := 2) rfl)) 10 0 rfl rfl ngA otA (fun w h => hts w (List.mem_cons_of_mem _ (List.mem_append_right _ h))) dX6_read_31 dX6_read_34 dX6_read_35 dX6_read_37 dX6_read_40 (Nat.le_of_ble_eq_true rfl) (Nat.le_of_ble_eq_true rfl) (Nat.le_of_ble_eq_true rfl) (Nat.le_of_ble_eq_true rfl) (Nat.le_of_ble_eq_true rfl) (Nat.le_of_ble_eq_true rfl) (by refine ⟨⟨rfl, whl_not hok8 (by first | exact Or.inl (by omega) | exact Or.inr c_28)⟩, ⟨hs0, hp1, hbk, hhs, hsc, ⟨_, hR⟩, hlo, hex⟩, by intro id h8 h9; rw [fr8 id (by omega) (by omega)]; try rfl⟩)

set_option maxHeartbeats 300000 in
set_option maxRecDepth 100000 in
/-- writeCues -/
theorem c_X6_writeCues_t (l : Launch) {D : va_G} {dA : Nat → Nat} {b : Nat} {w : Wd} {nc : Nat} {P : Pl} {C : Nat → Nat} (hs0 : w 0 = some (sysO b)) (hp1 : isPlay dA b w 2 P) (hsc : isScr dA b w 32 nc C) : Met l yX6_writeCues wsX6_writeCues ({ frames := 3, cells := 0, slots := 0, locals := 69 } : Room) (PC D dA b w [.ref (b + 0), .int (nI 1)]) (QW D b (some (.int (nI ((wgo sgW P.W P.w P.w (nc, C)).2)))) (fun w' => isScr dA b w' 32 (wgo sgW P.W P.w P.w (nc, C)).1.1 (wgo sgW P.W P.w P.w (nc, C)).1.2 ∧ ∀ id : Nat, id ≠ 32 → id ≠ 33 → w' id = w id)) 0 0 (Fb b) := by
  refine q_of (cc := cX6_writeCues) (maxL := 5) (ret := (some .int)) (by decide) rfl rfl ?_
  intro p e s m args below meth c ls hx hb hr hml hts hown hlocks hG hW hS hl
  have hown : s.vm.findClass RX6 = some m.cls := hown
  have hinX6 : ∀ w ∈ u_ws RX6 TX6 8, w ∈ wsX6_writeCues := fun w h => (goodIn_r (big := wsX6_writeCues) (u_ws RX6 TX6 8) [39, 40, 41, 42, 43, 44, 45, 46] (by decide +kernel) (by decide +kernel) w h).1
  have hl : lv_has ls 5 [(0, .ref (b + 0)), (1, .int (nI 1))] := hl
  have hP := hp1.ok
  obtain ⟨hPw, hPn, hPW, hPN, hPS⟩ := id hP
  refine lv_aload_n hx hb dX6_writeCues_0 rfl (lv_at hl 0 rfl) ?_
  refine q_get hx hb hts hinX6 hown hG hW hs0 rfl 2 (by decide) (hts (.fieldLink RX6 23 "FoleyMixer" "now" "LFoleyMixer$Play;") (List.mem_of_getElem? (i := 1) rfl)) rfl rfl dX6_writeCues_1 ?_
  refine lv_iload_n hx hb dX6_writeCues_4 rfl (lv_at hl 1 rfl) ?_
  refine q_R1 (va_runVN (As := [.int (nI 1)]) (rest := []) ⟨hx, hb, hml, hown, hts⟩ (c_cuesOf_t l hp1) ⟨(va_cnB 1 hts gX6_writeCues_X4_cuesOf_n71 rfl rfl rfl (hG.nest 33 rfl) (hts (.initialized RX4) (List.mem_of_getElem? (i := 4) rfl)) (by decide +kernel) ⟨Nat.le_of_ble_eq_true rfl, Nat.le_of_ble_eq_true rfl⟩), (hts (.instanceMethod yX4_cuesOf) (List.mem_of_getElem? (i := 3) rfl)), (hts (.selects RX4 yX4_cuesOf yX4_cuesOf) (List.mem_of_getElem? (i := 5) rfl))⟩ (q_preV hG hW hS (hp1).1 rfl) rfl rfl hl.1 rfl (lv_room (Nat.le_of_ble_eq_true rfl)) dX6_writeCues_5 ⟨Nat.le_of_ble_eq_true rfl, Nat.le_of_ble_eq_true rfl⟩) ?_
  refine lv_astore_n (lv' := [(2, .ref (b + (2 + 1))), (0, .ref (b + 0)), (1, .int (nI 1))]) hx hb dX6_writeCues_8 rfl hl (by decide) rfl (fun ls hl => ?_)
  refine lv_iconst (v := nI 0) hx hb dX6_writeCues_9 (by decide) ?_
  refine lv_istore_n (lv' := [(3, .int (nI 0)), (2, .ref (b + (2 + 1))), (0, .ref (b + 0)), (1, .int (nI 1))]) hx hb dX6_writeCues_10 rfl hl (by decide) rfl (fun ls hl => ?_)
  have L11 : ∀ (n11 : Nat) (j n9 : Nat) (C9 : Nat → Nat), j ≤ P.w → wgo sgW P.W P.w (P.w - j) (n9, C9) = wgo sgW P.W P.w P.w (nc, C) → P.w - j < n11 → ∀ (x11_3 : Int32), x11_3 = nI (j) → ∀ (wa : Wd) (H : Heap) (locs : List Loc), wa 0 = some (sysO b) → isPlay dA b wa 2 P → isScr dA b wa 32 n9 C9 → (∀ id : Nat, id ≠ 32 → id ≠ 33 → wa id = w id) → WP D b wa H → va_S (Fb b) s.heap H locs → ∀ (ls : Array Slot), lv_has ls 5 [(0, .ref (b + 0)), (1, .int (nI 1)), (2, .ref (b + (2 + 1))), (3, .int x11_3)] → W p l e ({ frames := 3, cells := 0, slots := 0, locals := 69 } : Room) s m args below meth c H locs 0 0 (MQ below (QW D b (some (.int (nI ((wgo sgW P.W P.w P.w (nc, C)).2)))) (fun w' => isScr dA b w' 32 (wgo sgW P.W P.w P.w (nc, C)).1.1 (wgo sgW P.W P.w P.w (nc, C)).1.2 ∧ ∀ id : Nat, id ≠ 32 → id ≠ 33 → w' id = w id)) args s 0 0 (Fb b)) (F0 m 11 ls []) := by
    intro n11
    induction n11 with
    | zero =>
      intro j n9 C9 hj0 hres hn11 x11_3 ex11_3 wa H locs hs0 hp1 hsc fr hW hS ls hl
      exact absurd hn11 (Nat.not_lt_zero _)
    | succ n11 ih11 =>
      intro j n9 C9 hj0 hres hn11 x11_3 ex11_3 wa H locs hs0 hp1 hsc fr hW hS ls hl
      subst ex11_3
      refine lv_iload_n hx hb dX6_writeCues_11 rfl (lv_at hl 3 rfl) ?_
      refine lv_aload_n hx hb dX6_writeCues_12 rfl (lv_at hl 2 rfl) ?_
      refine q_R1 (va_runVN (As := []) (rest := [.int (nI j)]) ⟨hx, hb, hml, hown, hts⟩ (c_X1_size l (hp1).2.1) ⟨(va_cnB 0 hts gX6_writeCues_X1_size_n89 rfl rfl rfl (hG.nest 34 rfl) (hts (.initialized RX1) (List.mem_of_getElem? (i := 10) rfl)) (by decide +kernel) ⟨Nat.le_of_ble_eq_true rfl, Nat.le_of_ble_eq_true rfl⟩), (hts (.instanceMethod yX1_size) (List.mem_of_getElem? (i := 9) rfl)), (hts (.selects RX1 yX1_size yX1_size) (List.mem_of_getElem? (i := 11) rfl))⟩ (q_preV hG hW hS (isCues.obj (hp1).2.1) rfl) rfl rfl hl.1 rfl (lv_room (Nat.le_of_ble_eq_true rfl)) dX6_writeCues_13 ⟨Nat.le_of_ble_eq_true rfl, Nat.le_of_ble_eq_true rfl⟩) ?_
      refine lv_icmp_ge (tgt := 67) hx hb dX6_writeCues_16 (by decide) (fun c_16 => ?_) (fun c_16 => ?_)
      · skip
        have c_16 : P.w ≤ j := (nI_leI (a := P.w) (b := j) (by omega) (by omega)).mp c_16
        refine lv_aload_n hx hb dX6_writeCues_67 rfl (lv_at hl 2 rfl) ?_
        refine q_R1 (va_runVN (As := []) (rest := []) ⟨hx, hb, hml, hown, hts⟩ (c_X1_size l (hp1).2.1) ⟨(va_cnB 0 hts gX6_writeCues_X1_size_n89 rfl rfl rfl (hG.nest 34 rfl) (hts (.initialized RX1) (List.mem_of_getElem? (i := 10) rfl)) (by decide +kernel) ⟨Nat.le_of_ble_eq_true rfl, Nat.le_of_ble_eq_true rfl⟩), (hts (.instanceMethod yX1_size) (List.mem_of_getElem? (i := 9) rfl)), (hts (.selects RX1 yX1_size yX1_size) (List.mem_of_getElem? (i := 11) rfl))⟩ (q_preV hG hW hS (isCues.obj (hp1).2.1) rfl) rfl rfl hl.1 rfl (lv_room (Nat.le_of_ble_eq_true rfl)) dX6_writeCues_68 ⟨Nat.le_of_ble_eq_true rfl, Nat.le_of_ble_eq_true rfl⟩) ?_
        exact q_wi hx hb hr hlocks hW hS dX6_writeCues_71 (by rw [← hres, show P.w - j = 0 by omega]; rfl) (by rw [← hres, show P.w - j = 0 by omega]; exact ⟨hsc, fr⟩) (by decide) (by decide)
      · skip
        have c_16 : ¬ (P.w ≤ j) := fun h__ => c_16 ((nI_leI (a := P.w) (b := j) (by omega) (by omega)).mpr h__)
        refine lv_iload_n hx hb dX6_writeCues_19 rfl (lv_at hl 1 rfl) ?_
        refine lv_if_eq (tgt := 28) hx hb dX6_writeCues_20 (by decide) (fun c_20 => ?_) (fun c_20 => ?_)
        · skip
          have c_20 : 1 = 0 := (nI_eq0 (i := 1) (by omega)).mp c_20
          exact absurd c_20 (by omega)
        · skip
          have c_20 : ¬ (1 = 0) := fun h__ => c_20 ((nI_eq0 (i := 1) (by omega)).mpr h__)
          refine lv_bipush (v := nI 119) hx hb dX6_writeCues_23 (by decide) ?_
          refine lv_goto (tgt := 43) hx hb dX6_writeCues_25 (by decide) ?_
          refine q_top (y := nI (sgW j)) (by first | rfl | (refine congrArg nI ?_; unfold sgN; first | (rw [if_pos c_33]; done) | (rw [if_neg c_33]; done))) ?_
          refine lv_istore (lv' := [(4, .int (nI (sgW j))), (0, .ref (b + 0)), (1, .int (nI 1)), (2, .ref (b + (2 + 1))), (3, .int (nI j))]) hx hb dX6_writeCues_43 hl (by decide) rfl (fun ls hl => ?_)
          refine lv_aload_n hx hb dX6_writeCues_45 rfl (lv_at hl 1 rfl) ?_
          refine q_get hx hb hts hinX6 hown hG hW hs0 rfl 6 (by decide) (hts (.fieldLink RX6 45 "FoleyMixer" "script" "LFoleyMixer$Script;") (List.mem_of_getElem? (i := 2) rfl)) rfl rfl dX6_writeCues_46 ?_
          refine lv_iload hx hb dX6_writeCues_49 (lv_at hl 0 rfl) ?_
          refine lv_aload_n hx hb dX6_writeCues_51 rfl (lv_at hl 3 rfl) ?_
          refine lv_iload_n hx hb dX6_writeCues_52 rfl (lv_at hl 4 rfl) ?_
          refine q_W1 (va_runVN (As := [.int (nI (sgW j)), .ref (b + (2 + 1)), .int (nI j)]) (rest := []) ⟨hx, hb, hml, hown, hts⟩ (c_X5_addCue l hsc (hp1).2.1 (by omega) (sgW j) (j) (by (show 119 < 128; decide)) (by omega)) ⟨(va_cnB 3 hts gX6_writeCues_X5_addCue_n304 rfl rfl rfl (hG.nest 36 rfl) (hts (.initialized RX5) (List.mem_of_getElem? (i := 23) rfl)) (by decide +kernel) ⟨Nat.le_of_ble_eq_true rfl, Nat.le_of_ble_eq_true rfl⟩), (hts (.instanceMethod yX5_addCue) (List.mem_of_getElem? (i := 22) rfl)), (hts (.selects RX5 yX5_addCue yX5_addCue) (List.mem_of_getElem? (i := 24) rfl))⟩ (q_preV hG hW hS (hsc).1 rfl) rfl rfl hl.1 rfl (lv_room (Nat.le_of_ble_eq_true rfl)) dX6_writeCues_53 ⟨Nat.le_of_ble_eq_true rfl, Nat.le_of_ble_eq_true rfl⟩) hS (fun w_53 H locs hp53 hW hS => ?_)
          obtain ⟨hsc, fr53⟩ := hp53
          replace hs0 : w_53 0 = some (sysO b) := (fr53 _ (by omega) (by omega)).trans hs0
          replace hp1 : isPlay dA b w_53 2 P := hp1.fr (fun id9 h7 h8 => fr53 id9 (by omega) (by omega))
          refine lv_if_ne (tgt := 61) hx hb dX6_writeCues_56 (by decide) (fun c_56 => ?_) (fun c_56 => ?_)
          · skip
            have c_56 : n9 + needC n9 (P.W j 0) (P.W j 1) (P.W j 2) ≤ 80 := Decidable.byContradiction (fun h__ => c_56 (pI_eq0.mpr h__))
            rw [if_pos c_56] at hsc
            refine lv_iinc (v := nI (j + 1)) (lv' := [(3, .int (nI (j + 1))), (4, .int (nI (sgW j))), (0, .ref (b + 0)), (1, .int (nI 1)), (2, .ref (b + (2 + 1)))]) hx hb dX6_writeCues_61 hl (k := 4) rfl (nI_add _ 1) (by decide) rfl (fun ls hl => ?_)
            refine lv_goto (tgt := 11) hx hb dX6_writeCues_64 (by decide) ?_
            exact ih11 (j + 1) (apC (n9, C9) (sgW j) (P.W j 0) (P.W j 1) (P.W j 2)).1 (apC (n9, C9) (sgW j) (P.W j 0) (P.W j 1) (P.W j 2)).2 (by omega) (by first | rfl | exact (wgo_go (by omega) c_56).symm.trans hres) (by omega) _ (by first | rfl | (congr 1; omega)) _ _ _ (by exact hs0) (by exact hp1) (by exact hsc) (by intro id h8 h9; rw [fr53 id (by omega) (by omega)]; exact fr id h8 h9) hW hS _ (lv_sub hl [2, 3, 4, 0] rfl)
          · skip
            have c_56 : ¬ (n9 + needC n9 (P.W j 0) (P.W j 1) (P.W j 2) ≤ 80) := pI_eq0.mp c_56
            rw [if_neg c_56] at hsc
            have hrf : wgo sgW P.W P.w P.w (nc, C) = ((n9, C9), j) := hres.symm.trans (wgo_no (by omega) c_56)
            refine lv_iload_n hx hb dX6_writeCues_59 rfl (lv_at hl 4 rfl) ?_
            exact q_wi hx hb hr hlocks hW hS dX6_writeCues_60 (by rw [hrf]) (by rw [hrf]; exact ⟨hsc, fun id h8 h9 => by rw [fr53 id (by omega) (by omega)]; exact fr id h8 h9⟩) (by decide) (by decide)
  exact L11 ((P.w - 0) + 1) 0 nc C (by omega) (by first | rfl | exact (wgo_go (by omega) c_56).symm.trans hres) (Nat.lt_succ_self _) _ (by first | rfl | (congr 1; omega)) _ _ _ (by exact hs0) (by exact hp1) (by exact hsc) (by intro id h8 h9; rfl) hW hS _ (lv_sub hl [2, 3, 1, 0] rfl)

set_option maxHeartbeats 300000 in
set_option maxRecDepth 100000 in
/-- writeCues -/
theorem c_X6_writeCues_f (l : Launch) {D : va_G} {dA : Nat → Nat} {b : Nat} {w : Wd} {nc : Nat} {P : Pl} {C : Nat → Nat} (hs0 : w 0 = some (sysO b)) (hp1 : isPlay dA b w 2 P) (hsc : isScr dA b w 32 nc C) : Met l yX6_writeCues wsX6_writeCues ({ frames := 3, cells := 0, slots := 0, locals := 69 } : Room) (PC D dA b w [.ref (b + 0), .int (nI 0)]) (QW D b (some (.int (nI ((wgo (sgN P.N) P.N P.n P.n (nc, C)).2)))) (fun w' => isScr dA b w' 32 (wgo (sgN P.N) P.N P.n P.n (nc, C)).1.1 (wgo (sgN P.N) P.N P.n P.n (nc, C)).1.2 ∧ ∀ id : Nat, id ≠ 32 → id ≠ 33 → w' id = w id)) 0 0 (Fb b) := by
  refine q_of (cc := cX6_writeCues) (maxL := 5) (ret := (some .int)) (by decide) rfl rfl ?_
  intro p e s m args below meth c ls hx hb hr hml hts hown hlocks hG hW hS hl
  have hown : s.vm.findClass RX6 = some m.cls := hown
  have hinX6 : ∀ w ∈ u_ws RX6 TX6 8, w ∈ wsX6_writeCues := fun w h => (goodIn_r (big := wsX6_writeCues) (u_ws RX6 TX6 8) [39, 40, 41, 42, 43, 44, 45, 46] (by decide +kernel) (by decide +kernel) w h).1
  have hl : lv_has ls 5 [(0, .ref (b + 0)), (1, .int (nI 0))] := hl
  have hP := hp1.ok
  obtain ⟨hPw, hPn, hPW, hPN, hPS⟩ := id hP
  refine lv_aload_n hx hb dX6_writeCues_0 rfl (lv_at hl 0 rfl) ?_
  refine q_get hx hb hts hinX6 hown hG hW hs0 rfl 2 (by decide) (hts (.fieldLink RX6 23 "FoleyMixer" "now" "LFoleyMixer$Play;") (List.mem_of_getElem? (i := 1) rfl)) rfl rfl dX6_writeCues_1 ?_
  refine lv_iload_n hx hb dX6_writeCues_4 rfl (lv_at hl 1 rfl) ?_
  refine q_R1 (va_runVN (As := [.int (nI 0)]) (rest := []) ⟨hx, hb, hml, hown, hts⟩ (c_cuesOf_f l hp1) ⟨(va_cnB 1 hts gX6_writeCues_X4_cuesOf_n71 rfl rfl rfl (hG.nest 33 rfl) (hts (.initialized RX4) (List.mem_of_getElem? (i := 4) rfl)) (by decide +kernel) ⟨Nat.le_of_ble_eq_true rfl, Nat.le_of_ble_eq_true rfl⟩), (hts (.instanceMethod yX4_cuesOf) (List.mem_of_getElem? (i := 3) rfl)), (hts (.selects RX4 yX4_cuesOf yX4_cuesOf) (List.mem_of_getElem? (i := 5) rfl))⟩ (q_preV hG hW hS (hp1).1 rfl) rfl rfl hl.1 rfl (lv_room (Nat.le_of_ble_eq_true rfl)) dX6_writeCues_5 ⟨Nat.le_of_ble_eq_true rfl, Nat.le_of_ble_eq_true rfl⟩) ?_
  refine lv_astore_n (lv' := [(2, .ref (b + (2 + 3))), (0, .ref (b + 0)), (1, .int (nI 0))]) hx hb dX6_writeCues_8 rfl hl (by decide) rfl (fun ls hl => ?_)
  refine lv_iconst (v := nI 0) hx hb dX6_writeCues_9 (by decide) ?_
  refine lv_istore_n (lv' := [(3, .int (nI 0)), (2, .ref (b + (2 + 3))), (0, .ref (b + 0)), (1, .int (nI 0))]) hx hb dX6_writeCues_10 rfl hl (by decide) rfl (fun ls hl => ?_)
  have L11 : ∀ (n11 : Nat) (j n9 : Nat) (C9 : Nat → Nat), j ≤ P.n → wgo (sgN P.N) P.N P.n (P.n - j) (n9, C9) = wgo (sgN P.N) P.N P.n P.n (nc, C) → P.n - j < n11 → ∀ (x11_3 : Int32), x11_3 = nI (j) → ∀ (wa : Wd) (H : Heap) (locs : List Loc), wa 0 = some (sysO b) → isPlay dA b wa 2 P → isScr dA b wa 32 n9 C9 → (∀ id : Nat, id ≠ 32 → id ≠ 33 → wa id = w id) → WP D b wa H → va_S (Fb b) s.heap H locs → ∀ (ls : Array Slot), lv_has ls 5 [(0, .ref (b + 0)), (1, .int (nI 0)), (2, .ref (b + (2 + 3))), (3, .int x11_3)] → W p l e ({ frames := 3, cells := 0, slots := 0, locals := 69 } : Room) s m args below meth c H locs 0 0 (MQ below (QW D b (some (.int (nI ((wgo (sgN P.N) P.N P.n P.n (nc, C)).2)))) (fun w' => isScr dA b w' 32 (wgo (sgN P.N) P.N P.n P.n (nc, C)).1.1 (wgo (sgN P.N) P.N P.n P.n (nc, C)).1.2 ∧ ∀ id : Nat, id ≠ 32 → id ≠ 33 → w' id = w id)) args s 0 0 (Fb b)) (F0 m 11 ls []) := by
    intro n11
    induction n11 with
    | zero =>
      intro j n9 C9 hj0 hres hn11 x11_3 ex11_3 wa H locs hs0 hp1 hsc fr hW hS ls hl
      exact absurd hn11 (Nat.not_lt_zero _)
    | succ n11 ih11 =>
      intro j n9 C9 hj0 hres hn11 x11_3 ex11_3 wa H locs hs0 hp1 hsc fr hW hS ls hl
      subst ex11_3
      refine lv_iload_n hx hb dX6_writeCues_11 rfl (lv_at hl 3 rfl) ?_
      refine lv_aload_n hx hb dX6_writeCues_12 rfl (lv_at hl 2 rfl) ?_
      refine q_R1 (va_runVN (As := []) (rest := [.int (nI j)]) ⟨hx, hb, hml, hown, hts⟩ (c_X1_size l (hp1).2.2.1) ⟨(va_cnB 0 hts gX6_writeCues_X1_size_n89 rfl rfl rfl (hG.nest 34 rfl) (hts (.initialized RX1) (List.mem_of_getElem? (i := 10) rfl)) (by decide +kernel) ⟨Nat.le_of_ble_eq_true rfl, Nat.le_of_ble_eq_true rfl⟩), (hts (.instanceMethod yX1_size) (List.mem_of_getElem? (i := 9) rfl)), (hts (.selects RX1 yX1_size yX1_size) (List.mem_of_getElem? (i := 11) rfl))⟩ (q_preV hG hW hS (isCues.obj (hp1).2.2.1) rfl) rfl rfl hl.1 rfl (lv_room (Nat.le_of_ble_eq_true rfl)) dX6_writeCues_13 ⟨Nat.le_of_ble_eq_true rfl, Nat.le_of_ble_eq_true rfl⟩) ?_
      refine lv_icmp_ge (tgt := 67) hx hb dX6_writeCues_16 (by decide) (fun c_16 => ?_) (fun c_16 => ?_)
      · skip
        have c_16 : P.n ≤ j := (nI_leI (a := P.n) (b := j) (by omega) (by omega)).mp c_16
        refine lv_aload_n hx hb dX6_writeCues_67 rfl (lv_at hl 2 rfl) ?_
        refine q_R1 (va_runVN (As := []) (rest := []) ⟨hx, hb, hml, hown, hts⟩ (c_X1_size l (hp1).2.2.1) ⟨(va_cnB 0 hts gX6_writeCues_X1_size_n89 rfl rfl rfl (hG.nest 34 rfl) (hts (.initialized RX1) (List.mem_of_getElem? (i := 10) rfl)) (by decide +kernel) ⟨Nat.le_of_ble_eq_true rfl, Nat.le_of_ble_eq_true rfl⟩), (hts (.instanceMethod yX1_size) (List.mem_of_getElem? (i := 9) rfl)), (hts (.selects RX1 yX1_size yX1_size) (List.mem_of_getElem? (i := 11) rfl))⟩ (q_preV hG hW hS (isCues.obj (hp1).2.2.1) rfl) rfl rfl hl.1 rfl (lv_room (Nat.le_of_ble_eq_true rfl)) dX6_writeCues_68 ⟨Nat.le_of_ble_eq_true rfl, Nat.le_of_ble_eq_true rfl⟩) ?_
        exact q_wi hx hb hr hlocks hW hS dX6_writeCues_71 (by rw [← hres, show P.n - j = 0 by omega]; rfl) (by rw [← hres, show P.n - j = 0 by omega]; exact ⟨hsc, fr⟩) (by decide) (by decide)
      · skip
        have c_16 : ¬ (P.n ≤ j) := fun h__ => c_16 ((nI_leI (a := P.n) (b := j) (by omega) (by omega)).mpr h__)
        refine lv_iload_n hx hb dX6_writeCues_19 rfl (lv_at hl 1 rfl) ?_
        refine lv_if_eq (tgt := 28) hx hb dX6_writeCues_20 (by decide) (fun c_20 => ?_) (fun c_20 => ?_)
        · skip
          have c_20 : 0 = 0 := (nI_eq0 (i := 0) (by omega)).mp c_20
          refine lv_aload_n hx hb dX6_writeCues_28 rfl (lv_at hl 2 rfl) ?_
          refine lv_iload_n hx hb dX6_writeCues_29 rfl (lv_at hl 3 rfl) ?_
          refine q_R1 (va_runVN (As := [.int (nI j)]) (rest := []) ⟨hx, hb, hml, hown, hts⟩ (c_X1_isHard l (hp1).2.2.1 (j) (by omega)) ⟨(va_cnB 1 hts gX6_writeCues_X1_isHard_n301 rfl rfl rfl (hG.nest 35 rfl) (hts (.initialized RX1) (List.mem_of_getElem? (i := 10) rfl)) (by decide +kernel) ⟨Nat.le_of_ble_eq_true rfl, Nat.le_of_ble_eq_true rfl⟩), (hts (.instanceMethod yX1_isHard) (List.mem_of_getElem? (i := 14) rfl)), (hts (.selects RX1 yX1_isHard yX1_isHard) (List.mem_of_getElem? (i := 15) rfl))⟩ (q_preV hG hW hS (isCues.obj (hp1).2.2.1) rfl) rfl rfl hl.1 rfl (lv_room (Nat.le_of_ble_eq_true rfl)) dX6_writeCues_30 ⟨Nat.le_of_ble_eq_true rfl, Nat.le_of_ble_eq_true rfl⟩) ?_
          refine lv_if_eq (tgt := 41) hx hb dX6_writeCues_33 (by decide) (fun c_33 => ?_) (fun c_33 => ?_)
          · skip
            have c_33 : ¬ (P.N j 3 = 1) := pI_eq0.mp c_33
            refine lv_bipush (v := nI 110) hx hb dX6_writeCues_41 (by decide) ?_
            refine q_top (y := nI ((sgN P.N) j)) (by first | rfl | (refine congrArg nI ?_; unfold sgN; first | (rw [if_pos c_33]; done) | (rw [if_neg c_33]; done))) ?_
            refine lv_istore (lv' := [(4, .int (nI ((sgN P.N) j))), (0, .ref (b + 0)), (1, .int (nI 0)), (2, .ref (b + (2 + 3))), (3, .int (nI j))]) hx hb dX6_writeCues_43 hl (by decide) rfl (fun ls hl => ?_)
            refine lv_aload_n hx hb dX6_writeCues_45 rfl (lv_at hl 1 rfl) ?_
            refine q_get hx hb hts hinX6 hown hG hW hs0 rfl 6 (by decide) (hts (.fieldLink RX6 45 "FoleyMixer" "script" "LFoleyMixer$Script;") (List.mem_of_getElem? (i := 2) rfl)) rfl rfl dX6_writeCues_46 ?_
            refine lv_iload hx hb dX6_writeCues_49 (lv_at hl 0 rfl) ?_
            refine lv_aload_n hx hb dX6_writeCues_51 rfl (lv_at hl 3 rfl) ?_
            refine lv_iload_n hx hb dX6_writeCues_52 rfl (lv_at hl 4 rfl) ?_
            refine q_W1 (va_runVN (As := [.int (nI ((sgN P.N) j)), .ref (b + (2 + 3)), .int (nI j)]) (rest := []) ⟨hx, hb, hml, hown, hts⟩ (c_X5_addCue l hsc (hp1).2.2.1 (by omega) ((sgN P.N) j) (j) (by (unfold sgN; split <;> omega)) (by omega)) ⟨(va_cnB 3 hts gX6_writeCues_X5_addCue_n304 rfl rfl rfl (hG.nest 36 rfl) (hts (.initialized RX5) (List.mem_of_getElem? (i := 23) rfl)) (by decide +kernel) ⟨Nat.le_of_ble_eq_true rfl, Nat.le_of_ble_eq_true rfl⟩), (hts (.instanceMethod yX5_addCue) (List.mem_of_getElem? (i := 22) rfl)), (hts (.selects RX5 yX5_addCue yX5_addCue) (List.mem_of_getElem? (i := 24) rfl))⟩ (q_preV hG hW hS (hsc).1 rfl) rfl rfl hl.1 rfl (lv_room (Nat.le_of_ble_eq_true rfl)) dX6_writeCues_53 ⟨Nat.le_of_ble_eq_true rfl, Nat.le_of_ble_eq_true rfl⟩) hS (fun w_53 H locs hp53 hW hS => ?_)
            obtain ⟨hsc, fr53⟩ := hp53
            replace hs0 : w_53 0 = some (sysO b) := (fr53 _ (by omega) (by omega)).trans hs0
            replace hp1 : isPlay dA b w_53 2 P := hp1.fr (fun id9 h7 h8 => fr53 id9 (by omega) (by omega))
            refine lv_if_ne (tgt := 61) hx hb dX6_writeCues_56 (by decide) (fun c_56 => ?_) (fun c_56 => ?_)
            · skip
              have c_56 : n9 + needC n9 (P.N j 0) (P.N j 1) (P.N j 2) ≤ 80 := Decidable.byContradiction (fun h__ => c_56 (pI_eq0.mpr h__))
              rw [if_pos c_56] at hsc
              refine lv_iinc (v := nI (j + 1)) (lv' := [(3, .int (nI (j + 1))), (4, .int (nI ((sgN P.N) j))), (0, .ref (b + 0)), (1, .int (nI 0)), (2, .ref (b + (2 + 3)))]) hx hb dX6_writeCues_61 hl (k := 4) rfl (nI_add _ 1) (by decide) rfl (fun ls hl => ?_)
              refine lv_goto (tgt := 11) hx hb dX6_writeCues_64 (by decide) ?_
              exact ih11 (j + 1) (apC (n9, C9) ((sgN P.N) j) (P.N j 0) (P.N j 1) (P.N j 2)).1 (apC (n9, C9) ((sgN P.N) j) (P.N j 0) (P.N j 1) (P.N j 2)).2 (by omega) (by first | rfl | exact (wgo_go (by omega) c_56).symm.trans hres) (by omega) _ (by first | rfl | (congr 1; omega)) _ _ _ (by exact hs0) (by exact hp1) (by exact hsc) (by intro id h8 h9; rw [fr53 id (by omega) (by omega)]; exact fr id h8 h9) hW hS _ (lv_sub hl [2, 3, 4, 0] rfl)
            · skip
              have c_56 : ¬ (n9 + needC n9 (P.N j 0) (P.N j 1) (P.N j 2) ≤ 80) := pI_eq0.mp c_56
              rw [if_neg c_56] at hsc
              have hrf : wgo (sgN P.N) P.N P.n P.n (nc, C) = ((n9, C9), j) := hres.symm.trans (wgo_no (by omega) c_56)
              refine lv_iload_n hx hb dX6_writeCues_59 rfl (lv_at hl 4 rfl) ?_
              exact q_wi hx hb hr hlocks hW hS dX6_writeCues_60 (by rw [hrf]) (by rw [hrf]; exact ⟨hsc, fun id h8 h9 => by rw [fr53 id (by omega) (by omega)]; exact fr id h8 h9⟩) (by decide) (by decide)
          · skip
            have c_33 : P.N j 3 = 1 := Decidable.byContradiction (fun h__ => c_33 (pI_eq0.mpr h__))
            refine lv_bipush (v := nI 78) hx hb dX6_writeCues_36 (by decide) ?_
            refine lv_goto (tgt := 43) hx hb dX6_writeCues_38 (by decide) ?_
            refine q_top (y := nI ((sgN P.N) j)) (by first | rfl | (refine congrArg nI ?_; unfold sgN; first | (rw [if_pos c_33]; done) | (rw [if_neg c_33]; done))) ?_
            refine lv_istore (lv' := [(4, .int (nI ((sgN P.N) j))), (0, .ref (b + 0)), (1, .int (nI 0)), (2, .ref (b + (2 + 3))), (3, .int (nI j))]) hx hb dX6_writeCues_43 hl (by decide) rfl (fun ls hl => ?_)
            refine lv_aload_n hx hb dX6_writeCues_45 rfl (lv_at hl 1 rfl) ?_
            refine q_get hx hb hts hinX6 hown hG hW hs0 rfl 6 (by decide) (hts (.fieldLink RX6 45 "FoleyMixer" "script" "LFoleyMixer$Script;") (List.mem_of_getElem? (i := 2) rfl)) rfl rfl dX6_writeCues_46 ?_
            refine lv_iload hx hb dX6_writeCues_49 (lv_at hl 0 rfl) ?_
            refine lv_aload_n hx hb dX6_writeCues_51 rfl (lv_at hl 3 rfl) ?_
            refine lv_iload_n hx hb dX6_writeCues_52 rfl (lv_at hl 4 rfl) ?_
            refine q_W1 (va_runVN (As := [.int (nI ((sgN P.N) j)), .ref (b + (2 + 3)), .int (nI j)]) (rest := []) ⟨hx, hb, hml, hown, hts⟩ (c_X5_addCue l hsc (hp1).2.2.1 (by omega) ((sgN P.N) j) (j) (by (unfold sgN; split <;> omega)) (by omega)) ⟨(va_cnB 3 hts gX6_writeCues_X5_addCue_n304 rfl rfl rfl (hG.nest 36 rfl) (hts (.initialized RX5) (List.mem_of_getElem? (i := 23) rfl)) (by decide +kernel) ⟨Nat.le_of_ble_eq_true rfl, Nat.le_of_ble_eq_true rfl⟩), (hts (.instanceMethod yX5_addCue) (List.mem_of_getElem? (i := 22) rfl)), (hts (.selects RX5 yX5_addCue yX5_addCue) (List.mem_of_getElem? (i := 24) rfl))⟩ (q_preV hG hW hS (hsc).1 rfl) rfl rfl hl.1 rfl (lv_room (Nat.le_of_ble_eq_true rfl)) dX6_writeCues_53 ⟨Nat.le_of_ble_eq_true rfl, Nat.le_of_ble_eq_true rfl⟩) hS (fun w_53 H locs hp53 hW hS => ?_)
            obtain ⟨hsc, fr53⟩ := hp53
            replace hs0 : w_53 0 = some (sysO b) := (fr53 _ (by omega) (by omega)).trans hs0
            replace hp1 : isPlay dA b w_53 2 P := hp1.fr (fun id9 h7 h8 => fr53 id9 (by omega) (by omega))
            refine lv_if_ne (tgt := 61) hx hb dX6_writeCues_56 (by decide) (fun c_56 => ?_) (fun c_56 => ?_)
            · skip
              have c_56 : n9 + needC n9 (P.N j 0) (P.N j 1) (P.N j 2) ≤ 80 := Decidable.byContradiction (fun h__ => c_56 (pI_eq0.mpr h__))
              rw [if_pos c_56] at hsc
              refine lv_iinc (v := nI (j + 1)) (lv' := [(3, .int (nI (j + 1))), (4, .int (nI ((sgN P.N) j))), (0, .ref (b + 0)), (1, .int (nI 0)), (2, .ref (b + (2 + 3)))]) hx hb dX6_writeCues_61 hl (k := 4) rfl (nI_add _ 1) (by decide) rfl (fun ls hl => ?_)
              refine lv_goto (tgt := 11) hx hb dX6_writeCues_64 (by decide) ?_
              exact ih11 (j + 1) (apC (n9, C9) ((sgN P.N) j) (P.N j 0) (P.N j 1) (P.N j 2)).1 (apC (n9, C9) ((sgN P.N) j) (P.N j 0) (P.N j 1) (P.N j 2)).2 (by omega) (by first | rfl | exact (wgo_go (by omega) c_56).symm.trans hres) (by omega) _ (by first | rfl | (congr 1; omega)) _ _ _ (by exact hs0) (by exact hp1) (by exact hsc) (by intro id h8 h9; rw [fr53 id (by omega) (by omega)]; exact fr id h8 h9) hW hS _ (lv_sub hl [2, 3, 4, 0] rfl)
            · skip
              have c_56 : ¬ (n9 + needC n9 (P.N j 0) (P.N j 1) (P.N j 2) ≤ 80) := pI_eq0.mp c_56
              rw [if_neg c_56] at hsc
              have hrf : wgo (sgN P.N) P.N P.n P.n (nc, C) = ((n9, C9), j) := hres.symm.trans (wgo_no (by omega) c_56)
              refine lv_iload_n hx hb dX6_writeCues_59 rfl (lv_at hl 4 rfl) ?_
              exact q_wi hx hb hr hlocks hW hS dX6_writeCues_60 (by rw [hrf]) (by rw [hrf]; exact ⟨hsc, fun id h8 h9 => by rw [fr53 id (by omega) (by omega)]; exact fr id h8 h9⟩) (by decide) (by decide)
        · skip
          have c_20 : ¬ (0 = 0) := fun h__ => c_20 ((nI_eq0 (i := 0) (by omega)).mpr h__)
          exact absurd c_20 (by omega)
  exact L11 ((P.n - 0) + 1) 0 nc C (by omega) (by first | rfl | exact (wgo_go (by omega) c_56).symm.trans hres) (Nat.lt_succ_self _) _ (by first | rfl | (congr 1; omega)) _ _ _ (by exact hs0) (by exact hp1) (by exact hsc) (by intro id h8 h9; rfl) hW hS _ (lv_sub hl [2, 3, 1, 0] rfl)

set_option maxHeartbeats 300000 in
set_option maxRecDepth 100000 in
/-- write -/
theorem c_X6_write (l : Launch) {D : va_G} {dA : Nat → Nat} {b : Nat} {w : Wd} {lo n nc : Nat} {P : Pl} {Hs : Nat → Pl} {SL : Nat → Option Pl} {C : Nat → Nat} (hs : isSys dA b w lo (P, (n, Hs), SL, (nc, C))) : Met l yX6_write wsX6_write ({ frames := 4, cells := 0, slots := 0, locals := 93 } : Room) (PC D dA b w [.ref (b + 0)]) (QW D b (some (.int (nI ((wrt P C).2)))) (fun w' => isSys dA b w' lo (P, (n, Hs), SL, ((wrt P C).1.1, (wrt P C).1.2)) ∧ ∀ id : Nat, 36 ≤ id → id < lo → w' id = w id)) 0 0 (Fb b) := by
  refine q_of (cc := cX6_write) (maxL := 2) (ret := (some .int)) (by decide) rfl rfl ?_
  intro p e s m args below meth c ls hx hb hr hml hts hown hlocks hG hW hS hl
  have hown : s.vm.findClass RX6 = some m.cls := hown
  have hinX4 : ∀ w ∈ u_ws RX4 TX4 3, w ∈ wsX6_write := fun w h => (goodIn_r (big := wsX6_write) (u_ws RX4 TX4 3) [54, 55, 56] (by decide +kernel) (by decide +kernel) w h).1
  have hinX6 : ∀ w ∈ u_ws RX6 TX6 8, w ∈ wsX6_write := fun w h => (goodIn_r (big := wsX6_write) (u_ws RX6 TX6 8) [46, 47, 48, 49, 50, 51, 52, 53] (by decide +kernel) (by decide +kernel) w h).1
  have hl : lv_has ls 2 [(0, .ref (b + 0))] := hl
  obtain ⟨hs0, hp1, hbk, hhs, hsc, hrd, hlo, hex⟩ := id hs
  change isPlay dA b w 2 P at hp1
  change isHS dA b w lo n Hs SL at hhs
  change isScr dA b w 32 nc C at hsc
  have hP := hp1.ok
  have hn6 := HS_le hhs
  have hnc := hsc.2.2.1
  obtain ⟨hPw, hPn, hPW, hPN, hPS⟩ := id hP
  refine lv_aload_n hx hb dX6_write_0 rfl (lv_at hl 0 rfl) ?_
  refine q_get hx hb hts hinX6 hown hG hW hs0 rfl 6 (by decide) (hts (.fieldLink RX6 45 "FoleyMixer" "script" "LFoleyMixer$Script;") (List.mem_of_getElem? (i := 1) rfl)) rfl rfl dX6_write_1 ?_
  refine q_W0 (va_runVN (As := []) (rest := []) ⟨hx, hb, hml, hown, hts⟩ (c_X5_clear l hsc) ⟨(va_cnB 0 hts gX6_write_X5_clear_n140 rfl rfl rfl (hG.nest 24 rfl) (hts (.initialized RX5) (List.mem_of_getElem? (i := 4) rfl)) (by decide +kernel) ⟨Nat.le_of_ble_eq_true rfl, Nat.le_of_ble_eq_true rfl⟩), (hts (.instanceMethod yX5_clear) (List.mem_of_getElem? (i := 3) rfl)), (hts (.selects RX5 yX5_clear yX5_clear) (List.mem_of_getElem? (i := 5) rfl))⟩ (q_preV hG hW hS (hsc).1 rfl) rfl rfl hl.1 rfl (lv_room (Nat.le_of_ble_eq_true rfl)) dX6_write_4 ⟨Nat.le_of_ble_eq_true rfl, Nat.le_of_ble_eq_true rfl⟩) hS (fun w_4 H locs hp4 hW hS => ?_)
  obtain ⟨hsc, fr4⟩ := hp4
  replace hs0 : w_4 0 = some (sysO b) := (fr4 _ (by omega)).trans hs0
  replace hp1 : isPlay dA b w_4 2 P := hp1.fr (fun id9 h7 h8 => fr4 id9 (by omega))
  replace hbk : isBk dA b w_4 := hbk.fr (fun id9 h7 h8 => (fr4 id9 (by omega)))
  replace hhs : isHS dA b w_4 lo n Hs SL := hhs.fr (fun id9 h7 => (fr4 id9 (by omega)))
  replace hrd : ∃ R : Rd, isRdr dA b w_4 34 R := rdr_fr hrd (fun id9 h7 h8 => (fr4 id9 (by omega)))
  replace hex : ∃ e : va_E, w_4 (lo - 1) = some e := exw_fr hex (fr4 _ (by omega))
  refine lv_aload_n hx hb dX6_write_7 rfl (lv_at hl 0 rfl) ?_
  refine lv_iconst (v := nI 1) hx hb dX6_write_8 (by decide) ?_
  refine q_W1 (va_runV (As := [.int (nI 1)]) (rest := []) ⟨hx, hb, hml, hown, hts⟩ (c_X6_writeCues_t l hs0 hp1 hsc) (cwV 1 hts gX6_write_X6_writeCues rfl rfl rfl (by decide +kernel) ⟨Nat.le_of_ble_eq_true rfl, Nat.le_of_ble_eq_true rfl⟩) (q_preV hG hW hS hs0 rfl) rfl rfl hl.1 rfl (lv_room (Nat.le_of_ble_eq_true rfl)) dX6_write_9 ⟨Nat.le_of_ble_eq_true rfl, Nat.le_of_ble_eq_true rfl⟩) hS (fun w_9 H locs hp9 hW hS => ?_)
  obtain ⟨hsc, fr9⟩ := hp9
  replace hs0 : w_9 0 = some (sysO b) := (fr9 _ (by omega) (by omega)).trans hs0
  replace hp1 : isPlay dA b w_9 2 P := hp1.fr (fun id9 h7 h8 => fr9 id9 (by omega) (by omega))
  replace hbk : isBk dA b w_9 := hbk.fr (fun id9 h7 h8 => (fr9 id9 (by omega) (by omega)))
  replace hhs : isHS dA b w_9 lo n Hs SL := hhs.fr (fun id9 h7 => (fr9 id9 (by omega) (by omega)))
  replace hrd : ∃ R : Rd, isRdr dA b w_9 34 R := rdr_fr hrd (fun id9 h7 h8 => (fr9 id9 (by omega) (by omega)))
  replace hex : ∃ e : va_E, w_9 (lo - 1) = some e := exw_fr hex (fr9 _ (by omega) (by omega))
  have hwl9 := wgo_le sgW P.W P.w P.w (0, C)
  refine lv_istore_n (lv' := [(1, .int (nI ((wgo sgW P.W P.w P.w (0, C)).2))), (0, .ref (b + 0))]) hx hb dX6_write_12 rfl hl (by decide) rfl (fun ls hl => ?_)
  refine lv_iload_n hx hb dX6_write_13 rfl (lv_at hl 0 rfl) ?_
  refine lv_aload_n hx hb dX6_write_14 rfl (lv_at hl 1 rfl) ?_
  refine q_get hx hb hts hinX6 hown hG hW hs0 rfl 2 (by decide) (hts (.fieldLink RX6 23 "FoleyMixer" "now" "LFoleyMixer$Play;") (List.mem_of_getElem? (i := 2) rfl)) rfl rfl dX6_write_15 ?_
  refine q_getN hx hb hts hinX4 hown hG hW (hp1).1 rfl 0 (by decide) (hG.nest 11 rfl) rfl rfl dX6_write_18 ?_
  refine q_R1 (va_runVN (As := []) (rest := [.int (nI ((wgo sgW P.W P.w P.w (0, C)).2))]) ⟨hx, hb, hml, hown, hts⟩ (c_X1_size l (hp1).2.1) ⟨(va_cnB 0 hts gX6_write_X1_size_n89 rfl rfl rfl (hG.nest 34 rfl) (hts (.initialized RX1) (List.mem_of_getElem? (i := 20) rfl)) (by decide +kernel) ⟨Nat.le_of_ble_eq_true rfl, Nat.le_of_ble_eq_true rfl⟩), (hts (.instanceMethod yX1_size) (List.mem_of_getElem? (i := 19) rfl)), (hts (.selects RX1 yX1_size yX1_size) (List.mem_of_getElem? (i := 21) rfl))⟩ (q_preV hG hW hS (isCues.obj (hp1).2.1) rfl) rfl rfl hl.1 rfl (lv_room (Nat.le_of_ble_eq_true rfl)) dX6_write_21 ⟨Nat.le_of_ble_eq_true rfl, Nat.le_of_ble_eq_true rfl⟩) ?_
  refine lv_icmp_ge (tgt := 29) hx hb dX6_write_24 (by decide) (fun c_24 => ?_) (fun c_24 => ?_)
  · skip
    have c_24 : P.w ≤ (wgo sgW P.W P.w P.w (0, C)).2 := (nI_leI (a := P.w) (b := (wgo sgW P.W P.w P.w (0, C)).2) (by omega) (by omega)).mp c_24
    refine lv_iload_n hx hb dX6_write_29 rfl (lv_at hl 0 rfl) ?_
    refine lv_aload_n hx hb dX6_write_30 rfl (lv_at hl 1 rfl) ?_
    refine lv_iconst (v := nI 0) hx hb dX6_write_31 (by decide) ?_
    refine q_W1 (va_runV (As := [.int (nI 0)]) (rest := [.int (nI ((wgo sgW P.W P.w P.w (0, C)).2))]) ⟨hx, hb, hml, hown, hts⟩ (c_X6_writeCues_f l hs0 hp1 hsc) (cwV 1 hts gX6_write_X6_writeCues rfl rfl rfl (by decide +kernel) ⟨Nat.le_of_ble_eq_true rfl, Nat.le_of_ble_eq_true rfl⟩) (q_preV hG hW hS hs0 rfl) rfl rfl hl.1 rfl (lv_room (Nat.le_of_ble_eq_true rfl)) dX6_write_32 ⟨Nat.le_of_ble_eq_true rfl, Nat.le_of_ble_eq_true rfl⟩) hS (fun w_32 H locs hp32 hW hS => ?_)
    obtain ⟨hsc, fr32⟩ := hp32
    replace hs0 : w_32 0 = some (sysO b) := (fr32 _ (by omega) (by omega)).trans hs0
    replace hp1 : isPlay dA b w_32 2 P := hp1.fr (fun id9 h7 h8 => fr32 id9 (by omega) (by omega))
    replace hbk : isBk dA b w_32 := hbk.fr (fun id9 h7 h8 => (fr32 id9 (by omega) (by omega)))
    replace hhs : isHS dA b w_32 lo n Hs SL := hhs.fr (fun id9 h7 => (fr32 id9 (by omega) (by omega)))
    replace hrd : ∃ R : Rd, isRdr dA b w_32 34 R := rdr_fr hrd (fun id9 h7 h8 => (fr32 id9 (by omega) (by omega)))
    replace hex : ∃ e : va_E, w_32 (lo - 1) = some e := exw_fr hex (fr32 _ (by omega) (by omega))
    have hwl32 := wgo_le (sgN P.N) P.N P.n P.n ((wgo sgW P.W P.w P.w (0, C)).1.1, (wgo sgW P.W P.w P.w (0, C)).1.2)
    refine lv_iadd hx hb dX6_write_35 ?_
    refine q_top (y := nI (((wgo sgW P.W P.w P.w (0, C)).2) + ((wgo (sgN P.N) P.N P.n P.n ((wgo sgW P.W P.w P.w (0, C)).1.1, (wgo sgW P.W P.w P.w (0, C)).1.2)).2))) (nI_add _ _) ?_
    have e9 : wrt P C = ((wgo (sgN P.N) P.N P.n P.n ((wgo sgW P.W P.w P.w (0, C)).1.1, (wgo sgW P.W P.w P.w (0, C)).1.2)).1, (wgo sgW P.W P.w P.w (0, C)).2 + (wgo (sgN P.N) P.N P.n P.n ((wgo sgW P.W P.w P.w (0, C)).1.1, (wgo sgW P.W P.w P.w (0, C)).1.2)).2) := by unfold wrt; dsimp only; exact if_neg (by omega)
    exact q_wi hx hb hr hlocks hW hS dX6_write_36 (by rw [e9]) (by rw [e9]; exact ⟨⟨hs0, hp1, hbk, hhs, hsc, hrd, hlo, hex⟩, by intro id h8 h9; rw [fr32 id (by omega) (by omega)]; rw [fr9 id (by omega) (by omega)]; rw [fr4 id (by omega)]; try rfl⟩) (by decide) (by decide)
  · skip
    have c_24 : ¬ (P.w ≤ (wgo sgW P.W P.w P.w (0, C)).2) := fun h__ => c_24 ((nI_leI (a := P.w) (b := (wgo sgW P.W P.w P.w (0, C)).2) (by omega) (by omega)).mpr h__)
    refine lv_iload_n hx hb dX6_write_27 rfl (lv_at hl 0 rfl) ?_
    have e9 : wrt P C = (wgo sgW P.W P.w P.w (0, C)) := by unfold wrt; dsimp only; exact if_pos (by omega)
    exact q_wi hx hb hr hlocks hW hS dX6_write_28 (by rw [e9]) (by rw [e9]; exact ⟨⟨hs0, hp1, hbk, hhs, hsc, hrd, hlo, hex⟩, by intro id h8 h9; rw [fr9 id (by omega) (by omega)]; rw [fr4 id (by omega)]; try rfl⟩) (by decide) (by decide)

