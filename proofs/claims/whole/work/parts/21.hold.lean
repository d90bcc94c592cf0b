/-- what popInto leaves -/
theorem HS_pop {dA : Nat → Nat} {b : Nat} {w w1 : Wd} {lo n mh : Nat} {Hs H0 : Nat → Pl} {SL : Nat → Option Pl} {a : Nat → Nat} {g : Nat → Option Nat} (hlo : 36 ≤ lo)
    (h2 : ∀ i, i < n → H0 i = Hs i) (h3 : w 31 = some (eQ dA 2 (fun j => (g j).map (fun q => b + q))))
    (h4 : ∀ j, j < 2 → ∀ q, g j = some q → lo ≤ q ∧ (∃ P, SL j = some P ∧ isPlay dA b w q P) ∧ ∀ i, i < mh → a i + 6 ≤ q ∨ q + 6 ≤ a i) (h5 : ∀ j, j < 2 → g j = none → SL j = none) (h6 : ∀ q r, g 0 = some q → g 1 = some r → q + 6 ≤ r ∨ r + 6 ≤ q)
    (hn : 1 ≤ n)
    (hp : isHist dA b w1 29 lo (n - 1) mh a H0 ∧ isPlay dA b w1 2 (H0 (n - 1)) ∧ ∀ id : Nat, id ≠ 29 → (id < 2 ∨ 2 + 6 ≤ id) → w1 id = w id) :
    isHS dA b w1 lo (n - 1) Hs SL ∧ isPlay dA b w1 2 (Hs (n - 1)) ∧ ∀ id : Nat, id ≠ 29 ∧ (id < 2 ∨ 8 ≤ id) → w1 id = w id := by
  obtain ⟨k1, k2, k3⟩ := hp
  have hfr : ∀ id : Nat, id ≠ 29 ∧ (id < 2 ∨ 8 ≤ id) → w1 id = w id := fun id h => k3 id h.1 (by omega)
  refine ⟨⟨mh, a, H0, g, k1, fun i hi => h2 i (by omega), (hfr 31 (by omega)).trans h3, fun j hj q hq => ?_, h5, h6⟩, by rw [← h2 (n - 1) (by omega)]; exact k2, hfr⟩
  obtain ⟨c1, ⟨Q, c2, c3⟩, c4⟩ := h4 j hj q hq
  exact ⟨c1, ⟨Q, c2, c3.fr (fun id c d => hfr id (by omega))⟩, c4⟩
/-- push leaves the kept plays, too -/
theorem HS_push_kept {dA : Nat → Nat} {b : Nat} {w w1 : Wd} {lo n mh : Nat} {H0 : Nat → Pl} {a : Nat → Nat} {P : Pl} {q : Nat} {Q : Pl} (hlo : 36 ≤ lo) (hq : lo ≤ q) (hd : ∀ i, i < mh → a i + 6 ≤ q ∨ q + 6 ≤ a i) (hQ : isPlay dA b w q Q)
    (hp : ∃ (m' : Nat) (a' : Nat → Nat) (Hs' : Nat → Pl), isHist dA b w1 29 lo (pshN n) m' a' Hs' ∧ (∀ i, i < pshN n → Hs' i = psh n H0 P i) ∧ (∀ i, i < m' → (∃ j, j < mh ∧ a' i = a j) ∨ ∀ (id : Nat) (e : va_E), w id = some e → id < a' i) ∧ ∀ id : Nat, id ≠ 29 → id ≠ 29 + 1 → (∀ i, i < m' → id < a' i ∨ a' i + 6 ≤ id) → w1 id = w id) : isPlay dA b w1 q Q := by
  obtain ⟨m', a', Hs', k1, k2, k3, k4⟩ := hp
  refine hQ.fr (fun id c d => k4 id (by omega) (by omega) (fun i hi => ?_))
  rcases k3 i hi with ⟨j', hj', e⟩ | hb
  · have := hd j' hj'; omega
  · have := hb _ _ hQ.2.2.2.2; omega
/-- keep over a slot that is there -/
theorem HS_keep {dA : Nat → Nat} {b : Nat} {w w1 : Wd} {lo n mh : Nat} {Hs H0 : Nat → Pl} {SL : Nat → Option Pl} {a : Nat → Nat} {g : Nat → Option Nat} (hlo : 36 ≤ lo) (h1 : isHist dA b w 29 lo n mh a H0)
    (h2 : ∀ i, i < n → H0 i = Hs i) (h3 : w 31 = some (eQ dA 2 (fun j => (g j).map (fun q => b + q))))
    (h4 : ∀ j, j < 2 → ∀ q, g j = some q → lo ≤ q ∧ (∃ P, SL j = some P ∧ isPlay dA b w q P) ∧ ∀ i, i < mh → a i + 6 ≤ q ∨ q + 6 ≤ a i) (h5 : ∀ j, j < 2 → g j = none → SL j = none) (h6 : ∀ q r, g 0 = some q → g 1 = some r → q + 6 ≤ r ∨ r + 6 ≤ q)
    {x q : Nat} {P : Pl} (hx : x < 2) (hq : g x = some q) (hp : isPlay dA b w1 q P) (hf : ∀ id : Nat, (id < q ∨ q + 6 ≤ id) → w1 id = w id) : isHS dA b w1 lo n Hs (va_up SL x (some P)) := by
  have hal := h1.2.2.2.2.2.1
  have hlq := (h4 x hx q hq).1
  have hdq := (h4 x hx q hq).2.2
  refine ⟨mh, a, H0, g, h1.fr (hf _ (by omega)) (hf _ (by omega)) (fun i hi id c d => hf id (by have := hdq i hi; omega)), h2, (hf 31 (by omega)).trans h3, fun j hj r hr => ?_, fun j hj hr => ?_, h6⟩
  · by_cases e : j = x
    · subst e; cases hq.symm.trans hr
      exact ⟨hlq, ⟨P, by simp [va_up], hp⟩, hdq⟩
    · obtain ⟨c1, ⟨Q, c2, c3⟩, c4⟩ := h4 j hj r hr
      have hqr : q + 6 ≤ r ∨ r + 6 ≤ q := by
        have : (j = 0 ∧ x = 1) ∨ (j = 1 ∧ x = 0) := by omega
        rcases this with ⟨rfl, rfl⟩ | ⟨rfl, rfl⟩
        · exact (h6 r q hr hq).symm
        · exact h6 q r hq hr
      exact ⟨c1, ⟨Q, by simp only [va_up, if_neg e]; exact c2, c3.fr (fun id c d => hf id (by omega))⟩, c4⟩
  · by_cases e : j = x
    · subst e; rw [hq] at hr; cases hr
    · simp only [va_up, if_neg e]; exact h5 j hj hr
/-- keep over an empty slot -/
theorem HS_keepN {dA : Nat → Nat} {b : Nat} {w w1 : Wd} {lo n mh : Nat} {Hs H0 : Nat → Pl} {SL : Nat → Option Pl} {a : Nat → Nat} {g : Nat → Option Nat} (hlo : 36 ≤ lo) (h1 : isHist dA b w 29 lo n mh a H0)
    (h2 : ∀ i, i < n → H0 i = Hs i)
    (h4 : ∀ j, j < 2 → ∀ q, g j = some q → lo ≤ q ∧ (∃ P, SL j = some P ∧ isPlay dA b w q P) ∧ ∀ i, i < mh → a i + 6 ≤ q ∨ q + 6 ≤ a i) (h5 : ∀ j, j < 2 → g j = none → SL j = none) (h6 : ∀ q r, g 0 = some q → g 1 = some r → q + 6 ≤ r ∨ r + 6 ≤ q)
    {x z : Nat} {P : Pl} (hx : x < 2) (hz : lo ≤ z) (hlt : ∀ (id : Nat) (e : va_E), w id = some e → id < z) (h3 : w1 31 = some (eQ dA 2 (va_up (fun j => (g j).map (fun q => b + q)) x (some (b + z))))) (hp : isPlay dA b w1 z P) (hf : ∀ id : Nat, id ≠ 31 → (id < z ∨ z + 6 ≤ id) → w1 id = w id) : isHS dA b w1 lo n Hs (va_up SL x (some P)) := by
  have hal := h1.2.2.2.2.2.1
  have hpl := h1.2.2.2.2.1
  have haz : ∀ i, i < mh → a i + 6 ≤ z := fun i hi => by have := hlt _ _ (hpl i hi).2.2.2.2; omega
  have hgz : ∀ j, j < 2 → ∀ q, g j = some q → q + 6 ≤ z := fun j hj q hq => by
    obtain ⟨c1, ⟨Q, c2, c3⟩, c4⟩ := h4 j hj q hq
    have := hlt _ _ c3.2.2.2.2; omega
  refine ⟨mh, a, H0, va_up g x (some z), h1.fr (hf _ (by omega) (by omega)) (hf _ (by omega) (by omega)) (fun i hi id c d => hf id (by have := hal i hi; omega) (by have := haz i hi; omega)), h2, h3.trans (eQ_congr fun j => ?_), fun j hj r hr => ?_, fun j hj hr => ?_, fun q r hq hr => ?_⟩
  · unfold va_up
    by_cases e : j = x
    · rw [if_pos e, if_pos e]; rfl
    · rw [if_neg e, if_neg e]
  · by_cases e : j = x
    · subst e; simp only [va_up, if_pos] at hr; cases hr
      exact ⟨hz, ⟨P, by simp [va_up], hp⟩, fun i hi => Or.inl (haz i hi)⟩
    · simp only [va_up, if_neg e] at hr
      obtain ⟨c1, ⟨Q, c2, c3⟩, c4⟩ := h4 j hj r hr
      have hqr := hgz j hj r hr
      exact ⟨c1, ⟨Q, by simp only [va_up, if_neg e]; exact c2, c3.fr (fun id c d => hf id (by omega) (by omega))⟩, c4⟩
  · by_cases e : j = x
    · subst e; simp [va_up] at hr
    · simp only [va_up, if_neg e] at hr ⊢; exact h5 j hj hr
  · have : x = 0 ∨ x = 1 := by omega
    rcases this with rfl | rfl
    · simp [va_up] at hq hr; subst hq
      exact Or.inr (hgz 1 (by omega) r hr)
    · simp [va_up] at hq hr; subst hr
      exact Or.inl (hgz 0 (by omega) q hq)
/-- two readers that answer alike -/
def rsim (R R' : Rd) : Prop := R.1 = R'.1 ∧ (R.1 < 3 → R.2.1 = R'.2.1 ∧ ∀ i, i ≤ R.1 → R.2.2 i = R'.2.2 i)
theorem rsim_ok {R R' : Rd} (h : rsim R R') (hr : R.1 ≤ 3) (c : Option Nat) : rok R c = rok R' c := by
  obtain ⟨h1, h2⟩ := h
  unfold rok
  by_cases e : R.1 = 3
  · rw [if_pos e, if_pos (h1 ▸ e)]
  · rw [if_neg e, if_neg (h1 ▸ e)]
    have h3 := (h2 (by omega)).2 R.1 (Nat.le_refl _)
    unfold dOk sOk dval
    rw [← h1, ← h3]
theorem rsim_nx {R R' : Rd} (h : rsim R R') (hr : R.1 ≤ 3) (c : Option Nat) : rsim (rnx R c) (rnx R' c) := by
  have ho := rsim_ok h hr c
  unfold rnx
  rw [← ho]
  by_cases k : rok R c = true
  · rw [if_pos k, if_pos k]
    obtain ⟨h1, h2⟩ := id h
    by_cases e : R.1 = 3
    · rw [if_pos e, if_pos (h1 ▸ e)]
      refine ⟨rfl, fun _ => ⟨rfl, fun i hi => ?_⟩⟩
      have : i = 0 := Nat.le_zero.mp hi
      subst this
      simp [rbeg, va_up]
    · rw [if_neg e, if_neg (h1 ▸ e)]
      have h3 := h2 (by omega)
      cases c with
      | none => exact h
      | some n =>
        dsimp only
        by_cases d : 48 ≤ n ∧ n ≤ 57
        · rw [if_pos d, if_pos d]
          refine ⟨h1, fun _ => ⟨h3.1, fun i hi => ?_⟩⟩
          unfold rdig dval va_up
          dsimp only
          rw [← h1, ← h3.2 R.1 (Nat.le_refl _)]
          by_cases f : i = R.1
          · rw [if_pos f, if_pos f]
          · rw [if_neg f, if_neg f]; exact h3.2 i hi
        · rw [if_neg d, if_neg d]
          refine ⟨by unfold rbeg; rw [h1], fun hl => ⟨h3.1, fun i hi => ?_⟩⟩
          unfold rbeg at hl hi ⊢
          dsimp only at hl hi ⊢
          rw [if_pos hl, if_pos (h1 ▸ hl), ← h1]
          unfold va_up
          by_cases f : i = R.1 + 1
          · rw [if_pos f, if_pos f]
          · rw [if_neg f, if_neg f]; exact h3.2 i (by omega)
  · rw [if_neg k, if_neg k]; exact h
theorem rsim_run {n : Nat} {C : Nat → Nat} {R R' : Rd} (h : rsim R R') (hr : okR R) : ∀ i, rsim (rrun n C R i) (rrun n C R' i) ∧ okR (rrun n C R i)
  | 0 => ⟨h, hr⟩
  | i + 1 => by
    have ih := rsim_run (n := n) (C := C) h hr i
    exact ⟨rsim_nx ih.1 ih.2.1 _, okR_nx ih.2 _⟩
theorem rsim_err {n : Nat} {C : Nat → Nat} {R R' : Rd} (h : rsim R R') (hr : okR R) : ∀ d, rerr n C R d = rerr n C R' d
  | 0 => rfl
  | d + 1 => by
    unfold rerr
    have ih := rsim_run (n := n) (C := C) h hr (n - (d + 1))
    rw [rsim_ok ih.1 ih.2.1, rsim_err h hr d]
/-- the reader at its start -/
def R0 : Rd := (3, -1, fun _ => none)
theorem rsim_rst (R : Rd) : rsim (rst R) R0 := ⟨rfl, fun h => absurd (show 3 < 3 from h) (by decide)⟩
theorem okR_rst {R : Rd} (h : okR R) : okR (rst R) := ⟨Nat.le_refl _, h.2⟩
theorem rerr_R0 {n : Nat} {C : Nat → Nat} {R : Rd} (h : okR R) (d : Nat) : rerr n C (rst R) d = rerr n C R0 d := rsim_err (rsim_rst R) (okR_rst h) d

set_option maxHeartbeats 300000 in
set_option maxRecDepth 100000 in
/-- firstError -/
theorem c_X6_firstError (l : Launch) {D : va_G} {dA : Nat → Nat} {b : Nat} {w : Wd} {lo n nc : Nat} {P : Pl} {Hs : Nat → Pl} {SL : Nat → Option Pl} {C : Nat → Nat} (hs : isSys dA b w lo (P, (n, Hs), SL, (nc, C))) : Met l yX6_firstError wsX6_firstError ({ frames := 5, cells := 0, slots := 0, locals := 108 } : Room) (PC D dA b w [.ref (b + 0)]) (QW D b (some (.int (nI (rerr nc C R0 nc)))) (fun w' => isSys dA b w' lo (P, (n, Hs), SL, (nc, C)) ∧ ∀ id : Nat, 36 ≤ id → id < lo → w' id = w id)) 0 0 (Fb b) := by
  refine q_of (cc := cX6_firstError) (maxL := 1) (ret := (some .int)) (by decide) rfl rfl ?_
  intro p e s m args below meth c ls hx hb hr hml hts hown hlocks hG hW hS hl
  have hown : s.vm.findClass RX6 = some m.cls := hown
  have hinX6 : ∀ w ∈ u_ws RX6 TX6 8, w ∈ wsX6_firstError := fun w h => (goodIn_r (big := wsX6_firstError) (u_ws RX6 TX6 8) [53, 54, 55, 56, 57, 58, 59, 60] (by decide +kernel) (by decide +kernel) w h).1
  have hl : lv_has ls 1 [(0, .ref (b + 0))] := hl
  obtain ⟨hs0, hp1, hbk, hhs, hsc, hrd, hlo, hex⟩ := id hs
  change isPlay dA b w 2 P at hp1
  change isHS dA b w lo n Hs SL at hhs
  change isScr dA b w 32 nc C at hsc
  have hP := hp1.ok
  have hn6 := HS_le hhs
  have hnc := hsc.2.2.1
  obtain ⟨hPw, hPn, hPW, hPN, hPS⟩ := id hP
  obtain ⟨R, hR⟩ := hrd
  refine lv_aload_n hx hb dX6_firstError_0 rfl (lv_at hl 0 rfl) ?_
  refine q_get hx hb hts hinX6 hown hG hW hs0 rfl 6 (by decide) (hts (.fieldLink RX6 45 "FoleyMixer" "script" "LFoleyMixer$Script;") (List.mem_of_getElem? (i := 1) rfl)) rfl rfl dX6_firstError_1 ?_
  refine lv_aload_n hx hb dX6_firstError_4 rfl (lv_at hl 0 rfl) ?_
  refine q_get hx hb hts hinX6 hown hG hW hs0 rfl 7 (by decide) (hts (.fieldLink RX6 52 "FoleyMixer" "reader" "LFoleyMixer$CueReader;") (List.mem_of_getElem? (i := 2) rfl)) rfl rfl dX6_firstError_5 ?_
  have hok9 := hR.2.2
  refine q_W1 (va_runVN (As := [.ref (b + 34)]) (rest := []) ⟨hx, hb, hml, hown, hts⟩ (c_X5_errorFor l hsc hR (by omega)) ⟨(va_cnB 1 hts gX6_firstError_X5_errorFor_n143 rfl rfl rfl (hG.nest 25 rfl) (hts (.initialized RX5) (List.mem_of_getElem? (i := 4) rfl)) (by decide +kernel) ⟨Nat.le_of_ble_eq_true rfl, Nat.le_of_ble_eq_true rfl⟩), (hts (.instanceMethod yX5_errorFor) (List.mem_of_getElem? (i := 3) rfl)), (hts (.selects RX5 yX5_errorFor yX5_errorFor) (List.mem_of_getElem? (i := 5) rfl))⟩ (q_preV hG hW hS (hsc).1 rfl) rfl rfl hl.1 rfl (lv_room (Nat.le_of_ble_eq_true rfl)) dX6_firstError_8 ⟨Nat.le_of_ble_eq_true rfl, Nat.le_of_ble_eq_true rfl⟩) hS (fun w_8 H locs hp8 hW hS => ?_)
  obtain ⟨hR, fr8⟩ := hp8
  replace hs0 : w_8 0 = some (sysO b) := (fr8 _ (by omega) (by omega)).trans hs0
  replace hp1 : isPlay dA b w_8 2 P := hp1.fr (fun id9 h7 h8 => fr8 id9 (by omega) (by omega))
  replace hbk : isBk dA b w_8 := hbk.fr (fun id9 h7 h8 => (fr8 id9 (by omega) (by omega)))
  replace hhs : isHS dA b w_8 lo n Hs SL := hhs.fr (fun id9 h7 => (fr8 id9 (by omega) (by omega)))
  replace hsc : isScr dA b w_8 32 nc C := hsc.fr (fr8 _ (by omega) (by omega)) (fr8 _ (by omega) (by omega))
  replace hex : ∃ e : va_E, w_8 (lo - 1) = some e := exw_fr hex (fr8 _ (by omega) (by omega))
  refine q_top (y := nI (rerr nc C R0 nc)) (by exact congrArg nI (rerr_R0 hok9 nc)) ?_
  exact q_wi hx hb hr hlocks hW hS dX6_firstError_11 (by rfl) (by exact ⟨⟨hs0, hp1, hbk, hhs, hsc, ⟨_, hR⟩, hlo, hex⟩, by intro id h8 h9; rw [fr8 id (by omega) (by omega)]; try rfl⟩) (by decide) (by decide)

set_option maxHeartbeats 300000 in
set_option maxRecDepth 100000 in
/-- undo -/
theorem c_X6_undo (l : Launch) (hl0 : l.stackTraces = false) {D : va_G} {dA : Nat → Nat} {b : Nat} {w : Wd} {lo n nc : Nat} {P : Pl} {Hs : Nat → Pl} {SL : Nat → Option Pl} {C : Nat → Nat} (hs : isSys dA b w lo (P, (n, Hs), SL, (nc, C))) : vx_Met l yX6_undo wsX6_undo ({ frames := 6, cells := 1, slots := 6, locals := 87 } : Room) (PC D dA b w [.ref (b + 0)]) (QW D b (some (.int (nI (n - 1)))) (fun w' => 0 < n ∧ isSys dA b w' lo (Hs (n - 1), (n - 1, Hs), SL, (nc, C)) ∧ ∀ id : Nat, 36 ≤ id → id < lo → w' id = w id)) (XW D b (fun E w' => (E = ISE ∧ n = 0) ∧ w' = w)) 1 6 (Fb b) := by
  refine q_ofX (cc := cX6_undo) (maxL := 1) (ret := (some .int)) (by decide) rfl rfl ?_
  intro p e s m args below meth c ls hx hb hr hml hts hown hlocks hxt hG hW hS hl
  have hown : s.vm.findClass RX6 = some m.cls := hown
  have hinX6 : ∀ w ∈ u_ws RX6 TX6 8, w ∈ wsX6_undo := fun w h => (goodIn_r (big := wsX6_undo) (u_ws RX6 TX6 8) [30, 31, 32, 33, 34, 35, 36, 37] (by decide +kernel) (by decide +kernel) w h).1
  have hl : lv_has ls 1 [(0, .ref (b + 0))] := hl
  obtain ⟨hs0, hp1, hbk, hhs, hsc, hrd, hlo, hex⟩ := id hs
  change isPlay dA b w 2 P at hp1
  change isHS dA b w lo n Hs SL at hhs
  change isScr dA b w 32 nc C at hsc
  have hP := hp1.ok
  have hn6 := HS_le hhs
  have hnc := hsc.2.2.1
  obtain ⟨hPw, hPn, hPW, hPN, hPS⟩ := id hP
  refine lv_aload_n hx hb dX6_undo_0 rfl (lv_at hl 0 rfl) ?_
  refine q_get hx hb hts hinX6 hown hG hW hs0 rfl 4 (by decide) (hts (.fieldLink RX6 32 "FoleyMixer" "history" "LFoleyMixer$History;") (List.mem_of_getElem? (i := 3) rfl)) rfl rfl dX6_undo_1 ?_
  obtain ⟨mh9, a9, H9, gz9, hh9, hv2, hv3, hv4, hv5, hv6⟩ := id hhs
  refine q_R1 (va_runVN (As := []) (rest := []) ⟨hx, hb, hml, hown, hts⟩ (c_X2_size l hh9.1) ⟨(va_cnB 0 hts gX6_undo_X2_size_n164 rfl rfl rfl (hG.nest 77 rfl) (hts (.initialized RX2) (List.mem_of_getElem? (i := 6) rfl)) (by decide +kernel) ⟨Nat.le_of_ble_eq_true rfl, Nat.le_of_ble_eq_true rfl⟩), (hts (.instanceMethod yX2_size) (List.mem_of_getElem? (i := 5) rfl)), (hts (.selects RX2 yX2_size yX2_size) (List.mem_of_getElem? (i := 7) rfl))⟩ (q_preV hG hW hS hh9.1 rfl) rfl rfl hl.1 rfl (lv_room (Nat.le_of_ble_eq_true rfl)) dX6_undo_4 ⟨Nat.le_of_ble_eq_true rfl, Nat.le_of_ble_eq_true rfl⟩) ?_
  refine lv_if_ne (tgt := 20) hx hb dX6_undo_7 (by decide) (fun c_7 => ?_) (fun c_7 => ?_)
  · skip
    have c_7 : ¬ (n = 0) := fun h__ => c_7 ((nI_eq0 (i := n) (by omega)).mpr h__)
    refine lv_aload_n hx hb dX6_undo_20 rfl (lv_at hl 0 rfl) ?_
    refine q_get hx hb hts hinX6 hown hG hW hs0 rfl 4 (by decide) (hts (.fieldLink RX6 32 "FoleyMixer" "history" "LFoleyMixer$History;") (List.mem_of_getElem? (i := 3) rfl)) rfl rfl dX6_undo_21 ?_
    refine lv_aload_n hx hb dX6_undo_24 rfl (lv_at hl 0 rfl) ?_
    refine q_get hx hb hts hinX6 hown hG hW hs0 rfl 2 (by decide) (hts (.fieldLink RX6 23 "FoleyMixer" "now" "LFoleyMixer$Play;") (List.mem_of_getElem? (i := 4) rfl)) rfl rfl dX6_undo_25 ?_
    refine q_W0 (va_runVN (As := [.ref (b + 2)]) (rest := []) ⟨hx, hb, hml, hown, hts⟩ (c_X2_popInto l hh9 hp1 (by omega) (by omega) (by omega) (by omega)) ⟨(va_cnB 1 hts gX6_undo_X2_popInto_n167 rfl rfl rfl (hG.nest 78 rfl) (hts (.initialized RX2) (List.mem_of_getElem? (i := 6) rfl)) (by decide +kernel) ⟨Nat.le_of_ble_eq_true rfl, Nat.le_of_ble_eq_true rfl⟩), (hts (.instanceMethod yX2_popInto) (List.mem_of_getElem? (i := 10) rfl)), (hts (.selects RX2 yX2_popInto yX2_popInto) (List.mem_of_getElem? (i := 11) rfl))⟩ (q_preV hG hW hS hh9.1 rfl) rfl rfl hl.1 rfl (lv_room (Nat.le_of_ble_eq_true rfl)) dX6_undo_28 ⟨Nat.le_of_ble_eq_true rfl, Nat.le_of_ble_eq_true rfl⟩) hS (fun w_28 H locs hp28 hW hS => ?_)
    replace hp28 := HS_pop (by omega) hv2 hv3 hv4 hv5 hv6 (by omega) hp28
    obtain ⟨hhs, hp1, fr28⟩ := hp28
    replace hs0 : w_28 0 = some (sysO b) := (fr28 _ (by omega)).trans hs0
    replace hbk : isBk dA b w_28 := hbk.fr (fun id9 h7 h8 => (fr28 id9 (by omega)))
    replace hsc : isScr dA b w_28 32 nc C := hsc.fr (fr28 _ (by omega)) (fr28 _ (by omega))
    replace hrd : ∃ R : Rd, isRdr dA b w_28 34 R := rdr_fr hrd (fun id9 h7 h8 => (fr28 id9 (by omega)))
    replace hex : ∃ e : va_E, w_28 (lo - 1) = some e := exw_fr hex (fr28 _ (by omega))
    refine lv_aload_n hx hb dX6_undo_31 rfl (lv_at hl 0 rfl) ?_
    refine q_get hx hb hts hinX6 hown hG hW hs0 rfl 4 (by decide) (hts (.fieldLink RX6 32 "FoleyMixer" "history" "LFoleyMixer$History;") (List.mem_of_getElem? (i := 3) rfl)) rfl rfl dX6_undo_32 ?_
    obtain ⟨mh9, a9, H9, gz9, hh9, hv2, hv3, hv4, hv5, hv6⟩ := id hhs
    refine q_R1 (va_runVN (As := []) (rest := []) ⟨hx, hb, hml, hown, hts⟩ (c_X2_size l hh9.1) ⟨(va_cnB 0 hts gX6_undo_X2_size_n164 rfl rfl rfl (hG.nest 77 rfl) (hts (.initialized RX2) (List.mem_of_getElem? (i := 6) rfl)) (by decide +kernel) ⟨Nat.le_of_ble_eq_true rfl, Nat.le_of_ble_eq_true rfl⟩), (hts (.instanceMethod yX2_size) (List.mem_of_getElem? (i := 5) rfl)), (hts (.selects RX2 yX2_size yX2_size) (List.mem_of_getElem? (i := 7) rfl))⟩ (q_preV hG hW hS hh9.1 rfl) rfl rfl hl.1 rfl (lv_room (Nat.le_of_ble_eq_true rfl)) dX6_undo_35 ⟨Nat.le_of_ble_eq_true rfl, Nat.le_of_ble_eq_true rfl⟩) ?_
    exact vx_ret (q_wi hx hb hr hlocks hW hS dX6_undo_38 (by rfl) (by exact ⟨by omega, ⟨hs0, hp1, hbk, hhs, hsc, hrd, hlo, hex⟩, by intro id h8 h9; rw [fr28 id (by omega)]; try rfl⟩) (by decide) (by decide))
  · skip
    have c_7 : n = 0 := (nI_eq0 (i := n) (by omega)).mp c_7
    exact q_thrS hx hb hl0 (by rw [hml]; exact hl.1) hxt hlocks hown hG hW hS (by decide +kernel) (hts (.classLink RX6 131 "java/lang/IllegalStateException") (List.mem_of_getElem? (i := 1) rfl)) (hts (.initialized "java/lang/IllegalStateException") (List.mem_of_getElem? (i := 2) rfl)) 12 1 rfl rfl ngS otS (fun w h => hts w (List.mem_cons_of_mem _ (List.mem_append_right _ h))) dX6_undo_10 dX6_undo_13 dX6_undo_14 dX6_undo_16 dX6_undo_19 (Nat.le_of_ble_eq_true rfl) (Nat.le_of_ble_eq_true rfl) (Nat.le_of_ble_eq_true rfl) (Nat.le_of_ble_eq_true rfl) (Nat.le_of_ble_eq_true rfl) (Nat.le_of_ble_eq_true rfl) (by exact ⟨⟨rfl, by omega⟩, rfl⟩)

set_option maxHeartbeats 300000 in
set_option maxRecDepth 100000 in
/-- goBack -/
theorem c_X6_goBack (l : Launch) (hl0 : l.stackTraces = false) {D : va_G} {dA : Nat → Nat} {b : Nat} {w : Wd} {lo n nc : Nat} {P : Pl} {Hs : Nat → Pl} {SL : Nat → Option Pl} {C : Nat → Nat} (hs : isSys dA b w lo (P, (n, Hs), SL, (nc, C))) (x : Int32) : vx_Met l yX6_goBack wsX6_goBack ({ frames := 6, cells := 6, slots := 110, locals := 86 } : Room) (PC D dA b w [.ref (b + 0), .int (x)]) (QW D b (some (.int (nI (((SL (i32n x)).getD P0).w)))) (fun w' => ((0 ≤ x ∧ x < nI 2) ∧ SL (i32n x) ≠ none) ∧ isSys dA b w' lo ((SL (i32n x)).getD P0, (pshN n, psh n Hs P), SL, (nc, C)) ∧ ∀ id : Nat, 36 ≤ id → id < lo → w' id = w id)) (XW D b (fun E w' => ((E = IAE ∧ ¬ (0 ≤ x ∧ x < nI 2)) ∨ ((0 ≤ x ∧ x < nI 2) ∧ E = ISE ∧ SL (i32n x) = none)) ∧ w' = w)) 6 110 (Fb b) := by
  refine q_ofX (cc := cX6_goBack) (maxL := 3) (ret := (some .int)) (by decide) rfl rfl ?_
  intro p e s m args below meth c ls hx hb hr hml hts hown hlocks hxt hG hW hS hl
  have hown : s.vm.findClass RX6 = some m.cls := hown
  have hinX4 : ∀ w ∈ u_ws RX4 TX4 3, w ∈ wsX6_goBack := fun w h => (goodIn_r (big := wsX6_goBack) (u_ws RX4 TX4 3) [65, 66, 67] (by decide +kernel) (by decide +kernel) w h).1
  have hinX6 : ∀ w ∈ u_ws RX6 TX6 8, w ∈ wsX6_goBack := fun w h => (goodIn_r (big := wsX6_goBack) (u_ws RX6 TX6 8) [57, 58, 59, 60, 61, 62, 63, 64] (by decide +kernel) (by decide +kernel) w h).1
  have hl : lv_has ls 3 [(0, .ref (b + 0)), (1, .int (x))] := hl
  obtain ⟨hs0, hp1, hbk, hhs, hsc, hrd, hlo, hex⟩ := id hs
  change isPlay dA b w 2 P at hp1
  change isHS dA b w lo n Hs SL at hhs
  change isScr dA b w 32 nc C at hsc
  have hP := hp1.ok
  have hn6 := HS_le hhs
  have hnc := hsc.2.2.1
  obtain ⟨hPw, hPn, hPW, hPN, hPS⟩ := id hP
  refine lv_iload_n hx hb dX6_goBack_0 rfl (lv_at hl 1 rfl) ?_
  refine lv_if_lt (tgt := 13) hx hb dX6_goBack_1 (by decide) (fun c_1 => ?_) (fun c_1 => ?_)
  · skip
    exact q_thrS hx hb hl0 (by rw [hml]; exact hl.1) hxt hlocks hown hG hW hS (by decide +kernel) (hts (.classLink RX6 93 "java/lang/IllegalArgumentException") (List.mem_of_getElem? (i := 1) rfl)) (hts (.initialized "java/lang/IllegalArgumentException") (List.mem_of_getElem? (i := 2) rfl)) 13 0 rfl rfl ngA otA (fun w h => hts w (List.mem_cons_of_mem _ (List.mem_append_left _ (List.mem_append_right _ h)))) dX6_goBack_13 dX6_goBack_16 dX6_goBack_17 dX6_goBack_19 dX6_goBack_22 (Nat.le_of_ble_eq_true rfl) (Nat.le_of_ble_eq_true rfl) (Nat.le_of_ble_eq_true rfl) (Nat.le_of_ble_eq_true rfl) (Nat.le_of_ble_eq_true rfl) (Nat.le_of_ble_eq_true rfl) (by first | exact ⟨Or.inl ⟨rfl, fun q9 => absurd q9.1 (Int32.not_le.mpr c_1)⟩, rfl⟩ | exact ⟨Or.inl ⟨rfl, fun q9 => c_10 q9.2⟩, rfl⟩)
  · skip
    refine lv_iload_n hx hb dX6_goBack_4 rfl (lv_at hl 1 rfl) ?_
    refine lv_aload_n hx hb dX6_goBack_5 rfl (lv_at hl 0 rfl) ?_
    refine q_get hx hb hts hinX6 hown hG hW hs0 rfl 5 (by decide) (hts (.fieldLink RX6 38 "FoleyMixer" "snapshots" "[LFoleyMixer$Play;") (List.mem_of_getElem? (i := 5) rfl)) rfl rfl dX6_goBack_6 ?_
    obtain ⟨mh9, a9, H9, gz9, hh9, hv2, hv3, hv4, hv5, hv6⟩ := id hhs
    refine q_alenq hx hb hG hW hv3 dX6_goBack_9 ?_
    refine lv_icmp_lt (tgt := 23) hx hb dX6_goBack_10 (by decide) (fun c_10 => ?_) (fun c_10 => ?_)
    · skip
      obtain ⟨ex9, bx9⟩ := has_n (n := 2) (by decide) (Int32.not_lt.mp c_1) c_10
      have el_23 : x = nI (i32n x) := by exact ex9
      rw [el_23] at hl
      refine lv_aload_n hx hb dX6_goBack_23 rfl (lv_at hl 0 rfl) ?_
      refine q_get hx hb hts hinX6 hown hG hW hs0 rfl 5 (by decide) (hts (.fieldLink RX6 38 "FoleyMixer" "snapshots" "[LFoleyMixer$Play;") (List.mem_of_getElem? (i := 5) rfl)) rfl rfl dX6_goBack_24 ?_
      refine lv_iload_n hx hb dX6_goBack_27 rfl (lv_at hl 1 rfl) ?_
      refine q_aldq hx hb hG hW hv3 (by omega) (by omega) dX6_goBack_28 ?_
      rcases hgx : gz9 (i32n x) with _ | q9
      · skip
        refine q_topv (v' := .null) (by first | rfl | (rw [hgx]; rfl)) ?_
        refine lv_astore_nN (lv' := [(2, .null), (0, .ref (b + 0)), (1, .int (nI (i32n x)))]) hx hb dX6_goBack_29 rfl hl (by decide) rfl (fun ls hl => ?_)
        refine lv_aload_nN hx hb dX6_goBack_30 rfl (lv_at hl 0 rfl) ?_
        refine lv_ifnonnullN hx hb dX6_goBack_31 ?_
        exact q_thrS hx hb hl0 (by rw [hml]; exact hl.1) hxt hlocks hown hG hW hS (by decide +kernel) (hts (.classLink RX6 131 "java/lang/IllegalStateException") (List.mem_of_getElem? (i := 3) rfl)) (hts (.initialized "java/lang/IllegalStateException") (List.mem_of_getElem? (i := 4) rfl)) 14 1 rfl rfl ngS otS (fun w h => hts w (List.mem_cons_of_mem _ (List.mem_append_right _ h))) dX6_goBack_34 dX6_goBack_37 dX6_goBack_38 dX6_goBack_40 dX6_goBack_43 (Nat.le_of_ble_eq_true rfl) (Nat.le_of_ble_eq_true rfl) (Nat.le_of_ble_eq_true rfl) (Nat.le_of_ble_eq_true rfl) (Nat.le_of_ble_eq_true rfl) (Nat.le_of_ble_eq_true rfl) (by exact ⟨Or.inr ⟨⟨Int32.not_lt.mp c_1, c_10⟩, rfl, hv5 _ bx9 hgx⟩, rfl⟩)
      · skip
        refine q_topv (v' := .ref (b + q9)) (by first | rfl | (rw [hgx]; rfl)) ?_
        obtain ⟨hlq9, ⟨Q9, hsq9, hQ9⟩, hdq9⟩ := hv4 _ bx9 q9 hgx
        refine lv_astore_n (lv' := [(2, .ref (b + q9)), (0, .ref (b + 0)), (1, .int (nI (i32n x)))]) hx hb dX6_goBack_29 rfl hl (by decide) rfl (fun ls hl => ?_)
        refine lv_aload_n hx hb dX6_goBack_30 rfl (lv_at hl 0 rfl) ?_
        refine lv_ifnonnull (tgt := 44) hx hb dX6_goBack_31 (by decide) ?_
        have hlo2 := hlo
        refine lv_aload_n hx hb dX6_goBack_44 rfl (lv_at hl 1 rfl) ?_
        refine q_get hx hb hts hinX6 hown hG hW hs0 rfl 4 (by decide) (hts (.fieldLink RX6 32 "FoleyMixer" "history" "LFoleyMixer$History;") (List.mem_of_getElem? (i := 6) rfl)) rfl rfl dX6_goBack_45 ?_
        refine lv_aload_n hx hb dX6_goBack_48 rfl (lv_at hl 1 rfl) ?_
        refine q_get hx hb hts hinX6 hown hG hW hs0 rfl 2 (by decide) (hts (.fieldLink RX6 23 "FoleyMixer" "now" "LFoleyMixer$Play;") (List.mem_of_getElem? (i := 7) rfl)) rfl rfl dX6_goBack_49 ?_
        refine q_W0 (va_runVN (As := [.ref (b + 2)]) (rest := []) ⟨hx, hb, hml, hown, hts⟩ (c_X2_push l hh9 hp1 (by omega) (by omega) (by omega) hex (by omega)) ⟨(va_cnB 1 hts gX6_goBack_X2_push_n79 rfl rfl rfl (hG.nest 61 rfl) (hts (.initialized RX2) (List.mem_of_getElem? (i := 9) rfl)) (by decide +kernel) ⟨Nat.le_of_ble_eq_true rfl, Nat.le_of_ble_eq_true rfl⟩), (hts (.instanceMethod yX2_push) (List.mem_of_getElem? (i := 8) rfl)), (hts (.selects RX2 yX2_push yX2_push) (List.mem_of_getElem? (i := 10) rfl))⟩ (q_preV hG hW hS hh9.1 rfl) rfl rfl hl.1 rfl (lv_room (Nat.le_of_ble_eq_true rfl)) dX6_goBack_52 ⟨Nat.le_of_ble_eq_true rfl, Nat.le_of_ble_eq_true rfl⟩) hS (fun w_52 H locs hp52 hW hS => ?_)
        have hkq9 := HS_push_kept (by omega) hlq9 hdq9 hQ9 hp52
        replace hp52 := HS_push (by omega) hv2 hv3 hv4 hv5 hv6 (HS_le hhs) hp52
        obtain ⟨hhs, fr52⟩ := hp52
        replace hs0 : w_52 0 = some (sysO b) := (fr52 _ (by omega)).trans hs0
        replace hp1 : isPlay dA b w_52 2 P := hp1.fr (fun id9 h7 h8 => fr52 id9 (by omega))
        replace hbk : isBk dA b w_52 := hbk.fr (fun id9 h7 h8 => (fr52 id9 (by omega)))
        replace hsc : isScr dA b w_52 32 nc C := hsc.fr (fr52 _ (by omega)) (fr52 _ (by omega))
        replace hrd : ∃ R : Rd, isRdr dA b w_52 34 R := rdr_fr hrd (fun id9 h7 h8 => (fr52 id9 (by omega)))
        replace hex : ∃ e : va_E, w_52 (lo - 1) = some e := exw_fr hex (fr52 _ (by omega))
        refine lv_aload_n hx hb dX6_goBack_55 rfl (lv_at hl 1 rfl) ?_
        refine q_get hx hb hts hinX6 hown hG hW hs0 rfl 2 (by decide) (hts (.fieldLink RX6 23 "FoleyMixer" "now" "LFoleyMixer$Play;") (List.mem_of_getElem? (i := 7) rfl)) rfl rfl dX6_goBack_56 ?_
        refine lv_aload_n hx hb dX6_goBack_59 rfl (lv_at hl 0 rfl) ?_
        refine q_W0 (va_runVN (As := [.ref (b + q9)]) (rest := []) ⟨hx, hb, hml, hown, hts⟩ (c_X4_copyFrom l hp1 hkq9 (by omega)) ⟨(va_cnB 1 hts gX6_goBack_X4_copyFrom_n173 rfl rfl rfl (hG.nest 39 rfl) (hts (.initialized RX4) (List.mem_of_getElem? (i := 16) rfl)) (by decide +kernel) ⟨Nat.le_of_ble_eq_true rfl, Nat.le_of_ble_eq_true rfl⟩), (hts (.instanceMethod yX4_copyFrom) (List.mem_of_getElem? (i := 45) rfl)), (hts (.selects RX4 yX4_copyFrom yX4_copyFrom) (List.mem_of_getElem? (i := 46) rfl))⟩ (q_preV hG hW hS (hp1).1 rfl) rfl rfl hl.1 rfl (lv_room (Nat.le_of_ble_eq_true rfl)) dX6_goBack_60 ⟨Nat.le_of_ble_eq_true rfl, Nat.le_of_ble_eq_true rfl⟩) hS (fun w_60 H locs hp60 hW hS => ?_)
        obtain ⟨hp1, fr60⟩ := hp60
        replace hs0 : w_60 0 = some (sysO b) := (fr60 _ (by omega)).trans hs0
        replace hbk : isBk dA b w_60 := hbk.fr (fun id9 h7 h8 => (fr60 id9 (by omega)))
        replace hsc : isScr dA b w_60 32 nc C := hsc.fr (fr60 _ (by omega)) (fr60 _ (by omega))
        replace hrd : ∃ R : Rd, isRdr dA b w_60 34 R := rdr_fr hrd (fun id9 h7 h8 => (fr60 id9 (by omega)))
        replace hex : ∃ e : va_E, w_60 (lo - 1) = some e := exw_fr hex (fr60 _ (by omega))
        replace hhs : isHS dA b w_60 lo (pshN n) (psh n Hs P) SL := hhs.fr (fun id9 h7 => (fr60 id9 (by omega)))
        replace hkq9 : isPlay dA b w_60 q9 Q9 := hkq9.fr (fun id9 h7 h8 => fr60 id9 (by omega))
        refine lv_aload_n hx hb dX6_goBack_63 rfl (lv_at hl 1 rfl) ?_
        refine q_get hx hb hts hinX6 hown hG hW hs0 rfl 2 (by decide) (hts (.fieldLink RX6 23 "FoleyMixer" "now" "LFoleyMixer$Play;") (List.mem_of_getElem? (i := 7) rfl)) rfl rfl dX6_goBack_64 ?_
        refine q_getN hx hb hts hinX4 hown hG hW (hp1).1 rfl 0 (by decide) (hG.nest 11 rfl) rfl rfl dX6_goBack_67 ?_
        refine q_R1 (va_runVN (As := []) (rest := []) ⟨hx, hb, hml, hown, hts⟩ (c_X1_size l (hp1).2.1) ⟨(va_cnB 0 hts gX6_goBack_X1_size_n89 rfl rfl rfl (hG.nest 34 rfl) (hts (.initialized RX1) (List.mem_of_getElem? (i := 28) rfl)) (by decide +kernel) ⟨Nat.le_of_ble_eq_true rfl, Nat.le_of_ble_eq_true rfl⟩), (hts (.instanceMethod yX1_size) (List.mem_of_getElem? (i := 54) rfl)), (hts (.selects RX1 yX1_size yX1_size) (List.mem_of_getElem? (i := 55) rfl))⟩ (q_preV hG hW hS (isCues.obj (hp1).2.1) rfl) rfl rfl hl.1 rfl (lv_room (Nat.le_of_ble_eq_true rfl)) dX6_goBack_70 ⟨Nat.le_of_ble_eq_true rfl, Nat.le_of_ble_eq_true rfl⟩) ?_
        exact vx_ret (q_wi hx hb hr hlocks hW hS dX6_goBack_73 (by rw [hsq9]; rfl) (by rw [hsq9]; exact ⟨⟨⟨Int32.not_lt.mp c_1, c_10⟩, fun q9 => nomatch q9⟩, ⟨hs0, hp1, hbk, hhs, hsc, hrd, hlo, hex⟩, by intro id h8 h9; rw [fr60 id (by omega)]; rw [fr52 id (by omega)]; try rfl⟩) (by decide) (by decide))
    · skip
      exact q_thrS hx hb hl0 (by rw [hml]; exact hl.1) hxt hlocks hown hG hW hS (by decide +kernel) (hts (.classLink RX6 93 "java/lang/IllegalArgumentException") (List.mem_of_getElem? (i := 1) rfl)) (hts (.initialized "java/lang/IllegalArgumentException") (List.mem_of_getElem? (i := 2) rfl)) 13 0 rfl rfl ngA otA (fun w h => hts w (List.mem_cons_of_mem _ (List.mem_append_left _ (List.mem_append_right _ h)))) dX6_goBack_13 dX6_goBack_16 dX6_goBack_17 dX6_goBack_19 dX6_goBack_22 (Nat.le_of_ble_eq_true rfl) (Nat.le_of_ble_eq_true rfl) (Nat.le_of_ble_eq_true rfl) (Nat.le_of_ble_eq_true rfl) (Nat.le_of_ble_eq_true rfl) (Nat.le_of_ble_eq_true rfl) (by first | exact ⟨Or.inl ⟨rfl, fun q9 => absurd q9.1 (Int32.not_le.mpr c_1)⟩, rfl⟩ | exact ⟨Or.inl ⟨rfl, fun q9 => c_10 q9.2⟩, rfl⟩)

set_option maxHeartbeats 300000 in
set_option maxRecDepth 100000 in
/-- keep -/
theorem c_X6_keep (l : Launch) (hl0 : l.stackTraces = false) {D : va_G} {dA : Nat → Nat} {b : Nat} {w : Wd} {lo n nc : Nat} {P : Pl} {Hs : Nat → Pl} {SL : Nat → Option Pl} {C : Nat → Nat} (hs : isSys dA b w lo (P, (n, Hs), SL, (nc, C))) (x : Int32) : vx_Met l yX6_keep wsX6_keep ({ frames := 6, cells := 6, slots := 110, locals := 82 } : Room) (PC D dA b w [.ref (b + 0), .int (x)]) (QW D b (some (.int (nI (P.w)))) (fun w' => (0 ≤ x ∧ x < nI 2) ∧ isSys dA b w' lo (P, (n, Hs), va_up SL (i32n x) (some P), (nc, C)) ∧ ∀ id : Nat, 36 ≤ id → id < lo → w' id = w id)) (XW D b (fun E w' => (E = IAE ∧ ¬ (0 ≤ x ∧ x < nI 2)) ∧ w' = w)) 6 110 (Fb b) := by
  refine q_ofX (cc := cX6_keep) (maxL := 3) (ret := (some .int)) (by decide) rfl rfl ?_
  intro p e s m args below meth c ls hx hb hr hml hts hown hlocks hxt hG hW hS hl
  have hown : s.vm.findClass RX6 = some m.cls := hown
  have hinX4 : ∀ w ∈ u_ws RX4 TX4 3, w ∈ wsX6_keep := fun w h => (goodIn_r (big := wsX6_keep) (u_ws RX4 TX4 3) [52, 53, 54] (by decide +kernel) (by decide +kernel) w h).1
  have hinX6 : ∀ w ∈ u_ws RX6 TX6 8, w ∈ wsX6_keep := fun w h => (goodIn_r (big := wsX6_keep) (u_ws RX6 TX6 8) [44, 45, 46, 47, 48, 49, 50, 51] (by decide +kernel) (by decide +kernel) w h).1
  have hl : lv_has ls 3 [(0, .ref (b + 0)), (1, .int (x))] := hl
  obtain ⟨hs0, hp1, hbk, hhs, hsc, hrd, hlo, hex⟩ := id hs
  change isPlay dA b w 2 P at hp1
  change isHS dA b w lo n Hs SL at hhs
  change isScr dA b w 32 nc C at hsc
  have hP := hp1.ok
  have hn6 := HS_le hhs
  have hnc := hsc.2.2.1
  obtain ⟨hPw, hPn, hPW, hPN, hPS⟩ := id hP
  refine lv_iload_n hx hb dX6_keep_0 rfl (lv_at hl 1 rfl) ?_
  refine lv_if_lt (tgt := 13) hx hb dX6_keep_1 (by decide) (fun c_1 => ?_) (fun c_1 => ?_)
  · skip
    exact q_thrS hx hb hl0 (by rw [hml]; exact hl.1) hxt hlocks hown hG hW hS (by decide +kernel) (hts (.classLink RX6 93 "java/lang/IllegalArgumentException") (List.mem_of_getElem? (i := 1) rfl)) (hts (.initialized "java/lang/IllegalArgumentException") (List.mem_of_getElem? (i := 2) rfl)) 13 0 rfl rfl ngA otA (fun w h => hts w (List.mem_cons_of_mem _ (List.mem_append_right _ h))) dX6_keep_13 dX6_keep_16 dX6_keep_17 dX6_keep_19 dX6_keep_22 (Nat.le_of_ble_eq_true rfl) (Nat.le_of_ble_eq_true rfl) (Nat.le_of_ble_eq_true rfl) (Nat.le_of_ble_eq_true rfl) (Nat.le_of_ble_eq_true rfl) (Nat.le_of_ble_eq_true rfl) (by first | exact ⟨⟨rfl, fun q9 => absurd q9.1 (Int32.not_le.mpr c_1)⟩, rfl⟩ | exact ⟨⟨rfl, fun q9 => c_10 q9.2⟩, rfl⟩)
  · skip
    refine lv_iload_n hx hb dX6_keep_4 rfl (lv_at hl 1 rfl) ?_
    refine lv_aload_n hx hb dX6_keep_5 rfl (lv_at hl 0 rfl) ?_
    refine q_get hx hb hts hinX6 hown hG hW hs0 rfl 5 (by decide) (hts (.fieldLink RX6 38 "FoleyMixer" "snapshots" "[LFoleyMixer$Play;") (List.mem_of_getElem? (i := 3) rfl)) rfl rfl dX6_keep_6 ?_
    obtain ⟨mh9, a9, H9, gz9, hh9, hv2, hv3, hv4, hv5, hv6⟩ := id hhs
    refine q_alenq hx hb hG hW hv3 dX6_keep_9 ?_
    refine lv_icmp_lt (tgt := 23) hx hb dX6_keep_10 (by decide) (fun c_10 => ?_) (fun c_10 => ?_)
    · skip
      obtain ⟨ex9, bx9⟩ := has_n (n := 2) (by decide) (Int32.not_lt.mp c_1) c_10
      have el_23 : x = nI (i32n x) := by exact ex9
      rw [el_23] at hl
      refine lv_aload_n hx hb dX6_keep_23 rfl (lv_at hl 0 rfl) ?_
      refine q_get hx hb hts hinX6 hown hG hW hs0 rfl 5 (by decide) (hts (.fieldLink RX6 38 "FoleyMixer" "snapshots" "[LFoleyMixer$Play;") (List.mem_of_getElem? (i := 3) rfl)) rfl rfl dX6_keep_24 ?_
      refine lv_iload_n hx hb dX6_keep_27 rfl (lv_at hl 1 rfl) ?_
      refine q_aldq hx hb hG hW hv3 (by omega) (by omega) dX6_keep_28 ?_
      rcases hgx : gz9 (i32n x) with _ | q9
      · skip
        refine q_topv (v' := .null) (by first | rfl | (rw [hgx]; rfl)) ?_
        refine lv_astore_nN (lv' := [(2, .null), (0, .ref (b + 0)), (1, .int (nI (i32n x)))]) hx hb dX6_keep_29 rfl hl (by decide) rfl (fun ls hl => ?_)
        refine lv_aload_nN hx hb dX6_keep_30 rfl (lv_at hl 0 rfl) ?_
        refine lv_ifnonnullN hx hb dX6_keep_31 ?_
        obtain ⟨z9, hz⟩ : ∃ z9, s.heap.size = b + z9 := ⟨s.heap.size - b, by have := hW.lt hs0; omega⟩
        have hlt9 : ∀ (id : Nat) (e : va_E), w id = some e → id < z9 := fun id e h => by have := hW.lt h; omega
        have hlz : lo ≤ z9 := by
          obtain ⟨e9, he9⟩ := hex
          have := hlt9 (lo - 1) e9 he9
          omega
        refine q_new (ci := 4) (fs := [.null, .null, .null]) hx hb hts hinX4 tyX4_ok hown (hts (.classLink RX6 36 RX4) (List.mem_of_getElem? (i := 4) rfl)) (hts (.instantiable RX4 3) (List.mem_of_getElem? (i := 5) rfl)) (hts (.initialized RX4) (List.mem_of_getElem? (i := 6) rfl)) hG hW hS hz rfl (fun j hj => by rcases (show j = 0 ∨ j = 1 ∨ j = 2 by omega) with rfl | rfl | rfl <;> rfl) (Nat.le_of_ble_eq_true rfl) (Nat.le_of_ble_eq_true rfl) dX6_keep_34 (fun H hW hS hz => ?_)
        obtain ⟨w1, ew1⟩ : ∃ wq__ : Wd, wq__ = va_up w z9 (some (.inr (4, [.null, .null, .null]))) := ⟨_, rfl⟩
        rw [← ew1] at hW
        have frw1 : ∀ id : Nat, id ≠ z9 → w1 id = w id := fun id h9 => by rw [ew1, up_ne h9]
        replace hs0 : w1 0 = some (sysO b) := (frw1 _ (by omega)).trans hs0
        replace hp1 : isPlay dA b w1 2 P := hp1.fr (fun id9 h7 h8 => frw1 id9 (by omega))
        replace hbk : isBk dA b w1 := hbk.fr (fun id9 h7 h8 => (frw1 id9 (by omega)))
        replace hsc : isScr dA b w1 32 nc C := hsc.fr (frw1 _ (by omega)) (frw1 _ (by omega))
        replace hrd : ∃ R : Rd, isRdr dA b w1 34 R := rdr_fr hrd (fun id9 h7 h8 => (frw1 id9 (by omega)))
        replace hex : ∃ e : va_E, w1 (lo - 1) = some e := exw_fr hex (frw1 _ (by omega))
        replace hv3 : w1 31 = some (eQ dA 2 (fun j => (gz9 j).map (fun q => b + q))) := (frw1 _ (by omega)).trans hv3
        have hn34_1 : w1 z9 = some (.inr (4, [.null, .null, .null])) := by rw [ew1]; exact up_eq
        refine lv_dup hx hb dX6_keep_37 rfl ?_
        refine q_call (va_runIN (As := []) (rest := [.ref (b + z9)]) ⟨hx, hb, hml, hown, hts⟩ (c_X4_init l hn34_1) ⟨(va_cnB 0 hts gX6_keep_X4_init_n172 rfl rfl rfl (hG.nest 79 rfl) (hts (.initialized RX4) (List.mem_of_getElem? (i := 6) rfl)) (by decide +kernel) ⟨Nat.le_of_ble_eq_true rfl, Nat.le_of_ble_eq_true rfl⟩), rfl, (hts (.instanceMethod yX4_init) (List.mem_of_getElem? (i := 8) rfl))⟩ (q_preI hG hW hS (by omega)) rfl rfl hl.1 rfl (lv_room (Nat.le_of_ble_eq_true rfl)) dX6_keep_38 ⟨Nat.le_of_ble_eq_true rfl, Nat.le_of_ble_eq_true rfl⟩) hS (fun w_38 H locs hp38 hW hS hz => ?_)
        obtain ⟨hpl38, fr38⟩ := hp38
        replace hs0 : w_38 0 = some (sysO b) := (fr38 _ (by omega)).trans hs0
        replace hp1 : isPlay dA b w_38 2 P := hp1.fr (fun id9 h7 h8 => fr38 id9 (by omega))
        replace hbk : isBk dA b w_38 := hbk.fr (fun id9 h7 h8 => (fr38 id9 (by omega)))
        replace hsc : isScr dA b w_38 32 nc C := hsc.fr (fr38 _ (by omega)) (fr38 _ (by omega))
        replace hrd : ∃ R : Rd, isRdr dA b w_38 34 R := rdr_fr hrd (fun id9 h7 h8 => (fr38 id9 (by omega)))
        replace hex : ∃ e : va_E, w_38 (lo - 1) = some e := exw_fr hex (fr38 _ (by omega))
        replace hv3 : w_38 31 = some (eQ dA 2 (fun j => (gz9 j).map (fun q => b + q))) := (fr38 _ (by omega)).trans hv3
        refine lv_astore_n (lv' := [(2, .ref (b + z9)), (0, .ref (b + 0)), (1, .int (nI (i32n x)))]) hx hb dX6_keep_41 rfl hl (by decide) rfl (fun ls hl => ?_)
        refine lv_aload_n hx hb dX6_keep_42 rfl (lv_at hl 1 rfl) ?_
        refine q_get hx hb hts hinX6 hown hG hW hs0 rfl 5 (by decide) (hts (.fieldLink RX6 38 "FoleyMixer" "snapshots" "[LFoleyMixer$Play;") (List.mem_of_getElem? (i := 3) rfl)) rfl rfl dX6_keep_43 ?_
        refine lv_iload_n hx hb dX6_keep_46 rfl (lv_at hl 2 rfl) ?_
        refine lv_aload_n hx hb dX6_keep_47 rfl (lv_at hl 0 rfl) ?_
        refine q_astq hx hb hG hW hS hv3 hpl38.1 (by omega) (by omega) dX6_keep_48 (fun H locs hW hS hz48 => ?_)
        replace hz := hz48.trans hz
        obtain ⟨w2, ew2⟩ : ∃ wq__ : Wd, wq__ = va_up w_38 31 (some (eQ dA 2 (va_up (fun j => (gz9 j).map (fun q => b + q)) (i32n x) (some (b + z9))))) := ⟨_, rfl⟩
        replace hW : WP D b w2 H := by rw [ew2]; exact hW
        have frw2 : ∀ id : Nat, id ≠ 31 → w2 id = w_38 id := fun id h9 => by rw [ew2, up_ne h9]
        replace hs0 : w2 0 = some (sysO b) := (frw2 _ (by omega)).trans hs0
        replace hp1 : isPlay dA b w2 2 P := hp1.fr (fun id9 h7 h8 => frw2 id9 (by omega))
        replace hbk : isBk dA b w2 := hbk.fr (fun id9 h7 h8 => (frw2 id9 (by omega)))
        replace hsc : isScr dA b w2 32 nc C := hsc.fr (frw2 _ (by omega)) (frw2 _ (by omega))
        replace hrd : ∃ R : Rd, isRdr dA b w2 34 R := rdr_fr hrd (fun id9 h7 h8 => (frw2 id9 (by omega)))
        replace hex : ∃ e : va_E, w2 (lo - 1) = some e := exw_fr hex (frw2 _ (by omega))
        replace hpl38 : isPlay dA b w2 z9 P0 := hpl38.fr (fun id9 h7 h8 => frw2 id9 (by omega))
        replace hv3 : w2 31 = some (eQ dA 2 (va_up (fun j => (gz9 j).map (fun q => b + q)) (i32n x) (some (b + z9)))) := by rw [ew2]; exact up_eq
        refine lv_aload_n hx hb dX6_keep_49 rfl (lv_at hl 0 rfl) ?_
        refine lv_aload_n hx hb dX6_keep_50 rfl (lv_at hl 1 rfl) ?_
        refine q_get hx hb hts hinX6 hown hG hW hs0 rfl 2 (by decide) (hts (.fieldLink RX6 23 "FoleyMixer" "now" "LFoleyMixer$Play;") (List.mem_of_getElem? (i := 7) rfl)) rfl rfl dX6_keep_51 ?_
        refine q_W0 (va_runVN (As := [.ref (b + 2)]) (rest := []) ⟨hx, hb, hml, hown, hts⟩ (c_X4_copyFrom l hpl38 hp1 (by omega)) ⟨(va_cnB 1 hts gX6_keep_X4_copyFrom_n173 rfl rfl rfl (hG.nest 39 rfl) (hts (.initialized RX4) (List.mem_of_getElem? (i := 6) rfl)) (by decide +kernel) ⟨Nat.le_of_ble_eq_true rfl, Nat.le_of_ble_eq_true rfl⟩), (hts (.instanceMethod yX4_copyFrom) (List.mem_of_getElem? (i := 32) rfl)), (hts (.selects RX4 yX4_copyFrom yX4_copyFrom) (List.mem_of_getElem? (i := 33) rfl))⟩ (q_preV hG hW hS (hpl38).1 rfl) rfl rfl hl.1 rfl (lv_room (Nat.le_of_ble_eq_true rfl)) dX6_keep_54 ⟨Nat.le_of_ble_eq_true rfl, Nat.le_of_ble_eq_true rfl⟩) hS (fun w_54 H locs hp54 hW hS => ?_)
        obtain ⟨hpl38, fr54⟩ := hp54
        replace hs0 : w_54 0 = some (sysO b) := (fr54 _ (by omega)).trans hs0
        replace hp1 : isPlay dA b w_54 2 P := hp1.fr (fun id9 h7 h8 => fr54 id9 (by omega))
        replace hbk : isBk dA b w_54 := hbk.fr (fun id9 h7 h8 => (fr54 id9 (by omega)))
        replace hsc : isScr dA b w_54 32 nc C := hsc.fr (fr54 _ (by omega)) (fr54 _ (by omega))
        replace hrd : ∃ R : Rd, isRdr dA b w_54 34 R := rdr_fr hrd (fun id9 h7 h8 => (fr54 id9 (by omega)))
        replace hex : ∃ e : va_E, w_54 (lo - 1) = some e := exw_fr hex (fr54 _ (by omega))
        replace hv3 : w_54 31 = some (eQ dA 2 (va_up (fun j => (gz9 j).map (fun q => b + q)) (i32n x) (some (b + z9)))) := (fr54 _ (by omega)).trans hv3
        refine lv_aload_n hx hb dX6_keep_57 rfl (lv_at hl 1 rfl) ?_
        refine q_get hx hb hts hinX6 hown hG hW hs0 rfl 2 (by decide) (hts (.fieldLink RX6 23 "FoleyMixer" "now" "LFoleyMixer$Play;") (List.mem_of_getElem? (i := 7) rfl)) rfl rfl dX6_keep_58 ?_
        refine q_getN hx hb hts hinX4 hown hG hW (hp1).1 rfl 0 (by decide) (hG.nest 11 rfl) rfl rfl dX6_keep_61 ?_
        refine q_R1 (va_runVN (As := []) (rest := []) ⟨hx, hb, hml, hown, hts⟩ (c_X1_size l (hp1).2.1) ⟨(va_cnB 0 hts gX6_keep_X1_size_n89 rfl rfl rfl (hG.nest 34 rfl) (hts (.initialized RX1) (List.mem_of_getElem? (i := 15) rfl)) (by decide +kernel) ⟨Nat.le_of_ble_eq_true rfl, Nat.le_of_ble_eq_true rfl⟩), (hts (.instanceMethod yX1_size) (List.mem_of_getElem? (i := 41) rfl)), (hts (.selects RX1 yX1_size yX1_size) (List.mem_of_getElem? (i := 42) rfl))⟩ (q_preV hG hW hS (isCues.obj (hp1).2.1) rfl) rfl rfl hl.1 rfl (lv_room (Nat.le_of_ble_eq_true rfl)) dX6_keep_64 ⟨Nat.le_of_ble_eq_true rfl, Nat.le_of_ble_eq_true rfl⟩) ?_
        exact vx_ret (q_wi hx hb hr hlocks hW hS dX6_keep_67 (by rfl) (by exact ⟨⟨Int32.not_lt.mp c_1, c_10⟩, ⟨hs0, hp1, hbk, HS_keepN (by omega) hh9 hv2 hv4 hv5 hv6 bx9 hlz hlt9 hv3 hpl38 (fun id h h0 => by rw [fr54 id (by omega)]; rw [frw2 id (by omega)]; rw [fr38 id (by omega)]; rw [frw1 id (by omega)]), hsc, hrd, hlo, hex⟩, by intro id h8 h9; rw [fr54 id (by omega)]; rw [frw2 id (by omega)]; rw [fr38 id (by omega)]; rw [frw1 id (by omega)]; try rfl⟩) (by decide) (by decide))
      · skip
        refine q_topv (v' := .ref (b + q9)) (by first | rfl | (rw [hgx]; rfl)) ?_
        obtain ⟨hlq9, ⟨Q9, hsq9, hQ9⟩, hdq9⟩ := hv4 _ bx9 q9 hgx
        refine lv_astore_n (lv' := [(2, .ref (b + q9)), (0, .ref (b + 0)), (1, .int (nI (i32n x)))]) hx hb dX6_keep_29 rfl hl (by decide) rfl (fun ls hl => ?_)
        refine lv_aload_n hx hb dX6_keep_30 rfl (lv_at hl 0 rfl) ?_
        refine lv_ifnonnull (tgt := 49) hx hb dX6_keep_31 (by decide) ?_
        refine lv_aload_n hx hb dX6_keep_49 rfl (lv_at hl 0 rfl) ?_
        refine lv_aload_n hx hb dX6_keep_50 rfl (lv_at hl 1 rfl) ?_
        refine q_get hx hb hts hinX6 hown hG hW hs0 rfl 2 (by decide) (hts (.fieldLink RX6 23 "FoleyMixer" "now" "LFoleyMixer$Play;") (List.mem_of_getElem? (i := 7) rfl)) rfl rfl dX6_keep_51 ?_
        refine q_W0 (va_runVN (As := [.ref (b + 2)]) (rest := []) ⟨hx, hb, hml, hown, hts⟩ (c_X4_copyFrom l hQ9 hp1 (by omega)) ⟨(va_cnB 1 hts gX6_keep_X4_copyFrom_n173 rfl rfl rfl (hG.nest 39 rfl) (hts (.initialized RX4) (List.mem_of_getElem? (i := 6) rfl)) (by decide +kernel) ⟨Nat.le_of_ble_eq_true rfl, Nat.le_of_ble_eq_true rfl⟩), (hts (.instanceMethod yX4_copyFrom) (List.mem_of_getElem? (i := 32) rfl)), (hts (.selects RX4 yX4_copyFrom yX4_copyFrom) (List.mem_of_getElem? (i := 33) rfl))⟩ (q_preV hG hW hS (hQ9).1 rfl) rfl rfl hl.1 rfl (lv_room (Nat.le_of_ble_eq_true rfl)) dX6_keep_54 ⟨Nat.le_of_ble_eq_true rfl, Nat.le_of_ble_eq_true rfl⟩) hS (fun w_54 H locs hp54 hW hS => ?_)
        obtain ⟨hQ9, fr54⟩ := hp54
        replace hs0 : w_54 0 = some (sysO b) := (fr54 _ (by omega)).trans hs0
        replace hp1 : isPlay dA b w_54 2 P := hp1.fr (fun id9 h7 h8 => fr54 id9 (by omega))
        replace hbk : isBk dA b w_54 := hbk.fr (fun id9 h7 h8 => (fr54 id9 (by omega)))
        replace hsc : isScr dA b w_54 32 nc C := hsc.fr (fr54 _ (by omega)) (fr54 _ (by omega))
        replace hrd : ∃ R : Rd, isRdr dA b w_54 34 R := rdr_fr hrd (fun id9 h7 h8 => (fr54 id9 (by omega)))
        replace hex : ∃ e : va_E, w_54 (lo - 1) = some e := exw_fr hex (fr54 _ (by omega))
        refine lv_aload_n hx hb dX6_keep_57 rfl (lv_at hl 1 rfl) ?_
        refine q_get hx hb hts hinX6 hown hG hW hs0 rfl 2 (by decide) (hts (.fieldLink RX6 23 "FoleyMixer" "now" "LFoleyMixer$Play;") (List.mem_of_getElem? (i := 7) rfl)) rfl rfl dX6_keep_58 ?_
        refine q_getN hx hb hts hinX4 hown hG hW (hp1).1 rfl 0 (by decide) (hG.nest 11 rfl) rfl rfl dX6_keep_61 ?_
        refine q_R1 (va_runVN (As := []) (rest := []) ⟨hx, hb, hml, hown, hts⟩ (c_X1_size l (hp1).2.1) ⟨(va_cnB 0 hts gX6_keep_X1_size_n89 rfl rfl rfl (hG.nest 34 rfl) (hts (.initialized RX1) (List.mem_of_getElem? (i := 15) rfl)) (by decide +kernel) ⟨Nat.le_of_ble_eq_true rfl, Nat.le_of_ble_eq_true rfl⟩), (hts (.instanceMethod yX1_size) (List.mem_of_getElem? (i := 41) rfl)), (hts (.selects RX1 yX1_size yX1_size) (List.mem_of_getElem? (i := 42) rfl))⟩ (q_preV hG hW hS (isCues.obj (hp1).2.1) rfl) rfl rfl hl.1 rfl (lv_room (Nat.le_of_ble_eq_true rfl)) dX6_keep_64 ⟨Nat.le_of_ble_eq_true rfl, Nat.le_of_ble_eq_true rfl⟩) ?_
        exact vx_ret (q_wi hx hb hr hlocks hW hS dX6_keep_67 (by rfl) (by exact ⟨⟨Int32.not_lt.mp c_1, c_10⟩, ⟨hs0, hp1, hbk, HS_keep (by omega) hh9 hv2 hv3 hv4 hv5 hv6 bx9 hgx hQ9 (fun id h => by rw [fr54 id (by omega)]), hsc, hrd, hlo, hex⟩, by intro id h8 h9; rw [fr54 id (by omega)]; try rfl⟩) (by decide) (by decide))
    · skip
      exact q_thrS hx hb hl0 (by rw [hml]; exact hl.1) hxt hlocks hown hG hW hS (by decide +kernel) (hts (.classLink RX6 93 "java/lang/IllegalArgumentException") (List.mem_of_getElem? (i := 1) rfl)) (hts (.initialized "java/lang/IllegalArgumentException") (List.mem_of_getElem? (i := 2) rfl)) 13 0 rfl rfl ngA otA (fun w h => hts w (List.mem_cons_of_mem _ (List.mem_append_right _ h))) dX6_keep_13 dX6_keep_16 dX6_keep_17 dX6_keep_19 dX6_keep_22 (Nat.le_of_ble_eq_true rfl) (Nat.le_of_ble_eq_true rfl) (Nat.le_of_ble_eq_true rfl) (Nat.le_of_ble_eq_true rfl) (Nat.le_of_ble_eq_true rfl) (Nat.le_of_ble_eq_true rfl) (by first | exact ⟨⟨rfl, fun q9 => absurd q9.1 (Int32.not_le.mpr c_1)⟩, rfl⟩ | exact ⟨⟨rfl, fun q9 => c_10 q9.2⟩, rfl⟩)

