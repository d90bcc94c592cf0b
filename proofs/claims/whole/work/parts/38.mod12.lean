-- a call whose number is told by its post
def QE (D : va_G) (b : Nat) (post : Nat → Wd → Prop) : Array Value → State → Outcome → State → Prop := fun a st oc t => ∃ r : Nat, QW D b (some (.int (nI r))) (post r) a st oc t
section QEs
variable {p : Program} {l : Launch} {e : Env} {R : Room} {s : State} {m : MethodId} {args : Array Value} {below : List Frame} {meth : Method} {c : Code} {H : Heap} {locs : List Loc} {cells slots mc ms : Nat} {Q : State → Prop}
variable {cc : ByteArray} {pc : Nat} {ls : Array Slot} {rest st0 : List Value} {D : va_G} {dA : Nat → Nat} {b : Nat} {w : Wd} {a : Array Value} {post : Nat → Wd → Prop}
theorem q_E1 (hr : va_Run p l e R s m args below meth c H locs cells slots mc ms (F0 m pc ls st0) rest (QE D b post a) (Fb b)) (hS : va_S (Fb b) s.heap H locs)
    (kk : ∀ (r : Nat) (w' : Wd) (H1 : Heap) (locs1 : List Loc), post r w' → WP D b w' H1 → va_S (Fb b) s.heap H1 locs1 → W p l e R s m args below meth c H1 locs1 (cells + mc) (slots + ms) Q (F0 m (pc + 3) ls (.int (nI r) :: rest))) : W p l e R s m args below meth c H locs cells slots Q (F0 m pc ls st0) := by
  intro T hT X
  obtain ⟨v', st₀, t, T', L, h0, X', hL, e1, e2, ⟨r, hv, ⟨w', hp, hb⟩, hz, hk⟩, st⟩ := hr T hT X
  cases hv
  rw [h0] at hz hk
  obtain ⟨t2, a1, b1⟩ := kk r w' T'.heap (locs ++ L) hp (by rw [e1]; exact hb) ⟨Nat.le_trans hS.1 (by rw [e1]; exact hz), fun q h1 h2 => by rw [e1, hk q (Nat.lt_of_lt_of_le h1 hS.1) h2]; exact hS.2.1 q h1 h2, fun q hq => by
      rcases List.mem_append.mp hq with h | h
      · exact hS.2.2 q h
      · exact hL q h⟩ T' rfl X'
  exact ⟨t2, st t2 a1, b1⟩
theorem q_ei {r : Nat} (hx : p.tables.exec = Jvm.exec) (hb : c.code = cc) (hr : meth.sig.returnType = some .int) (hlocks : meth.locks = false) (hW : WP D b w H) (hS : va_S (Fb b) s.heap H locs) (hdg : decode cc pc = .ok (.ireturn, 1)) (hp : post r w) (hc : cells ≤ mc) (hs : slots ≤ ms) : W p l e R s m args below meth c H locs cells slots (MQ below (QE D b post) args s mc ms (Fb b)) (F0 m pc ls [.int (nI r)]) := by
  refine W.widen hc hs ?_
  exact W.iret hx hb hr (fun t ht _ => ⟨r, q_end hS hW hp ht⟩) hS.2.2 hdg hlocks
theorem q_ez {r : Nat} (hx : p.tables.exec = Jvm.exec) (hb : c.code = cc) (hr : meth.sig.returnType = some .boolean) (hlocks : meth.locks = false) (hW : WP D b w H) (hS : va_S (Fb b) s.heap H locs) (hdg : decode cc pc = .ok (.ireturn, 1)) (hr2 : r < 2) (hp : post r w) (hc : cells ≤ mc) (hs : slots ≤ ms) : W p l e R s m args below meth c H locs cells slots (MQ below (QE D b post) args s mc ms (Fb b)) (F0 m pc ls [.int (nI r)]) := by
  refine W.widen hc hs ?_
  have hn : narrow .boolean (.int (nI r)) = .int (nI r) := by
    rcases (show r = 0 ∨ r = 1 by omega) with rfl | rfl <;> decide
  exact W.zret hx hb hr hn (fun t ht _ => ⟨r, q_end hS hW hp ht⟩) hS.2.2 hdg hlocks
end QEs
-- THE PARSER against the automaton
/-- all codes before q are taken -/
def Acc (nc : Nat) (C : Nat → Nat) (q : Nat) : Prop := ∀ j, j < q → rok (rrun nc C R0 j) (cAt nc C j) = true
/-- on the way in a cue that began at q0: at q, in the number p, which is o -/
def pIn (nc : Nat) (C : Nat → Nat) (q0 p q : Nat) (o : Option Nat) (kd : Int32) (TD : Nat → Nat) : Prop :=
  q0 < q ∧ q ≤ nc ∧ Acc nc C q ∧ (∀ j, q0 ≤ j → j < q → C j ≠ 59) ∧ (rrun nc C R0 q).1 = p ∧ (rrun nc C R0 q).2.1 = kd ∧ (rrun nc C R0 q).2.2 p = o ∧ ∀ i, i < p → (rrun nc C R0 q).2.2 i = some (TD i)
/-- no text can have the code at q -/
def pNo (nc : Nat) (C : Nat → Nat) (q : Nat) : Prop := q ≤ nc ∧ Acc nc C q ∧ (q < nc → rok (rrun nc C R0 q) (cAt nc C q) ≠ true) ∧ (q = nc → ¬ ((rrun nc C R0 nc).1 = 2 ∧ (rrun nc C R0 nc).2.2 2 ≠ none))
def pEnd (nc : Nat) (C : Nat → Nat) (q : Nat) : Prop := q < nc → 48 ≤ C q → C q ≤ 57 → dOk (rrun nc C R0 q) (C q - 48) ≠ true
def pKd (nc : Nat) (C : Nat → Nat) (q : Nat) : Prop := q ≤ nc ∧ Acc nc C q ∧ (rrun nc C R0 q).1 = 3
/-- a whole cue read, from q to u -/
def pCue (nc : Nat) (C : Nat → Nat) (q u : Nat) (kd : Int32) (TD : Nat → Nat) : Prop := pIn nc C q 2 u (some (TD 2)) kd TD ∧ pEnd nc C u
theorem cAt_lt {nc : Nat} {C : Nat → Nat} {q : Nat} (h : q < nc) : cAt nc C q = some (C q) := if_pos h
theorem run_dig {nc : Nat} {C : Nat → Nat} {q : Nat} (h3 : (rrun nc C R0 q).1 < 3) (hq : q < nc) (h1 : 48 ≤ C q) (h2 : C q ≤ 57) (hd : dOk (rrun nc C R0 q) (C q - 48) = true) : rok (rrun nc C R0 q) (cAt nc C q) = true ∧ rrun nc C R0 (q + 1) = rdig (rrun nc C R0 q) (C q - 48) := by
  have hr : rok (rrun nc C R0 q) (cAt nc C q) = true := by
    rw [cAt_lt hq]; unfold rok; rw [if_neg (by omega)]; show (if 48 ≤ C q ∧ C q ≤ 57 then _ else _) = true; rw [if_pos ⟨h1, h2⟩]; exact hd
  refine ⟨hr, ?_⟩
  show rnx _ _ = _
  unfold rnx; rw [if_pos hr, if_neg (by omega), cAt_lt hq]; show (if 48 ≤ C q ∧ C q ≤ 57 then _ else _) = _; rw [if_pos ⟨h1, h2⟩]
theorem run_sgn {nc : Nat} {C : Nat → Nat} {q : Nat} (h3 : (rrun nc C R0 q).1 < 3) (hq : q < nc) (hv : (rrun nc C R0 q).2.2 (rrun nc C R0 q).1 ≠ none) (hc : C q = sgn (rrun nc C R0 q).1) : rok (rrun nc C R0 q) (cAt nc C q) = true ∧ rrun nc C R0 (q + 1) = rbeg (rrun nc C R0 q) ((rrun nc C R0 q).1 + 1) := by
  have hs : sgn (rrun nc C R0 q).1 = 43 ∨ sgn (rrun nc C R0 q).1 = 64 ∨ sgn (rrun nc C R0 q).1 = 59 := by
    rcases (show (rrun nc C R0 q).1 = 0 ∨ (rrun nc C R0 q).1 = 1 ∨ (rrun nc C R0 q).1 = 2 by omega) with h | h | h <;> rw [h]
    · exact Or.inl rfl
    · exact Or.inr (Or.inl rfl)
    · exact Or.inr (Or.inr rfl)
  have hr : rok (rrun nc C R0 q) (cAt nc C q) = true := by
    rw [cAt_lt hq]; unfold rok; rw [if_neg (by omega)]; show (if 48 ≤ C q ∧ C q ≤ 57 then _ else _) = true
    rw [if_neg (by omega)]; unfold sOk
    rw [Bool.and_eq_true]
    exact ⟨decide_eq_true hv, decide_eq_true (by rw [hc])⟩
  refine ⟨hr, ?_⟩
  show rnx _ _ = _
  unfold rnx; rw [if_pos hr, if_neg (by omega), cAt_lt hq]; show (if 48 ≤ C q ∧ C q ≤ 57 then _ else _) = _; rw [if_neg (by omega)]
theorem Acc_succ {nc : Nat} {C : Nat → Nat} {q : Nat} (h : Acc nc C q) (hr : rok (rrun nc C R0 q) (cAt nc C q) = true) : Acc nc C (q + 1) := by
  intro j hj
  by_cases e : j = q
  · rw [e]; exact hr
  · exact h j (by omega)
theorem no59 {C : Nat → Nat} {q0 q : Nat} (h : ∀ j, q0 ≤ j → j < q → C j ≠ 59) (hc : C q ≠ 59) : ∀ j, q0 ≤ j → j < q + 1 → C j ≠ 59 := by
  intro j h1 h2
  by_cases e : j = q
  · rw [e]; exact hc
  · exact h j h1 (by omega)
theorem pIn_dig {nc : Nat} {C : Nat → Nat} {q0 p q : Nat} {o : Option Nat} {kd : Int32} {TD : Nat → Nat} (h : pIn nc C q0 p q o kd TD) (hp : p < 3) (hq : q < nc) (h1 : 48 ≤ C q) (h2 : C q ≤ 57) (hd : dOk (rrun nc C R0 q) (C q - 48) = true) : pIn nc C q0 p (q + 1) (some (dval (rrun nc C R0 q) (C q - 48))) kd TD := by
  obtain ⟨a1, a2, a3, a4, a5, a6, a7, a8⟩ := h
  obtain ⟨r1, r2⟩ := run_dig (by omega) hq h1 h2 hd
  refine ⟨by omega, hq, Acc_succ a3 r1, no59 a4 (by omega), by rw [r2]; exact a5, by rw [r2]; exact a6, ?_, fun i hi => ?_⟩
  · rw [r2]; unfold rdig; dsimp only; rw [a5, va_up_self]
  · rw [r2]; unfold rdig; dsimp only; rw [a5, va_up_ne _ _ (by omega)]; exact a8 i hi
theorem dOk_none {R : Rd} {d : Nat} (hn : R.2.2 R.1 = none) : dOk R d = true ↔ (cLo R.1 ≤ d ∧ d ≤ cHi R.1) := by
  unfold dOk
  rw [dval_none hn, hn]
  simp
theorem dOk_some {R : Rd} {d v : Nat} (hn : R.2.2 R.1 = some v) : dOk R d = true ↔ (v ≠ 0 ∧ cLo R.1 ≤ v * 10 + d ∧ v * 10 + d ≤ cHi R.1) := by
  unfold dOk
  rw [dval_some hn, hn]
  simp
theorem pIn_first {nc : Nat} {C : Nat → Nat} {q0 p q : Nat} {kd : Int32} {TD : Nat → Nat} (h : pIn nc C q0 p q none kd TD) (hp : p < 3) (hq : q < nc) (h1 : 48 + cLo p ≤ C q) (h2 : C q ≤ 57) : pIn nc C q0 p (q + 1) (some (C q - 48)) kd TD := by
  have a5 := h.2.2.2.2.1
  have hn : (rrun nc C R0 q).2.2 (rrun nc C R0 q).1 = none := by rw [a5]; exact h.2.2.2.2.2.2.1
  have hh : 9 ≤ cHi p := by
    rcases (show p = 0 ∨ p = 1 ∨ p = 2 by omega) with rfl | rfl | rfl <;> decide
  have k := pIn_dig h hp hq (by omega) h2 ((dOk_none hn).mpr (by rw [a5]; omega))
  rwa [dval_none hn] at k
theorem pIn_next {nc : Nat} {C : Nat → Nat} {q0 p q v : Nat} {kd : Int32} {TD : Nat → Nat} (h : pIn nc C q0 p q (some v) kd TD) (hp : p < 3) (hv : 0 < v) (hq : q < nc) (h1 : 48 ≤ C q) (h2 : C q ≤ 57) (h3 : 10 * v + C q - 48 ≤ cHi p) : pIn nc C q0 p (q + 1) (some (10 * v + C q - 48)) kd TD := by
  have a5 := h.2.2.2.2.1
  have hn : (rrun nc C R0 q).2.2 (rrun nc C R0 q).1 = some v := by rw [a5]; exact h.2.2.2.2.2.2.1
  have hh := cLo_le p
  have k := pIn_dig h hp hq h1 h2 ((dOk_some hn).mpr (by rw [a5]; omega))
  rw [dval_some hn] at k
  rwa [show v * 10 + (C q - 48) = 10 * v + C q - 48 by omega] at k
theorem pEnd_of {nc : Nat} {C : Nat → Nat} {q0 p q v : Nat} {kd : Int32} {TD : Nat → Nat} (h : pIn nc C q0 p q (some v) kd TD) (hc : v = 0 ∨ ¬ (q < nc ∧ 48 ≤ C q ∧ C q ≤ 57) ∨ cHi p < 10 * v + C q - 48) : pEnd nc C q := by
  intro hq h1 h2 hd
  have a5 := h.2.2.2.2.1
  have hn : (rrun nc C R0 q).2.2 (rrun nc C R0 q).1 = some v := by rw [a5]; exact h.2.2.2.2.2.2.1
  have k := (dOk_some hn).mp hd
  rw [a5] at k
  omega
theorem rok_num {nc : Nat} {C : Nat → Nat} {q : Nat} (h3 : (rrun nc C R0 q).1 < 3) (hq : q < nc) (h : rok (rrun nc C R0 q) (cAt nc C q) = true) : (48 ≤ C q ∧ C q ≤ 57 ∧ dOk (rrun nc C R0 q) (C q - 48) = true) ∨ (¬ (48 ≤ C q ∧ C q ≤ 57) ∧ (rrun nc C R0 q).2.2 (rrun nc C R0 q).1 ≠ none ∧ C q = sgn (rrun nc C R0 q).1) := by
  rw [cAt_lt hq] at h
  unfold rok at h
  rw [if_neg (by omega)] at h
  dsimp only at h
  by_cases e : 48 ≤ C q ∧ C q ≤ 57
  · rw [if_pos e] at h; exact Or.inl ⟨e.1, e.2, h⟩
  · rw [if_neg e] at h
    unfold sOk at h
    simp only [Bool.and_eq_true, decide_eq_true_eq, Option.some.injEq] at h
    exact Or.inr ⟨e, h.1, h.2⟩
theorem pNo_first {nc : Nat} {C : Nat → Nat} {q0 p q : Nat} {kd : Int32} {TD : Nat → Nat} (h : pIn nc C q0 p q none kd TD) (hp : p < 3) (hc : ¬ (q < nc ∧ 48 + cLo p ≤ C q ∧ C q ≤ 57)) : pNo nc C q := by
  obtain ⟨a1, a2, a3, a4, a5, a6, a7, a8⟩ := h
  have hn : (rrun nc C R0 q).2.2 (rrun nc C R0 q).1 = none := by rw [a5]; exact a7
  refine ⟨a2, a3, fun hq k => ?_, fun hq k => ?_⟩
  · rcases rok_num (by omega) hq k with ⟨k1, k2, k3⟩ | ⟨k1, k2, k3⟩
    · have k4 := (dOk_none hn).mp k3
      rw [a5] at k4; omega
    · exact k2 hn
  · subst hq
    have hp2 : p = 2 := a5.symm.trans k.1
    subst hp2
    exact k.2 a7
theorem pNo_sgn {nc : Nat} {C : Nat → Nat} {q0 p q v : Nat} {kd : Int32} {TD : Nat → Nat} (h : pIn nc C q0 p q (some v) kd TD) (hE : pEnd nc C q) (hp : p < 3) (hq2 : p = 2 → q ≠ nc) (hc : ¬ (q < nc ∧ C q = sgn p)) : pNo nc C q := by
  obtain ⟨a1, a2, a3, a4, a5, a6, a7, a8⟩ := h
  refine ⟨a2, a3, fun hq k => ?_, fun hq k => ?_⟩
  · rcases rok_num (by omega) hq k with ⟨k1, k2, k3⟩ | ⟨k1, k2, k3⟩
    · exact hE hq k1 k2 k3
    · rw [a5] at k3; exact hc ⟨hq, k3⟩
  · subst hq
    exact hq2 (a5.symm.trans k.1) rfl
theorem pIn_td {nc : Nat} {C : Nat → Nat} {q0 p q v : Nat} {o : Option Nat} {kd : Int32} {TD : Nat → Nat} (h : pIn nc C q0 p q o kd TD) : pIn nc C q0 p q o kd (va_up TD p v) := by
  obtain ⟨a1, a2, a3, a4, a5, a6, a7, a8⟩ := h
  exact ⟨a1, a2, a3, a4, a5, a6, a7, fun i hi => by rw [va_up_ne _ _ (by omega)]; exact a8 i hi⟩
theorem pIn_sgn {nc : Nat} {C : Nat → Nat} {q0 p q v : Nat} {kd : Int32} {TD : Nat → Nat} (h : pIn nc C q0 p q (some v) kd TD) (hp : p < 2) (hq : q < nc) (hc : C q = sgn p) : pIn nc C q0 (p + 1) (q + 1) none kd (va_up TD p v) := by
  obtain ⟨a1, a2, a3, a4, a5, a6, a7, a8⟩ := h
  obtain ⟨r1, r2⟩ := run_sgn (C := C) (by omega) hq (by rw [a5, a7]; exact fun q => nomatch q) (by rw [a5]; exact hc)
  have hs : sgn p ≠ 59 := by
    rcases (show p = 0 ∨ p = 1 by omega) with rfl | rfl <;> decide
  rw [a5] at r2
  refine ⟨by omega, hq, Acc_succ a3 r1, no59 a4 (by omega), by rw [r2]; rfl, by rw [r2]; exact a6, ?_, fun i hi => ?_⟩
  · rw [r2]; unfold rbeg; dsimp only; rw [if_pos (by omega), va_up_self]
  · rw [r2]; unfold rbeg; dsimp only; rw [if_pos (by omega), va_up_ne _ _ (by omega)]
    by_cases e : i = p
    · rw [e, va_up_self]; exact a7
    · rw [va_up_ne _ _ e]; exact a8 i (by omega)
theorem pKd_sgn {nc : Nat} {C : Nat → Nat} {q0 q v : Nat} {kd : Int32} {TD : Nat → Nat} (h : pIn nc C q0 2 q (some v) kd TD) (hq : q < nc) (hc : C q = 59) : pKd nc C (q + 1) := by
  obtain ⟨a1, a2, a3, a4, a5, a6, a7, a8⟩ := h
  obtain ⟨r1, r2⟩ := run_sgn (C := C) (by omega) hq (by rw [a5, a7]; exact fun q => nomatch q) (by rw [a5]; exact hc)
  exact ⟨hq, Acc_succ a3 r1, by rw [r2]; show (rrun nc C R0 q).1 + 1 = 3; omega⟩
theorem pKd_0 (nc : Nat) (C : Nat → Nat) : pKd nc C 0 := ⟨Nat.zero_le _, fun j hj => absurd hj (Nat.not_lt_zero _), rfl⟩
theorem pNo_kind {nc : Nat} {C : Nat → Nat} {q : Nat} (h : pKd nc C q) (hc : q < nc → C q ≠ 119 ∧ C q ≠ 110 ∧ C q ≠ 78) : pNo nc C q := by
  obtain ⟨a1, a2, a3⟩ := h
  refine ⟨a1, a2, fun hq k => ?_, fun hq k => ?_⟩
  · rw [cAt_lt hq] at k
    unfold rok at k
    rw [if_pos a3] at k
    unfold kOk at k
    simp only [Bool.or_eq_true, decide_eq_true_eq, Option.some.injEq] at k
    have := hc hq
    omega
  · subst hq; rw [a3] at k; exact absurd k.1 (by decide)
theorem pIn_kind {nc : Nat} {C : Nat → Nat} {q : Nat} {TD : Nat → Nat} (h : pKd nc C q) (hq : q < nc) (hc : C q = 119 ∨ C q = 110 ∨ C q = 78) : pIn nc C q 0 (q + 1) none (nI (C q)) TD := by
  obtain ⟨a1, a2, a3⟩ := h
  have hr : rok (rrun nc C R0 q) (cAt nc C q) = true := by
    rw [cAt_lt hq]; unfold rok; rw [if_pos a3]; unfold kOk
    simp only [Bool.or_eq_true, decide_eq_true_eq, Option.some.injEq]
    omega
  have r2 : rrun nc C R0 (q + 1) = rbeg ((rrun nc C R0 q).1, nI (C q), (rrun nc C R0 q).2.2) 0 := by
    show rnx _ _ = _
    unfold rnx; rw [if_pos hr, if_pos a3, cAt_lt hq]; rfl
  refine ⟨by omega, hq, Acc_succ a2 hr, fun j h1 h2 => ?_, by rw [r2]; rfl, by rw [r2]; rfl, ?_, fun i hi => absurd hi (Nat.not_lt_zero _)⟩
  · obtain rfl : j = q := by omega
    omega
  · rw [r2]; unfold rbeg; dsimp only; rw [if_pos (by omega), va_up_self]
theorem rerr_acc {nc : Nat} {C : Nat → Nat} {q : Nat} (hq : q ≤ nc) (ha : Acc nc C q) (hn : q < nc → rok (rrun nc C R0 q) (cAt nc C q) ≠ true) : ∀ d, d ≤ nc → nc - d ≤ q → rerr nc C R0 d = q
  | 0, h0, h => by show nc = q; omega
  | d + 1, h0, h => by
    unfold rerr
    by_cases e : nc - (d + 1) = q
    · rw [if_neg (by rw [e]; exact hn (by omega)), e]
    · rw [if_pos (ha _ (by omega))]; exact rerr_acc hq ha hn d (by omega) (by omega)
theorem pNo_err {nc : Nat} {C : Nat → Nat} {q : Nat} (h : pNo nc C q) : rerr nc C R0 nc = q := rerr_acc h.1 h.2.1 h.2.2.1 nc (Nat.le_refl _) (by omega)
theorem pNo_whl {nc : Nat} {C : Nat → Nat} {q : Nat} (h : pNo nc C q) (hw : whl nc C R0) : False := by
  have e := pNo_err h
  have h1 := hw.1
  have h2 := h.1
  have hq : q = nc := by omega
  exact h.2.2.2 hq hw.2
theorem whl_err {nc : Nat} {C : Nat → Nat} (hw : whl nc C R0) : rerr nc C R0 nc = nc := Nat.le_antisymm (rerr_le nc C R0 nc) hw.1
theorem whl_cue {nc : Nat} {C : Nat → Nat} {q : Nat} {kd : Int32} {TD : Nat → Nat} (h : pCue nc C q nc kd TD) : whl nc C R0 := by
  obtain ⟨⟨a1, a2, a3, a4, a5, a6, a7, a8⟩, hE⟩ := h
  exact ⟨Nat.le_of_eq (rerr_acc (Nat.le_refl _) a3 (fun hq => absurd hq (Nat.lt_irrefl _)) nc (Nat.le_refl _) (by omega)).symm, a5, by rw [a7]; exact fun q => nomatch q⟩
theorem whl_stop {nc : Nat} {C : Nat → Nat} {q u : Nat} {kd : Int32} {TD : Nat → Nat} (hw : whl nc C R0) (h : pCue nc C q u kd TD) (hu : u ≠ nc) : u < nc ∧ C u = 59 := by
  obtain ⟨⟨a1, a2, a3, a4, a5, a6, a7, a8⟩, hE⟩ := h
  have hq : u < nc := by omega
  have k := rerr_all nc (Nat.le_refl _) hw.1 u (by omega) hq
  refine ⟨hq, ?_⟩
  rcases rok_num (by omega) hq k with ⟨k1, k2, k3⟩ | ⟨k1, k2, k3⟩
  · exact absurd k3 (hE hq k1 k2)
  · rw [a5] at k3; exact k3
theorem rgo_skip {nc : Nat} {C : Nat → Nat} {P : Pl} {c q : Nat} : ∀ k, q + k ≤ nc → (∀ j, q ≤ j → j < q + k → C j ≠ 59) → rgo nc C R0 (nc + 1 - q) P c = rgo nc C R0 (nc + 1 - (q + k)) P c
  | 0, _, _ => rfl
  | k + 1, h1, h2 => by
    rw [rgo_skip k (by omega) (fun j a b => h2 j a (by omega)), rgo_pass (by omega) (fun hc => ?_)]; rfl
    rcases hc with hc | hc
    · omega
    · rw [cAt_lt (by omega)] at hc
      exact h2 (q + k) (by omega) (by omega) (Option.some.inj hc)
theorem cue_end {nc : Nat} {C : Nat → Nat} {q u : Nat} {kd : Int32} {TD : Nat → Nat} (hw : whl nc C R0) (h : pCue nc C q u kd TD) : cEnd nc C u := by
  by_cases hu : u = nc
  · exact Or.inl hu
  · have k := whl_stop hw h hu
    exact Or.inr (by rw [cAt_lt k.1, k.2])
theorem cue_go {nc : Nat} {C : Nat → Nat} {q u : Nat} {kd : Int32} {TD : Nat → Nat} {P : Pl} {c : Nat} (h : pCue nc C q u kd TD) : rgo nc C R0 (nc + 1 - q) P c = rgo nc C R0 (nc + 1 - u) P c := by
  obtain ⟨⟨a1, a2, a3, a4, a5, a6, a7, a8⟩, hE⟩ := h
  have k := rgo_skip (nc := nc) (C := C) (P := P) (c := c) (q := q) (u - q) (by omega) (fun j x y => a4 j x (by omega))
  rwa [show q + (u - q) = u by omega] at k
theorem cue_b {nc : Nat} {C : Nat → Nat} {q u : Nat} {kd : Int32} {TD : Nat → Nat} (h : pCue nc C q u kd TD) : (kd = nI 119 ∨ kd = nI 110 ∨ kd = nI 78) ∧ TD 0 ≤ 99 ∧ 1 ≤ TD 1 ∧ TD 1 ≤ 20 ∧ 1 ≤ TD 2 ∧ TD 2 ≤ 30 ∧ (rrun nc C R0 u).2.1 = kd ∧ rnm (rrun nc C R0 u) 0 = TD 0 ∧ rnm (rrun nc C R0 u) 1 = TD 1 ∧ rnm (rrun nc C R0 u) 2 = TD 2 := by
  obtain ⟨⟨a1, a2, a3, a4, a5, a6, a7, a8⟩, hE⟩ := h
  have i1 := (invR_run (n := nc) (C := C) (R := R0) (show invR R0 from ⟨Nat.le_refl _, fun h => absurd (show 3 < 3 from h) (by decide)⟩) u).2 (by omega)
  have e0 := a8 0 (by omega)
  have e1 := a8 1 (by omega)
  have b0 := i1.2.2 0 (by omega) _ e0
  have b1 := i1.2.2 1 (by omega) _ e1
  have b2 := i1.2.2 2 (by omega) _ a7
  have q1 : cHi 0 = 99 := rfl
  have q2 : cLo 1 = 1 := rfl
  have q3 : cHi 1 = 20 := rfl
  have q4 : cHi 2 = 30 := rfl
  have q5 : cLo 2 = 1 := rfl
  rw [a6] at i1
  exact ⟨i1.1, by omega, by omega, by omega, by omega, by omega, a6, by unfold rnm; rw [e0]; rfl, by unfold rnm; rw [e1]; rfl, by unfold rnm; rw [a7]; rfl⟩
theorem ite_iff {p q : Prop} [Decidable p] [Decidable q] (h : p ↔ q) : (if p then (1 : Int32) else 0) = if q then 1 else 0 := by
  by_cases e : p
  · rw [if_pos e, if_pos (h.mp e)]
  · rw [if_neg e, if_neg (fun k => e (h.mpr k))]
theorem wd_iff {lo x hi q nc : Nat} (h1 : lo < 2 ^ 31) (h2 : x < 2 ^ 31) (h3 : hi < 2 ^ 31) (hq : q < nc) : (nI lo ≤ nI x ∧ nI x ≤ nI hi) ↔ (q < nc ∧ lo ≤ x ∧ x ≤ hi) := by
  rw [nI_leI h1 h2, nI_leI h2 h3]; exact ⟨fun h => ⟨hq, h⟩, fun h => h.2⟩

set_option maxHeartbeats 300000 in
set_option maxRecDepth 100000 in
/-- isNext -/
theorem c_X7_isNext (l : Launch) {D : va_G} {dA : Nat → Nat} {b : Nat} {w : Wd} {sv th lt dn : Int32} {nc q : Nat} (hm0 : w 36 = some (modO b sv (nI nc) th (nI q) lt dn)) {C : Nat → Nat} (hm41 : w 41 = some (eN dA 80 C)) (hbu : mBu nc C) (lo9 hi9 : Nat) (hlo : lo9 < 2 ^ 30) (hhi : hi9 < 2 ^ 30) (hq : q < 2 ^ 30) : Met l yX7_isNext wsX7_isNext ({ frames := 1, cells := 0, slots := 0, locals := 22 } : Room) (PC D dA b w [.ref (b + 36), .int (nI lo9), .int (nI hi9)]) (QR (some (.int (if q < nc ∧ lo9 ≤ C q ∧ C q ≤ hi9 then 1 else 0)))) 0 0 Fno := by
  refine q_of (cc := cX7_isNext) (maxL := 3) (ret := (some .boolean)) (by decide) rfl rfl ?_
  intro p e s m args below meth c ls hx hb hr hml hts hown hlocks hG hW hS hl
  have hown : s.vm.findClass RX7 = some m.cls := hown
  have hinX7 : ∀ w ∈ u_ws RX7 TX7 14, w ∈ wsX7_isNext := fun w h => (goodIn_r (big := wsX7_isNext) (u_ws RX7 TX7 14) [8, 9, 10, 11, 12, 13, 14, 15, 16, 17, 18, 19, 20, 21] (by decide +kernel) (by decide +kernel) w h).1
  have hl : lv_has ls 3 [(0, .ref (b + 36)), (1, .int (nI lo9)), (2, .int (nI hi9))] := hl
  have hnc := hbu.1
  refine lv_aload_n hx hb dX7_isNext_0 rfl (lv_at hl 0 rfl) ?_
  refine q_get hx hb hts hinX7 hown hG hW hm0 rfl 10 (by decide) (hts (.fieldLink RX7 120 "FoleyMixerModel" "place" "I") (List.mem_of_getElem? (i := 1) rfl)) rfl rfl dX7_isNext_1 ?_
  refine lv_aload_n hx hb dX7_isNext_4 rfl (lv_at hl 0 rfl) ?_
  refine q_get hx hb hts hinX7 hown hG hW hm0 rfl 6 (by decide) (hts (.fieldLink RX7 117 "FoleyMixerModel" "length" "I") (List.mem_of_getElem? (i := 2) rfl)) rfl rfl dX7_isNext_5 ?_
  refine lv_icmp_ge (tgt := 32) hx hb dX7_isNext_8 (by decide) (fun c_8 => ?_) (fun c_8 => ?_)
  · skip
    have c_8 : nc ≤ q := (nI_leI (a := nc) (b := q) (by omega) (by omega)).mp c_8
    refine lv_iconst (v := nI 0) hx hb dX7_isNext_32 (by decide) ?_
    exact q_rz hx hb hr hlocks dX7_isNext_33 (by first | (rw [if_pos ((wd_iff (by omega) (by omega) (by omega) hq8).mp c_25)]; rfl) | (rw [if_neg (fun q9 => c_25 ((wd_iff (by omega) (by omega) (by omega) hq8).mpr q9))]; rfl) | (rw [if_neg (fun q9 => absurd q9.1 (by omega))]; rfl)) (q_bn _)
  · skip
    have c_8 : ¬ (nc ≤ q) := fun h__ => c_8 ((nI_leI (a := nc) (b := q) (by omega) (by omega)).mpr h__)
    have hq8 : q < nc := by omega
    have hCq := hbu.2 q hq8
    refine lv_aload_n hx hb dX7_isNext_11 rfl (lv_at hl 0 rfl) ?_
    refine q_get hx hb hts hinX7 hown hG hW hm0 rfl 5 (by decide) (hts (.fieldLink RX7 23 "FoleyMixerModel" "text" "[I") (List.mem_of_getElem? (i := 3) rfl)) rfl rfl dX7_isNext_12 ?_
    refine lv_aload_n hx hb dX7_isNext_15 rfl (lv_at hl 0 rfl) ?_
    refine q_get hx hb hts hinX7 hown hG hW hm0 rfl 10 (by decide) (hts (.fieldLink RX7 120 "FoleyMixerModel" "place" "I") (List.mem_of_getElem? (i := 1) rfl)) rfl rfl dX7_isNext_16 ?_
    refine q_iald hx hb hG hW hm41 (by omega) (by omega) dX7_isNext_19 ?_
    refine lv_iload_n hx hb dX7_isNext_20 rfl (lv_at hl 1 rfl) ?_
    refine lv_iload_n hx hb dX7_isNext_21 rfl (lv_at hl 2 rfl) ?_
    refine q_R1 (va_runS (As := [.int (nI (C q)), .int (nI lo9), .int (nI hi9)]) (rest := []) ⟨hx, hb, hml, hown, hts⟩ (c_X7_in l (nI (C q)) (nI (lo9)) (nI (hi9))) (va_cwS 3 hts gX7_isNext_X7_in rfl rfl rfl (by decide +kernel) ⟨Nat.le_of_ble_eq_true rfl, Nat.le_of_ble_eq_true rfl⟩) (q_preS hG hW hS) rfl rfl hl.1 rfl (lv_room (Nat.le_of_ble_eq_true rfl)) dX7_isNext_22 ⟨Nat.le_of_ble_eq_true rfl, Nat.le_of_ble_eq_true rfl⟩) ?_
    refine lv_if_eq (tgt := 32) hx hb dX7_isNext_25 (by decide) (fun c_25 => ?_) (fun c_25 => ?_)
    · skip
      have c_25 : ¬ ((nI (lo9)) ≤ (nI (C q)) ∧ (nI (C q)) ≤ (nI (hi9))) := pI_eq0.mp c_25
      refine lv_iconst (v := nI 0) hx hb dX7_isNext_32 (by decide) ?_
      exact q_rz hx hb hr hlocks dX7_isNext_33 (by first | (rw [if_pos ((wd_iff (by omega) (by omega) (by omega) hq8).mp c_25)]; rfl) | (rw [if_neg (fun q9 => c_25 ((wd_iff (by omega) (by omega) (by omega) hq8).mpr q9))]; rfl) | (rw [if_neg (fun q9 => absurd q9.1 (by omega))]; rfl)) (q_bn _)
    · skip
      have c_25 : (nI (lo9)) ≤ (nI (C q)) ∧ (nI (C q)) ≤ (nI (hi9)) := Decidable.byContradiction (fun h__ => c_25 (pI_eq0.mpr h__))
      refine lv_iconst (v := nI 1) hx hb dX7_isNext_28 (by decide) ?_
      refine lv_goto (tgt := 33) hx hb dX7_isNext_29 (by decide) ?_
      exact q_rz hx hb hr hlocks dX7_isNext_33 (by first | (rw [if_pos ((wd_iff (by omega) (by omega) (by omega) hq8).mp c_25)]; rfl) | (rw [if_neg (fun q9 => c_25 ((wd_iff (by omega) (by omega) (by omega) hq8).mpr q9))]; rfl) | (rw [if_neg (fun q9 => absurd q9.1 (by omega))]; rfl)) (q_bn _)

set_option maxHeartbeats 300000 in
set_option maxRecDepth 100000 in
/-- takes -/
theorem c_X7_takes (l : Launch) {D : va_G} {dA : Nat → Nat} {b : Nat} {w : Wd} {sv th lt dn : Int32} {nc q : Nat} (hm0 : w 36 = some (modO b sv (nI nc) th (nI q) lt dn)) {C : Nat → Nat} (hm41 : w 41 = some (eN dA 80 C)) (hbu : mBu nc C) (cd : Nat) (hcd : cd < 2 ^ 30) (hq : q < 2 ^ 30) : Met l yX7_takes wsX7_takes ({ frames := 2, cells := 0, slots := 0, locals := 44 } : Room) (PC D dA b w [.ref (b + 36), .int (nI cd)]) (QW D b (some (.int (if q < nc ∧ C q = cd then 1 else 0))) (fun w' => w' 36 = some (modO b sv (nI nc) th (nI (if q < nc ∧ C q = cd then q + 1 else q)) lt dn) ∧ ∀ id : Nat, id ≠ 36 → w' id = w id)) 0 0 (Fb b) := by
  refine q_of (cc := cX7_takes) (maxL := 3) (ret := (some .boolean)) (by decide) rfl rfl ?_
  intro p e s m args below meth c ls hx hb hr hml hts hown hlocks hG hW hS hl
  have hown : s.vm.findClass RX7 = some m.cls := hown
  have hinX7 : ∀ w ∈ u_ws RX7 TX7 14, w ∈ wsX7_takes := fun w h => (goodIn_r (big := wsX7_takes) (u_ws RX7 TX7 14) [12, 13, 14, 15, 16, 17, 18, 19, 20, 21, 22, 23, 24, 25] (by decide +kernel) (by decide +kernel) w h).1
  have hl : lv_has ls 3 [(0, .ref (b + 36)), (1, .int (nI cd))] := hl
  have hnc := hbu.1
  refine lv_aload_n hx hb dX7_takes_0 rfl (lv_at hl 0 rfl) ?_
  refine lv_iload_n hx hb dX7_takes_1 rfl (lv_at hl 1 rfl) ?_
  refine lv_iload_n hx hb dX7_takes_2 rfl (lv_at hl 1 rfl) ?_
  refine q_R1 (va_runV (As := [.int (nI cd), .int (nI cd)]) (rest := []) ⟨hx, hb, hml, hown, hts⟩ (c_X7_isNext l hm0 hm41 hbu (cd) (cd) (by omega) (by omega) (by omega)) (cwV 2 hts gX7_takes_X7_isNext rfl rfl rfl (by decide +kernel) ⟨Nat.le_of_ble_eq_true rfl, Nat.le_of_ble_eq_true rfl⟩) (q_preV hG hW hS hm0 rfl) rfl rfl hl.1 rfl (lv_room (Nat.le_of_ble_eq_true rfl)) dX7_takes_3 ⟨Nat.le_of_ble_eq_true rfl, Nat.le_of_ble_eq_true rfl⟩) ?_
  refine q_topv (v' := .int (if q < nc ∧ C q = cd then 1 else 0)) (by exact congrArg Value.int (ite_iff (by omega))) ?_
  refine lv_istore_n (lv' := [(2, .int (if q < nc ∧ C q = cd then 1 else 0)), (0, .ref (b + 36)), (1, .int (nI cd))]) hx hb dX7_takes_6 rfl hl (by decide) rfl (fun ls hl => ?_)
  refine lv_aload_n hx hb dX7_takes_7 rfl (lv_at hl 1 rfl) ?_
  refine lv_dup hx hb dX7_takes_8 rfl ?_
  refine q_get hx hb hts hinX7 hown hG hW hm0 rfl 10 (by decide) (hts (.fieldLink RX7 120 "FoleyMixerModel" "place" "I") (List.mem_of_getElem? (i := 1) rfl)) rfl rfl dX7_takes_9 ?_
  refine lv_iload_n hx hb dX7_takes_12 rfl (lv_at hl 0 rfl) ?_
  refine lv_if_eq (tgt := 20) hx hb dX7_takes_13 (by decide) (fun c_13 => ?_) (fun c_13 => ?_)
  · skip
    have c_13 : ¬ (q < nc ∧ C q = cd) := pI_eq0.mp c_13
    refine lv_iconst (v := nI 0) hx hb dX7_takes_20 (by decide) ?_
    refine lv_iadd hx hb dX7_takes_21 ?_
    refine q_top (y := nI (q + 0)) (nI_add _ _) ?_
    refine q_put hx hb hts hinX7 tyX7_ok nmX7 hown hG hW hS hm0 rfl 10 (by decide) (hts (.fieldLink RX7 120 "FoleyMixerModel" "place" "I") (List.mem_of_getElem? (i := 1) rfl)) rfl rfl rfl rfl (Nat.le_of_ble_eq_true rfl) dX7_takes_22 (fun H locs hW hS hz22 => ?_)
    obtain ⟨w1, ew1⟩ : ∃ wq__ : Wd, wq__ = va_up w 36 (some (modO b (sv) (nI (nc)) (th) (nI (q + 0)) (lt) (dn))) := ⟨_, rfl⟩
    replace hW : WP D b w1 H := by rw [ew1]; exact hW
    have frw1 : ∀ id : Nat, id ≠ 36 → w1 id = w id := fun id h9 => by rw [ew1, up_ne h9]
    replace hm41 : w1 41 = some (eN dA 80 C) := (frw1 _ (by omega)).trans hm41
    replace hm0 : w1 36 = some (modO b (sv) (nI (nc)) (th) (nI (q + 0)) (lt) (dn)) := by rw [ew1]; exact up_eq
    refine lv_iload_n hx hb dX7_takes_25 rfl (lv_at hl 0 rfl) ?_
    exact q_wz hx hb hr hlocks hW hS dX7_takes_26 (by rfl) (q_bn _) (by exact ⟨by first | (rw [if_pos c_13]; exact hm0) | (rw [if_neg c_13]; exact hm0), by intro id h9; rw [frw1 id (by omega)]; try rfl⟩) (by decide) (by decide)
  · skip
    have c_13 : q < nc ∧ C q = cd := Decidable.byContradiction (fun h__ => c_13 (pI_eq0.mpr h__))
    refine lv_iconst (v := nI 1) hx hb dX7_takes_16 (by decide) ?_
    refine lv_goto (tgt := 21) hx hb dX7_takes_17 (by decide) ?_
    refine lv_iadd hx hb dX7_takes_21 ?_
    refine q_top (y := nI (q + 1)) (nI_add _ _) ?_
    refine q_put hx hb hts hinX7 tyX7_ok nmX7 hown hG hW hS hm0 rfl 10 (by decide) (hts (.fieldLink RX7 120 "FoleyMixerModel" "place" "I") (List.mem_of_getElem? (i := 1) rfl)) rfl rfl rfl rfl (Nat.le_of_ble_eq_true rfl) dX7_takes_22 (fun H locs hW hS hz22 => ?_)
    obtain ⟨w2, ew2⟩ : ∃ wq__ : Wd, wq__ = va_up w 36 (some (modO b (sv) (nI (nc)) (th) (nI (q + 1)) (lt) (dn))) := ⟨_, rfl⟩
    replace hW : WP D b w2 H := by rw [ew2]; exact hW
    have frw2 : ∀ id : Nat, id ≠ 36 → w2 id = w id := fun id h9 => by rw [ew2, up_ne h9]
    replace hm41 : w2 41 = some (eN dA 80 C) := (frw2 _ (by omega)).trans hm41
    replace hm0 : w2 36 = some (modO b (sv) (nI (nc)) (th) (nI (q + 1)) (lt) (dn)) := by rw [ew2]; exact up_eq
    refine lv_iload_n hx hb dX7_takes_25 rfl (lv_at hl 0 rfl) ?_
    exact q_wz hx hb hr hlocks hW hS dX7_takes_26 (by rfl) (q_bn _) (by exact ⟨by first | (rw [if_pos c_13]; exact hm0) | (rw [if_neg c_13]; exact hm0), by intro id h9; rw [frw2 id (by omega)]; try rfl⟩) (by decide) (by decide)

set_option maxHeartbeats 300000 in
set_option maxRecDepth 100000 in
/-- readNumber -/
theorem c_X7_readNumber (l : Launch) {D : va_G} {dA : Nat → Nat} {b : Nat} {w : Wd} {sv th lt dn : Int32} {nc q : Nat} (hm0 : w 36 = some (modO b sv (nI nc) th (nI q) lt dn)) {C : Nat → Nat} (hm41 : w 41 = some (eN dA 80 C)) (hbu : mBu nc C) {TD : Nat → Nat} (hm44 : w 44 = some (eN dA 3 TD)) {q0 p9 : Nat} {kd : Int32} (hp9 : p9 < 3) (hI : pIn nc C q0 p9 q none kd TD) : Met l yX7_readNumber wsX7_readNumber ({ frames := 2, cells := 0, slots := 0, locals := 44 } : Room) (PC D dA b w [.ref (b + 36), .int (nI p9), .int (nI (cLo p9)), .int (nI (cHi p9))]) (QE D b (fun r w' => r < 2 ∧ ∃ u v : Nat, w' 36 = some (modO b sv (nI nc) th (nI u) lt dn) ∧ u ≤ nc ∧ ((r = 1 ∧ w' 44 = some (eN dA 3 (va_up TD p9 v)) ∧ pIn nc C q0 p9 u (some v) kd TD ∧ pEnd nc C u) ∨ (r = 0 ∧ w' 44 = some (eN dA 3 TD) ∧ pNo nc C u)) ∧ ∀ id : Nat, id ≠ 36 ∧ id ≠ 44 → w' id = w id)) 0 0 (Fb b) := by
  refine q_of (cc := cX7_readNumber) (maxL := 5) (ret := (some .boolean)) (by decide) rfl rfl ?_
  intro p e s m args below meth c ls hx hb hr hml hts hown hlocks hG hW hS hl
  have hown : s.vm.findClass RX7 = some m.cls := hown
  have hinX7 : ∀ w ∈ u_ws RX7 TX7 14, w ∈ wsX7_readNumber := fun w h => (goodIn_r (big := wsX7_readNumber) (u_ws RX7 TX7 14) [13, 14, 15, 16, 17, 18, 19, 20, 21, 22, 23, 24, 25, 26] (by decide +kernel) (by decide +kernel) w h).1
  have hl : lv_has ls 5 [(0, .ref (b + 36)), (1, .int (nI p9)), (2, .int (nI (cLo p9))), (3, .int (nI (cHi p9)))] := hl
  have hnc := hbu.1
  have hm41o := hm41
  have hm44o := hm44
  have hql := hI.2.1
  have hc1 := cLo_le p9
  have hc2 := cHi_le p9
  refine lv_aload_n hx hb dX7_readNumber_0 rfl (lv_at hl 0 rfl) ?_
  refine lv_bipush (v := nI 48) hx hb dX7_readNumber_1 (by decide) ?_
  refine lv_iload_n hx hb dX7_readNumber_3 rfl (lv_at hl 2 rfl) ?_
  refine lv_iadd hx hb dX7_readNumber_4 ?_
  refine q_top (y := nI (48 + (cLo p9))) (nI_add _ _) ?_
  refine lv_bipush (v := nI 57) hx hb dX7_readNumber_5 (by decide) ?_
  refine q_R1 (va_runV (As := [.int (nI (48 + (cLo p9))), .int (nI 57)]) (rest := []) ⟨hx, hb, hml, hown, hts⟩ (c_X7_isNext l hm0 hm41 hbu (48 + (cLo p9)) (57) (by omega) (by omega) (by omega)) (cwV 2 hts gX7_readNumber_X7_isNext rfl rfl rfl (by decide +kernel) ⟨Nat.le_of_ble_eq_true rfl, Nat.le_of_ble_eq_true rfl⟩) (q_preV hG hW hS hm0 rfl) rfl rfl hl.1 rfl (lv_room (Nat.le_of_ble_eq_true rfl)) dX7_readNumber_7 ⟨Nat.le_of_ble_eq_true rfl, Nat.le_of_ble_eq_true rfl⟩) ?_
  refine lv_if_ne (tgt := 15) hx hb dX7_readNumber_10 (by decide) (fun c_10 => ?_) (fun c_10 => ?_)
  · skip
    have c_10 : q < nc ∧ (48 + (cLo p9)) ≤ C q ∧ C q ≤ 57 := Decidable.byContradiction (fun h__ => c_10 (pI_eq0.mpr h__))
    have hCq := hbu.2 q c_10.1
    refine lv_aload_n hx hb dX7_readNumber_15 rfl (lv_at hl 0 rfl) ?_
    refine q_get hx hb hts hinX7 hown hG hW hm0 rfl 5 (by decide) (hts (.fieldLink RX7 23 "FoleyMixerModel" "text" "[I") (List.mem_of_getElem? (i := 1) rfl)) rfl rfl dX7_readNumber_16 ?_
    refine lv_aload_n hx hb dX7_readNumber_19 rfl (lv_at hl 0 rfl) ?_
    refine q_get hx hb hts hinX7 hown hG hW hm0 rfl 10 (by decide) (hts (.fieldLink RX7 120 "FoleyMixerModel" "place" "I") (List.mem_of_getElem? (i := 2) rfl)) rfl rfl dX7_readNumber_20 ?_
    refine q_iald hx hb hG hW hm41 (by omega) (by omega) dX7_readNumber_23 ?_
    refine lv_bipush (v := nI 48) hx hb dX7_readNumber_24 (by decide) ?_
    refine lv_isub hx hb dX7_readNumber_26 ?_
    refine q_top (y := nI ((C q) - 48)) (nI_sub (by omega)) ?_
    refine lv_istore (lv' := [(4, .int (nI ((C q) - 48))), (0, .ref (b + 36)), (1, .int (nI p9)), (2, .int (nI (cLo p9))), (3, .int (nI (cHi p9)))]) hx hb dX7_readNumber_27 hl (by decide) rfl (fun ls hl => ?_)
    refine lv_aload_n hx hb dX7_readNumber_29 rfl (lv_at hl 1 rfl) ?_
    refine lv_dup hx hb dX7_readNumber_30 rfl ?_
    refine q_get hx hb hts hinX7 hown hG hW hm0 rfl 10 (by decide) (hts (.fieldLink RX7 120 "FoleyMixerModel" "place" "I") (List.mem_of_getElem? (i := 2) rfl)) rfl rfl dX7_readNumber_31 ?_
    refine lv_iconst (v := nI 1) hx hb dX7_readNumber_34 (by decide) ?_
    refine lv_iadd hx hb dX7_readNumber_35 ?_
    refine q_top (y := nI (q + 1)) (nI_add _ _) ?_
    refine q_put hx hb hts hinX7 tyX7_ok nmX7 hown hG hW hS hm0 rfl 10 (by decide) (hts (.fieldLink RX7 120 "FoleyMixerModel" "place" "I") (List.mem_of_getElem? (i := 2) rfl)) rfl rfl rfl rfl (Nat.le_of_ble_eq_true rfl) dX7_readNumber_36 (fun H locs hW hS hz36 => ?_)
    obtain ⟨w1, ew1⟩ : ∃ wq__ : Wd, wq__ = va_up w 36 (some (modO b (sv) (nI (nc)) (th) (nI (q + 1)) (lt) (dn))) := ⟨_, rfl⟩
    replace hW : WP D b w1 H := by rw [ew1]; exact hW
    have frw1 : ∀ id : Nat, id ≠ 36 → w1 id = w id := fun id h9 => by rw [ew1, up_ne h9]
    replace hm41 : w1 41 = some (eN dA 80 C) := (frw1 _ (by omega)).trans hm41
    replace hm44 : w1 44 = some (eN dA 3 TD) := (frw1 _ (by omega)).trans hm44
    replace hm0 : w1 36 = some (modO b (sv) (nI (nc)) (th) (nI (q + 1)) (lt) (dn)) := by rw [ew1]; exact up_eq
    have L39 : ∀ (n39 : Nat) (u v : Nat), pIn nc C q0 p9 u (some v) kd TD → v ≤ 99 → nc + 1 - u < n39 → ∀ (x39_4 : Int32), x39_4 = nI (v) → ∀ (wa : Wd) (H : Heap) (locs : List Loc), wa 36 = some (modO b sv (nI nc) th (nI u) lt dn) → (∀ id : Nat, id ≠ 36 → wa id = w id) → WP D b wa H → va_S (Fb b) s.heap H locs → ∀ (ls : Array Slot), lv_has ls 5 [(0, .ref (b + 36)), (1, .int (nI p9)), (2, .int (nI (cLo p9))), (3, .int (nI (cHi p9))), (4, .int x39_4)] → W p l e ({ frames := 2, cells := 0, slots := 0, locals := 44 } : Room) s m args below meth c H locs 0 0 (MQ below (QE D b (fun r w' => r < 2 ∧ ∃ u v : Nat, w' 36 = some (modO b sv (nI nc) th (nI u) lt dn) ∧ u ≤ nc ∧ ((r = 1 ∧ w' 44 = some (eN dA 3 (va_up TD p9 v)) ∧ pIn nc C q0 p9 u (some v) kd TD ∧ pEnd nc C u) ∨ (r = 0 ∧ w' 44 = some (eN dA 3 TD) ∧ pNo nc C u)) ∧ ∀ id : Nat, id ≠ 36 ∧ id ≠ 44 → w' id = w id)) args s 0 0 (Fb b)) (F0 m 39 ls []) := by
      intro n39
      induction n39 with
      | zero =>
        intro u v hI2 hv9 hn39 x39_4 ex39_4 wa H locs hm0 fr hW hS ls hl
        exact absurd hn39 (Nat.not_lt_zero _)
      | succ n39 ih39 =>
        intro u v hI2 hv9 hn39 x39_4 ex39_4 wa H locs hm0 fr hW hS ls hl
        subst ex39_4
        have hul := hI2.2.1
        replace hm41 := (fr 41 (by omega)).trans hm41o
        replace hm44 := (fr 44 (by omega)).trans hm44o
        refine lv_iload hx hb dX7_readNumber_39 (lv_at hl 4 rfl) ?_
        refine lv_if_le (tgt := 110) hx hb dX7_readNumber_41 (by decide) (fun c_41 => ?_) (fun c_41 => ?_)
        · skip
          have c_41 : v ≤ 0 := (nI_le0 (i := v) (by omega)).mp c_41
          have hend : pEnd nc C u := pEnd_of hI2 (by omega)
          refine lv_aload_n hx hb dX7_readNumber_110 rfl (lv_at hl 0 rfl) ?_
          refine q_get hx hb hts hinX7 hown hG hW hm0 rfl 12 (by decide) (hts (.fieldLink RX7 32 "FoleyMixerModel" "told" "[I") (List.mem_of_getElem? (i := 3) rfl)) rfl rfl dX7_readNumber_111 ?_
          refine lv_iload_n hx hb dX7_readNumber_114 rfl (lv_at hl 1 rfl) ?_
          refine lv_iload hx hb dX7_readNumber_115 (lv_at hl 4 rfl) ?_
          refine q_nast hx hb hG hW hS hm44 (by omega) (by omega) dX7_readNumber_117 (fun H locs hW hS hz117 => ?_)
          obtain ⟨w2, ew2⟩ : ∃ wq__ : Wd, wq__ = va_up wa 44 (some (eN dA 3 (va_up TD p9 v))) := ⟨_, rfl⟩
          replace hW : WP D b w2 H := by rw [ew2]; exact hW
          have frw2 : ∀ id : Nat, id ≠ 44 → w2 id = wa id := fun id h9 => by rw [ew2, up_ne h9]
          replace hm0 : w2 36 = some (modO b (sv) (nI (nc)) (th) (nI (u)) (lt) (dn)) := (frw2 _ (by omega)).trans hm0
          replace hm41 : w2 41 = some (eN dA 80 C) := (frw2 _ (by omega)).trans hm41
          replace hm44 : w2 44 = some (eN dA 3 (va_up TD p9 v)) := by rw [ew2]; exact up_eq
          refine lv_iconst (v := nI 1) hx hb dX7_readNumber_118 (by decide) ?_
          exact q_ez hx hb hr hlocks hW hS dX7_readNumber_119 (by omega) (by exact ⟨by omega, u, v, hm0, hul, Or.inl ⟨rfl, hm44, hI2, hend⟩, by intro id h9; rw [frw2 id (by omega)]; exact fr id (by omega)⟩) (by decide) (by decide)
        · skip
          have c_41 : ¬ (v ≤ 0) := fun h__ => c_41 ((nI_le0 (i := v) (by omega)).mpr h__)
          refine lv_aload_n hx hb dX7_readNumber_44 rfl (lv_at hl 0 rfl) ?_
          refine lv_bipush (v := nI 48) hx hb dX7_readNumber_45 (by decide) ?_
          refine lv_bipush (v := nI 57) hx hb dX7_readNumber_47 (by decide) ?_
          refine q_R1 (va_runV (As := [.int (nI 48), .int (nI 57)]) (rest := []) ⟨hx, hb, hml, hown, hts⟩ (c_X7_isNext l hm0 hm41 hbu (48) (57) (by omega) (by omega) (by omega)) (cwV 2 hts gX7_readNumber_X7_isNext rfl rfl rfl (by decide +kernel) ⟨Nat.le_of_ble_eq_true rfl, Nat.le_of_ble_eq_true rfl⟩) (q_preV hG hW hS hm0 rfl) rfl rfl hl.1 rfl (lv_room (Nat.le_of_ble_eq_true rfl)) dX7_readNumber_49 ⟨Nat.le_of_ble_eq_true rfl, Nat.le_of_ble_eq_true rfl⟩) ?_
          refine lv_if_eq (tgt := 110) hx hb dX7_readNumber_52 (by decide) (fun c_52 => ?_) (fun c_52 => ?_)
          · skip
            have c_52 : ¬ (u < nc ∧ 48 ≤ C u ∧ C u ≤ 57) := pI_eq0.mp c_52
            have hend : pEnd nc C u := pEnd_of hI2 (by omega)
            refine lv_aload_n hx hb dX7_readNumber_110 rfl (lv_at hl 0 rfl) ?_
            refine q_get hx hb hts hinX7 hown hG hW hm0 rfl 12 (by decide) (hts (.fieldLink RX7 32 "FoleyMixerModel" "told" "[I") (List.mem_of_getElem? (i := 3) rfl)) rfl rfl dX7_readNumber_111 ?_
            refine lv_iload_n hx hb dX7_readNumber_114 rfl (lv_at hl 1 rfl) ?_
            refine lv_iload hx hb dX7_readNumber_115 (lv_at hl 4 rfl) ?_
            refine q_nast hx hb hG hW hS hm44 (by omega) (by omega) dX7_readNumber_117 (fun H locs hW hS hz117 => ?_)
            obtain ⟨w3, ew3⟩ : ∃ wq__ : Wd, wq__ = va_up wa 44 (some (eN dA 3 (va_up TD p9 v))) := ⟨_, rfl⟩
            replace hW : WP D b w3 H := by rw [ew3]; exact hW
            have frw3 : ∀ id : Nat, id ≠ 44 → w3 id = wa id := fun id h9 => by rw [ew3, up_ne h9]
            replace hm0 : w3 36 = some (modO b (sv) (nI (nc)) (th) (nI (u)) (lt) (dn)) := (frw3 _ (by omega)).trans hm0
            replace hm41 : w3 41 = some (eN dA 80 C) := (frw3 _ (by omega)).trans hm41
            replace hm44 : w3 44 = some (eN dA 3 (va_up TD p9 v)) := by rw [ew3]; exact up_eq
            refine lv_iconst (v := nI 1) hx hb dX7_readNumber_118 (by decide) ?_
            exact q_ez hx hb hr hlocks hW hS dX7_readNumber_119 (by omega) (by exact ⟨by omega, u, v, hm0, hul, Or.inl ⟨rfl, hm44, hI2, hend⟩, by intro id h9; rw [frw3 id (by omega)]; exact fr id (by omega)⟩) (by decide) (by decide)
          · skip
            have c_52 : u < nc ∧ 48 ≤ C u ∧ C u ≤ 57 := Decidable.byContradiction (fun h__ => c_52 (pI_eq0.mpr h__))
            have hCu := hbu.2 u c_52.1
            refine lv_bipush (v := nI 10) hx hb dX7_readNumber_55 (by decide) ?_
            refine lv_iload hx hb dX7_readNumber_57 (lv_at hl 4 rfl) ?_
            refine lv_imul hx hb dX7_readNumber_59 ?_
            refine q_top (y := nI (10 * v)) (nI_mul _ _) ?_
            refine lv_aload_n hx hb dX7_readNumber_60 rfl (lv_at hl 0 rfl) ?_
            refine q_get hx hb hts hinX7 hown hG hW hm0 rfl 5 (by decide) (hts (.fieldLink RX7 23 "FoleyMixerModel" "text" "[I") (List.mem_of_getElem? (i := 1) rfl)) rfl rfl dX7_readNumber_61 ?_
            refine lv_aload_n hx hb dX7_readNumber_64 rfl (lv_at hl 0 rfl) ?_
            refine q_get hx hb hts hinX7 hown hG hW hm0 rfl 10 (by decide) (hts (.fieldLink RX7 120 "FoleyMixerModel" "place" "I") (List.mem_of_getElem? (i := 2) rfl)) rfl rfl dX7_readNumber_65 ?_
            refine q_iald hx hb hG hW hm41 (by omega) (by omega) dX7_readNumber_68 ?_
            refine lv_iadd hx hb dX7_readNumber_69 ?_
            refine q_top (y := nI ((10 * v) + (C u))) (nI_add _ _) ?_
            refine lv_bipush (v := nI 48) hx hb dX7_readNumber_70 (by decide) ?_
            refine lv_isub hx hb dX7_readNumber_72 ?_
            refine q_top (y := nI (((10 * v) + (C u)) - 48)) (nI_sub (by omega)) ?_
            refine lv_iload_n hx hb dX7_readNumber_73 rfl (lv_at hl 3 rfl) ?_
            refine lv_icmp_gt (tgt := 110) hx hb dX7_readNumber_74 (by decide) (fun c_74 => ?_) (fun c_74 => ?_)
            · skip
              have c_74 : cHi p9 < ((10 * v) + (C u)) - 48 := (nI_ltI (a := cHi p9) (b := ((10 * v) + (C u)) - 48) (by omega) (by omega)).mp c_74
              have hend : pEnd nc C u := pEnd_of hI2 (by omega)
              refine lv_aload_n hx hb dX7_readNumber_110 rfl (lv_at hl 0 rfl) ?_
              refine q_get hx hb hts hinX7 hown hG hW hm0 rfl 12 (by decide) (hts (.fieldLink RX7 32 "FoleyMixerModel" "told" "[I") (List.mem_of_getElem? (i := 3) rfl)) rfl rfl dX7_readNumber_111 ?_
              refine lv_iload_n hx hb dX7_readNumber_114 rfl (lv_at hl 1 rfl) ?_
              refine lv_iload hx hb dX7_readNumber_115 (lv_at hl 4 rfl) ?_
              refine q_nast hx hb hG hW hS hm44 (by omega) (by omega) dX7_readNumber_117 (fun H locs hW hS hz117 => ?_)
              obtain ⟨w4, ew4⟩ : ∃ wq__ : Wd, wq__ = va_up wa 44 (some (eN dA 3 (va_up TD p9 v))) := ⟨_, rfl⟩
              replace hW : WP D b w4 H := by rw [ew4]; exact hW
              have frw4 : ∀ id : Nat, id ≠ 44 → w4 id = wa id := fun id h9 => by rw [ew4, up_ne h9]
              replace hm0 : w4 36 = some (modO b (sv) (nI (nc)) (th) (nI (u)) (lt) (dn)) := (frw4 _ (by omega)).trans hm0
              replace hm41 : w4 41 = some (eN dA 80 C) := (frw4 _ (by omega)).trans hm41
              replace hm44 : w4 44 = some (eN dA 3 (va_up TD p9 v)) := by rw [ew4]; exact up_eq
              refine lv_iconst (v := nI 1) hx hb dX7_readNumber_118 (by decide) ?_
              exact q_ez hx hb hr hlocks hW hS dX7_readNumber_119 (by omega) (by exact ⟨by omega, u, v, hm0, hul, Or.inl ⟨rfl, hm44, hI2, hend⟩, by intro id h9; rw [frw4 id (by omega)]; exact fr id (by omega)⟩) (by decide) (by decide)
            · skip
              have c_74 : ¬ (cHi p9 < ((10 * v) + (C u)) - 48) := fun h__ => c_74 ((nI_ltI (a := cHi p9) (b := ((10 * v) + (C u)) - 48) (by omega) (by omega)).mpr h__)
              refine lv_bipush (v := nI 10) hx hb dX7_readNumber_77 (by decide) ?_
              refine lv_iload hx hb dX7_readNumber_79 (lv_at hl 4 rfl) ?_
              refine lv_imul hx hb dX7_readNumber_81 ?_
              refine q_top (y := nI (10 * v)) (nI_mul _ _) ?_
              refine lv_aload_n hx hb dX7_readNumber_82 rfl (lv_at hl 0 rfl) ?_
              refine q_get hx hb hts hinX7 hown hG hW hm0 rfl 5 (by decide) (hts (.fieldLink RX7 23 "FoleyMixerModel" "text" "[I") (List.mem_of_getElem? (i := 1) rfl)) rfl rfl dX7_readNumber_83 ?_
              refine lv_aload_n hx hb dX7_readNumber_86 rfl (lv_at hl 0 rfl) ?_
              refine q_get hx hb hts hinX7 hown hG hW hm0 rfl 10 (by decide) (hts (.fieldLink RX7 120 "FoleyMixerModel" "place" "I") (List.mem_of_getElem? (i := 2) rfl)) rfl rfl dX7_readNumber_87 ?_
              refine q_iald hx hb hG hW hm41 (by omega) (by omega) dX7_readNumber_90 ?_
              refine lv_iadd hx hb dX7_readNumber_91 ?_
              refine q_top (y := nI ((10 * v) + (C u))) (nI_add _ _) ?_
              refine lv_bipush (v := nI 48) hx hb dX7_readNumber_92 (by decide) ?_
              refine lv_isub hx hb dX7_readNumber_94 ?_
              refine q_top (y := nI (((10 * v) + (C u)) - 48)) (nI_sub (by omega)) ?_
              refine lv_istore (lv' := [(4, .int (nI (((10 * v) + (C u)) - 48))), (0, .ref (b + 36)), (1, .int (nI p9)), (2, .int (nI (cLo p9))), (3, .int (nI (cHi p9)))]) hx hb dX7_readNumber_95 hl (by decide) rfl (fun ls hl => ?_)
              refine lv_aload_n hx hb dX7_readNumber_97 rfl (lv_at hl 1 rfl) ?_
              refine lv_dup hx hb dX7_readNumber_98 rfl ?_
              refine q_get hx hb hts hinX7 hown hG hW hm0 rfl 10 (by decide) (hts (.fieldLink RX7 120 "FoleyMixerModel" "place" "I") (List.mem_of_getElem? (i := 2) rfl)) rfl rfl dX7_readNumber_99 ?_
              refine lv_iconst (v := nI 1) hx hb dX7_readNumber_102 (by decide) ?_
              refine lv_iadd hx hb dX7_readNumber_103 ?_
              refine q_top (y := nI (u + 1)) (nI_add _ _) ?_
              refine q_put hx hb hts hinX7 tyX7_ok nmX7 hown hG hW hS hm0 rfl 10 (by decide) (hts (.fieldLink RX7 120 "FoleyMixerModel" "place" "I") (List.mem_of_getElem? (i := 2) rfl)) rfl rfl rfl rfl (Nat.le_of_ble_eq_true rfl) dX7_readNumber_104 (fun H locs hW hS hz104 => ?_)
              obtain ⟨w5, ew5⟩ : ∃ wq__ : Wd, wq__ = va_up wa 36 (some (modO b (sv) (nI (nc)) (th) (nI (u + 1)) (lt) (dn))) := ⟨_, rfl⟩
              replace hW : WP D b w5 H := by rw [ew5]; exact hW
              have frw5 : ∀ id : Nat, id ≠ 36 → w5 id = wa id := fun id h9 => by rw [ew5, up_ne h9]
              replace hm41 : w5 41 = some (eN dA 80 C) := (frw5 _ (by omega)).trans hm41
              replace hm44 : w5 44 = some (eN dA 3 TD) := (frw5 _ (by omega)).trans hm44
              replace hm0 : w5 36 = some (modO b (sv) (nI (nc)) (th) (nI (u + 1)) (lt) (dn)) := by rw [ew5]; exact up_eq
              refine lv_goto (tgt := 39) hx hb dX7_readNumber_107 (by decide) ?_
              exact ih39 (u + 1) (10 * v + C u - 48) (by first | exact pIn_first hI hp9 c_10.1 c_10.2.1 c_10.2.2 | exact pIn_next hI2 hp9 (by omega) c_52.1 c_52.2.1 c_52.2.2 (by omega)) (by omega) (by omega) _ (by first | rfl | (congr 1; omega)) _ _ _ (by exact hm0) (by intro id h9; rw [frw5 id (by omega)]; exact fr id h9) hW hS _ (lv_sub hl [1, 2, 3, 4, 0] rfl)
    exact L39 ((nc + 1 - (q + 1)) + 1) (q + 1) (C q - 48) (by first | exact pIn_first hI hp9 c_10.1 c_10.2.1 c_10.2.2 | exact pIn_next hI2 hp9 (by omega) c_52.1 c_52.2.1 c_52.2.2 (by omega)) (by omega) (Nat.lt_succ_self _) _ (by first | rfl | (congr 1; omega)) _ _ _ (by exact hm0) (by intro id h9; rw [frw1 id (by omega)]; try rfl) hW hS _ (lv_sub hl [1, 2, 3, 4, 0] rfl)
  · skip
    have c_10 : ¬ (q < nc ∧ (48 + (cLo p9)) ≤ C q ∧ C q ≤ 57) := pI_eq0.mp c_10
    refine lv_iconst (v := nI 0) hx hb dX7_readNumber_13 (by decide) ?_
    exact q_ez hx hb hr hlocks hW hS dX7_readNumber_14 (by omega) (by exact ⟨by omega, q, 0, hm0, hql, Or.inr ⟨rfl, hm44, pNo_first hI hp9 c_10⟩, by intro id h9; try rfl⟩) (by decide) (by decide)

set_option maxHeartbeats 300000 in
set_option maxRecDepth 100000 in
/-- readCue -/
theorem c_X7_readCue (l : Launch) {D : va_G} {dA : Nat → Nat} {b : Nat} {w : Wd} {sv th lt dn : Int32} {nc q : Nat} (hm0 : w 36 = some (modO b sv (nI nc) th (nI q) lt dn)) {C : Nat → Nat} (hm41 : w 41 = some (eN dA 80 C)) (hbu : mBu nc C) {TD : Nat → Nat} (hm44 : w 44 = some (eN dA 3 TD)) (hK : pKd nc C q) : Met l yX7_readCue wsX7_readCue ({ frames := 3, cells := 0, slots := 0, locals := 68 } : Room) (PC D dA b w [.ref (b + 36)]) (QE D b (fun r w' => r < 2 ∧ ∃ (u : Nat) (kd : Int32) (TD1 : Nat → Nat), w' 36 = some (modO b sv (nI nc) th (nI u) kd dn) ∧ u ≤ nc ∧ w' 44 = some (eN dA 3 TD1) ∧ ((r = 1 ∧ pCue nc C q u kd TD1) ∨ (r = 0 ∧ pNo nc C u)) ∧ ∀ id : Nat, id ≠ 36 ∧ id ≠ 44 → w' id = w id)) 0 0 (Fb b) := by
  refine q_of (cc := cX7_readCue) (maxL := 1) (ret := (some .boolean)) (by decide) rfl rfl ?_
  intro p e s m args below meth c ls hx hb hr hml hts hown hlocks hG hW hS hl
  have hown : s.vm.findClass RX7 = some m.cls := hown
  have hinX7 : ∀ w ∈ u_ws RX7 TX7 14, w ∈ wsX7_readCue := fun w h => (goodIn_r (big := wsX7_readCue) (u_ws RX7 TX7 14) [22, 23, 24, 25, 26, 27, 28, 29, 30, 31, 32, 33, 34, 35] (by decide +kernel) (by decide +kernel) w h).1
  have hl : lv_has ls 1 [(0, .ref (b + 36))] := hl
  have hnc := hbu.1
  have hql := hK.1
  refine lv_aload_n hx hb dX7_readCue_0 rfl (lv_at hl 0 rfl) ?_
  refine lv_aload_n hx hb dX7_readCue_1 rfl (lv_at hl 0 rfl) ?_
  refine q_get hx hb hts hinX7 hown hG hW hm0 rfl 10 (by decide) (hts (.fieldLink RX7 120 "FoleyMixerModel" "place" "I") (List.mem_of_getElem? (i := 1) rfl)) rfl rfl dX7_readCue_2 ?_
  refine lv_aload_n hx hb dX7_readCue_5 rfl (lv_at hl 0 rfl) ?_
  refine q_get hx hb hts hinX7 hown hG hW hm0 rfl 6 (by decide) (hts (.fieldLink RX7 117 "FoleyMixerModel" "length" "I") (List.mem_of_getElem? (i := 2) rfl)) rfl rfl dX7_readCue_6 ?_
  refine lv_icmp_ge (tgt := 24) hx hb dX7_readCue_9 (by decide) (fun c_9 => ?_) (fun c_9 => ?_)
  · skip
    have c_9 : nc ≤ q := (nI_leI (a := nc) (b := q) (by omega) (by omega)).mp c_9
    refine lv_iconst (v := nI 0) hx hb dX7_readCue_24 (by decide) ?_
    refine q_put hx hb hts hinX7 tyX7_ok nmX7 hown hG hW hS hm0 rfl 11 (by decide) (hts (.fieldLink RX7 126 "FoleyMixerModel" "letter" "I") (List.mem_of_getElem? (i := 4) rfl)) rfl rfl rfl rfl (Nat.le_of_ble_eq_true rfl) dX7_readCue_25 (fun H locs hW hS hz25 => ?_)
    obtain ⟨w1, ew1⟩ : ∃ wq__ : Wd, wq__ = va_up w 36 (some (modO b (sv) (nI (nc)) (th) (nI (q)) (nI (0)) (dn))) := ⟨_, rfl⟩
    replace hW : WP D b w1 H := by rw [ew1]; exact hW
    have frw1 : ∀ id : Nat, id ≠ 36 → w1 id = w id := fun id h9 => by rw [ew1, up_ne h9]
    replace hm41 : w1 41 = some (eN dA 80 C) := (frw1 _ (by omega)).trans hm41
    replace hm44 : w1 44 = some (eN dA 3 TD) := (frw1 _ (by omega)).trans hm44
    replace hm0 : w1 36 = some (modO b (sv) (nI (nc)) (th) (nI (q)) (nI (0)) (dn)) := by rw [ew1]; exact up_eq
    refine lv_aload_n hx hb dX7_readCue_28 rfl (lv_at hl 0 rfl) ?_
    refine q_get hx hb hts hinX7 hown hG hW hm0 rfl 11 (by decide) (hts (.fieldLink RX7 126 "FoleyMixerModel" "letter" "I") (List.mem_of_getElem? (i := 4) rfl)) rfl rfl dX7_readCue_29 ?_
    refine lv_bipush (v := nI 119) hx hb dX7_readCue_32 (by decide) ?_
    refine lv_icmp_eq (tgt := 57) hx hb dX7_readCue_34 (by decide) (fun c_34 => ?_) (fun c_34 => ?_)
    · skip
      have c_34 : 0 = 119 := (nI_eq (a := 0) (b := 119) (by omega) (by omega)).mp c_34
      exact absurd c_34 (by omega)
    · skip
      have c_34 : ¬ (0 = 119) := fun h__ => c_34 ((nI_eq (a := 0) (b := 119) (by omega) (by omega)).mpr h__)
      refine lv_aload_n hx hb dX7_readCue_37 rfl (lv_at hl 0 rfl) ?_
      refine q_get hx hb hts hinX7 hown hG hW hm0 rfl 11 (by decide) (hts (.fieldLink RX7 126 "FoleyMixerModel" "letter" "I") (List.mem_of_getElem? (i := 4) rfl)) rfl rfl dX7_readCue_38 ?_
      refine lv_bipush (v := nI 110) hx hb dX7_readCue_41 (by decide) ?_
      refine lv_icmp_eq (tgt := 57) hx hb dX7_readCue_43 (by decide) (fun c_43 => ?_) (fun c_43 => ?_)
      · skip
        have c_43 : 0 = 110 := (nI_eq (a := 0) (b := 110) (by omega) (by omega)).mp c_43
        exact absurd c_43 (by omega)
      · skip
        have c_43 : ¬ (0 = 110) := fun h__ => c_43 ((nI_eq (a := 0) (b := 110) (by omega) (by omega)).mpr h__)
        refine lv_aload_n hx hb dX7_readCue_46 rfl (lv_at hl 0 rfl) ?_
        refine q_get hx hb hts hinX7 hown hG hW hm0 rfl 11 (by decide) (hts (.fieldLink RX7 126 "FoleyMixerModel" "letter" "I") (List.mem_of_getElem? (i := 4) rfl)) rfl rfl dX7_readCue_47 ?_
        refine lv_bipush (v := nI 78) hx hb dX7_readCue_50 (by decide) ?_
        refine lv_icmp_eq (tgt := 57) hx hb dX7_readCue_52 (by decide) (fun c_52 => ?_) (fun c_52 => ?_)
        · skip
          have c_52 : 0 = 78 := (nI_eq (a := 0) (b := 78) (by omega) (by omega)).mp c_52
          exact absurd c_52 (by omega)
        · skip
          have c_52 : ¬ (0 = 78) := fun h__ => c_52 ((nI_eq (a := 0) (b := 78) (by omega) (by omega)).mpr h__)
          refine lv_iconst (v := nI 0) hx hb dX7_readCue_55 (by decide) ?_
          exact q_ez hx hb hr hlocks hW hS dX7_readCue_56 (by omega) (by exact ⟨by omega, q, _, _, hm0, by omega, hm44, Or.inr ⟨rfl, pNo_kind hK (fun h => by omega)⟩, by intro id h9; rw [frw1 id (by omega)]; try rfl⟩) (by decide) (by decide)
  · skip
    have c_9 : ¬ (nc ≤ q) := fun h__ => c_9 ((nI_leI (a := nc) (b := q) (by omega) (by omega)).mpr h__)
    have hq8 : q < nc := by omega
    have hCq := hbu.2 q hq8
    refine lv_aload_n hx hb dX7_readCue_12 rfl (lv_at hl 0 rfl) ?_
    refine q_get hx hb hts hinX7 hown hG hW hm0 rfl 5 (by decide) (hts (.fieldLink RX7 23 "FoleyMixerModel" "text" "[I") (List.mem_of_getElem? (i := 3) rfl)) rfl rfl dX7_readCue_13 ?_
    refine lv_aload_n hx hb dX7_readCue_16 rfl (lv_at hl 0 rfl) ?_
    refine q_get hx hb hts hinX7 hown hG hW hm0 rfl 10 (by decide) (hts (.fieldLink RX7 120 "FoleyMixerModel" "place" "I") (List.mem_of_getElem? (i := 1) rfl)) rfl rfl dX7_readCue_17 ?_
    refine q_iald hx hb hG hW hm41 (by omega) (by omega) dX7_readCue_20 ?_
    refine lv_goto (tgt := 25) hx hb dX7_readCue_21 (by decide) ?_
    refine q_put hx hb hts hinX7 tyX7_ok nmX7 hown hG hW hS hm0 rfl 11 (by decide) (hts (.fieldLink RX7 126 "FoleyMixerModel" "letter" "I") (List.mem_of_getElem? (i := 4) rfl)) rfl rfl rfl rfl (Nat.le_of_ble_eq_true rfl) dX7_readCue_25 (fun H locs hW hS hz25 => ?_)
    obtain ⟨w2, ew2⟩ : ∃ wq__ : Wd, wq__ = va_up w 36 (some (modO b (sv) (nI (nc)) (th) (nI (q)) (nI (C q)) (dn))) := ⟨_, rfl⟩
    replace hW : WP D b w2 H := by rw [ew2]; exact hW
    have frw2 : ∀ id : Nat, id ≠ 36 → w2 id = w id := fun id h9 => by rw [ew2, up_ne h9]
    replace hm41 : w2 41 = some (eN dA 80 C) := (frw2 _ (by omega)).trans hm41
    replace hm44 : w2 44 = some (eN dA 3 TD) := (frw2 _ (by omega)).trans hm44
    replace hm0 : w2 36 = some (modO b (sv) (nI (nc)) (th) (nI (q)) (nI (C q)) (dn)) := by rw [ew2]; exact up_eq
    refine lv_aload_n hx hb dX7_readCue_28 rfl (lv_at hl 0 rfl) ?_
    refine q_get hx hb hts hinX7 hown hG hW hm0 rfl 11 (by decide) (hts (.fieldLink RX7 126 "FoleyMixerModel" "letter" "I") (List.mem_of_getElem? (i := 4) rfl)) rfl rfl dX7_readCue_29 ?_
    refine lv_bipush (v := nI 119) hx hb dX7_readCue_32 (by decide) ?_
    refine lv_icmp_eq (tgt := 57) hx hb dX7_readCue_34 (by decide) (fun c_34 => ?_) (fun c_34 => ?_)
    · skip
      have c_34 : C q = 119 := (nI_eq (a := C q) (b := 119) (by omega) (by omega)).mp c_34
      have hkd : C q = 119 ∨ C q = 110 ∨ C q = 78 := by omega
      have hI := pIn_kind (TD := TD) hK (by omega) hkd
      refine lv_aload_n hx hb dX7_readCue_57 rfl (lv_at hl 0 rfl) ?_
      refine lv_dup hx hb dX7_readCue_58 rfl ?_
      refine q_get hx hb hts hinX7 hown hG hW hm0 rfl 10 (by decide) (hts (.fieldLink RX7 120 "FoleyMixerModel" "place" "I") (List.mem_of_getElem? (i := 1) rfl)) rfl rfl dX7_readCue_59 ?_
      refine lv_iconst (v := nI 1) hx hb dX7_readCue_62 (by decide) ?_
      refine lv_iadd hx hb dX7_readCue_63 ?_
      refine q_top (y := nI (q + 1)) (nI_add _ _) ?_
      refine q_put hx hb hts hinX7 tyX7_ok nmX7 hown hG hW hS hm0 rfl 10 (by decide) (hts (.fieldLink RX7 120 "FoleyMixerModel" "place" "I") (List.mem_of_getElem? (i := 1) rfl)) rfl rfl rfl rfl (Nat.le_of_ble_eq_true rfl) dX7_readCue_64 (fun H locs hW hS hz64 => ?_)
      obtain ⟨w3, ew3⟩ : ∃ wq__ : Wd, wq__ = va_up w2 36 (some (modO b (sv) (nI (nc)) (th) (nI (q + 1)) (nI (C q)) (dn))) := ⟨_, rfl⟩
      replace hW : WP D b w3 H := by rw [ew3]; exact hW
      have frw3 : ∀ id : Nat, id ≠ 36 → w3 id = w2 id := fun id h9 => by rw [ew3, up_ne h9]
      replace hm41 : w3 41 = some (eN dA 80 C) := (frw3 _ (by omega)).trans hm41
      replace hm44 : w3 44 = some (eN dA 3 TD) := (frw3 _ (by omega)).trans hm44
      replace hm0 : w3 36 = some (modO b (sv) (nI (nc)) (th) (nI (q + 1)) (nI (C q)) (dn)) := by rw [ew3]; exact up_eq
      refine lv_aload_n hx hb dX7_readCue_67 rfl (lv_at hl 0 rfl) ?_
      refine lv_iconst (v := nI 0) hx hb dX7_readCue_68 (by decide) ?_
      refine lv_iconst (v := nI 0) hx hb dX7_readCue_69 (by decide) ?_
      refine lv_bipush (v := nI 99) hx hb dX7_readCue_70 (by decide) ?_
      refine q_E1 (va_runV (As := [.int (nI 0), .int (nI 0), .int (nI 99)]) (rest := []) ⟨hx, hb, hml, hown, hts⟩ (c_X7_readNumber l hm0 hm41 hbu hm44 (p9 := 0) (by decide) hI) (cwV 3 hts gX7_readCue_X7_readNumber rfl rfl rfl (by decide +kernel) ⟨Nat.le_of_ble_eq_true rfl, Nat.le_of_ble_eq_true rfl⟩) (q_preV hG hW hS hm0 rfl) rfl rfl hl.1 rfl (lv_room (Nat.le_of_ble_eq_true rfl)) dX7_readCue_72 ⟨Nat.le_of_ble_eq_true rfl, Nat.le_of_ble_eq_true rfl⟩) hS (fun r72 w_72 H locs hp72 hW hS => ?_)
      obtain ⟨hr72, u72, v72, hm0, hul72, hor72, fr72⟩ := hp72
      replace hm41 : w_72 41 = some (eN dA 80 C) := (fr72 _ (by omega)).trans hm41
      refine lv_if_eq (tgt := 122) hx hb dX7_readCue_75 (by decide) (fun c_75 => ?_) (fun c_75 => ?_)
      · skip
        have c_75 : r72 = 0 := (nI_eq0 (i := r72) (by omega)).mp c_75
        obtain ⟨-, hm44, hno⟩ := hor72.resolve_left (fun q9 => absurd q9.1 (by omega))
        refine lv_iconst (v := nI 0) hx hb dX7_readCue_122 (by decide) ?_
        exact q_ez hx hb hr hlocks hW hS dX7_readCue_123 (by omega) (by exact ⟨by omega, u72, _, _, hm0, by omega, hm44, Or.inr ⟨rfl, hno⟩, by intro id h9; rw [fr72 id (by omega)]; rw [frw3 id (by omega)]; rw [frw2 id (by omega)]; try rfl⟩) (by decide) (by decide)
      · skip
        have c_75 : ¬ (r72 = 0) := fun h__ => c_75 ((nI_eq0 (i := r72) (by omega)).mpr h__)
        obtain ⟨-, hm44, hI, hE⟩ := hor72.resolve_right (fun q9 => c_75 q9.1)
        refine lv_aload_n hx hb dX7_readCue_78 rfl (lv_at hl 0 rfl) ?_
        refine lv_bipush (v := nI 43) hx hb dX7_readCue_79 (by decide) ?_
        refine q_W1 (va_runV (As := [.int (nI 43)]) (rest := []) ⟨hx, hb, hml, hown, hts⟩ (c_X7_takes l hm0 hm41 hbu 43 (by omega) (by omega)) (cwV 1 hts gX7_readCue_X7_takes rfl rfl rfl (by decide +kernel) ⟨Nat.le_of_ble_eq_true rfl, Nat.le_of_ble_eq_true rfl⟩) (q_preV hG hW hS hm0 rfl) rfl rfl hl.1 rfl (lv_room (Nat.le_of_ble_eq_true rfl)) dX7_readCue_81 ⟨Nat.le_of_ble_eq_true rfl, Nat.le_of_ble_eq_true rfl⟩) hS (fun w_81 H locs hp81 hW hS => ?_)
        obtain ⟨hm0, fr81⟩ := hp81
        replace hm41 : w_81 41 = some (eN dA 80 C) := (fr81 _ (by omega)).trans hm41
        replace hm44 : w_81 44 = some (eN dA 3 (va_up TD 0 v72)) := (fr81 _ (by omega)).trans hm44
        refine lv_if_eq (tgt := 122) hx hb dX7_readCue_84 (by decide) (fun c_84 => ?_) (fun c_84 => ?_)
        · skip
          have c_84 : ¬ (u72 < nc ∧ C u72 = 43) := pI_eq0.mp c_84
          rw [if_neg c_84] at hm0
          have hno := pNo_sgn hI hE (by decide) (fun h => absurd h (by decide)) c_84
          refine lv_iconst (v := nI 0) hx hb dX7_readCue_122 (by decide) ?_
          exact q_ez hx hb hr hlocks hW hS dX7_readCue_123 (by omega) (by exact ⟨by omega, u72, _, _, hm0, by omega, hm44, Or.inr ⟨rfl, hno⟩, by intro id h9; rw [fr81 id (by omega)]; rw [fr72 id (by omega)]; rw [frw3 id (by omega)]; rw [frw2 id (by omega)]; try rfl⟩) (by decide) (by decide)
        · skip
          have c_84 : u72 < nc ∧ C u72 = 43 := Decidable.byContradiction (fun h__ => c_84 (pI_eq0.mpr h__))
          rw [if_pos c_84] at hm0
          replace hI := pIn_sgn hI (by decide) c_84.1 c_84.2
          refine lv_aload_n hx hb dX7_readCue_87 rfl (lv_at hl 0 rfl) ?_
          refine lv_iconst (v := nI 1) hx hb dX7_readCue_88 (by decide) ?_
          refine lv_iconst (v := nI 1) hx hb dX7_readCue_89 (by decide) ?_
          refine lv_bipush (v := nI 20) hx hb dX7_readCue_90 (by decide) ?_
          refine q_E1 (va_runV (As := [.int (nI 1), .int (nI 1), .int (nI 20)]) (rest := []) ⟨hx, hb, hml, hown, hts⟩ (c_X7_readNumber l hm0 hm41 hbu hm44 (p9 := 1) (by decide) hI) (cwV 3 hts gX7_readCue_X7_readNumber rfl rfl rfl (by decide +kernel) ⟨Nat.le_of_ble_eq_true rfl, Nat.le_of_ble_eq_true rfl⟩) (q_preV hG hW hS hm0 rfl) rfl rfl hl.1 rfl (lv_room (Nat.le_of_ble_eq_true rfl)) dX7_readCue_92 ⟨Nat.le_of_ble_eq_true rfl, Nat.le_of_ble_eq_true rfl⟩) hS (fun r92 w_92 H locs hp92 hW hS => ?_)
          obtain ⟨hr92, u92, v92, hm0, hul92, hor92, fr92⟩ := hp92
          replace hm41 : w_92 41 = some (eN dA 80 C) := (fr92 _ (by omega)).trans hm41
          refine lv_if_eq (tgt := 122) hx hb dX7_readCue_95 (by decide) (fun c_95 => ?_) (fun c_95 => ?_)
          · skip
            have c_95 : r92 = 0 := (nI_eq0 (i := r92) (by omega)).mp c_95
            obtain ⟨-, hm44, hno⟩ := hor92.resolve_left (fun q9 => absurd q9.1 (by omega))
            refine lv_iconst (v := nI 0) hx hb dX7_readCue_122 (by decide) ?_
            exact q_ez hx hb hr hlocks hW hS dX7_readCue_123 (by omega) (by exact ⟨by omega, u92, _, _, hm0, by omega, hm44, Or.inr ⟨rfl, hno⟩, by intro id h9; rw [fr92 id (by omega)]; rw [fr81 id (by omega)]; rw [fr72 id (by omega)]; rw [frw3 id (by omega)]; rw [frw2 id (by omega)]; try rfl⟩) (by decide) (by decide)
          · skip
            have c_95 : ¬ (r92 = 0) := fun h__ => c_95 ((nI_eq0 (i := r92) (by omega)).mpr h__)
            obtain ⟨-, hm44, hI, hE⟩ := hor92.resolve_right (fun q9 => c_95 q9.1)
            refine lv_aload_n hx hb dX7_readCue_98 rfl (lv_at hl 0 rfl) ?_
            refine lv_bipush (v := nI 64) hx hb dX7_readCue_99 (by decide) ?_
            refine q_W1 (va_runV (As := [.int (nI 64)]) (rest := []) ⟨hx, hb, hml, hown, hts⟩ (c_X7_takes l hm0 hm41 hbu 64 (by omega) (by omega)) (cwV 1 hts gX7_readCue_X7_takes rfl rfl rfl (by decide +kernel) ⟨Nat.le_of_ble_eq_true rfl, Nat.le_of_ble_eq_true rfl⟩) (q_preV hG hW hS hm0 rfl) rfl rfl hl.1 rfl (lv_room (Nat.le_of_ble_eq_true rfl)) dX7_readCue_101 ⟨Nat.le_of_ble_eq_true rfl, Nat.le_of_ble_eq_true rfl⟩) hS (fun w_101 H locs hp101 hW hS => ?_)
            obtain ⟨hm0, fr101⟩ := hp101
            replace hm41 : w_101 41 = some (eN dA 80 C) := (fr101 _ (by omega)).trans hm41
            replace hm44 : w_101 44 = some (eN dA 3 (va_up (va_up TD 0 v72) 1 v92)) := (fr101 _ (by omega)).trans hm44
            refine lv_if_eq (tgt := 122) hx hb dX7_readCue_104 (by decide) (fun c_104 => ?_) (fun c_104 => ?_)
            · skip
              have c_104 : ¬ (u92 < nc ∧ C u92 = 64) := pI_eq0.mp c_104
              rw [if_neg c_104] at hm0
              have hno := pNo_sgn hI hE (by decide) (fun h => absurd h (by decide)) c_104
              refine lv_iconst (v := nI 0) hx hb dX7_readCue_122 (by decide) ?_
              exact q_ez hx hb hr hlocks hW hS dX7_readCue_123 (by omega) (by exact ⟨by omega, u92, _, _, hm0, by omega, hm44, Or.inr ⟨rfl, hno⟩, by intro id h9; rw [fr101 id (by omega)]; rw [fr92 id (by omega)]; rw [fr81 id (by omega)]; rw [fr72 id (by omega)]; rw [frw3 id (by omega)]; rw [frw2 id (by omega)]; try rfl⟩) (by decide) (by decide)
            · skip
              have c_104 : u92 < nc ∧ C u92 = 64 := Decidable.byContradiction (fun h__ => c_104 (pI_eq0.mpr h__))
              rw [if_pos c_104] at hm0
              replace hI := pIn_sgn hI (by decide) c_104.1 c_104.2
              refine lv_aload_n hx hb dX7_readCue_107 rfl (lv_at hl 0 rfl) ?_
              refine lv_iconst (v := nI 2) hx hb dX7_readCue_108 (by decide) ?_
              refine lv_iconst (v := nI 1) hx hb dX7_readCue_109 (by decide) ?_
              refine lv_bipush (v := nI 30) hx hb dX7_readCue_110 (by decide) ?_
              refine q_E1 (va_runV (As := [.int (nI 2), .int (nI 1), .int (nI 30)]) (rest := []) ⟨hx, hb, hml, hown, hts⟩ (c_X7_readNumber l hm0 hm41 hbu hm44 (p9 := 2) (by decide) hI) (cwV 3 hts gX7_readCue_X7_readNumber rfl rfl rfl (by decide +kernel) ⟨Nat.le_of_ble_eq_true rfl, Nat.le_of_ble_eq_true rfl⟩) (q_preV hG hW hS hm0 rfl) rfl rfl hl.1 rfl (lv_room (Nat.le_of_ble_eq_true rfl)) dX7_readCue_112 ⟨Nat.le_of_ble_eq_true rfl, Nat.le_of_ble_eq_true rfl⟩) hS (fun r112 w_112 H locs hp112 hW hS => ?_)
              obtain ⟨hr112, u112, v112, hm0, hul112, hor112, fr112⟩ := hp112
              replace hm41 : w_112 41 = some (eN dA 80 C) := (fr112 _ (by omega)).trans hm41
              refine lv_if_eq (tgt := 122) hx hb dX7_readCue_115 (by decide) (fun c_115 => ?_) (fun c_115 => ?_)
              · skip
                have c_115 : r112 = 0 := (nI_eq0 (i := r112) (by omega)).mp c_115
                obtain ⟨-, hm44, hno⟩ := hor112.resolve_left (fun q9 => absurd q9.1 (by omega))
                refine lv_iconst (v := nI 0) hx hb dX7_readCue_122 (by decide) ?_
                exact q_ez hx hb hr hlocks hW hS dX7_readCue_123 (by omega) (by exact ⟨by omega, u112, _, _, hm0, by omega, hm44, Or.inr ⟨rfl, hno⟩, by intro id h9; rw [fr112 id (by omega)]; rw [fr101 id (by omega)]; rw [fr92 id (by omega)]; rw [fr81 id (by omega)]; rw [fr72 id (by omega)]; rw [frw3 id (by omega)]; rw [frw2 id (by omega)]; try rfl⟩) (by decide) (by decide)
              · skip
                have c_115 : ¬ (r112 = 0) := fun h__ => c_115 ((nI_eq0 (i := r112) (by omega)).mpr h__)
                obtain ⟨-, hm44, hI, hE⟩ := hor112.resolve_right (fun q9 => c_115 q9.1)
                refine lv_iconst (v := nI 1) hx hb dX7_readCue_118 (by decide) ?_
                refine lv_goto (tgt := 123) hx hb dX7_readCue_119 (by decide) ?_
                exact q_ez hx hb hr hlocks hW hS dX7_readCue_123 (by omega) (by exact ⟨by omega, u112, _, _, hm0, by omega, hm44, Or.inl ⟨rfl, by rw [va_up_self]; exact pIn_td hI, hE⟩, by intro id h9; rw [fr112 id (by omega)]; rw [fr101 id (by omega)]; rw [fr92 id (by omega)]; rw [fr81 id (by omega)]; rw [fr72 id (by omega)]; rw [frw3 id (by omega)]; rw [frw2 id (by omega)]; try rfl⟩) (by decide) (by decide)
    · skip
      have c_34 : ¬ (C q = 119) := fun h__ => c_34 ((nI_eq (a := C q) (b := 119) (by omega) (by omega)).mpr h__)
      refine lv_aload_n hx hb dX7_readCue_37 rfl (lv_at hl 0 rfl) ?_
      refine q_get hx hb hts hinX7 hown hG hW hm0 rfl 11 (by decide) (hts (.fieldLink RX7 126 "FoleyMixerModel" "letter" "I") (List.mem_of_getElem? (i := 4) rfl)) rfl rfl dX7_readCue_38 ?_
      refine lv_bipush (v := nI 110) hx hb dX7_readCue_41 (by decide) ?_
      refine lv_icmp_eq (tgt := 57) hx hb dX7_readCue_43 (by decide) (fun c_43 => ?_) (fun c_43 => ?_)
      · skip
        have c_43 : C q = 110 := (nI_eq (a := C q) (b := 110) (by omega) (by omega)).mp c_43
        have hkd : C q = 119 ∨ C q = 110 ∨ C q = 78 := by omega
        have hI := pIn_kind (TD := TD) hK (by omega) hkd
        refine lv_aload_n hx hb dX7_readCue_57 rfl (lv_at hl 0 rfl) ?_
        refine lv_dup hx hb dX7_readCue_58 rfl ?_
        refine q_get hx hb hts hinX7 hown hG hW hm0 rfl 10 (by decide) (hts (.fieldLink RX7 120 "FoleyMixerModel" "place" "I") (List.mem_of_getElem? (i := 1) rfl)) rfl rfl dX7_readCue_59 ?_
        refine lv_iconst (v := nI 1) hx hb dX7_readCue_62 (by decide) ?_
        refine lv_iadd hx hb dX7_readCue_63 ?_
        refine q_top (y := nI (q + 1)) (nI_add _ _) ?_
        refine q_put hx hb hts hinX7 tyX7_ok nmX7 hown hG hW hS hm0 rfl 10 (by decide) (hts (.fieldLink RX7 120 "FoleyMixerModel" "place" "I") (List.mem_of_getElem? (i := 1) rfl)) rfl rfl rfl rfl (Nat.le_of_ble_eq_true rfl) dX7_readCue_64 (fun H locs hW hS hz64 => ?_)
        obtain ⟨w4, ew4⟩ : ∃ wq__ : Wd, wq__ = va_up w2 36 (some (modO b (sv) (nI (nc)) (th) (nI (q + 1)) (nI (C q)) (dn))) := ⟨_, rfl⟩
        replace hW : WP D b w4 H := by rw [ew4]; exact hW
        have frw4 : ∀ id : Nat, id ≠ 36 → w4 id = w2 id := fun id h9 => by rw [ew4, up_ne h9]
        replace hm41 : w4 41 = some (eN dA 80 C) := (frw4 _ (by omega)).trans hm41
        replace hm44 : w4 44 = some (eN dA 3 TD) := (frw4 _ (by omega)).trans hm44
        replace hm0 : w4 36 = some (modO b (sv) (nI (nc)) (th) (nI (q + 1)) (nI (C q)) (dn)) := by rw [ew4]; exact up_eq
        refine lv_aload_n hx hb dX7_readCue_67 rfl (lv_at hl 0 rfl) ?_
        refine lv_iconst (v := nI 0) hx hb dX7_readCue_68 (by decide) ?_
        refine lv_iconst (v := nI 0) hx hb dX7_readCue_69 (by decide) ?_
        refine lv_bipush (v := nI 99) hx hb dX7_readCue_70 (by decide) ?_
        refine q_E1 (va_runV (As := [.int (nI 0), .int (nI 0), .int (nI 99)]) (rest := []) ⟨hx, hb, hml, hown, hts⟩ (c_X7_readNumber l hm0 hm41 hbu hm44 (p9 := 0) (by decide) hI) (cwV 3 hts gX7_readCue_X7_readNumber rfl rfl rfl (by decide +kernel) ⟨Nat.le_of_ble_eq_true rfl, Nat.le_of_ble_eq_true rfl⟩) (q_preV hG hW hS hm0 rfl) rfl rfl hl.1 rfl (lv_room (Nat.le_of_ble_eq_true rfl)) dX7_readCue_72 ⟨Nat.le_of_ble_eq_true rfl, Nat.le_of_ble_eq_true rfl⟩) hS (fun r72 w_72 H locs hp72 hW hS => ?_)
        obtain ⟨hr72, u72, v72, hm0, hul72, hor72, fr72⟩ := hp72
        replace hm41 : w_72 41 = some (eN dA 80 C) := (fr72 _ (by omega)).trans hm41
        refine lv_if_eq (tgt := 122) hx hb dX7_readCue_75 (by decide) (fun c_75 => ?_) (fun c_75 => ?_)
        · skip
          have c_75 : r72 = 0 := (nI_eq0 (i := r72) (by omega)).mp c_75
          obtain ⟨-, hm44, hno⟩ := hor72.resolve_left (fun q9 => absurd q9.1 (by omega))
          refine lv_iconst (v := nI 0) hx hb dX7_readCue_122 (by decide) ?_
          exact q_ez hx hb hr hlocks hW hS dX7_readCue_123 (by omega) (by exact ⟨by omega, u72, _, _, hm0, by omega, hm44, Or.inr ⟨rfl, hno⟩, by intro id h9; rw [fr72 id (by omega)]; rw [frw4 id (by omega)]; rw [frw2 id (by omega)]; try rfl⟩) (by decide) (by decide)
        · skip
          have c_75 : ¬ (r72 = 0) := fun h__ => c_75 ((nI_eq0 (i := r72) (by omega)).mpr h__)
          obtain ⟨-, hm44, hI, hE⟩ := hor72.resolve_right (fun q9 => c_75 q9.1)
          refine lv_aload_n hx hb dX7_readCue_78 rfl (lv_at hl 0 rfl) ?_
          refine lv_bipush (v := nI 43) hx hb dX7_readCue_79 (by decide) ?_
          refine q_W1 (va_runV (As := [.int (nI 43)]) (rest := []) ⟨hx, hb, hml, hown, hts⟩ (c_X7_takes l hm0 hm41 hbu 43 (by omega) (by omega)) (cwV 1 hts gX7_readCue_X7_takes rfl rfl rfl (by decide +kernel) ⟨Nat.le_of_ble_eq_true rfl, Nat.le_of_ble_eq_true rfl⟩) (q_preV hG hW hS hm0 rfl) rfl rfl hl.1 rfl (lv_room (Nat.le_of_ble_eq_true rfl)) dX7_readCue_81 ⟨Nat.le_of_ble_eq_true rfl, Nat.le_of_ble_eq_true rfl⟩) hS (fun w_81 H locs hp81 hW hS => ?_)
          obtain ⟨hm0, fr81⟩ := hp81
          replace hm41 : w_81 41 = some (eN dA 80 C) := (fr81 _ (by omega)).trans hm41
          replace hm44 : w_81 44 = some (eN dA 3 (va_up TD 0 v72)) := (fr81 _ (by omega)).trans hm44
          refine lv_if_eq (tgt := 122) hx hb dX7_readCue_84 (by decide) (fun c_84 => ?_) (fun c_84 => ?_)
          · skip
            have c_84 : ¬ (u72 < nc ∧ C u72 = 43) := pI_eq0.mp c_84
            rw [if_neg c_84] at hm0
            have hno := pNo_sgn hI hE (by decide) (fun h => absurd h (by decide)) c_84
            refine lv_iconst (v := nI 0) hx hb dX7_readCue_122 (by decide) ?_
            exact q_ez hx hb hr hlocks hW hS dX7_readCue_123 (by omega) (by exact ⟨by omega, u72, _, _, hm0, by omega, hm44, Or.inr ⟨rfl, hno⟩, by intro id h9; rw [fr81 id (by omega)]; rw [fr72 id (by omega)]; rw [frw4 id (by omega)]; rw [frw2 id (by omega)]; try rfl⟩) (by decide) (by decide)
          · skip
            have c_84 : u72 < nc ∧ C u72 = 43 := Decidable.byContradiction (fun h__ => c_84 (pI_eq0.mpr h__))
            rw [if_pos c_84] at hm0
            replace hI := pIn_sgn hI (by decide) c_84.1 c_84.2
            refine lv_aload_n hx hb dX7_readCue_87 rfl (lv_at hl 0 rfl) ?_
            refine lv_iconst (v := nI 1) hx hb dX7_readCue_88 (by decide) ?_
            refine lv_iconst (v := nI 1) hx hb dX7_readCue_89 (by decide) ?_
            refine lv_bipush (v := nI 20) hx hb dX7_readCue_90 (by decide) ?_
            refine q_E1 (va_runV (As := [.int (nI 1), .int (nI 1), .int (nI 20)]) (rest := []) ⟨hx, hb, hml, hown, hts⟩ (c_X7_readNumber l hm0 hm41 hbu hm44 (p9 := 1) (by decide) hI) (cwV 3 hts gX7_readCue_X7_readNumber rfl rfl rfl (by decide +kernel) ⟨Nat.le_of_ble_eq_true rfl, Nat.le_of_ble_eq_true rfl⟩) (q_preV hG hW hS hm0 rfl) rfl rfl hl.1 rfl (lv_room (Nat.le_of_ble_eq_true rfl)) dX7_readCue_92 ⟨Nat.le_of_ble_eq_true rfl, Nat.le_of_ble_eq_true rfl⟩) hS (fun r92 w_92 H locs hp92 hW hS => ?_)
            obtain ⟨hr92, u92, v92, hm0, hul92, hor92, fr92⟩ := hp92
            replace hm41 : w_92 41 = some (eN dA 80 C) := (fr92 _ (by omega)).trans hm41
            refine lv_if_eq (tgt := 122) hx hb dX7_readCue_95 (by decide) (fun c_95 => ?_) (fun c_95 => ?_)
            · skip
              have c_95 : r92 = 0 := (nI_eq0 (i := r92) (by omega)).mp c_95
              obtain ⟨-, hm44, hno⟩ := hor92.resolve_left (fun q9 => absurd q9.1 (by omega))
              refine lv_iconst (v := nI 0) hx hb dX7_readCue_122 (by decide) ?_
              exact q_ez hx hb hr hlocks hW hS dX7_readCue_123 (by omega) (by exact ⟨by omega, u92, _, _, hm0, by omega, hm44, Or.inr ⟨rfl, hno⟩, by intro id h9; rw [fr92 id (by omega)]; rw [fr81 id (by omega)]; rw [fr72 id (by omega)]; rw [frw4 id (by omega)]; rw [frw2 id (by omega)]; try rfl⟩) (by decide) (by decide)
            · skip
              have c_95 : ¬ (r92 = 0) := fun h__ => c_95 ((nI_eq0 (i := r92) (by omega)).mpr h__)
              obtain ⟨-, hm44, hI, hE⟩ := hor92.resolve_right (fun q9 => c_95 q9.1)
              refine lv_aload_n hx hb dX7_readCue_98 rfl (lv_at hl 0 rfl) ?_
              refine lv_bipush (v := nI 64) hx hb dX7_readCue_99 (by decide) ?_
              refine q_W1 (va_runV (As := [.int (nI 64)]) (rest := []) ⟨hx, hb, hml, hown, hts⟩ (c_X7_takes l hm0 hm41 hbu 64 (by omega) (by omega)) (cwV 1 hts gX7_readCue_X7_takes rfl rfl rfl (by decide +kernel) ⟨Nat.le_of_ble_eq_true rfl, Nat.le_of_ble_eq_true rfl⟩) (q_preV hG hW hS hm0 rfl) rfl rfl hl.1 rfl (lv_room (Nat.le_of_ble_eq_true rfl)) dX7_readCue_101 ⟨Nat.le_of_ble_eq_true rfl, Nat.le_of_ble_eq_true rfl⟩) hS (fun w_101 H locs hp101 hW hS => ?_)
              obtain ⟨hm0, fr101⟩ := hp101
              replace hm41 : w_101 41 = some (eN dA 80 C) := (fr101 _ (by omega)).trans hm41
              replace hm44 : w_101 44 = some (eN dA 3 (va_up (va_up TD 0 v72) 1 v92)) := (fr101 _ (by omega)).trans hm44
              refine lv_if_eq (tgt := 122) hx hb dX7_readCue_104 (by decide) (fun c_104 => ?_) (fun c_104 => ?_)
              · skip
                have c_104 : ¬ (u92 < nc ∧ C u92 = 64) := pI_eq0.mp c_104
                rw [if_neg c_104] at hm0
                have hno := pNo_sgn hI hE (by decide) (fun h => absurd h (by decide)) c_104
                refine lv_iconst (v := nI 0) hx hb dX7_readCue_122 (by decide) ?_
                exact q_ez hx hb hr hlocks hW hS dX7_readCue_123 (by omega) (by exact ⟨by omega, u92, _, _, hm0, by omega, hm44, Or.inr ⟨rfl, hno⟩, by intro id h9; rw [fr101 id (by omega)]; rw [fr92 id (by omega)]; rw [fr81 id (by omega)]; rw [fr72 id (by omega)]; rw [frw4 id (by omega)]; rw [frw2 id (by omega)]; try rfl⟩) (by decide) (by decide)
              · skip
                have c_104 : u92 < nc ∧ C u92 = 64 := Decidable.byContradiction (fun h__ => c_104 (pI_eq0.mpr h__))
                rw [if_pos c_104] at hm0
                replace hI := pIn_sgn hI (by decide) c_104.1 c_104.2
                refine lv_aload_n hx hb dX7_readCue_107 rfl (lv_at hl 0 rfl) ?_
                refine lv_iconst (v := nI 2) hx hb dX7_readCue_108 (by decide) ?_
                refine lv_iconst (v := nI 1) hx hb dX7_readCue_109 (by decide) ?_
                refine lv_bipush (v := nI 30) hx hb dX7_readCue_110 (by decide) ?_
                refine q_E1 (va_runV (As := [.int (nI 2), .int (nI 1), .int (nI 30)]) (rest := []) ⟨hx, hb, hml, hown, hts⟩ (c_X7_readNumber l hm0 hm41 hbu hm44 (p9 := 2) (by decide) hI) (cwV 3 hts gX7_readCue_X7_readNumber rfl rfl rfl (by decide +kernel) ⟨Nat.le_of_ble_eq_true rfl, Nat.le_of_ble_eq_true rfl⟩) (q_preV hG hW hS hm0 rfl) rfl rfl hl.1 rfl (lv_room (Nat.le_of_ble_eq_true rfl)) dX7_readCue_112 ⟨Nat.le_of_ble_eq_true rfl, Nat.le_of_ble_eq_true rfl⟩) hS (fun r112 w_112 H locs hp112 hW hS => ?_)
                obtain ⟨hr112, u112, v112, hm0, hul112, hor112, fr112⟩ := hp112
                replace hm41 : w_112 41 = some (eN dA 80 C) := (fr112 _ (by omega)).trans hm41
                refine lv_if_eq (tgt := 122) hx hb dX7_readCue_115 (by decide) (fun c_115 => ?_) (fun c_115 => ?_)
                · skip
                  have c_115 : r112 = 0 := (nI_eq0 (i := r112) (by omega)).mp c_115
                  obtain ⟨-, hm44, hno⟩ := hor112.resolve_left (fun q9 => absurd q9.1 (by omega))
                  refine lv_iconst (v := nI 0) hx hb dX7_readCue_122 (by decide) ?_
                  exact q_ez hx hb hr hlocks hW hS dX7_readCue_123 (by omega) (by exact ⟨by omega, u112, _, _, hm0, by omega, hm44, Or.inr ⟨rfl, hno⟩, by intro id h9; rw [fr112 id (by omega)]; rw [fr101 id (by omega)]; rw [fr92 id (by omega)]; rw [fr81 id (by omega)]; rw [fr72 id (by omega)]; rw [frw4 id (by omega)]; rw [frw2 id (by omega)]; try rfl⟩) (by decide) (by decide)
                · skip
                  have c_115 : ¬ (r112 = 0) := fun h__ => c_115 ((nI_eq0 (i := r112) (by omega)).mpr h__)
                  obtain ⟨-, hm44, hI, hE⟩ := hor112.resolve_right (fun q9 => c_115 q9.1)
                  refine lv_iconst (v := nI 1) hx hb dX7_readCue_118 (by decide) ?_
                  refine lv_goto (tgt := 123) hx hb dX7_readCue_119 (by decide) ?_
                  exact q_ez hx hb hr hlocks hW hS dX7_readCue_123 (by omega) (by exact ⟨by omega, u112, _, _, hm0, by omega, hm44, Or.inl ⟨rfl, by rw [va_up_self]; exact pIn_td hI, hE⟩, by intro id h9; rw [fr112 id (by omega)]; rw [fr101 id (by omega)]; rw [fr92 id (by omega)]; rw [fr81 id (by omega)]; rw [fr72 id (by omega)]; rw [frw4 id (by omega)]; rw [frw2 id (by omega)]; try rfl⟩) (by decide) (by decide)
      · skip
        have c_43 : ¬ (C q = 110) := fun h__ => c_43 ((nI_eq (a := C q) (b := 110) (by omega) (by omega)).mpr h__)
        refine lv_aload_n hx hb dX7_readCue_46 rfl (lv_at hl 0 rfl) ?_
        refine q_get hx hb hts hinX7 hown hG hW hm0 rfl 11 (by decide) (hts (.fieldLink RX7 126 "FoleyMixerModel" "letter" "I") (List.mem_of_getElem? (i := 4) rfl)) rfl rfl dX7_readCue_47 ?_
        refine lv_bipush (v := nI 78) hx hb dX7_readCue_50 (by decide) ?_
        refine lv_icmp_eq (tgt := 57) hx hb dX7_readCue_52 (by decide) (fun c_52 => ?_) (fun c_52 => ?_)
        · skip
          have c_52 : C q = 78 := (nI_eq (a := C q) (b := 78) (by omega) (by omega)).mp c_52
          have hkd : C q = 119 ∨ C q = 110 ∨ C q = 78 := by omega
          have hI := pIn_kind (TD := TD) hK (by omega) hkd
          refine lv_aload_n hx hb dX7_readCue_57 rfl (lv_at hl 0 rfl) ?_
          refine lv_dup hx hb dX7_readCue_58 rfl ?_
          refine q_get hx hb hts hinX7 hown hG hW hm0 rfl 10 (by decide) (hts (.fieldLink RX7 120 "FoleyMixerModel" "place" "I") (List.mem_of_getElem? (i := 1) rfl)) rfl rfl dX7_readCue_59 ?_
          refine lv_iconst (v := nI 1) hx hb dX7_readCue_62 (by decide) ?_
          refine lv_iadd hx hb dX7_readCue_63 ?_
          refine q_top (y := nI (q + 1)) (nI_add _ _) ?_
          refine q_put hx hb hts hinX7 tyX7_ok nmX7 hown hG hW hS hm0 rfl 10 (by decide) (hts (.fieldLink RX7 120 "FoleyMixerModel" "place" "I") (List.mem_of_getElem? (i := 1) rfl)) rfl rfl rfl rfl (Nat.le_of_ble_eq_true rfl) dX7_readCue_64 (fun H locs hW hS hz64 => ?_)
          obtain ⟨w5, ew5⟩ : ∃ wq__ : Wd, wq__ = va_up w2 36 (some (modO b (sv) (nI (nc)) (th) (nI (q + 1)) (nI (C q)) (dn))) := ⟨_, rfl⟩
          replace hW : WP D b w5 H := by rw [ew5]; exact hW
          have frw5 : ∀ id : Nat, id ≠ 36 → w5 id = w2 id := fun id h9 => by rw [ew5, up_ne h9]
          replace hm41 : w5 41 = some (eN dA 80 C) := (frw5 _ (by omega)).trans hm41
          replace hm44 : w5 44 = some (eN dA 3 TD) := (frw5 _ (by omega)).trans hm44
          replace hm0 : w5 36 = some (modO b (sv) (nI (nc)) (th) (nI (q + 1)) (nI (C q)) (dn)) := by rw [ew5]; exact up_eq
          refine lv_aload_n hx hb dX7_readCue_67 rfl (lv_at hl 0 rfl) ?_
          refine lv_iconst (v := nI 0) hx hb dX7_readCue_68 (by decide) ?_
          refine lv_iconst (v := nI 0) hx hb dX7_readCue_69 (by decide) ?_
          refine lv_bipush (v := nI 99) hx hb dX7_readCue_70 (by decide) ?_
          refine q_E1 (va_runV (As := [.int (nI 0), .int (nI 0), .int (nI 99)]) (rest := []) ⟨hx, hb, hml, hown, hts⟩ (c_X7_readNumber l hm0 hm41 hbu hm44 (p9 := 0) (by decide) hI) (cwV 3 hts gX7_readCue_X7_readNumber rfl rfl rfl (by decide +kernel) ⟨Nat.le_of_ble_eq_true rfl, Nat.le_of_ble_eq_true rfl⟩) (q_preV hG hW hS hm0 rfl) rfl rfl hl.1 rfl (lv_room (Nat.le_of_ble_eq_true rfl)) dX7_readCue_72 ⟨Nat.le_of_ble_eq_true rfl, Nat.le_of_ble_eq_true rfl⟩) hS (fun r72 w_72 H locs hp72 hW hS => ?_)
          obtain ⟨hr72, u72, v72, hm0, hul72, hor72, fr72⟩ := hp72
          replace hm41 : w_72 41 = some (eN dA 80 C) := (fr72 _ (by omega)).trans hm41
          refine lv_if_eq (tgt := 122) hx hb dX7_readCue_75 (by decide) (fun c_75 => ?_) (fun c_75 => ?_)
          · skip
            have c_75 : r72 = 0 := (nI_eq0 (i := r72) (by omega)).mp c_75
            obtain ⟨-, hm44, hno⟩ := hor72.resolve_left (fun q9 => absurd q9.1 (by omega))
            refine lv_iconst (v := nI 0) hx hb dX7_readCue_122 (by decide) ?_
            exact q_ez hx hb hr hlocks hW hS dX7_readCue_123 (by omega) (by exact ⟨by omega, u72, _, _, hm0, by omega, hm44, Or.inr ⟨rfl, hno⟩, by intro id h9; rw [fr72 id (by omega)]; rw [frw5 id (by omega)]; rw [frw2 id (by omega)]; try rfl⟩) (by decide) (by decide)
          · skip
            have c_75 : ¬ (r72 = 0) := fun h__ => c_75 ((nI_eq0 (i := r72) (by omega)).mpr h__)
            obtain ⟨-, hm44, hI, hE⟩ := hor72.resolve_right (fun q9 => c_75 q9.1)
            refine lv_aload_n hx hb dX7_readCue_78 rfl (lv_at hl 0 rfl) ?_
            refine lv_bipush (v := nI 43) hx hb dX7_readCue_79 (by decide) ?_
            refine q_W1 (va_runV (As := [.int (nI 43)]) (rest := []) ⟨hx, hb, hml, hown, hts⟩ (c_X7_takes l hm0 hm41 hbu 43 (by omega) (by omega)) (cwV 1 hts gX7_readCue_X7_takes rfl rfl rfl (by decide +kernel) ⟨Nat.le_of_ble_eq_true rfl, Nat.le_of_ble_eq_true rfl⟩) (q_preV hG hW hS hm0 rfl) rfl rfl hl.1 rfl (lv_room (Nat.le_of_ble_eq_true rfl)) dX7_readCue_81 ⟨Nat.le_of_ble_eq_true rfl, Nat.le_of_ble_eq_true rfl⟩) hS (fun w_81 H locs hp81 hW hS => ?_)
            obtain ⟨hm0, fr81⟩ := hp81
            replace hm41 : w_81 41 = some (eN dA 80 C) := (fr81 _ (by omega)).trans hm41
            replace hm44 : w_81 44 = some (eN dA 3 (va_up TD 0 v72)) := (fr81 _ (by omega)).trans hm44
            refine lv_if_eq (tgt := 122) hx hb dX7_readCue_84 (by decide) (fun c_84 => ?_) (fun c_84 => ?_)
            · skip
              have c_84 : ¬ (u72 < nc ∧ C u72 = 43) := pI_eq0.mp c_84
              rw [if_neg c_84] at hm0
              have hno := pNo_sgn hI hE (by decide) (fun h => absurd h (by decide)) c_84
              refine lv_iconst (v := nI 0) hx hb dX7_readCue_122 (by decide) ?_
              exact q_ez hx hb hr hlocks hW hS dX7_readCue_123 (by omega) (by exact ⟨by omega, u72, _, _, hm0, by omega, hm44, Or.inr ⟨rfl, hno⟩, by intro id h9; rw [fr81 id (by omega)]; rw [fr72 id (by omega)]; rw [frw5 id (by omega)]; rw [frw2 id (by omega)]; try rfl⟩) (by decide) (by decide)
            · skip
              have c_84 : u72 < nc ∧ C u72 = 43 := Decidable.byContradiction (fun h__ => c_84 (pI_eq0.mpr h__))
              rw [if_pos c_84] at hm0
              replace hI := pIn_sgn hI (by decide) c_84.1 c_84.2
              refine lv_aload_n hx hb dX7_readCue_87 rfl (lv_at hl 0 rfl) ?_
              refine lv_iconst (v := nI 1) hx hb dX7_readCue_88 (by decide) ?_
              refine lv_iconst (v := nI 1) hx hb dX7_readCue_89 (by decide) ?_
              refine lv_bipush (v := nI 20) hx hb dX7_readCue_90 (by decide) ?_
              refine q_E1 (va_runV (As := [.int (nI 1), .int (nI 1), .int (nI 20)]) (rest := []) ⟨hx, hb, hml, hown, hts⟩ (c_X7_readNumber l hm0 hm41 hbu hm44 (p9 := 1) (by decide) hI) (cwV 3 hts gX7_readCue_X7_readNumber rfl rfl rfl (by decide +kernel) ⟨Nat.le_of_ble_eq_true rfl, Nat.le_of_ble_eq_true rfl⟩) (q_preV hG hW hS hm0 rfl) rfl rfl hl.1 rfl (lv_room (Nat.le_of_ble_eq_true rfl)) dX7_readCue_92 ⟨Nat.le_of_ble_eq_true rfl, Nat.le_of_ble_eq_true rfl⟩) hS (fun r92 w_92 H locs hp92 hW hS => ?_)
              obtain ⟨hr92, u92, v92, hm0, hul92, hor92, fr92⟩ := hp92
              replace hm41 : w_92 41 = some (eN dA 80 C) := (fr92 _ (by omega)).trans hm41
              refine lv_if_eq (tgt := 122) hx hb dX7_readCue_95 (by decide) (fun c_95 => ?_) (fun c_95 => ?_)
              · skip
                have c_95 : r92 = 0 := (nI_eq0 (i := r92) (by omega)).mp c_95
                obtain ⟨-, hm44, hno⟩ := hor92.resolve_left (fun q9 => absurd q9.1 (by omega))
                refine lv_iconst (v := nI 0) hx hb dX7_readCue_122 (by decide) ?_
                exact q_ez hx hb hr hlocks hW hS dX7_readCue_123 (by omega) (by exact ⟨by omega, u92, _, _, hm0, by omega, hm44, Or.inr ⟨rfl, hno⟩, by intro id h9; rw [fr92 id (by omega)]; rw [fr81 id (by omega)]; rw [fr72 id (by omega)]; rw [frw5 id (by omega)]; rw [frw2 id (by omega)]; try rfl⟩) (by decide) (by decide)
              · skip
                have c_95 : ¬ (r92 = 0) := fun h__ => c_95 ((nI_eq0 (i := r92) (by omega)).mpr h__)
                obtain ⟨-, hm44, hI, hE⟩ := hor92.resolve_right (fun q9 => c_95 q9.1)
                refine lv_aload_n hx hb dX7_readCue_98 rfl (lv_at hl 0 rfl) ?_
                refine lv_bipush (v := nI 64) hx hb dX7_readCue_99 (by decide) ?_
                refine q_W1 (va_runV (As := [.int (nI 64)]) (rest := []) ⟨hx, hb, hml, hown, hts⟩ (c_X7_takes l hm0 hm41 hbu 64 (by omega) (by omega)) (cwV 1 hts gX7_readCue_X7_takes rfl rfl rfl (by decide +kernel) ⟨Nat.le_of_ble_eq_true rfl, Nat.le_of_ble_eq_true rfl⟩) (q_preV hG hW hS hm0 rfl) rfl rfl hl.1 rfl (lv_room (Nat.le_of_ble_eq_true rfl)) dX7_readCue_101 ⟨Nat.le_of_ble_eq_true rfl, Nat.le_of_ble_eq_true rfl⟩) hS (fun w_101 H locs hp101 hW hS => ?_)
                obtain ⟨hm0, fr101⟩ := hp101
                replace hm41 : w_101 41 = some (eN dA 80 C) := (fr101 _ (by omega)).trans hm41
                replace hm44 : w_101 44 = some (eN dA 3 (va_up (va_up TD 0 v72) 1 v92)) := (fr101 _ (by omega)).trans hm44
                refine lv_if_eq (tgt := 122) hx hb dX7_readCue_104 (by decide) (fun c_104 => ?_) (fun c_104 => ?_)
                · skip
                  have c_104 : ¬ (u92 < nc ∧ C u92 = 64) := pI_eq0.mp c_104
                  rw [if_neg c_104] at hm0
                  have hno := pNo_sgn hI hE (by decide) (fun h => absurd h (by decide)) c_104
                  refine lv_iconst (v := nI 0) hx hb dX7_readCue_122 (by decide) ?_
                  exact q_ez hx hb hr hlocks hW hS dX7_readCue_123 (by omega) (by exact ⟨by omega, u92, _, _, hm0, by omega, hm44, Or.inr ⟨rfl, hno⟩, by intro id h9; rw [fr101 id (by omega)]; rw [fr92 id (by omega)]; rw [fr81 id (by omega)]; rw [fr72 id (by omega)]; rw [frw5 id (by omega)]; rw [frw2 id (by omega)]; try rfl⟩) (by decide) (by decide)
                · skip
                  have c_104 : u92 < nc ∧ C u92 = 64 := Decidable.byContradiction (fun h__ => c_104 (pI_eq0.mpr h__))
                  rw [if_pos c_104] at hm0
                  replace hI := pIn_sgn hI (by decide) c_104.1 c_104.2
                  refine lv_aload_n hx hb dX7_readCue_107 rfl (lv_at hl 0 rfl) ?_
                  refine lv_iconst (v := nI 2) hx hb dX7_readCue_108 (by decide) ?_
                  refine lv_iconst (v := nI 1) hx hb dX7_readCue_109 (by decide) ?_
                  refine lv_bipush (v := nI 30) hx hb dX7_readCue_110 (by decide) ?_
                  refine q_E1 (va_runV (As := [.int (nI 2), .int (nI 1), .int (nI 30)]) (rest := []) ⟨hx, hb, hml, hown, hts⟩ (c_X7_readNumber l hm0 hm41 hbu hm44 (p9 := 2) (by decide) hI) (cwV 3 hts gX7_readCue_X7_readNumber rfl rfl rfl (by decide +kernel) ⟨Nat.le_of_ble_eq_true rfl, Nat.le_of_ble_eq_true rfl⟩) (q_preV hG hW hS hm0 rfl) rfl rfl hl.1 rfl (lv_room (Nat.le_of_ble_eq_true rfl)) dX7_readCue_112 ⟨Nat.le_of_ble_eq_true rfl, Nat.le_of_ble_eq_true rfl⟩) hS (fun r112 w_112 H locs hp112 hW hS => ?_)
                  obtain ⟨hr112, u112, v112, hm0, hul112, hor112, fr112⟩ := hp112
                  replace hm41 : w_112 41 = some (eN dA 80 C) := (fr112 _ (by omega)).trans hm41
                  refine lv_if_eq (tgt := 122) hx hb dX7_readCue_115 (by decide) (fun c_115 => ?_) (fun c_115 => ?_)
                  · skip
                    have c_115 : r112 = 0 := (nI_eq0 (i := r112) (by omega)).mp c_115
                    obtain ⟨-, hm44, hno⟩ := hor112.resolve_left (fun q9 => absurd q9.1 (by omega))
                    refine lv_iconst (v := nI 0) hx hb dX7_readCue_122 (by decide) ?_
                    exact q_ez hx hb hr hlocks hW hS dX7_readCue_123 (by omega) (by exact ⟨by omega, u112, _, _, hm0, by omega, hm44, Or.inr ⟨rfl, hno⟩, by intro id h9; rw [fr112 id (by omega)]; rw [fr101 id (by omega)]; rw [fr92 id (by omega)]; rw [fr81 id (by omega)]; rw [fr72 id (by omega)]; rw [frw5 id (by omega)]; rw [frw2 id (by omega)]; try rfl⟩) (by decide) (by decide)
                  · skip
                    have c_115 : ¬ (r112 = 0) := fun h__ => c_115 ((nI_eq0 (i := r112) (by omega)).mpr h__)
                    obtain ⟨-, hm44, hI, hE⟩ := hor112.resolve_right (fun q9 => c_115 q9.1)
                    refine lv_iconst (v := nI 1) hx hb dX7_readCue_118 (by decide) ?_
                    refine lv_goto (tgt := 123) hx hb dX7_readCue_119 (by decide) ?_
                    exact q_ez hx hb hr hlocks hW hS dX7_readCue_123 (by omega) (by exact ⟨by omega, u112, _, _, hm0, by omega, hm44, Or.inl ⟨rfl, by rw [va_up_self]; exact pIn_td hI, hE⟩, by intro id h9; rw [fr112 id (by omega)]; rw [fr101 id (by omega)]; rw [fr92 id (by omega)]; rw [fr81 id (by omega)]; rw [fr72 id (by omega)]; rw [frw5 id (by omega)]; rw [frw2 id (by omega)]; try rfl⟩) (by decide) (by decide)
        · skip
          have c_52 : ¬ (C q = 78) := fun h__ => c_52 ((nI_eq (a := C q) (b := 78) (by omega) (by omega)).mpr h__)
          refine lv_iconst (v := nI 0) hx hb dX7_readCue_55 (by decide) ?_
          exact q_ez hx hb hr hlocks hW hS dX7_readCue_56 (by omega) (by exact ⟨by omega, q, _, _, hm0, by omega, hm44, Or.inr ⟨rfl, pNo_kind hK (fun h => by omega)⟩, by intro id h9; rw [frw2 id (by omega)]; try rfl⟩) (by decide) (by decide)

