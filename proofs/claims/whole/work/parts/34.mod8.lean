theorem rep_congr {F F' : Nat → Nat} {P : Pl} (hP : okP P) (h : rep F P) (e : ∀ k, k < 85 → F' k = F k) : rep F' P := by
  have h1 := hP.1
  have h2 := hP.2.1
  refine ⟨fun j hj => (e j (by omega)).trans (h.1 j hj), (e 5 (by omega)).trans h.2.1, (e 6 (by omega)).trans h.2.2.1, fun i hi j hj => (e _ (by omega)).trans (h.2.2.2.1 i hi j hj), fun i hi j hj => (e _ (by omega)).trans (h.2.2.2.2 i hi j hj)⟩
/-- the saved rows with one more -/
def savG (n : Nat) (F G : Nat → Nat) (j : Nat) : Nat := if n < 6 then (if 85 * n ≤ j ∧ j < 85 * n + 85 then F (0 + (j - 85 * n)) else G j) else (if 425 ≤ j ∧ j < 425 + 85 then F (0 + (j - 425)) else if j < 425 then G (85 + j) else G j)
def mSv (n : Nat) (G : Nat → Nat) (Hs : Nat → Pl) : Prop := n ≤ 6 ∧ ∀ i, i < n → rep (fun k => G (85 * i + k)) (Hs i) ∧ okP (Hs i)
theorem sav_rep {n : Nat} {F G : Nat → Nat} {P : Pl} {Hs : Nat → Pl} (hG : mSv n G Hs) (hF : rep F P) (hP : okP P) : mSv (pshN n) (savG n F G) (psh n Hs P) := by
  obtain ⟨hn, hG⟩ := hG
  refine ⟨by unfold pshN; split <;> omega, fun i hi => ?_⟩
  unfold pshN at hi
  unfold psh
  by_cases e : n < 6
  · rw [if_pos e] at hi
    rw [if_pos e]
    by_cases e2 : i < n
    · rw [if_pos e2]
      refine ⟨rep_congr (hG i e2).2 (hG i e2).1 (fun k hk => ?_), (hG i e2).2⟩
      show savG n F G (85 * i + k) = G (85 * i + k)
      unfold savG; rw [if_pos e, if_neg (by omega)]
    · rw [if_neg e2]
      refine ⟨rep_congr hP hF (fun k hk => ?_), hP⟩
      show savG n F G (85 * i + k) = F k
      unfold savG; rw [if_pos e, if_pos (by omega)]; exact congrArg F (by omega)
  · rw [if_neg e] at hi
    rw [if_neg e]
    by_cases e2 : i < 5
    · rw [if_pos e2]
      refine ⟨rep_congr (hG (i + 1) (by omega)).2 (hG (i + 1) (by omega)).1 (fun k hk => ?_), (hG (i + 1) (by omega)).2⟩
      show savG n F G (85 * i + k) = G (85 * (i + 1) + k)
      unfold savG; rw [if_neg e, if_neg (by omega), if_pos (by omega)]; exact congrArg G (by omega)
    · rw [if_neg e2]
      refine ⟨rep_congr hP hF (fun k hk => ?_), hP⟩
      show savG n F G (85 * i + k) = F k
      unfold savG; rw [if_neg e, if_pos (by omega)]; exact congrArg F (by omega)
theorem sav_old {n : Nat} {F G : Nat → Nat} (h : n < 6) (j : Nat) : (if 85 * n ≤ j ∧ j < 85 * n + 85 then F (0 + (j - 85 * n)) else G j) = savG n F G j := by
  unfold savG; rw [if_pos h]
theorem sav_new {n : Nat} {F G : Nat → Nat} (h : n = 6) (j : Nat) : (if 85 * (n - 1) ≤ j ∧ j < 85 * (n - 1) + 85 then F (0 + (j - 85 * (n - 1))) else if j < 425 then G (85 + j) else G j) = savG n F G j := by
  subst h; unfold savG; rw [if_neg (show ¬ 6 < 6 by omega), show 85 * (6 - 1) = 425 from rfl]
theorem rep_addW {F : Nat → Nat} {P : Pl} (h : rep F P) (hw : P.w < 10) (hn : P.n ≤ 12) (s l d : Nat) : rep (va_up (va_up (va_up (va_up F (7 + 3 * P.w + 0) s) (7 + 3 * P.w + 1) l) (7 + 3 * P.w + 2) d) 5 (P.w + 1)) (P.w + 1, addV P.W P.w s l d 0, P.n, P.N, P.S) := by
  refine ⟨fun j hj => ?_, va_up_self _ _ _, ?_, fun i hi j hj => ?_, fun i hi j hj => ?_⟩
  · rw [va_up_ne _ _ (by omega), va_up_ne _ _ (by omega), va_up_ne _ _ (by omega), va_up_ne _ _ (by omega)]; exact h.1 j hj
  · rw [va_up_ne _ _ (by omega), va_up_ne _ _ (by omega), va_up_ne _ _ (by omega), va_up_ne _ _ (by omega)]; exact h.2.2.1
  · have hi : i < P.w + 1 := hi
    show _ = addV P.W P.w s l d 0 i j
    rw [va_up_ne _ _ (by omega)]
    unfold addV
    by_cases e : i = P.w
    · rw [if_pos e, e]
      rcases (show j = 0 ∨ j = 1 ∨ j = 2 by omega) with rfl | rfl | rfl
      · rw [va_up_ne _ _ (by omega), va_up_ne _ _ (by omega), va_up_self]; rfl
      · rw [va_up_ne _ _ (by omega), va_up_self]; rfl
      · rw [va_up_self]; rfl
    · rw [if_neg e, va_up_ne _ _ (by omega), va_up_ne _ _ (by omega), va_up_ne _ _ (by omega)]; exact h.2.2.2.1 i (by omega) j hj
  · rw [va_up_ne _ _ (by omega), va_up_ne _ _ (by omega), va_up_ne _ _ (by omega), va_up_ne _ _ (by omega)]; exact h.2.2.2.2 i hi j hj
theorem rep_addN {F : Nat → Nat} {P : Pl} (h : rep F P) (hw : P.w ≤ 10) (hn : P.n < 12) (s l d g : Nat) : rep (va_up (va_up (va_up (va_up (va_up F (37 + 4 * P.n + 0) s) (37 + 4 * P.n + 1) l) (37 + 4 * P.n + 2) d) (37 + 4 * P.n + 3) g) 6 (P.n + 1)) (P.w, P.W, P.n + 1, addV P.N P.n s l d g, P.S) := by
  refine ⟨fun j hj => ?_, ?_, va_up_self _ _ _, fun i hi j hj => ?_, fun i hi j hj => ?_⟩
  · rw [va_up_ne _ _ (by omega), va_up_ne _ _ (by omega), va_up_ne _ _ (by omega), va_up_ne _ _ (by omega), va_up_ne _ _ (by omega)]; exact h.1 j hj
  · rw [va_up_ne _ _ (by omega), va_up_ne _ _ (by omega), va_up_ne _ _ (by omega), va_up_ne _ _ (by omega), va_up_ne _ _ (by omega)]; exact h.2.1
  · have hi : i < P.w := hi
    rw [va_up_ne _ _ (by omega), va_up_ne _ _ (by omega), va_up_ne _ _ (by omega), va_up_ne _ _ (by omega), va_up_ne _ _ (by omega)]; exact h.2.2.2.1 i hi j hj
  · have hi : i < P.n + 1 := hi
    show _ = addV P.N P.n s l d g i j
    rw [va_up_ne _ _ (by omega)]
    unfold addV
    by_cases e : i = P.n
    · rw [if_pos e, e]
      rcases (show j = 0 ∨ j = 1 ∨ j = 2 ∨ j = 3 by omega) with rfl | rfl | rfl | rfl
      · rw [va_up_ne _ _ (by omega), va_up_ne _ _ (by omega), va_up_ne _ _ (by omega), va_up_self]; rfl
      · rw [va_up_ne _ _ (by omega), va_up_ne _ _ (by omega), va_up_self]; rfl
      · rw [va_up_ne _ _ (by omega), va_up_self]; rfl
      · rw [va_up_self]; rfl
    · rw [if_neg e, va_up_ne _ _ (by omega), va_up_ne _ _ (by omega), va_up_ne _ _ (by omega), va_up_ne _ _ (by omega)]; exact h.2.2.2.2 i (by omega) j hj
theorem ok_addW {P : Pl} (h : okP P) (hw : P.w < 10) {s l d : Nat} (h0 : s ≤ 99) (h1 : 1 ≤ l) (h2 : l ≤ 20) (h3 : d ≤ 30) : okP (P.w + 1, addV P.W P.w s l d 0, P.n, P.N, P.S) := ⟨hw, h.2.1, okW_add h.2.2.1 h0 h1 h2 h3 (by omega), h.2.2.2⟩
theorem ok_addN {P : Pl} (h : okP P) (hn : P.n < 12) {s l d g : Nat} (h0 : s ≤ 99) (h1 : 1 ≤ l) (h2 : l ≤ 20) (h3 : d ≤ 30) (h4 : g ≤ 1) : okP (P.w, P.W, P.n + 1, addV P.N P.n s l d g, P.S) := ⟨h.1, hn, h.2.2.1, okW_add h.2.2.2.1 h0 h1 h2 h3 h4, h.2.2.2.2⟩
theorem rep_delW {F : Nat → Nat} {P : Pl} (h : rep F P) (hw : P.w ≤ 10) (hn : P.n ≤ 12) {i u : Nat} (hi : i < P.w) (hu : u = 7 + 3 * (P.w - 1)) : rep (fun j => if 7 + 3 * i ≤ j ∧ j < u then va_up F 5 (P.w - 1) (j + 3) else va_up F 5 (P.w - 1) j) (P.w - 1, delV P.W i, P.n, P.N, P.S) := by
  refine ⟨fun j hj => ?_, ?_, ?_, fun a ha j hj => ?_, fun a ha j hj => ?_⟩
  · dsimp only; rw [if_neg (by omega), va_up_ne _ _ (by omega)]; exact h.1 j hj
  · dsimp only; rw [if_neg (by omega), va_up_self]
  · dsimp only; rw [if_neg (by omega), va_up_ne _ _ (by omega)]; exact h.2.2.1
  · have ha : a < P.w - 1 := ha
    show _ = delV P.W i a j
    unfold delV
    dsimp only
    by_cases e : a < i
    · rw [if_pos e, if_neg (by omega), va_up_ne _ _ (by omega)]; exact h.2.2.2.1 a (by omega) j hj
    · rw [if_neg e, if_pos (by omega), va_up_ne _ _ (by omega), show 7 + 3 * a + j + 3 = 7 + 3 * (a + 1) + j by omega]; exact h.2.2.2.1 (a + 1) (by omega) j hj
  · dsimp only; rw [if_neg (by omega), va_up_ne _ _ (by omega)]; exact h.2.2.2.2 a ha j hj
theorem rep_delN {F : Nat → Nat} {P : Pl} (h : rep F P) (hw : P.w ≤ 10) (hn : P.n ≤ 12) {i u : Nat} (hi : i < P.n) (hu : u = 37 + 4 * (P.n - 1)) : rep (fun j => if 37 + 4 * i ≤ j ∧ j < u then va_up F 6 (P.n - 1) (j + 4) else va_up F 6 (P.n - 1) j) (P.w, P.W, P.n - 1, delV P.N i, P.S) := by
  refine ⟨fun j hj => ?_, ?_, ?_, fun a ha j hj => ?_, fun a ha j hj => ?_⟩
  · dsimp only; rw [if_neg (by omega), va_up_ne _ _ (by omega)]; exact h.1 j hj
  · dsimp only; rw [if_neg (by omega), va_up_ne _ _ (by omega)]; exact h.2.1
  · dsimp only; rw [if_neg (by omega), va_up_self]
  · have ha : a < P.w := ha
    dsimp only; rw [if_neg (by omega), va_up_ne _ _ (by omega)]; exact h.2.2.2.1 a ha j hj
  · have ha : a < P.n - 1 := ha
    show _ = delV P.N i a j
    unfold delV
    dsimp only
    by_cases e : a < i
    · rw [if_pos e, if_neg (by omega), va_up_ne _ _ (by omega)]; exact h.2.2.2.2 a (by omega) j hj
    · rw [if_neg e, if_pos (by omega), va_up_ne _ _ (by omega), show 37 + 4 * a + j + 4 = 37 + 4 * (a + 1) + j by omega]; exact h.2.2.2.2 (a + 1) (by omega) j hj
theorem ok_delW {P : Pl} (h : okP P) {i : Nat} (hi : i < P.w) : okP (P.w - 1, delV P.W i, P.n, P.N, P.S) := ⟨Nat.le_trans (Nat.sub_le _ _) h.1, h.2.1, okW_del h.2.2.1 hi, h.2.2.2⟩
theorem ok_delN {P : Pl} (h : okP P) {i : Nat} (hi : i < P.n) : okP (P.w, P.W, P.n - 1, delV P.N i, P.S) := ⟨h.1, Nat.le_trans (Nat.sub_le _ _) h.2.1, h.2.2.1, okW_del h.2.2.2.1 hi, h.2.2.2.2⟩
theorem rep_setW {F : Nat → Nat} {P : Pl} (h : rep F P) (hw : P.w ≤ 10) {i j x : Nat} (hi : i < P.w) (hj : j < 3) : rep (va_up F (7 + 3 * i + j) x) (P.w, setV P.W i j x, P.n, P.N, P.S) := by
  refine ⟨fun a ha => ?_, ?_, ?_, fun a ha c hc => ?_, fun a ha c hc => ?_⟩
  · rw [va_up_ne _ _ (by omega)]; exact h.1 a ha
  · rw [va_up_ne _ _ (by omega)]; exact h.2.1
  · rw [va_up_ne _ _ (by omega)]; exact h.2.2.1
  · show _ = setV P.W i j x a c
    unfold setV
    by_cases e : a = i ∧ c = j
    · rw [if_pos e, e.1, e.2, va_up_self]
    · rw [if_neg e, va_up_ne _ _ (by omega)]; exact h.2.2.2.1 a ha c hc
  · rw [va_up_ne _ _ (by omega)]; exact h.2.2.2.2 a ha c hc
theorem rep_setN {F : Nat → Nat} {P : Pl} (h : rep F P) (hw : P.w ≤ 10) {i j x : Nat} (hi : i < P.n) (hj : j < 4) : rep (va_up F (37 + 4 * i + j) x) (P.w, P.W, P.n, setV P.N i j x, P.S) := by
  refine ⟨fun a ha => ?_, ?_, ?_, fun a ha c hc => ?_, fun a ha c hc => ?_⟩
  · rw [va_up_ne _ _ (by omega)]; exact h.1 a ha
  · rw [va_up_ne _ _ (by omega)]; exact h.2.1
  · rw [va_up_ne _ _ (by omega)]; exact h.2.2.1
  · have ha : a < P.w := ha
    rw [va_up_ne _ _ (by omega)]; exact h.2.2.2.1 a ha c hc
  · show _ = setV P.N i j x a c
    unfold setV
    by_cases e : a = i ∧ c = j
    · rw [if_pos e, e.1, e.2, va_up_self]
    · rw [if_neg e, va_up_ne _ _ (by omega)]; exact h.2.2.2.2 a ha c hc
theorem rep_setS {F : Nat → Nat} {P : Pl} (h : rep F P) {i x : Nat} (hi : i < 5) : rep (va_up F i x) (setS P i x) := by
  refine ⟨fun a ha => ?_, ?_, ?_, fun a ha c hc => ?_, fun a ha c hc => ?_⟩
  · show _ = va_up P.S i x a
    by_cases e : a = i
    · rw [e, va_up_self, va_up_self]
    · rw [va_up_ne _ _ e, va_up_ne _ _ e]; exact h.1 a ha
  · rw [va_up_ne _ _ (by omega)]; exact h.2.1
  · rw [va_up_ne _ _ (by omega)]; exact h.2.2.1
  · rw [va_up_ne _ _ (by omega)]; exact h.2.2.2.1 a ha c hc
  · rw [va_up_ne _ _ (by omega)]; exact h.2.2.2.2 a ha c hc
theorem ok_setW {P : Pl} (h : okP P) {i j x : Nat} (hx : (j = 0 → x ≤ 99) ∧ (j = 1 → 1 ≤ x ∧ x ≤ 20) ∧ (j = 2 → x ≤ 30) ∧ (j = 3 → x ≤ 1)) : okP (P.w, setV P.W i j x, P.n, P.N, P.S) := ⟨h.1, h.2.1, okW_set h.2.2.1 hx, h.2.2.2⟩
theorem ok_setN {P : Pl} (h : okP P) {i j x : Nat} (hx : (j = 0 → x ≤ 99) ∧ (j = 1 → 1 ≤ x ∧ x ≤ 20) ∧ (j = 2 → x ≤ 30) ∧ (j = 3 → x ≤ 1)) : okP (P.w, P.W, P.n, setV P.N i j x, P.S) := ⟨h.1, h.2.1, h.2.2.1, okW_set h.2.2.2.1 hx, h.2.2.2.2⟩
theorem ok_setS {P : Pl} (h : okP P) {i : Nat} {v : Int32} (hi : i < 5) (hv : fitS i v) : okP (setS P i (i32n v)) := ⟨h.1, h.2.1, h.2.2.1, h.2.2.2.1, okS_set h.2.2.2.2 hi hv⟩
theorem lt_le {x : Int32} {k : Nat} (hk : k + 1 < 2 ^ 31) : x < nI (k + 1) ↔ x ≤ nI k := by
  rw [Int32.lt_iff_toInt_lt, Int32.le_iff_toInt_le, nI_toInt hk, nI_toInt (by omega)]
  omega
/-- the slots' rows -/
def mSl (GS : Nat → Nat) (Zt : Nat → Int32) (SL : Nat → Option Pl) : Prop := ∀ j, j < 2 → (SL j = none ∧ Zt j = 0) ∨ ∃ Q, SL j = some Q ∧ Zt j = 1 ∧ rep (fun k => GS (85 * j + k)) Q ∧ okP Q
def mBu (nc : Nat) (C : Nat → Nat) : Prop := nc ≤ 80 ∧ ∀ i, i < nc → C i < 128
/-- the reference's whole state; tt: what it threw last -/
def isMod (dA : Nat → Nat) (b : Nat) (w : Wd) (A : Sy) (tt : Int32) : Prop := ∃ (pl lt dn : Int32) (F G GS : Nat → Nat) (Zt : Nat → Int32) (D0 M0 TD : Nat → Nat), w 36 = some (modO b (nI A.2.1.1) (nI A.2.2.2.1) tt pl lt dn) ∧ w 37 = some (eN dA 85 F) ∧ (rep F A.1 ∧ okP A.1) ∧ w 38 = some (eN dA 510 G) ∧ mSv A.2.1.1 G A.2.1.2 ∧ w 39 = some (eN dA 170 GS) ∧ w 40 = some (eZ dA 2 Zt) ∧ mSl GS Zt A.2.2.1 ∧ w 41 = some (eN dA 80 A.2.2.2.2) ∧ mBu A.2.2.2.1 A.2.2.2.2 ∧ w 42 = some (eN dA 120 D0) ∧ w 43 = some (eN dA 120 M0) ∧ w 44 = some (eN dA 3 TD)

theorem c_isCueW (l : Launch) {D : va_G} {dA : Nat → Nat} {b : Nat} {w : Wd} {sv nc th pl lt dn : Int32} (hm0 : w 36 = some (modO b sv nc th pl lt dn)) {F : Nat → Nat} (hm1 : w 37 = some (eN dA 85 F)) {P : Pl} (hRp : rep F P) (hP : okP P) (x : Int32) : Met l yX7_isCue wsX7_isCue ({ frames := 1, cells := 0, slots := 0, locals := 22 } : Room) (PC D dA b w [.ref (b + 36), .int (nI 1), .int x]) (QR (some (.int (if 0 ≤ x ∧ x < nI P.w then 1 else 0)))) 0 0 Fno := by
  have e := hRp.2.1
  have h1 := hP.1
  have h2 := hP.2.1
  rw [← e]
  exact c_X7_isCue_t l (D := D) hm0 hm1 (by omega) x
theorem c_isCueN (l : Launch) {D : va_G} {dA : Nat → Nat} {b : Nat} {w : Wd} {sv nc th pl lt dn : Int32} (hm0 : w 36 = some (modO b sv nc th pl lt dn)) {F : Nat → Nat} (hm1 : w 37 = some (eN dA 85 F)) {P : Pl} (hRp : rep F P) (hP : okP P) (x : Int32) : Met l yX7_isCue wsX7_isCue ({ frames := 1, cells := 0, slots := 0, locals := 22 } : Room) (PC D dA b w [.ref (b + 36), .int (nI 0), .int x]) (QR (some (.int (if 0 ≤ x ∧ x < nI P.n then 1 else 0)))) 0 0 Fno := by
  have e := hRp.2.2.1
  have h1 := hP.1
  have h2 := hP.2.1
  rw [← e]
  exact c_X7_isCue_f l (D := D) hm0 hm1 (by omega) x
set_option maxHeartbeats 300000 in
set_option maxRecDepth 100000 in
/-- save() -/
theorem c_X7_save (l : Launch) {D : va_G} {dA : Nat → Nat} {b : Nat} {w : Wd} {n : Nat} {nc th pl lt dn : Int32} (hm0 : w 36 = some (modO b (nI n) nc th pl lt dn)) {F G : Nat → Nat} (hm1 : w 37 = some (eN dA 85 F)) (hm38 : w 38 = some (eN dA 510 G)) (hn6 : n ≤ 6) : Met l yX7_save wsX7_save ({ frames := 1, cells := 0, slots := 0, locals := 24 } : Room) (PC D dA b w [.ref (b + 36)]) (QW D b (none) (fun w' => w' 36 = some (modO b (nI (pshN n)) nc th pl lt dn) ∧ w' 38 = some (eN dA 510 (savG n F G)) ∧ ∀ id : Nat, id ≠ 36 ∧ id ≠ 38 → w' id = w id)) 0 0 (Fb b) := by
  refine q_of (cc := cX7_save) (maxL := 2) (ret := none) (by decide) rfl rfl ?_
  intro p e s m args below meth c ls hx hb hr hml hts hown hlocks hG hW hS hl
  have hown : s.vm.findClass RX7 = some m.cls := hown
  have hinX7 : ∀ w ∈ u_ws RX7 TX7 14, w ∈ wsX7_save := fun w h => (goodIn_r (big := wsX7_save) (u_ws RX7 TX7 14) [8, 9, 10, 11, 12, 13, 14, 15, 16, 17, 18, 19, 20, 21] (by decide +kernel) (by decide +kernel) w h).1
  have hl : lv_has ls 2 [(0, .ref (b + 36))] := hl
  refine lv_aload_n hx hb dX7_save_0 rfl (lv_at hl 0 rfl) ?_
  refine q_get hx hb hts hinX7 hown hG hW hm0 rfl 2 (by decide) (hts (.fieldLink RX7 47 "FoleyMixerModel" "savedMany" "I") (List.mem_of_getElem? (i := 1) rfl)) rfl rfl dX7_save_1 ?_
  refine lv_bipush (v := nI 6) hx hb dX7_save_4 (by decide) ?_
  refine lv_icmp_ne (tgt := 49) hx hb dX7_save_6 (by decide) (fun c_6 => ?_) (fun c_6 => ?_)
  · skip
    have c_6 : ¬ (n = 6) := fun h__ => c_6 ((nI_eq (a := n) (b := 6) (by omega) (by omega)).mpr h__)
    refine lv_aload_n hx hb dX7_save_49 rfl (lv_at hl 0 rfl) ?_
    refine q_get hx hb hts hinX7 hown hG hW hm0 rfl 0 (by decide) (hts (.fieldLink RX7 7 "FoleyMixerModel" "s" "[I") (List.mem_of_getElem? (i := 3) rfl)) rfl rfl dX7_save_50 ?_
    refine lv_iconst (v := nI 0) hx hb dX7_save_53 (by decide) ?_
    refine lv_aload_n hx hb dX7_save_54 rfl (lv_at hl 0 rfl) ?_
    refine q_get hx hb hts hinX7 hown hG hW hm0 rfl 1 (by decide) (hts (.fieldLink RX7 13 "FoleyMixerModel" "saved" "[I") (List.mem_of_getElem? (i := 2) rfl)) rfl rfl dX7_save_55 ?_
    refine lv_bipush (v := nI 85) hx hb dX7_save_58 (by decide) ?_
    refine lv_aload_n hx hb dX7_save_60 rfl (lv_at hl 0 rfl) ?_
    refine q_get hx hb hts hinX7 hown hG hW hm0 rfl 2 (by decide) (hts (.fieldLink RX7 47 "FoleyMixerModel" "savedMany" "I") (List.mem_of_getElem? (i := 1) rfl)) rfl rfl dX7_save_61 ?_
    refine lv_imul hx hb dX7_save_64 ?_
    refine q_top (y := nI (85 * n)) (nI_mul _ _) ?_
    refine q_W0 (va_runS (As := [.ref (b + 37), .int (nI 0), .ref (b + 38), .int (nI (85 * n))]) (rest := []) ⟨hx, hb, hml, hown, hts⟩ (c_X7_copy l (f9 := 0) (t9 := 85 * n) hm1 hm38 (by decide) (by omega) (by omega) (by decide) (by decide)) (va_cwS 4 hts gX7_save_X7_copy rfl rfl rfl (by decide +kernel) ⟨Nat.le_of_ble_eq_true rfl, Nat.le_of_ble_eq_true rfl⟩) (q_preS hG hW hS) rfl rfl hl.1 rfl (lv_room (Nat.le_of_ble_eq_true rfl)) dX7_save_65 ⟨Nat.le_of_ble_eq_true rfl, Nat.le_of_ble_eq_true rfl⟩) hS (fun w_65 H locs hp65 hW hS => ?_)
    obtain ⟨hm38, fr65⟩ := hp65
    replace hm0 : w_65 36 = some (modO b (nI (n)) (nc) (th) (pl) (lt) (dn)) := (fr65 _ (by omega)).trans hm0
    replace hm1 : w_65 37 = some (eN dA 85 F) := (fr65 _ (by omega)).trans hm1
    refine lv_aload_n hx hb dX7_save_68 rfl (lv_at hl 0 rfl) ?_
    refine lv_dup hx hb dX7_save_69 rfl ?_
    refine q_get hx hb hts hinX7 hown hG hW hm0 rfl 2 (by decide) (hts (.fieldLink RX7 47 "FoleyMixerModel" "savedMany" "I") (List.mem_of_getElem? (i := 1) rfl)) rfl rfl dX7_save_70 ?_
    refine lv_iconst (v := nI 1) hx hb dX7_save_73 (by decide) ?_
    refine lv_iadd hx hb dX7_save_74 ?_
    refine q_top (y := nI (n + 1)) (nI_add _ _) ?_
    refine q_put hx hb hts hinX7 tyX7_ok nmX7 hown hG hW hS hm0 rfl 2 (by decide) (hts (.fieldLink RX7 47 "FoleyMixerModel" "savedMany" "I") (List.mem_of_getElem? (i := 1) rfl)) rfl rfl rfl rfl (Nat.le_of_ble_eq_true rfl) dX7_save_75 (fun H locs hW hS hz75 => ?_)
    obtain ⟨w1, ew1⟩ : ∃ wq__ : Wd, wq__ = va_up w_65 36 (some (modO b (nI (n + 1)) (nc) (th) (pl) (lt) (dn))) := ⟨_, rfl⟩
    replace hW : WP D b w1 H := by rw [ew1]; exact hW
    have frw1 : ∀ id : Nat, id ≠ 36 → w1 id = w_65 id := fun id h9 => by rw [ew1, up_ne h9]
    replace hm1 : w1 37 = some (eN dA 85 F) := (frw1 _ (by omega)).trans hm1
    replace hm38 : w1 38 = some (eN dA 510 (fun j => if 85 * n ≤ j ∧ j < 85 * n + 85 then F (0 + (j - (85 * n))) else G j)) := (frw1 _ (by omega)).trans hm38
    replace hm0 : w1 36 = some (modO b (nI (n + 1)) (nc) (th) (pl) (lt) (dn)) := by rw [ew1]; exact up_eq
    exact q_wv hx hb hr hlocks hW hS dX7_save_78 (by exact ⟨by rw [show pshN n = n + 1 from by unfold pshN; rw [if_pos (by omega)]]; exact hm0, hm38.trans (eN_congr (sav_old (by omega))), by intro id h9; rw [frw1 id (by omega)]; rw [fr65 id (by omega)]; try rfl⟩) (by decide) (by decide)
  · skip
    have c_6 : n = 6 := (nI_eq (a := n) (b := 6) (by omega) (by omega)).mp c_6
    refine lv_iconst (v := nI 0) hx hb dX7_save_9 (by decide) ?_
    refine lv_istore_n (lv' := [(1, .int (nI 0)), (0, .ref (b + 36))]) hx hb dX7_save_10 rfl hl (by decide) rfl (fun ls hl => ?_)
    have L11 : ∀ (n11 : Nat) (u : Nat), u ≤ 425 → 425 - u < n11 → ∀ (x11_1 : Int32), x11_1 = nI (u) → ∀ (wa : Wd) (H : Heap) (locs : List Loc), wa 36 = some (modO b (nI n) nc th pl lt dn) → wa 37 = some (eN dA 85 F) → wa 38 = some (eN dA 510 (fun j => if j < u then G (85 + j) else G j)) → (∀ id : Nat, id ≠ 36 ∧ id ≠ 38 → wa id = w id) → WP D b wa H → va_S (Fb b) s.heap H locs → ∀ (ls : Array Slot), lv_has ls 2 [(0, .ref (b + 36)), (1, .int x11_1)] → W p l e ({ frames := 1, cells := 0, slots := 0, locals := 24 } : Room) s m args below meth c H locs 0 0 (MQ below (QW D b (none) (fun w' => w' 36 = some (modO b (nI (pshN n)) nc th pl lt dn) ∧ w' 38 = some (eN dA 510 (savG n F G)) ∧ ∀ id : Nat, id ≠ 36 ∧ id ≠ 38 → w' id = w id)) args s 0 0 (Fb b)) (F0 m 11 ls []) := by
      intro n11
      induction n11 with
      | zero =>
        intro u hu0 hn11 x11_1 ex11_1 wa H locs hm0 hm1 hm38 fr hW hS ls hl
        exact absurd hn11 (Nat.not_lt_zero _)
      | succ n11 ih11 =>
        intro u hu0 hn11 x11_1 ex11_1 wa H locs hm0 hm1 hm38 fr hW hS ls hl
        subst ex11_1
        refine lv_iload_n hx hb dX7_save_11 rfl (lv_at hl 1 rfl) ?_
        refine lv_sipush (v := nI 425) hx hb dX7_save_12 (by decide) ?_
        refine lv_icmp_ge (tgt := 39) hx hb dX7_save_15 (by decide) (fun c_15 => ?_) (fun c_15 => ?_)
        · skip
          have c_15 : 425 ≤ u := (nI_leI (a := 425) (b := u) (by omega) (by omega)).mp c_15
          rw [show u = 425 by omega] at hm38
          refine lv_aload_n hx hb dX7_save_39 rfl (lv_at hl 0 rfl) ?_
          refine lv_dup hx hb dX7_save_40 rfl ?_
          refine q_get hx hb hts hinX7 hown hG hW hm0 rfl 2 (by decide) (hts (.fieldLink RX7 47 "FoleyMixerModel" "savedMany" "I") (List.mem_of_getElem? (i := 1) rfl)) rfl rfl dX7_save_41 ?_
          refine lv_iconst (v := nI 1) hx hb dX7_save_44 (by decide) ?_
          refine lv_isub hx hb dX7_save_45 ?_
          refine q_top (y := nI (n - 1)) (nI_sub (by omega)) ?_
          refine q_put hx hb hts hinX7 tyX7_ok nmX7 hown hG hW hS hm0 rfl 2 (by decide) (hts (.fieldLink RX7 47 "FoleyMixerModel" "savedMany" "I") (List.mem_of_getElem? (i := 1) rfl)) rfl rfl rfl rfl (Nat.le_of_ble_eq_true rfl) dX7_save_46 (fun H locs hW hS hz46 => ?_)
          obtain ⟨w2, ew2⟩ : ∃ wq__ : Wd, wq__ = va_up wa 36 (some (modO b (nI (n - 1)) (nc) (th) (pl) (lt) (dn))) := ⟨_, rfl⟩
          replace hW : WP D b w2 H := by rw [ew2]; exact hW
          have frw2 : ∀ id : Nat, id ≠ 36 → w2 id = wa id := fun id h9 => by rw [ew2, up_ne h9]
          replace hm1 : w2 37 = some (eN dA 85 F) := (frw2 _ (by omega)).trans hm1
          replace hm38 : w2 38 = some (eN dA 510 (fun j => if j < 425 then G (85 + j) else G j)) := (frw2 _ (by omega)).trans hm38
          replace hm0 : w2 36 = some (modO b (nI (n - 1)) (nc) (th) (pl) (lt) (dn)) := by rw [ew2]; exact up_eq
          refine lv_aload_n hx hb dX7_save_49 rfl (lv_at hl 0 rfl) ?_
          refine q_get hx hb hts hinX7 hown hG hW hm0 rfl 0 (by decide) (hts (.fieldLink RX7 7 "FoleyMixerModel" "s" "[I") (List.mem_of_getElem? (i := 3) rfl)) rfl rfl dX7_save_50 ?_
          refine lv_iconst (v := nI 0) hx hb dX7_save_53 (by decide) ?_
          refine lv_aload_n hx hb dX7_save_54 rfl (lv_at hl 0 rfl) ?_
          refine q_get hx hb hts hinX7 hown hG hW hm0 rfl 1 (by decide) (hts (.fieldLink RX7 13 "FoleyMixerModel" "saved" "[I") (List.mem_of_getElem? (i := 2) rfl)) rfl rfl dX7_save_55 ?_
          refine lv_bipush (v := nI 85) hx hb dX7_save_58 (by decide) ?_
          refine lv_aload_n hx hb dX7_save_60 rfl (lv_at hl 0 rfl) ?_
          refine q_get hx hb hts hinX7 hown hG hW hm0 rfl 2 (by decide) (hts (.fieldLink RX7 47 "FoleyMixerModel" "savedMany" "I") (List.mem_of_getElem? (i := 1) rfl)) rfl rfl dX7_save_61 ?_
          refine lv_imul hx hb dX7_save_64 ?_
          refine q_top (y := nI (85 * (n - 1))) (nI_mul _ _) ?_
          refine q_W0 (va_runS (As := [.ref (b + 37), .int (nI 0), .ref (b + 38), .int (nI (85 * (n - 1)))]) (rest := []) ⟨hx, hb, hml, hown, hts⟩ (c_X7_copy l (f9 := 0) (t9 := 85 * (n - 1)) hm1 hm38 (by decide) (by omega) (by omega) (by decide) (by decide)) (va_cwS 4 hts gX7_save_X7_copy rfl rfl rfl (by decide +kernel) ⟨Nat.le_of_ble_eq_true rfl, Nat.le_of_ble_eq_true rfl⟩) (q_preS hG hW hS) rfl rfl hl.1 rfl (lv_room (Nat.le_of_ble_eq_true rfl)) dX7_save_65 ⟨Nat.le_of_ble_eq_true rfl, Nat.le_of_ble_eq_true rfl⟩) hS (fun w_65 H locs hp65 hW hS => ?_)
          obtain ⟨hm38, fr65⟩ := hp65
          replace hm0 : w_65 36 = some (modO b (nI (n - 1)) (nc) (th) (pl) (lt) (dn)) := (fr65 _ (by omega)).trans hm0
          replace hm1 : w_65 37 = some (eN dA 85 F) := (fr65 _ (by omega)).trans hm1
          refine lv_aload_n hx hb dX7_save_68 rfl (lv_at hl 0 rfl) ?_
          refine lv_dup hx hb dX7_save_69 rfl ?_
          refine q_get hx hb hts hinX7 hown hG hW hm0 rfl 2 (by decide) (hts (.fieldLink RX7 47 "FoleyMixerModel" "savedMany" "I") (List.mem_of_getElem? (i := 1) rfl)) rfl rfl dX7_save_70 ?_
          refine lv_iconst (v := nI 1) hx hb dX7_save_73 (by decide) ?_
          refine lv_iadd hx hb dX7_save_74 ?_
          refine q_top (y := nI ((n - 1) + 1)) (nI_add _ _) ?_
          refine q_put hx hb hts hinX7 tyX7_ok nmX7 hown hG hW hS hm0 rfl 2 (by decide) (hts (.fieldLink RX7 47 "FoleyMixerModel" "savedMany" "I") (List.mem_of_getElem? (i := 1) rfl)) rfl rfl rfl rfl (Nat.le_of_ble_eq_true rfl) dX7_save_75 (fun H locs hW hS hz75 => ?_)
          obtain ⟨w3, ew3⟩ : ∃ wq__ : Wd, wq__ = va_up w_65 36 (some (modO b (nI ((n - 1) + 1)) (nc) (th) (pl) (lt) (dn))) := ⟨_, rfl⟩
          replace hW : WP D b w3 H := by rw [ew3]; exact hW
          have frw3 : ∀ id : Nat, id ≠ 36 → w3 id = w_65 id := fun id h9 => by rw [ew3, up_ne h9]
          replace hm1 : w3 37 = some (eN dA 85 F) := (frw3 _ (by omega)).trans hm1
          replace hm38 : w3 38 = some (eN dA 510 (fun j => if 85 * (n - 1) ≤ j ∧ j < 85 * (n - 1) + 85 then F (0 + (j - (85 * (n - 1)))) else (fun j => if j < 425 then G (85 + j) else G j) j)) := (frw3 _ (by omega)).trans hm38
          replace hm0 : w3 36 = some (modO b (nI ((n - 1) + 1)) (nc) (th) (pl) (lt) (dn)) := by rw [ew3]; exact up_eq
          exact q_wv hx hb hr hlocks hW hS dX7_save_78 (by exact ⟨by rw [show pshN n = n - 1 + 1 from by unfold pshN; rw [if_neg (by omega)]; omega]; exact hm0, hm38.trans (eN_congr (sav_new (by omega))), by intro id h9; rw [frw3 id (by omega)]; rw [fr65 id (by omega)]; rw [frw2 id (by omega)]; exact fr id h9⟩) (by decide) (by decide)
        · skip
          have c_15 : ¬ (425 ≤ u) := fun h__ => c_15 ((nI_leI (a := 425) (b := u) (by omega) (by omega)).mpr h__)
          refine lv_aload_n hx hb dX7_save_18 rfl (lv_at hl 0 rfl) ?_
          refine q_get hx hb hts hinX7 hown hG hW hm0 rfl 1 (by decide) (hts (.fieldLink RX7 13 "FoleyMixerModel" "saved" "[I") (List.mem_of_getElem? (i := 2) rfl)) rfl rfl dX7_save_19 ?_
          refine lv_iload_n hx hb dX7_save_22 rfl (lv_at hl 1 rfl) ?_
          refine lv_aload_n hx hb dX7_save_23 rfl (lv_at hl 0 rfl) ?_
          refine q_get hx hb hts hinX7 hown hG hW hm0 rfl 1 (by decide) (hts (.fieldLink RX7 13 "FoleyMixerModel" "saved" "[I") (List.mem_of_getElem? (i := 2) rfl)) rfl rfl dX7_save_24 ?_
          refine lv_bipush (v := nI 85) hx hb dX7_save_27 (by decide) ?_
          refine lv_iload_n hx hb dX7_save_29 rfl (lv_at hl 1 rfl) ?_
          refine lv_iadd hx hb dX7_save_30 ?_
          refine q_top (y := nI (85 + u)) (nI_add _ _) ?_
          refine q_iald hx hb hG hW hm38 (by omega) (by omega) dX7_save_31 ?_
          refine q_nast hx hb hG hW hS hm38 (by omega) (by omega) dX7_save_32 (fun H locs hW hS hz32 => ?_)
          obtain ⟨w4, ew4⟩ : ∃ wq__ : Wd, wq__ = va_up wa 38 (some (eN dA 510 (va_up (fun j => if j < u then G (85 + j) else G j) u ((fun j => if j < u then G (85 + j) else G j) (85 + u))))) := ⟨_, rfl⟩
          replace hW : WP D b w4 H := by rw [ew4]; exact hW
          have frw4 : ∀ id : Nat, id ≠ 38 → w4 id = wa id := fun id h9 => by rw [ew4, up_ne h9]
          replace hm0 : w4 36 = some (modO b (nI (n)) (nc) (th) (pl) (lt) (dn)) := (frw4 _ (by omega)).trans hm0
          replace hm1 : w4 37 = some (eN dA 85 F) := (frw4 _ (by omega)).trans hm1
          replace hm38 : w4 38 = some (eN dA 510 (va_up (fun j => if j < u then G (85 + j) else G j) u ((fun j => if j < u then G (85 + j) else G j) (85 + u)))) := by rw [ew4]; exact up_eq
          refine lv_iinc (v := nI (u + 1)) (lv' := [(1, .int (nI (u + 1))), (0, .ref (b + 36))]) hx hb dX7_save_33 hl (k := 1) rfl (nI_add _ 1) (by decide) rfl (fun ls hl => ?_)
          refine lv_goto (tgt := 11) hx hb dX7_save_36 (by decide) ?_
          exact ih11 (u + 1) (by omega) (by omega) _ (by first | rfl | (congr 1; omega)) _ _ _ (by exact hm0) (by exact hm1) (by exact hm38.trans (eN_congr (fill_step (f := fun j => G (85 + j)) (if_neg (by omega))))) (by intro id h9; rw [frw4 id (by omega)]; exact fr id h9) hW hS _ (lv_sub hl [1, 0] rfl)
    exact L11 ((425 - 0) + 1) 0 (by omega) (Nat.lt_succ_self _) _ (by first | rfl | (congr 1; omega)) _ _ _ (by exact hm0) (by exact hm1) (by exact hm38.trans (eN_congr (fill_0 (f := fun j => G (85 + j))))) (by intro id h9; rfl) hW hS _ (lv_sub hl [1, 0] rfl)

set_option maxHeartbeats 300000 in
set_option maxRecDepth 100000 in
/-- add -/
theorem c_X7_add_t (l : Launch) {D : va_G} {dA : Nat → Nat} {b : Nat} {w : Wd} {sv nc th pl lt dn : Int32} (hm0 : w 36 = some (modO b sv nc th pl lt dn)) {F : Nat → Nat} (hm1 : w 37 = some (eN dA 85 F)) {P : Pl} (hRp : rep F P) (hP : okP P) (s9 l9 d9 g9 : Nat) (hn : P.w < 10) (h0 : s9 ≤ 99) (h1 : 1 ≤ l9) (h2 : l9 ≤ 20) (h3 : d9 ≤ 30) (h4 : g9 ≤ 1) : Met l yX7_add wsX7_add ({ frames := 1, cells := 0, slots := 0, locals := 21 } : Room) (PC D dA b w [.ref (b + 36), .int (nI 1), .int (nI s9), .int (nI l9), .int (nI d9), .int (nI g9)]) (QW D b (some (.int (nI (P.w)))) (fun w' => ∃ F' : Nat → Nat, w' 37 = some (eN dA 85 F') ∧ rep F' (P.w + 1, addV P.W P.w s9 l9 d9 0, P.n, P.N, P.S) ∧ okP (P.w + 1, addV P.W P.w s9 l9 d9 0, P.n, P.N, P.S) ∧ ∀ id : Nat, id ≠ 37 → w' id = w id)) 0 0 (Fb b) := by
  refine q_of (cc := cX7_add) (maxL := 8) (ret := (some .int)) (by decide) rfl rfl ?_
  intro p e s m args below meth c ls hx hb hr hml hts hown hlocks hG hW hS hl
  have hown : s.vm.findClass RX7 = some m.cls := hown
  have hinX7 : ∀ w ∈ u_ws RX7 TX7 14, w ∈ wsX7_add := fun w h => (goodIn_r (big := wsX7_add) (u_ws RX7 TX7 14) [6, 7, 8, 9, 10, 11, 12, 13, 14, 15, 16, 17, 18, 19] (by decide +kernel) (by decide +kernel) w h).1
  have hl : lv_has ls 8 [(0, .ref (b + 36)), (1, .int (nI 1)), (2, .int (nI s9)), (3, .int (nI l9)), (4, .int (nI d9)), (5, .int (nI g9))] := hl
  obtain ⟨hPw, hPn, hPW, hPN, hPS⟩ := id hP
  have hr5 := hRp.2.1
  have hr6 := hRp.2.2.1
  refine lv_iload_n hx hb dX7_add_0 rfl (lv_at hl 1 rfl) ?_
  refine lv_if_eq (tgt := 13) hx hb dX7_add_1 (by decide) (fun c_1 => ?_) (fun c_1 => ?_)
  · skip
    have c_1 : 1 = 0 := (nI_eq0 (i := 1) (by omega)).mp c_1
    exact absurd c_1 (by omega)
  · skip
    have c_1 : ¬ (1 = 0) := fun h__ => c_1 ((nI_eq0 (i := 1) (by omega)).mpr h__)
    refine lv_aload_n hx hb dX7_add_4 rfl (lv_at hl 0 rfl) ?_
    refine q_get hx hb hts hinX7 hown hG hW hm0 rfl 0 (by decide) (hts (.fieldLink RX7 7 "FoleyMixerModel" "s" "[I") (List.mem_of_getElem? (i := 1) rfl)) rfl rfl dX7_add_5 ?_
    refine lv_iconst (v := nI 5) hx hb dX7_add_8 (by decide) ?_
    refine q_iald hx hb hG hW hm1 (by omega) (by omega) dX7_add_9 ?_
    refine lv_goto (tgt := 20) hx hb dX7_add_10 (by decide) ?_
    refine q_top (y := nI (P.w)) (by exact congrArg nI hr5) ?_
    refine lv_istore (lv' := [(6, .int (nI (P.w))), (0, .ref (b + 36)), (1, .int (nI 1)), (2, .int (nI s9)), (3, .int (nI l9)), (4, .int (nI d9)), (5, .int (nI g9))]) hx hb dX7_add_20 hl (by decide) rfl (fun ls hl => ?_)
    refine lv_iload_n hx hb dX7_add_22 rfl (lv_at hl 2 rfl) ?_
    refine lv_iload hx hb dX7_add_23 (lv_at hl 0 rfl) ?_
    refine q_R1 (va_runS (As := [.int (nI 1), .int (nI (P.w))]) (rest := []) ⟨hx, hb, hml, hown, hts⟩ (c_X7_whereIs_t l (P.w)) (va_cwS 2 hts gX7_add_X7_whereIs rfl rfl rfl (by decide +kernel) ⟨Nat.le_of_ble_eq_true rfl, Nat.le_of_ble_eq_true rfl⟩) (q_preS hG hW hS) rfl rfl hl.1 rfl (lv_room (Nat.le_of_ble_eq_true rfl)) dX7_add_25 ⟨Nat.le_of_ble_eq_true rfl, Nat.le_of_ble_eq_true rfl⟩) ?_
    refine lv_istore (lv' := [(7, .int (nI (7 + 3 * P.w))), (6, .int (nI (P.w))), (0, .ref (b + 36)), (1, .int (nI 1)), (2, .int (nI s9)), (3, .int (nI l9)), (4, .int (nI d9)), (5, .int (nI g9))]) hx hb dX7_add_28 hl (by decide) rfl (fun ls hl => ?_)
    refine lv_aload_n hx hb dX7_add_30 rfl (lv_at hl 2 rfl) ?_
    refine q_get hx hb hts hinX7 hown hG hW hm0 rfl 0 (by decide) (hts (.fieldLink RX7 7 "FoleyMixerModel" "s" "[I") (List.mem_of_getElem? (i := 1) rfl)) rfl rfl dX7_add_31 ?_
    refine lv_iload hx hb dX7_add_34 (lv_at hl 0 rfl) ?_
    refine lv_iconst (v := nI 0) hx hb dX7_add_36 (by decide) ?_
    refine lv_iadd hx hb dX7_add_37 ?_
    refine q_top (y := nI ((7 + 3 * P.w) + 0)) (nI_add _ _) ?_
    refine lv_iload_n hx hb dX7_add_38 rfl (lv_at hl 4 rfl) ?_
    refine q_nast hx hb hG hW hS hm1 (by omega) (by omega) dX7_add_39 (fun H locs hW hS hz39 => ?_)
    obtain ⟨w1, ew1⟩ : ∃ wq__ : Wd, wq__ = va_up w 37 (some (eN dA 85 (va_up F ((7 + 3 * P.w) + 0) s9))) := ⟨_, rfl⟩
    replace hW : WP D b w1 H := by rw [ew1]; exact hW
    have frw1 : ∀ id : Nat, id ≠ 37 → w1 id = w id := fun id h9 => by rw [ew1, up_ne h9]
    replace hm0 : w1 36 = some (modO b (sv) (nc) (th) (pl) (lt) (dn)) := (frw1 _ (by omega)).trans hm0
    replace hm1 : w1 37 = some (eN dA 85 (va_up F ((7 + 3 * P.w) + 0) s9)) := by rw [ew1]; exact up_eq
    refine lv_aload_n hx hb dX7_add_40 rfl (lv_at hl 2 rfl) ?_
    refine q_get hx hb hts hinX7 hown hG hW hm0 rfl 0 (by decide) (hts (.fieldLink RX7 7 "FoleyMixerModel" "s" "[I") (List.mem_of_getElem? (i := 1) rfl)) rfl rfl dX7_add_41 ?_
    refine lv_iload hx hb dX7_add_44 (lv_at hl 0 rfl) ?_
    refine lv_iconst (v := nI 1) hx hb dX7_add_46 (by decide) ?_
    refine lv_iadd hx hb dX7_add_47 ?_
    refine q_top (y := nI ((7 + 3 * P.w) + 1)) (nI_add _ _) ?_
    refine lv_iload_n hx hb dX7_add_48 rfl (lv_at hl 5 rfl) ?_
    refine q_nast hx hb hG hW hS hm1 (by omega) (by omega) dX7_add_49 (fun H locs hW hS hz49 => ?_)
    obtain ⟨w2, ew2⟩ : ∃ wq__ : Wd, wq__ = va_up w1 37 (some (eN dA 85 (va_up (va_up F ((7 + 3 * P.w) + 0) s9) ((7 + 3 * P.w) + 1) l9))) := ⟨_, rfl⟩
    replace hW : WP D b w2 H := by rw [ew2]; exact hW
    have frw2 : ∀ id : Nat, id ≠ 37 → w2 id = w1 id := fun id h9 => by rw [ew2, up_ne h9]
    replace hm0 : w2 36 = some (modO b (sv) (nc) (th) (pl) (lt) (dn)) := (frw2 _ (by omega)).trans hm0
    replace hm1 : w2 37 = some (eN dA 85 (va_up (va_up F ((7 + 3 * P.w) + 0) s9) ((7 + 3 * P.w) + 1) l9)) := by rw [ew2]; exact up_eq
    refine lv_aload_n hx hb dX7_add_50 rfl (lv_at hl 2 rfl) ?_
    refine q_get hx hb hts hinX7 hown hG hW hm0 rfl 0 (by decide) (hts (.fieldLink RX7 7 "FoleyMixerModel" "s" "[I") (List.mem_of_getElem? (i := 1) rfl)) rfl rfl dX7_add_51 ?_
    refine lv_iload hx hb dX7_add_54 (lv_at hl 0 rfl) ?_
    refine lv_iconst (v := nI 2) hx hb dX7_add_56 (by decide) ?_
    refine lv_iadd hx hb dX7_add_57 ?_
    refine q_top (y := nI ((7 + 3 * P.w) + 2)) (nI_add _ _) ?_
    refine lv_iload hx hb dX7_add_58 (lv_at hl 6 rfl) ?_
    refine q_nast hx hb hG hW hS hm1 (by omega) (by omega) dX7_add_60 (fun H locs hW hS hz60 => ?_)
    obtain ⟨w3, ew3⟩ : ∃ wq__ : Wd, wq__ = va_up w2 37 (some (eN dA 85 (va_up (va_up (va_up F ((7 + 3 * P.w) + 0) s9) ((7 + 3 * P.w) + 1) l9) ((7 + 3 * P.w) + 2) d9))) := ⟨_, rfl⟩
    replace hW : WP D b w3 H := by rw [ew3]; exact hW
    have frw3 : ∀ id : Nat, id ≠ 37 → w3 id = w2 id := fun id h9 => by rw [ew3, up_ne h9]
    replace hm0 : w3 36 = some (modO b (sv) (nc) (th) (pl) (lt) (dn)) := (frw3 _ (by omega)).trans hm0
    replace hm1 : w3 37 = some (eN dA 85 (va_up (va_up (va_up F ((7 + 3 * P.w) + 0) s9) ((7 + 3 * P.w) + 1) l9) ((7 + 3 * P.w) + 2) d9)) := by rw [ew3]; exact up_eq
    refine lv_iload_n hx hb dX7_add_61 rfl (lv_at hl 3 rfl) ?_
    refine lv_if_ne (tgt := 76) hx hb dX7_add_62 (by decide) (fun c_62 => ?_) (fun c_62 => ?_)
    · skip
      have c_62 : ¬ (1 = 0) := fun h__ => c_62 ((nI_eq0 (i := 1) (by omega)).mpr h__)
      refine lv_aload_n hx hb dX7_add_76 rfl (lv_at hl 2 rfl) ?_
      refine q_get hx hb hts hinX7 hown hG hW hm0 rfl 0 (by decide) (hts (.fieldLink RX7 7 "FoleyMixerModel" "s" "[I") (List.mem_of_getElem? (i := 1) rfl)) rfl rfl dX7_add_77 ?_
      refine lv_iload_n hx hb dX7_add_80 rfl (lv_at hl 3 rfl) ?_
      refine lv_if_eq (tgt := 88) hx hb dX7_add_81 (by decide) (fun c_81 => ?_) (fun c_81 => ?_)
      · skip
        have c_81 : 1 = 0 := (nI_eq0 (i := 1) (by omega)).mp c_81
        exact absurd c_81 (by omega)
      · skip
        have c_81 : ¬ (1 = 0) := fun h__ => c_81 ((nI_eq0 (i := 1) (by omega)).mpr h__)
        refine lv_iconst (v := nI 5) hx hb dX7_add_84 (by decide) ?_
        refine lv_goto (tgt := 90) hx hb dX7_add_85 (by decide) ?_
        refine lv_dup2_11 hx hb dX7_add_90 rfl rfl ?_
        refine q_iald hx hb hG hW hm1 (by omega) (by omega) dX7_add_91 ?_
        refine q_top (y := nI (P.w)) (by refine congrArg nI ?_; rw [va_up_ne _ _ (by omega), va_up_ne _ _ (by omega), va_up_ne _ _ (by omega)]; exact hr5) ?_
        refine lv_iconst (v := nI 1) hx hb dX7_add_92 (by decide) ?_
        refine lv_iadd hx hb dX7_add_93 ?_
        refine q_top (y := nI (P.w + 1)) (nI_add _ _) ?_
        refine q_nast hx hb hG hW hS hm1 (by omega) (by omega) dX7_add_94 (fun H locs hW hS hz94 => ?_)
        obtain ⟨w4, ew4⟩ : ∃ wq__ : Wd, wq__ = va_up w3 37 (some (eN dA 85 (va_up (va_up (va_up (va_up F ((7 + 3 * P.w) + 0) s9) ((7 + 3 * P.w) + 1) l9) ((7 + 3 * P.w) + 2) d9) 5 (P.w + 1)))) := ⟨_, rfl⟩
        replace hW : WP D b w4 H := by rw [ew4]; exact hW
        have frw4 : ∀ id : Nat, id ≠ 37 → w4 id = w3 id := fun id h9 => by rw [ew4, up_ne h9]
        replace hm0 : w4 36 = some (modO b (sv) (nc) (th) (pl) (lt) (dn)) := (frw4 _ (by omega)).trans hm0
        replace hm1 : w4 37 = some (eN dA 85 (va_up (va_up (va_up (va_up F ((7 + 3 * P.w) + 0) s9) ((7 + 3 * P.w) + 1) l9) ((7 + 3 * P.w) + 2) d9) 5 (P.w + 1))) := by rw [ew4]; exact up_eq
        refine lv_iload hx hb dX7_add_95 (lv_at hl 1 rfl) ?_
        exact q_wi hx hb hr hlocks hW hS dX7_add_97 (by rfl) (by exact ⟨_, hm1, rep_addW hRp (by omega) hPn s9 l9 d9, ok_addW hP (by omega) h0 h1 h2 h3, by intro id h9; rw [frw4 id (by omega)]; rw [frw3 id (by omega)]; rw [frw2 id (by omega)]; rw [frw1 id (by omega)]; try rfl⟩) (by decide) (by decide)
    · skip
      have c_62 : 1 = 0 := (nI_eq0 (i := 1) (by omega)).mp c_62
      exact absurd c_62 (by omega)

set_option maxHeartbeats 300000 in
set_option maxRecDepth 100000 in
/-- takeOut -/
theorem c_X7_takeOut_t (l : Launch) {D : va_G} {dA : Nat → Nat} {b : Nat} {w : Wd} {sv nc th pl lt dn : Int32} (hm0 : w 36 = some (modO b sv nc th pl lt dn)) {F : Nat → Nat} (hm1 : w 37 = some (eN dA 85 F)) {P : Pl} (hRp : rep F P) (hP : okP P) (i : Nat) (hi : i < P.w) : Met l yX7_takeOut wsX7_takeOut ({ frames := 1, cells := 0, slots := 0, locals := 21 } : Room) (PC D dA b w [.ref (b + 36), .int (nI 1), .int (nI i)]) (QW D b (none) (fun w' => ∃ F' : Nat → Nat, w' 37 = some (eN dA 85 F') ∧ rep F' (P.w - 1, delV P.W i, P.n, P.N, P.S) ∧ okP (P.w - 1, delV P.W i, P.n, P.N, P.S) ∧ ∀ id : Nat, id ≠ 37 → w' id = w id)) 0 0 (Fb b) := by
  refine q_of (cc := cX7_takeOut) (maxL := 6) (ret := none) (by decide) rfl rfl ?_
  intro p e s m args below meth c ls hx hb hr hml hts hown hlocks hG hW hS hl
  have hown : s.vm.findClass RX7 = some m.cls := hown
  have hinX7 : ∀ w ∈ u_ws RX7 TX7 14, w ∈ wsX7_takeOut := fun w h => (goodIn_r (big := wsX7_takeOut) (u_ws RX7 TX7 14) [6, 7, 8, 9, 10, 11, 12, 13, 14, 15, 16, 17, 18, 19] (by decide +kernel) (by decide +kernel) w h).1
  have hl : lv_has ls 6 [(0, .ref (b + 36)), (1, .int (nI 1)), (2, .int (nI i))] := hl
  obtain ⟨hPw, hPn, hPW, hPN, hPS⟩ := id hP
  have hr5 := hRp.2.1
  have hr6 := hRp.2.2.1
  refine lv_iload_n hx hb dX7_takeOut_0 rfl (lv_at hl 1 rfl) ?_
  refine lv_if_eq (tgt := 8) hx hb dX7_takeOut_1 (by decide) (fun c_1 => ?_) (fun c_1 => ?_)
  · skip
    have c_1 : 1 = 0 := (nI_eq0 (i := 1) (by omega)).mp c_1
    exact absurd c_1 (by omega)
  · skip
    have c_1 : ¬ (1 = 0) := fun h__ => c_1 ((nI_eq0 (i := 1) (by omega)).mpr h__)
    refine lv_iconst (v := nI 5) hx hb dX7_takeOut_4 (by decide) ?_
    refine lv_goto (tgt := 10) hx hb dX7_takeOut_5 (by decide) ?_
    refine lv_istore_n (lv' := [(3, .int (nI 5)), (0, .ref (b + 36)), (1, .int (nI 1)), (2, .int (nI i))]) hx hb dX7_takeOut_10 rfl hl (by decide) rfl (fun ls hl => ?_)
    refine lv_iload_n hx hb dX7_takeOut_11 rfl (lv_at hl 2 rfl) ?_
    refine lv_if_eq (tgt := 19) hx hb dX7_takeOut_12 (by decide) (fun c_12 => ?_) (fun c_12 => ?_)
    · skip
      have c_12 : 1 = 0 := (nI_eq0 (i := 1) (by omega)).mp c_12
      exact absurd c_12 (by omega)
    · skip
      have c_12 : ¬ (1 = 0) := fun h__ => c_12 ((nI_eq0 (i := 1) (by omega)).mpr h__)
      refine lv_iconst (v := nI 3) hx hb dX7_takeOut_15 (by decide) ?_
      refine lv_goto (tgt := 20) hx hb dX7_takeOut_16 (by decide) ?_
      refine lv_istore (lv' := [(4, .int (nI 3)), (3, .int (nI 5)), (0, .ref (b + 36)), (1, .int (nI 1)), (2, .int (nI i))]) hx hb dX7_takeOut_20 hl (by decide) rfl (fun ls hl => ?_)
      refine lv_aload_n hx hb dX7_takeOut_22 rfl (lv_at hl 2 rfl) ?_
      refine q_get hx hb hts hinX7 hown hG hW hm0 rfl 0 (by decide) (hts (.fieldLink RX7 7 "FoleyMixerModel" "s" "[I") (List.mem_of_getElem? (i := 1) rfl)) rfl rfl dX7_takeOut_23 ?_
      refine lv_iload_n hx hb dX7_takeOut_26 rfl (lv_at hl 1 rfl) ?_
      refine lv_dup2_11 hx hb dX7_takeOut_27 rfl rfl ?_
      refine q_iald hx hb hG hW hm1 (by omega) (by omega) dX7_takeOut_28 ?_
      refine q_top (y := nI (P.w)) (by exact congrArg nI hr5) ?_
      refine lv_iconst (v := nI 1) hx hb dX7_takeOut_29 (by decide) ?_
      refine lv_isub hx hb dX7_takeOut_30 ?_
      refine q_top (y := nI (P.w - 1)) (nI_sub (by omega)) ?_
      refine q_nast hx hb hG hW hS hm1 (by omega) (by omega) dX7_takeOut_31 (fun H locs hW hS hz31 => ?_)
      obtain ⟨w1, ew1⟩ : ∃ wq__ : Wd, wq__ = va_up w 37 (some (eN dA 85 (va_up F 5 (P.w - 1)))) := ⟨_, rfl⟩
      replace hW : WP D b w1 H := by rw [ew1]; exact hW
      have frw1 : ∀ id : Nat, id ≠ 37 → w1 id = w id := fun id h9 => by rw [ew1, up_ne h9]
      replace hm0 : w1 36 = some (modO b (sv) (nc) (th) (pl) (lt) (dn)) := (frw1 _ (by omega)).trans hm0
      replace hm1 : w1 37 = some (eN dA 85 (va_up F 5 (P.w - 1))) := by rw [ew1]; exact up_eq
      refine lv_iload_n hx hb dX7_takeOut_32 rfl (lv_at hl 3 rfl) ?_
      refine lv_iload_n hx hb dX7_takeOut_33 rfl (lv_at hl 4 rfl) ?_
      refine q_R1 (va_runS (As := [.int (nI 1), .int (nI i)]) (rest := []) ⟨hx, hb, hml, hown, hts⟩ (c_X7_whereIs_t l (i)) (va_cwS 2 hts gX7_takeOut_X7_whereIs rfl rfl rfl (by decide +kernel) ⟨Nat.le_of_ble_eq_true rfl, Nat.le_of_ble_eq_true rfl⟩) (q_preS hG hW hS) rfl rfl hl.1 rfl (lv_room (Nat.le_of_ble_eq_true rfl)) dX7_takeOut_34 ⟨Nat.le_of_ble_eq_true rfl, Nat.le_of_ble_eq_true rfl⟩) ?_
      refine lv_istore (lv' := [(5, .int (nI (7 + 3 * i))), (4, .int (nI 3)), (3, .int (nI 5)), (0, .ref (b + 36)), (1, .int (nI 1)), (2, .int (nI i))]) hx hb dX7_takeOut_37 hl (by decide) rfl (fun ls hl => ?_)
      have L39 : ∀ (n39 : Nat) (u : Nat), 7 + 3 * i ≤ u → u ≤ 7 + 3 * (P.w - 1) → 85 - u < n39 → ∀ (x39_5 : Int32), x39_5 = nI (u) → ∀ (wa : Wd) (H : Heap) (locs : List Loc), wa 36 = some (modO b sv nc th pl lt dn) → (wa 37 = some (eN dA 85 (fun j => if 7 + 3 * i ≤ j ∧ j < u then va_up F 5 (P.w - 1) (j + 3) else va_up F 5 (P.w - 1) j))) → (∀ id : Nat, id ≠ 37 → wa id = w id) → WP D b wa H → va_S (Fb b) s.heap H locs → ∀ (ls : Array Slot), lv_has ls 6 [(0, .ref (b + 36)), (1, .int (nI 1)), (2, .int (nI i)), (3, .int (nI 5)), (4, .int (nI 3)), (5, .int x39_5)] → W p l e ({ frames := 1, cells := 0, slots := 0, locals := 21 } : Room) s m args below meth c H locs 0 0 (MQ below (QW D b (none) (fun w' => ∃ F' : Nat → Nat, w' 37 = some (eN dA 85 F') ∧ rep F' (P.w - 1, delV P.W i, P.n, P.N, P.S) ∧ okP (P.w - 1, delV P.W i, P.n, P.N, P.S) ∧ ∀ id : Nat, id ≠ 37 → w' id = w id)) args s 0 0 (Fb b)) (F0 m 39 ls []) := by
        intro n39
        induction n39 with
        | zero =>
          intro u hu0 hu1 hn39 x39_5 ex39_5 wa H locs hm0 hm1 fr hW hS ls hl
          exact absurd hn39 (Nat.not_lt_zero _)
        | succ n39 ih39 =>
          intro u hu0 hu1 hn39 x39_5 ex39_5 wa H locs hm0 hm1 fr hW hS ls hl
          subst ex39_5
          refine lv_iload hx hb dX7_takeOut_39 (lv_at hl 5 rfl) ?_
          refine lv_iload_n hx hb dX7_takeOut_41 rfl (lv_at hl 1 rfl) ?_
          refine lv_aload_n hx hb dX7_takeOut_42 rfl (lv_at hl 0 rfl) ?_
          refine q_get hx hb hts hinX7 hown hG hW hm0 rfl 0 (by decide) (hts (.fieldLink RX7 7 "FoleyMixerModel" "s" "[I") (List.mem_of_getElem? (i := 1) rfl)) rfl rfl dX7_takeOut_43 ?_
          refine lv_iload_n hx hb dX7_takeOut_46 rfl (lv_at hl 3 rfl) ?_
          refine q_iald hx hb hG hW hm1 (by omega) (by omega) dX7_takeOut_47 ?_
          refine q_top (y := nI (P.w - 1)) (by refine congrArg nI ?_; show (if 7 + 3 * i ≤ 5 ∧ 5 < u then _ else va_up F 5 (P.w - 1) 5) = _; rw [if_neg (by omega)]; exact va_up_self _ _ _) ?_
          refine q_R1 (va_runS (As := [.int (nI 1), .int (nI (P.w - 1))]) (rest := [.int (nI u)]) ⟨hx, hb, hml, hown, hts⟩ (c_X7_whereIs_t l (P.w - 1)) (va_cwS 2 hts gX7_takeOut_X7_whereIs rfl rfl rfl (by decide +kernel) ⟨Nat.le_of_ble_eq_true rfl, Nat.le_of_ble_eq_true rfl⟩) (q_preS hG hW hS) rfl rfl hl.1 rfl (lv_room (Nat.le_of_ble_eq_true rfl)) dX7_takeOut_48 ⟨Nat.le_of_ble_eq_true rfl, Nat.le_of_ble_eq_true rfl⟩) ?_
          refine lv_icmp_ge (tgt := 77) hx hb dX7_takeOut_51 (by decide) (fun c_51 => ?_) (fun c_51 => ?_)
          · skip
            have c_51 : 7 + 3 * (P.w - 1) ≤ u := (nI_leI (a := 7 + 3 * (P.w - 1)) (b := u) (by omega) (by omega)).mp c_51
            exact q_wv hx hb hr hlocks hW hS dX7_takeOut_77 (by exact ⟨_, hm1, rep_delW hRp hPw hPn hi (by omega), ok_delW hP hi, fr⟩) (by decide) (by decide)
          · skip
            have c_51 : ¬ (7 + 3 * (P.w - 1) ≤ u) := fun h__ => c_51 ((nI_leI (a := 7 + 3 * (P.w - 1)) (b := u) (by omega) (by omega)).mpr h__)
            refine lv_aload_n hx hb dX7_takeOut_54 rfl (lv_at hl 0 rfl) ?_
            refine q_get hx hb hts hinX7 hown hG hW hm0 rfl 0 (by decide) (hts (.fieldLink RX7 7 "FoleyMixerModel" "s" "[I") (List.mem_of_getElem? (i := 1) rfl)) rfl rfl dX7_takeOut_55 ?_
            refine lv_iload hx hb dX7_takeOut_58 (lv_at hl 5 rfl) ?_
            refine lv_aload_n hx hb dX7_takeOut_60 rfl (lv_at hl 0 rfl) ?_
            refine q_get hx hb hts hinX7 hown hG hW hm0 rfl 0 (by decide) (hts (.fieldLink RX7 7 "FoleyMixerModel" "s" "[I") (List.mem_of_getElem? (i := 1) rfl)) rfl rfl dX7_takeOut_61 ?_
            refine lv_iload hx hb dX7_takeOut_64 (lv_at hl 5 rfl) ?_
            refine lv_iload hx hb dX7_takeOut_66 (lv_at hl 4 rfl) ?_
            refine lv_iadd hx hb dX7_takeOut_68 ?_
            refine q_top (y := nI (u + 3)) (nI_add _ _) ?_
            refine q_iald hx hb hG hW hm1 (by omega) (by omega) dX7_takeOut_69 ?_
            refine q_nast hx hb hG hW hS hm1 (by omega) (by omega) dX7_takeOut_70 (fun H locs hW hS hz70 => ?_)
            obtain ⟨w2, ew2⟩ : ∃ wq__ : Wd, wq__ = va_up wa 37 (some (eN dA 85 (va_up (fun j => if 7 + 3 * i ≤ j ∧ j < u then va_up F 5 (P.w - 1) (j + 3) else va_up F 5 (P.w - 1) j) u ((fun j => if 7 + 3 * i ≤ j ∧ j < u then va_up F 5 (P.w - 1) (j + 3) else va_up F 5 (P.w - 1) j) (u + 3))))) := ⟨_, rfl⟩
            replace hW : WP D b w2 H := by rw [ew2]; exact hW
            have frw2 : ∀ id : Nat, id ≠ 37 → w2 id = wa id := fun id h9 => by rw [ew2, up_ne h9]
            replace hm0 : w2 36 = some (modO b (sv) (nc) (th) (pl) (lt) (dn)) := (frw2 _ (by omega)).trans hm0
            replace hm1 : w2 37 = some (eN dA 85 (va_up (fun j => if 7 + 3 * i ≤ j ∧ j < u then va_up F 5 (P.w - 1) (j + 3) else va_up F 5 (P.w - 1) j) u ((fun j => if 7 + 3 * i ≤ j ∧ j < u then va_up F 5 (P.w - 1) (j + 3) else va_up F 5 (P.w - 1) j) (u + 3)))) := by rw [ew2]; exact up_eq
            refine lv_iinc (v := nI (u + 1)) (lv' := [(5, .int (nI (u + 1))), (0, .ref (b + 36)), (1, .int (nI 1)), (2, .int (nI i)), (3, .int (nI 5)), (4, .int (nI 3))]) hx hb dX7_takeOut_71 hl (k := 5) rfl (nI_add _ 1) (by decide) rfl (fun ls hl => ?_)
            refine lv_goto (tgt := 39) hx hb dX7_takeOut_74 (by decide) ?_
            exact ih39 (u + 1) (by omega) (by omega) (by omega) _ (by first | rfl | (congr 1; omega)) _ _ _ (by exact hm0) (by exact hm1.trans (eN_congr (range_step (f := fun z => va_up F 5 (P.w - 1) (z + 3)) hu0 (if_neg (by omega))))) (by intro id h9; rw [frw2 id (by omega)]; exact fr id h9) hW hS _ (lv_sub hl [1, 2, 3, 4, 5, 0] rfl)
      exact L39 ((85 - (7 + 3 * i)) + 1) (7 + 3 * i) (by omega) (by omega) (Nat.lt_succ_self _) _ (by first | rfl | (congr 1; omega)) _ _ _ (by exact hm0) (by exact hm1.trans (eN_congr (range_0 (f := fun z => va_up F 5 (P.w - 1) (z + 3))))) (by intro id h9; rw [frw1 id (by omega)]; try rfl) hW hS _ (lv_sub hl [3, 4, 5, 2, 1, 0] rfl)

set_option maxHeartbeats 300000 in
set_option maxRecDepth 100000 in
/-- add -/
theorem c_X7_add_f (l : Launch) {D : va_G} {dA : Nat → Nat} {b : Nat} {w : Wd} {sv nc th pl lt dn : Int32} (hm0 : w 36 = some (modO b sv nc th pl lt dn)) {F : Nat → Nat} (hm1 : w 37 = some (eN dA 85 F)) {P : Pl} (hRp : rep F P) (hP : okP P) (s9 l9 d9 g9 : Nat) (hn : P.n < 12) (h0 : s9 ≤ 99) (h1 : 1 ≤ l9) (h2 : l9 ≤ 20) (h3 : d9 ≤ 30) (h4 : g9 ≤ 1) : Met l yX7_add wsX7_add ({ frames := 1, cells := 0, slots := 0, locals := 21 } : Room) (PC D dA b w [.ref (b + 36), .int (nI 0), .int (nI s9), .int (nI l9), .int (nI d9), .int (nI g9)]) (QW D b (some (.int (nI (P.n)))) (fun w' => ∃ F' : Nat → Nat, w' 37 = some (eN dA 85 F') ∧ rep F' (P.w, P.W, P.n + 1, addV P.N P.n s9 l9 d9 g9, P.S) ∧ okP (P.w, P.W, P.n + 1, addV P.N P.n s9 l9 d9 g9, P.S) ∧ ∀ id : Nat, id ≠ 37 → w' id = w id)) 0 0 (Fb b) := by
  refine q_of (cc := cX7_add) (maxL := 8) (ret := (some .int)) (by decide) rfl rfl ?_
  intro p e s m args below meth c ls hx hb hr hml hts hown hlocks hG hW hS hl
  have hown : s.vm.findClass RX7 = some m.cls := hown
  have hinX7 : ∀ w ∈ u_ws RX7 TX7 14, w ∈ wsX7_add := fun w h => (goodIn_r (big := wsX7_add) (u_ws RX7 TX7 14) [6, 7, 8, 9, 10, 11, 12, 13, 14, 15, 16, 17, 18, 19] (by decide +kernel) (by decide +kernel) w h).1
  have hl : lv_has ls 8 [(0, .ref (b + 36)), (1, .int (nI 0)), (2, .int (nI s9)), (3, .int (nI l9)), (4, .int (nI d9)), (5, .int (nI g9))] := hl
  obtain ⟨hPw, hPn, hPW, hPN, hPS⟩ := id hP
  have hr5 := hRp.2.1
  have hr6 := hRp.2.2.1
  refine lv_iload_n hx hb dX7_add_0 rfl (lv_at hl 1 rfl) ?_
  refine lv_if_eq (tgt := 13) hx hb dX7_add_1 (by decide) (fun c_1 => ?_) (fun c_1 => ?_)
  · skip
    have c_1 : 0 = 0 := (nI_eq0 (i := 0) (by omega)).mp c_1
    refine lv_aload_n hx hb dX7_add_13 rfl (lv_at hl 0 rfl) ?_
    refine q_get hx hb hts hinX7 hown hG hW hm0 rfl 0 (by decide) (hts (.fieldLink RX7 7 "FoleyMixerModel" "s" "[I") (List.mem_of_getElem? (i := 1) rfl)) rfl rfl dX7_add_14 ?_
    refine lv_bipush (v := nI 6) hx hb dX7_add_17 (by decide) ?_
    refine q_iald hx hb hG hW hm1 (by omega) (by omega) dX7_add_19 ?_
    refine q_top (y := nI (P.n)) (by exact congrArg nI hr6) ?_
    refine lv_istore (lv' := [(6, .int (nI (P.n))), (0, .ref (b + 36)), (1, .int (nI 0)), (2, .int (nI s9)), (3, .int (nI l9)), (4, .int (nI d9)), (5, .int (nI g9))]) hx hb dX7_add_20 hl (by decide) rfl (fun ls hl => ?_)
    refine lv_iload_n hx hb dX7_add_22 rfl (lv_at hl 2 rfl) ?_
    refine lv_iload hx hb dX7_add_23 (lv_at hl 0 rfl) ?_
    refine q_R1 (va_runS (As := [.int (nI 0), .int (nI (P.n))]) (rest := []) ⟨hx, hb, hml, hown, hts⟩ (c_X7_whereIs_f l (P.n)) (va_cwS 2 hts gX7_add_X7_whereIs rfl rfl rfl (by decide +kernel) ⟨Nat.le_of_ble_eq_true rfl, Nat.le_of_ble_eq_true rfl⟩) (q_preS hG hW hS) rfl rfl hl.1 rfl (lv_room (Nat.le_of_ble_eq_true rfl)) dX7_add_25 ⟨Nat.le_of_ble_eq_true rfl, Nat.le_of_ble_eq_true rfl⟩) ?_
    refine lv_istore (lv' := [(7, .int (nI (37 + 4 * P.n))), (6, .int (nI (P.n))), (0, .ref (b + 36)), (1, .int (nI 0)), (2, .int (nI s9)), (3, .int (nI l9)), (4, .int (nI d9)), (5, .int (nI g9))]) hx hb dX7_add_28 hl (by decide) rfl (fun ls hl => ?_)
    refine lv_aload_n hx hb dX7_add_30 rfl (lv_at hl 2 rfl) ?_
    refine q_get hx hb hts hinX7 hown hG hW hm0 rfl 0 (by decide) (hts (.fieldLink RX7 7 "FoleyMixerModel" "s" "[I") (List.mem_of_getElem? (i := 1) rfl)) rfl rfl dX7_add_31 ?_
    refine lv_iload hx hb dX7_add_34 (lv_at hl 0 rfl) ?_
    refine lv_iconst (v := nI 0) hx hb dX7_add_36 (by decide) ?_
    refine lv_iadd hx hb dX7_add_37 ?_
    refine q_top (y := nI ((37 + 4 * P.n) + 0)) (nI_add _ _) ?_
    refine lv_iload_n hx hb dX7_add_38 rfl (lv_at hl 4 rfl) ?_
    refine q_nast hx hb hG hW hS hm1 (by omega) (by omega) dX7_add_39 (fun H locs hW hS hz39 => ?_)
    obtain ⟨w1, ew1⟩ : ∃ wq__ : Wd, wq__ = va_up w 37 (some (eN dA 85 (va_up F ((37 + 4 * P.n) + 0) s9))) := ⟨_, rfl⟩
    replace hW : WP D b w1 H := by rw [ew1]; exact hW
    have frw1 : ∀ id : Nat, id ≠ 37 → w1 id = w id := fun id h9 => by rw [ew1, up_ne h9]
    replace hm0 : w1 36 = some (modO b (sv) (nc) (th) (pl) (lt) (dn)) := (frw1 _ (by omega)).trans hm0
    replace hm1 : w1 37 = some (eN dA 85 (va_up F ((37 + 4 * P.n) + 0) s9)) := by rw [ew1]; exact up_eq
    refine lv_aload_n hx hb dX7_add_40 rfl (lv_at hl 2 rfl) ?_
    refine q_get hx hb hts hinX7 hown hG hW hm0 rfl 0 (by decide) (hts (.fieldLink RX7 7 "FoleyMixerModel" "s" "[I") (List.mem_of_getElem? (i := 1) rfl)) rfl rfl dX7_add_41 ?_
    refine lv_iload hx hb dX7_add_44 (lv_at hl 0 rfl) ?_
    refine lv_iconst (v := nI 1) hx hb dX7_add_46 (by decide) ?_
    refine lv_iadd hx hb dX7_add_47 ?_
    refine q_top (y := nI ((37 + 4 * P.n) + 1)) (nI_add _ _) ?_
    refine lv_iload_n hx hb dX7_add_48 rfl (lv_at hl 5 rfl) ?_
    refine q_nast hx hb hG hW hS hm1 (by omega) (by omega) dX7_add_49 (fun H locs hW hS hz49 => ?_)
    obtain ⟨w2, ew2⟩ : ∃ wq__ : Wd, wq__ = va_up w1 37 (some (eN dA 85 (va_up (va_up F ((37 + 4 * P.n) + 0) s9) ((37 + 4 * P.n) + 1) l9))) := ⟨_, rfl⟩
    replace hW : WP D b w2 H := by rw [ew2]; exact hW
    have frw2 : ∀ id : Nat, id ≠ 37 → w2 id = w1 id := fun id h9 => by rw [ew2, up_ne h9]
    replace hm0 : w2 36 = some (modO b (sv) (nc) (th) (pl) (lt) (dn)) := (frw2 _ (by omega)).trans hm0
    replace hm1 : w2 37 = some (eN dA 85 (va_up (va_up F ((37 + 4 * P.n) + 0) s9) ((37 + 4 * P.n) + 1) l9)) := by rw [ew2]; exact up_eq
    refine lv_aload_n hx hb dX7_add_50 rfl (lv_at hl 2 rfl) ?_
    refine q_get hx hb hts hinX7 hown hG hW hm0 rfl 0 (by decide) (hts (.fieldLink RX7 7 "FoleyMixerModel" "s" "[I") (List.mem_of_getElem? (i := 1) rfl)) rfl rfl dX7_add_51 ?_
    refine lv_iload hx hb dX7_add_54 (lv_at hl 0 rfl) ?_
    refine lv_iconst (v := nI 2) hx hb dX7_add_56 (by decide) ?_
    refine lv_iadd hx hb dX7_add_57 ?_
    refine q_top (y := nI ((37 + 4 * P.n) + 2)) (nI_add _ _) ?_
    refine lv_iload hx hb dX7_add_58 (lv_at hl 6 rfl) ?_
    refine q_nast hx hb hG hW hS hm1 (by omega) (by omega) dX7_add_60 (fun H locs hW hS hz60 => ?_)
    obtain ⟨w3, ew3⟩ : ∃ wq__ : Wd, wq__ = va_up w2 37 (some (eN dA 85 (va_up (va_up (va_up F ((37 + 4 * P.n) + 0) s9) ((37 + 4 * P.n) + 1) l9) ((37 + 4 * P.n) + 2) d9))) := ⟨_, rfl⟩
    replace hW : WP D b w3 H := by rw [ew3]; exact hW
    have frw3 : ∀ id : Nat, id ≠ 37 → w3 id = w2 id := fun id h9 => by rw [ew3, up_ne h9]
    replace hm0 : w3 36 = some (modO b (sv) (nc) (th) (pl) (lt) (dn)) := (frw3 _ (by omega)).trans hm0
    replace hm1 : w3 37 = some (eN dA 85 (va_up (va_up (va_up F ((37 + 4 * P.n) + 0) s9) ((37 + 4 * P.n) + 1) l9) ((37 + 4 * P.n) + 2) d9)) := by rw [ew3]; exact up_eq
    refine lv_iload_n hx hb dX7_add_61 rfl (lv_at hl 3 rfl) ?_
    refine lv_if_ne (tgt := 76) hx hb dX7_add_62 (by decide) (fun c_62 => ?_) (fun c_62 => ?_)
    · skip
      have c_62 : ¬ (0 = 0) := fun h__ => c_62 ((nI_eq0 (i := 0) (by omega)).mpr h__)
      exact absurd c_62 (by omega)
    · skip
      have c_62 : 0 = 0 := (nI_eq0 (i := 0) (by omega)).mp c_62
      refine lv_aload_n hx hb dX7_add_65 rfl (lv_at hl 2 rfl) ?_
      refine q_get hx hb hts hinX7 hown hG hW hm0 rfl 0 (by decide) (hts (.fieldLink RX7 7 "FoleyMixerModel" "s" "[I") (List.mem_of_getElem? (i := 1) rfl)) rfl rfl dX7_add_66 ?_
      refine lv_iload hx hb dX7_add_69 (lv_at hl 0 rfl) ?_
      refine lv_iconst (v := nI 3) hx hb dX7_add_71 (by decide) ?_
      refine lv_iadd hx hb dX7_add_72 ?_
      refine q_top (y := nI ((37 + 4 * P.n) + 3)) (nI_add _ _) ?_
      refine lv_iload hx hb dX7_add_73 (lv_at hl 7 rfl) ?_
      refine q_nast hx hb hG hW hS hm1 (by omega) (by omega) dX7_add_75 (fun H locs hW hS hz75 => ?_)
      obtain ⟨w4, ew4⟩ : ∃ wq__ : Wd, wq__ = va_up w3 37 (some (eN dA 85 (va_up (va_up (va_up (va_up F ((37 + 4 * P.n) + 0) s9) ((37 + 4 * P.n) + 1) l9) ((37 + 4 * P.n) + 2) d9) ((37 + 4 * P.n) + 3) g9))) := ⟨_, rfl⟩
      replace hW : WP D b w4 H := by rw [ew4]; exact hW
      have frw4 : ∀ id : Nat, id ≠ 37 → w4 id = w3 id := fun id h9 => by rw [ew4, up_ne h9]
      replace hm0 : w4 36 = some (modO b (sv) (nc) (th) (pl) (lt) (dn)) := (frw4 _ (by omega)).trans hm0
      replace hm1 : w4 37 = some (eN dA 85 (va_up (va_up (va_up (va_up F ((37 + 4 * P.n) + 0) s9) ((37 + 4 * P.n) + 1) l9) ((37 + 4 * P.n) + 2) d9) ((37 + 4 * P.n) + 3) g9)) := by rw [ew4]; exact up_eq
      refine lv_aload_n hx hb dX7_add_76 rfl (lv_at hl 2 rfl) ?_
      refine q_get hx hb hts hinX7 hown hG hW hm0 rfl 0 (by decide) (hts (.fieldLink RX7 7 "FoleyMixerModel" "s" "[I") (List.mem_of_getElem? (i := 1) rfl)) rfl rfl dX7_add_77 ?_
      refine lv_iload_n hx hb dX7_add_80 rfl (lv_at hl 3 rfl) ?_
      refine lv_if_eq (tgt := 88) hx hb dX7_add_81 (by decide) (fun c_81 => ?_) (fun c_81 => ?_)
      · skip
        have c_81 : 0 = 0 := (nI_eq0 (i := 0) (by omega)).mp c_81
        refine lv_bipush (v := nI 6) hx hb dX7_add_88 (by decide) ?_
        refine lv_dup2_11 hx hb dX7_add_90 rfl rfl ?_
        refine q_iald hx hb hG hW hm1 (by omega) (by omega) dX7_add_91 ?_
        refine q_top (y := nI (P.n)) (by refine congrArg nI ?_; rw [va_up_ne _ _ (by omega), va_up_ne _ _ (by omega), va_up_ne _ _ (by omega), va_up_ne _ _ (by omega)]; exact hr6) ?_
        refine lv_iconst (v := nI 1) hx hb dX7_add_92 (by decide) ?_
        refine lv_iadd hx hb dX7_add_93 ?_
        refine q_top (y := nI (P.n + 1)) (nI_add _ _) ?_
        refine q_nast hx hb hG hW hS hm1 (by omega) (by omega) dX7_add_94 (fun H locs hW hS hz94 => ?_)
        obtain ⟨w5, ew5⟩ : ∃ wq__ : Wd, wq__ = va_up w4 37 (some (eN dA 85 (va_up (va_up (va_up (va_up (va_up F ((37 + 4 * P.n) + 0) s9) ((37 + 4 * P.n) + 1) l9) ((37 + 4 * P.n) + 2) d9) ((37 + 4 * P.n) + 3) g9) 6 (P.n + 1)))) := ⟨_, rfl⟩
        replace hW : WP D b w5 H := by rw [ew5]; exact hW
        have frw5 : ∀ id : Nat, id ≠ 37 → w5 id = w4 id := fun id h9 => by rw [ew5, up_ne h9]
        replace hm0 : w5 36 = some (modO b (sv) (nc) (th) (pl) (lt) (dn)) := (frw5 _ (by omega)).trans hm0
        replace hm1 : w5 37 = some (eN dA 85 (va_up (va_up (va_up (va_up (va_up F ((37 + 4 * P.n) + 0) s9) ((37 + 4 * P.n) + 1) l9) ((37 + 4 * P.n) + 2) d9) ((37 + 4 * P.n) + 3) g9) 6 (P.n + 1))) := by rw [ew5]; exact up_eq
        refine lv_iload hx hb dX7_add_95 (lv_at hl 1 rfl) ?_
        exact q_wi hx hb hr hlocks hW hS dX7_add_97 (by rfl) (by exact ⟨_, hm1, rep_addN hRp hPw (by omega) s9 l9 d9 g9, ok_addN hP (by omega) h0 h1 h2 h3 h4, by intro id h9; rw [frw5 id (by omega)]; rw [frw4 id (by omega)]; rw [frw3 id (by omega)]; rw [frw2 id (by omega)]; rw [frw1 id (by omega)]; try rfl⟩) (by decide) (by decide)
      · skip
        have c_81 : ¬ (0 = 0) := fun h__ => c_81 ((nI_eq0 (i := 0) (by omega)).mpr h__)
        exact absurd c_81 (by omega)
  · skip
    have c_1 : ¬ (0 = 0) := fun h__ => c_1 ((nI_eq0 (i := 0) (by omega)).mpr h__)
    exact absurd c_1 (by omega)

set_option maxHeartbeats 300000 in
set_option maxRecDepth 100000 in
/-- takeOut -/
theorem c_X7_takeOut_f (l : Launch) {D : va_G} {dA : Nat → Nat} {b : Nat} {w : Wd} {sv nc th pl lt dn : Int32} (hm0 : w 36 = some (modO b sv nc th pl lt dn)) {F : Nat → Nat} (hm1 : w 37 = some (eN dA 85 F)) {P : Pl} (hRp : rep F P) (hP : okP P) (i : Nat) (hi : i < P.n) : Met l yX7_takeOut wsX7_takeOut ({ frames := 1, cells := 0, slots := 0, locals := 21 } : Room) (PC D dA b w [.ref (b + 36), .int (nI 0), .int (nI i)]) (QW D b (none) (fun w' => ∃ F' : Nat → Nat, w' 37 = some (eN dA 85 F') ∧ rep F' (P.w, P.W, P.n - 1, delV P.N i, P.S) ∧ okP (P.w, P.W, P.n - 1, delV P.N i, P.S) ∧ ∀ id : Nat, id ≠ 37 → w' id = w id)) 0 0 (Fb b) := by
  refine q_of (cc := cX7_takeOut) (maxL := 6) (ret := none) (by decide) rfl rfl ?_
  intro p e s m args below meth c ls hx hb hr hml hts hown hlocks hG hW hS hl
  have hown : s.vm.findClass RX7 = some m.cls := hown
  have hinX7 : ∀ w ∈ u_ws RX7 TX7 14, w ∈ wsX7_takeOut := fun w h => (goodIn_r (big := wsX7_takeOut) (u_ws RX7 TX7 14) [6, 7, 8, 9, 10, 11, 12, 13, 14, 15, 16, 17, 18, 19] (by decide +kernel) (by decide +kernel) w h).1
  have hl : lv_has ls 6 [(0, .ref (b + 36)), (1, .int (nI 0)), (2, .int (nI i))] := hl
  obtain ⟨hPw, hPn, hPW, hPN, hPS⟩ := id hP
  have hr5 := hRp.2.1
  have hr6 := hRp.2.2.1
  refine lv_iload_n hx hb dX7_takeOut_0 rfl (lv_at hl 1 rfl) ?_
  refine lv_if_eq (tgt := 8) hx hb dX7_takeOut_1 (by decide) (fun c_1 => ?_) (fun c_1 => ?_)
  · skip
    have c_1 : 0 = 0 := (nI_eq0 (i := 0) (by omega)).mp c_1
    refine lv_bipush (v := nI 6) hx hb dX7_takeOut_8 (by decide) ?_
    refine lv_istore_n (lv' := [(3, .int (nI 6)), (0, .ref (b + 36)), (1, .int (nI 0)), (2, .int (nI i))]) hx hb dX7_takeOut_10 rfl hl (by decide) rfl (fun ls hl => ?_)
    refine lv_iload_n hx hb dX7_takeOut_11 rfl (lv_at hl 2 rfl) ?_
    refine lv_if_eq (tgt := 19) hx hb dX7_takeOut_12 (by decide) (fun c_12 => ?_) (fun c_12 => ?_)
    · skip
      have c_12 : 0 = 0 := (nI_eq0 (i := 0) (by omega)).mp c_12
      refine lv_iconst (v := nI 4) hx hb dX7_takeOut_19 (by decide) ?_
      refine lv_istore (lv' := [(4, .int (nI 4)), (3, .int (nI 6)), (0, .ref (b + 36)), (1, .int (nI 0)), (2, .int (nI i))]) hx hb dX7_takeOut_20 hl (by decide) rfl (fun ls hl => ?_)
      refine lv_aload_n hx hb dX7_takeOut_22 rfl (lv_at hl 2 rfl) ?_
      refine q_get hx hb hts hinX7 hown hG hW hm0 rfl 0 (by decide) (hts (.fieldLink RX7 7 "FoleyMixerModel" "s" "[I") (List.mem_of_getElem? (i := 1) rfl)) rfl rfl dX7_takeOut_23 ?_
      refine lv_iload_n hx hb dX7_takeOut_26 rfl (lv_at hl 1 rfl) ?_
      refine lv_dup2_11 hx hb dX7_takeOut_27 rfl rfl ?_
      refine q_iald hx hb hG hW hm1 (by omega) (by omega) dX7_takeOut_28 ?_
      refine q_top (y := nI (P.n)) (by exact congrArg nI hr6) ?_
      refine lv_iconst (v := nI 1) hx hb dX7_takeOut_29 (by decide) ?_
      refine lv_isub hx hb dX7_takeOut_30 ?_
      refine q_top (y := nI (P.n - 1)) (nI_sub (by omega)) ?_
      refine q_nast hx hb hG hW hS hm1 (by omega) (by omega) dX7_takeOut_31 (fun H locs hW hS hz31 => ?_)
      obtain ⟨w1, ew1⟩ : ∃ wq__ : Wd, wq__ = va_up w 37 (some (eN dA 85 (va_up F 6 (P.n - 1)))) := ⟨_, rfl⟩
      replace hW : WP D b w1 H := by rw [ew1]; exact hW
      have frw1 : ∀ id : Nat, id ≠ 37 → w1 id = w id := fun id h9 => by rw [ew1, up_ne h9]
      replace hm0 : w1 36 = some (modO b (sv) (nc) (th) (pl) (lt) (dn)) := (frw1 _ (by omega)).trans hm0
      replace hm1 : w1 37 = some (eN dA 85 (va_up F 6 (P.n - 1))) := by rw [ew1]; exact up_eq
      refine lv_iload_n hx hb dX7_takeOut_32 rfl (lv_at hl 3 rfl) ?_
      refine lv_iload_n hx hb dX7_takeOut_33 rfl (lv_at hl 4 rfl) ?_
      refine q_R1 (va_runS (As := [.int (nI 0), .int (nI i)]) (rest := []) ⟨hx, hb, hml, hown, hts⟩ (c_X7_whereIs_f l (i)) (va_cwS 2 hts gX7_takeOut_X7_whereIs rfl rfl rfl (by decide +kernel) ⟨Nat.le_of_ble_eq_true rfl, Nat.le_of_ble_eq_true rfl⟩) (q_preS hG hW hS) rfl rfl hl.1 rfl (lv_room (Nat.le_of_ble_eq_true rfl)) dX7_takeOut_34 ⟨Nat.le_of_ble_eq_true rfl, Nat.le_of_ble_eq_true rfl⟩) ?_
      refine lv_istore (lv' := [(5, .int (nI (37 + 4 * i))), (4, .int (nI 4)), (3, .int (nI 6)), (0, .ref (b + 36)), (1, .int (nI 0)), (2, .int (nI i))]) hx hb dX7_takeOut_37 hl (by decide) rfl (fun ls hl => ?_)
      have L39 : ∀ (n39 : Nat) (u : Nat), 37 + 4 * i ≤ u → u ≤ 37 + 4 * (P.n - 1) → 85 - u < n39 → ∀ (x39_5 : Int32), x39_5 = nI (u) → ∀ (wa : Wd) (H : Heap) (locs : List Loc), wa 36 = some (modO b sv nc th pl lt dn) → (wa 37 = some (eN dA 85 (fun j => if 37 + 4 * i ≤ j ∧ j < u then va_up F 6 (P.n - 1) (j + 4) else va_up F 6 (P.n - 1) j))) → (∀ id : Nat, id ≠ 37 → wa id = w id) → WP D b wa H → va_S (Fb b) s.heap H locs → ∀ (ls : Array Slot), lv_has ls 6 [(0, .ref (b + 36)), (1, .int (nI 0)), (2, .int (nI i)), (3, .int (nI 6)), (4, .int (nI 4)), (5, .int x39_5)] → W p l e ({ frames := 1, cells := 0, slots := 0, locals := 21 } : Room) s m args below meth c H locs 0 0 (MQ below (QW D b (none) (fun w' => ∃ F' : Nat → Nat, w' 37 = some (eN dA 85 F') ∧ rep F' (P.w, P.W, P.n - 1, delV P.N i, P.S) ∧ okP (P.w, P.W, P.n - 1, delV P.N i, P.S) ∧ ∀ id : Nat, id ≠ 37 → w' id = w id)) args s 0 0 (Fb b)) (F0 m 39 ls []) := by
        intro n39
        induction n39 with
        | zero =>
          intro u hu0 hu1 hn39 x39_5 ex39_5 wa H locs hm0 hm1 fr hW hS ls hl
          exact absurd hn39 (Nat.not_lt_zero _)
        | succ n39 ih39 =>
          intro u hu0 hu1 hn39 x39_5 ex39_5 wa H locs hm0 hm1 fr hW hS ls hl
          subst ex39_5
          refine lv_iload hx hb dX7_takeOut_39 (lv_at hl 5 rfl) ?_
          refine lv_iload_n hx hb dX7_takeOut_41 rfl (lv_at hl 1 rfl) ?_
          refine lv_aload_n hx hb dX7_takeOut_42 rfl (lv_at hl 0 rfl) ?_
          refine q_get hx hb hts hinX7 hown hG hW hm0 rfl 0 (by decide) (hts (.fieldLink RX7 7 "FoleyMixerModel" "s" "[I") (List.mem_of_getElem? (i := 1) rfl)) rfl rfl dX7_takeOut_43 ?_
          refine lv_iload_n hx hb dX7_takeOut_46 rfl (lv_at hl 3 rfl) ?_
          refine q_iald hx hb hG hW hm1 (by omega) (by omega) dX7_takeOut_47 ?_
          refine q_top (y := nI (P.n - 1)) (by refine congrArg nI ?_; show (if 37 + 4 * i ≤ 6 ∧ 6 < u then _ else va_up F 6 (P.n - 1) 6) = _; rw [if_neg (by omega)]; exact va_up_self _ _ _) ?_
          refine q_R1 (va_runS (As := [.int (nI 0), .int (nI (P.n - 1))]) (rest := [.int (nI u)]) ⟨hx, hb, hml, hown, hts⟩ (c_X7_whereIs_f l (P.n - 1)) (va_cwS 2 hts gX7_takeOut_X7_whereIs rfl rfl rfl (by decide +kernel) ⟨Nat.le_of_ble_eq_true rfl, Nat.le_of_ble_eq_true rfl⟩) (q_preS hG hW hS) rfl rfl hl.1 rfl (lv_room (Nat.le_of_ble_eq_true rfl)) dX7_takeOut_48 ⟨Nat.le_of_ble_eq_true rfl, Nat.le_of_ble_eq_true rfl⟩) ?_
          refine lv_icmp_ge (tgt := 77) hx hb dX7_takeOut_51 (by decide) (fun c_51 => ?_) (fun c_51 => ?_)
          · skip
            have c_51 : 37 + 4 * (P.n - 1) ≤ u := (nI_leI (a := 37 + 4 * (P.n - 1)) (b := u) (by omega) (by omega)).mp c_51
            exact q_wv hx hb hr hlocks hW hS dX7_takeOut_77 (by exact ⟨_, hm1, rep_delN hRp hPw hPn hi (by omega), ok_delN hP hi, fr⟩) (by decide) (by decide)
          · skip
            have c_51 : ¬ (37 + 4 * (P.n - 1) ≤ u) := fun h__ => c_51 ((nI_leI (a := 37 + 4 * (P.n - 1)) (b := u) (by omega) (by omega)).mpr h__)
            refine lv_aload_n hx hb dX7_takeOut_54 rfl (lv_at hl 0 rfl) ?_
            refine q_get hx hb hts hinX7 hown hG hW hm0 rfl 0 (by decide) (hts (.fieldLink RX7 7 "FoleyMixerModel" "s" "[I") (List.mem_of_getElem? (i := 1) rfl)) rfl rfl dX7_takeOut_55 ?_
            refine lv_iload hx hb dX7_takeOut_58 (lv_at hl 5 rfl) ?_
            refine lv_aload_n hx hb dX7_takeOut_60 rfl (lv_at hl 0 rfl) ?_
            refine q_get hx hb hts hinX7 hown hG hW hm0 rfl 0 (by decide) (hts (.fieldLink RX7 7 "FoleyMixerModel" "s" "[I") (List.mem_of_getElem? (i := 1) rfl)) rfl rfl dX7_takeOut_61 ?_
            refine lv_iload hx hb dX7_takeOut_64 (lv_at hl 5 rfl) ?_
            refine lv_iload hx hb dX7_takeOut_66 (lv_at hl 4 rfl) ?_
            refine lv_iadd hx hb dX7_takeOut_68 ?_
            refine q_top (y := nI (u + 4)) (nI_add _ _) ?_
            refine q_iald hx hb hG hW hm1 (by omega) (by omega) dX7_takeOut_69 ?_
            refine q_nast hx hb hG hW hS hm1 (by omega) (by omega) dX7_takeOut_70 (fun H locs hW hS hz70 => ?_)
            obtain ⟨w2, ew2⟩ : ∃ wq__ : Wd, wq__ = va_up wa 37 (some (eN dA 85 (va_up (fun j => if 37 + 4 * i ≤ j ∧ j < u then va_up F 6 (P.n - 1) (j + 4) else va_up F 6 (P.n - 1) j) u ((fun j => if 37 + 4 * i ≤ j ∧ j < u then va_up F 6 (P.n - 1) (j + 4) else va_up F 6 (P.n - 1) j) (u + 4))))) := ⟨_, rfl⟩
            replace hW : WP D b w2 H := by rw [ew2]; exact hW
            have frw2 : ∀ id : Nat, id ≠ 37 → w2 id = wa id := fun id h9 => by rw [ew2, up_ne h9]
            replace hm0 : w2 36 = some (modO b (sv) (nc) (th) (pl) (lt) (dn)) := (frw2 _ (by omega)).trans hm0
            replace hm1 : w2 37 = some (eN dA 85 (va_up (fun j => if 37 + 4 * i ≤ j ∧ j < u then va_up F 6 (P.n - 1) (j + 4) else va_up F 6 (P.n - 1) j) u ((fun j => if 37 + 4 * i ≤ j ∧ j < u then va_up F 6 (P.n - 1) (j + 4) else va_up F 6 (P.n - 1) j) (u + 4)))) := by rw [ew2]; exact up_eq
            refine lv_iinc (v := nI (u + 1)) (lv' := [(5, .int (nI (u + 1))), (0, .ref (b + 36)), (1, .int (nI 0)), (2, .int (nI i)), (3, .int (nI 6)), (4, .int (nI 4))]) hx hb dX7_takeOut_71 hl (k := 5) rfl (nI_add _ 1) (by decide) rfl (fun ls hl => ?_)
            refine lv_goto (tgt := 39) hx hb dX7_takeOut_74 (by decide) ?_
            exact ih39 (u + 1) (by omega) (by omega) (by omega) _ (by first | rfl | (congr 1; omega)) _ _ _ (by exact hm0) (by exact hm1.trans (eN_congr (range_step (f := fun z => va_up F 6 (P.n - 1) (z + 4)) hu0 (if_neg (by omega))))) (by intro id h9; rw [frw2 id (by omega)]; exact fr id h9) hW hS _ (lv_sub hl [1, 2, 3, 4, 5, 0] rfl)
      exact L39 ((85 - (37 + 4 * i)) + 1) (37 + 4 * i) (by omega) (by omega) (Nat.lt_succ_self _) _ (by first | rfl | (congr 1; omega)) _ _ _ (by exact hm0) (by exact hm1.trans (eN_congr (range_0 (f := fun z => va_up F 6 (P.n - 1) (z + 4))))) (by intro id h9; rw [frw1 id (by omega)]; try rfl) hW hS _ (lv_sub hl [3, 4, 5, 2, 1, 0] rfl)
    · skip
      have c_12 : ¬ (0 = 0) := fun h__ => c_12 ((nI_eq0 (i := 0) (by omega)).mpr h__)
      exact absurd c_12 (by omega)
  · skip
    have c_1 : ¬ (0 = 0) := fun h__ => c_1 ((nI_eq0 (i := 0) (by omega)).mpr h__)
    exact absurd c_1 (by omega)

set_option maxHeartbeats 300000 in
set_option maxRecDepth 100000 in
/-- isValue -/
theorem c_X7_isValue (l : Launch) {D : va_G} {dA : Nat → Nat} {b : Nat} {w : Wd} (i : Nat) (hi : i < 5) (x : Int32) : Met l yX7_isValue wsX7_isValue ({ frames := 1, cells := 0, slots := 0, locals := 22 } : Room) (PC D dA b w [.int (nI i), .int (x)]) (QR (some (.int (if fitS i x then 1 else 0)))) 0 0 Fno := by
  refine q_of (cc := cX7_isValue) (maxL := 2) (ret := (some .boolean)) (by decide) rfl rfl ?_
  intro p e s m args below meth c ls hx hb hr hml hts hown hlocks hG hW hS hl
  have hown : s.vm.findClass RX7 = some m.cls := hown
  have hl : lv_has ls 2 [(0, .int (nI i)), (1, .int (x))] := hl
  refine lv_iload_n hx hb dX7_isValue_0 rfl (lv_at hl 0 rfl) ?_
  refine lv_iconst (v := nI 1) hx hb dX7_isValue_1 (by decide) ?_
  refine lv_icmp_ne (tgt := 15) hx hb dX7_isValue_2 (by decide) (fun c_2 => ?_) (fun c_2 => ?_)
  · skip
    have c_2 : ¬ (i = 1) := fun h__ => c_2 ((nI_eq (a := i) (b := 1) (by omega) (by omega)).mpr h__)
    refine lv_iload_n hx hb dX7_isValue_15 rfl (lv_at hl 1 rfl) ?_
    refine lv_iconst (v := nI 0) hx hb dX7_isValue_16 (by decide) ?_
    refine lv_iload_n hx hb dX7_isValue_17 rfl (lv_at hl 0 rfl) ?_
    refine lv_if_ne (tgt := 26) hx hb dX7_isValue_18 (by decide) (fun c_18 => ?_) (fun c_18 => ?_)
    · skip
      have c_18 : ¬ (i = 0) := fun h__ => c_18 ((nI_eq0 (i := i) (by omega)).mpr h__)
      refine lv_iload_n hx hb dX7_isValue_26 rfl (lv_at hl 0 rfl) ?_
      refine lv_iconst (v := nI 2) hx hb dX7_isValue_27 (by decide) ?_
      refine lv_icmp_ne (tgt := 35) hx hb dX7_isValue_28 (by decide) (fun c_28 => ?_) (fun c_28 => ?_)
      · skip
        have c_28 : ¬ (i = 2) := fun h__ => c_28 ((nI_eq (a := i) (b := 2) (by omega) (by omega)).mpr h__)
        refine lv_bipush (v := nI 10) hx hb dX7_isValue_35 (by decide) ?_
        refine q_R1 (va_runS (As := [.int (x), .int (nI 0), .int (nI 10)]) (rest := []) ⟨hx, hb, hml, hown, hts⟩ (c_X7_in l (x) (nI (0)) (nI (10))) (va_cwS 3 hts gX7_isValue_X7_in rfl rfl rfl (by decide +kernel) ⟨Nat.le_of_ble_eq_true rfl, Nat.le_of_ble_eq_true rfl⟩) (q_preS hG hW hS) rfl rfl hl.1 rfl (lv_room (Nat.le_of_ble_eq_true rfl)) dX7_isValue_37 ⟨Nat.le_of_ble_eq_true rfl, Nat.le_of_ble_eq_true rfl⟩) ?_
        exact q_rz hx hb hr hlocks dX7_isValue_40 (by first | (cases (show i = 1 from by omega); rfl) | (cases (show i = 0 from by omega); rfl) | (cases (show i = 2 from by omega); rfl) | (rcases (show i = 3 ∨ i = 4 from by omega) with rfl | rfl <;> rfl)) (q_bn _)
      · skip
        have c_28 : i = 2 := (nI_eq (a := i) (b := 2) (by omega) (by omega)).mp c_28
        refine lv_iconst (v := nI 5) hx hb dX7_isValue_31 (by decide) ?_
        refine lv_goto (tgt := 37) hx hb dX7_isValue_32 (by decide) ?_
        refine q_R1 (va_runS (As := [.int (x), .int (nI 0), .int (nI 5)]) (rest := []) ⟨hx, hb, hml, hown, hts⟩ (c_X7_in l (x) (nI (0)) (nI (5))) (va_cwS 3 hts gX7_isValue_X7_in rfl rfl rfl (by decide +kernel) ⟨Nat.le_of_ble_eq_true rfl, Nat.le_of_ble_eq_true rfl⟩) (q_preS hG hW hS) rfl rfl hl.1 rfl (lv_room (Nat.le_of_ble_eq_true rfl)) dX7_isValue_37 ⟨Nat.le_of_ble_eq_true rfl, Nat.le_of_ble_eq_true rfl⟩) ?_
        exact q_rz hx hb hr hlocks dX7_isValue_40 (by first | (cases (show i = 1 from by omega); rfl) | (cases (show i = 0 from by omega); rfl) | (cases (show i = 2 from by omega); rfl) | (rcases (show i = 3 ∨ i = 4 from by omega) with rfl | rfl <;> rfl)) (q_bn _)
    · skip
      have c_18 : i = 0 := (nI_eq0 (i := i) (by omega)).mp c_18
      refine lv_bipush (v := nI 20) hx hb dX7_isValue_21 (by decide) ?_
      refine lv_goto (tgt := 37) hx hb dX7_isValue_23 (by decide) ?_
      refine q_R1 (va_runS (As := [.int (x), .int (nI 0), .int (nI 20)]) (rest := []) ⟨hx, hb, hml, hown, hts⟩ (c_X7_in l (x) (nI (0)) (nI (20))) (va_cwS 3 hts gX7_isValue_X7_in rfl rfl rfl (by decide +kernel) ⟨Nat.le_of_ble_eq_true rfl, Nat.le_of_ble_eq_true rfl⟩) (q_preS hG hW hS) rfl rfl hl.1 rfl (lv_room (Nat.le_of_ble_eq_true rfl)) dX7_isValue_37 ⟨Nat.le_of_ble_eq_true rfl, Nat.le_of_ble_eq_true rfl⟩) ?_
      exact q_rz hx hb hr hlocks dX7_isValue_40 (by first | (cases (show i = 1 from by omega); rfl) | (cases (show i = 0 from by omega); rfl) | (cases (show i = 2 from by omega); rfl) | (rcases (show i = 3 ∨ i = 4 from by omega) with rfl | rfl <;> rfl)) (q_bn _)
  · skip
    have c_2 : i = 1 := (nI_eq (a := i) (b := 1) (by omega) (by omega)).mp c_2
    refine lv_iload_n hx hb dX7_isValue_5 rfl (lv_at hl 1 rfl) ?_
    refine lv_iconst (v := nI 1) hx hb dX7_isValue_6 (by decide) ?_
    refine lv_bipush (v := nI 20) hx hb dX7_isValue_7 (by decide) ?_
    refine q_R1 (va_runS (As := [.int (x), .int (nI 1), .int (nI 20)]) (rest := []) ⟨hx, hb, hml, hown, hts⟩ (c_X7_in l (x) (nI (1)) (nI (20))) (va_cwS 3 hts gX7_isValue_X7_in rfl rfl rfl (by decide +kernel) ⟨Nat.le_of_ble_eq_true rfl, Nat.le_of_ble_eq_true rfl⟩) (q_preS hG hW hS) rfl rfl hl.1 rfl (lv_room (Nat.le_of_ble_eq_true rfl)) dX7_isValue_9 ⟨Nat.le_of_ble_eq_true rfl, Nat.le_of_ble_eq_true rfl⟩) ?_
    refine lv_goto (tgt := 40) hx hb dX7_isValue_12 (by decide) ?_
    exact q_rz hx hb hr hlocks dX7_isValue_40 (by first | (cases (show i = 1 from by omega); rfl) | (cases (show i = 0 from by omega); rfl) | (cases (show i = 2 from by omega); rfl) | (rcases (show i = 3 ∨ i = 4 from by omega) with rfl | rfl <;> rfl)) (q_bn _)

