-- THE READER: part, kind, numbers (none: not begun)
/-- a number, or NONE -/
def oI : Option Nat → Int32
  | none => -1
  | some v => nI v
abbrev Rd : Type := Nat × Int32 × (Nat → Option Nat)
def cLo (i : Nat) : Nat := ([0, 1, 1] : List Nat).getD i 0
def cHi (i : Nat) : Nat := ([99, 20, 30] : List Nat).getD i 0
def sgn (i : Nat) : Nat := ([43, 64, 59] : List Nat).getD i 0
theorem cHi_le : ∀ i, cHi i ≤ 99 := by
  intro i
  match i with
  | 0 => decide
  | 1 => decide
  | 2 => decide
  | i + 3 => simp [cHi]
theorem sgn_le : ∀ i, sgn i ≤ 64 := by
  intro i
  match i with
  | 0 => decide
  | 1 => decide
  | 2 => decide
  | i + 3 => simp [sgn]
abbrev fitI (i : Nat) (v : Int32) : Prop := nI (cLo i) ≤ v ∧ v ≤ nI (cHi i)
theorem cLo_le : ∀ i, cLo i ≤ 1 := by
  intro i
  match i with
  | 0 => decide
  | 1 => decide
  | 2 => decide
  | i + 3 => simp [cLo]
theorem fitI_n {i v : Nat} (hv : v < 2 ^ 31) : fitI i (nI v) ↔ (cLo i ≤ v ∧ v ≤ cHi i) := by
  have h1 := cLo_le i
  have h2 := cHi_le i
  unfold fitI
  rw [nI_leI (by omega) hv, nI_leI hv (by omega)]
theorem oI_none {o : Option Nat} (h : ∀ v, o = some v → v < 2 ^ 31) : oI o = -1 ↔ o = none := by
  cases o with
  | none => simp [oI]
  | some v =>
    have hv := h v rfl
    constructor
    · intro q
      have q2 := congrArg Int32.toInt q
      rw [show oI (some v) = nI v from rfl, nI_toInt hv] at q2
      have : ((-1 : Int32)).toInt = -1 := by decide
      omega
    · intro q; cases q
theorem oI_some {o : Option Nat} (h : ∀ v, o = some v → v < 2 ^ 31) {m : Nat} (hm : m < 2 ^ 31) : oI o = nI m ↔ o = some m := by
  cases o with
  | none =>
    constructor
    · intro q
      have q2 := congrArg Int32.toInt q
      rw [nI_toInt hm] at q2
      have : (oI none).toInt = -1 := by decide
      omega
    · intro q; cases q
  | some v =>
    rw [show oI (some v) = nI v from rfl, nI_eq (h v rfl) hm]
    simp
def kOk (c : Option Nat) : Bool := decide (c = some 119) || decide (c = some 110) || decide (c = some 78)
def rbeg (R : Rd) (p : Nat) : Rd := (p, R.2.1, if p < 3 then va_up R.2.2 p none else R.2.2)
def dval (R : Rd) (d : Nat) : Nat := match R.2.2 R.1 with
  | none => d
  | some v => v * 10 + d
def dOk (R : Rd) (d : Nat) : Bool := decide (R.2.2 R.1 ≠ some 0) && (decide (cLo R.1 ≤ dval R d) && decide (dval R d ≤ cHi R.1))
def rdig (R : Rd) (d : Nat) : Rd := (R.1, R.2.1, va_up R.2.2 R.1 (some (dval R d)))
def sOk (R : Rd) (c : Option Nat) : Bool := decide (R.2.2 R.1 ≠ none) && decide (c = some (sgn R.1))
/-- does the reader take the code, and what is it then -/
def rok (R : Rd) (c : Option Nat) : Bool := if R.1 = 3 then kOk c else match c with
  | none => false
  | some n => if 48 ≤ n ∧ n ≤ 57 then dOk R (n - 48) else sOk R (some n)
def rnx (R : Rd) (c : Option Nat) : Rd := if rok R c = true then (if R.1 = 3 then rbeg (R.1, oI c, R.2.2) 0 else match c with
  | none => R
  | some n => if 48 ≤ n ∧ n ≤ 57 then rdig R (n - 48) else rbeg R (R.1 + 1)) else R
def okR (R : Rd) : Prop := R.1 ≤ 3 ∧ ∀ i, i < 3 → ∀ v, R.2.2 i = some v → v ≤ 99
def isRdr (dA : Nat → Nat) (b : Nat) (w : Wd) (k : Nat) (R : Rd) : Prop := w k = some (.inr (0, [.ref (b + (k + 1)), .int (nI R.1), .int R.2.1])) ∧ w (k + 1) = some (eI dA 3 (fun i => oI (R.2.2 i))) ∧ okR R
theorem isRdr.fr {dA : Nat → Nat} {b : Nat} {w w1 : Wd} {k : Nat} {R : Rd} (h : isRdr dA b w k R) (h0 : w1 k = w k) (h1 : w1 (k + 1) = w (k + 1)) : isRdr dA b w1 k R := ⟨h0.trans h.1, h1.trans h.2.1, h.2.2⟩
theorem okR_beg {R : Rd} (h : okR R) {p : Nat} (hp : p ≤ 3) : okR (rbeg R p) := by
  refine ⟨hp, fun i hi v hv => ?_⟩
  unfold rbeg at hv
  by_cases h1 : p < 3
  · simp only [if_pos h1] at hv
    unfold va_up at hv
    by_cases h2 : i = p
    · rw [if_pos h2] at hv; cases hv
    · rw [if_neg h2] at hv; exact h.2 i hi v hv
  · simp only [if_neg h1] at hv; exact h.2 i hi v hv
theorem okR_kind {R : Rd} (h : okR R) (x : Int32) : okR (R.1, x, R.2.2) := h
theorem okR_dig {R : Rd} (h : okR R) {d : Nat} (hd : dOk R d = true) : okR (rdig R d) := by
  refine ⟨h.1, fun i hi v hv => ?_⟩
  unfold dOk at hd
  simp only [Bool.and_eq_true, decide_eq_true_eq] at hd
  have h9 := cHi_le R.1
  unfold rdig at hv
  dsimp only at hv
  unfold va_up at hv
  by_cases h2 : i = R.1
  · rw [if_pos h2] at hv; cases hv; omega
  · rw [if_neg h2] at hv; exact h.2 i hi v hv
theorem up_oI {f : Nat → Option Nat} {i : Nat} {o : Option Nat} (j : Nat) : va_up (fun i => oI (f i)) i (oI o) j = oI (va_up f i o j) := by
  unfold va_up; by_cases h : j = i <;> simp [h]
theorem dval_none {R : Rd} {d : Nat} (h : R.2.2 R.1 = none) : dval R d = d := by unfold dval; rw [h]
theorem dval_some {R : Rd} {d v : Nat} (h : R.2.2 R.1 = some v) : dval R d = v * 10 + d := by unfold dval; rw [h]
-- the buffer
def isScr (dA : Nat → Nat) (b : Nat) (w : Wd) (k n : Nat) (C : Nat → Nat) : Prop := w k = some (.inr (5, [.ref (b + (k + 1)), .int (nI n)])) ∧ w (k + 1) = some (eN dA 80 C) ∧ n ≤ 80 ∧ ∀ i, i < n → C i < 128
theorem isScr.fr {dA : Nat → Nat} {b : Nat} {w w1 : Wd} {k n : Nat} {C : Nat → Nat} (h : isScr dA b w k n C) (h0 : w1 k = w k) (h1 : w1 (k + 1) = w (k + 1)) : isScr dA b w1 k n C := ⟨h0.trans h.1, h1.trans h.2.1, h.2.2⟩
/-- the code at i, if there is one -/
def cAt (n : Nat) (C : Nat → Nat) (i : Nat) : Option Nat := if i < n then some (C i) else none
/-- the reader behind the first i codes -/
def rrun (n : Nat) (C : Nat → Nat) (R : Rd) : Nat → Rd
  | 0 => R
  | i + 1 => rnx (rrun n C R i) (cAt n C i)
def rst (R : Rd) : Rd := (3, R.2.1, R.2.2)
/-- the first place that the reader does not take -/
def rerr (n : Nat) (C : Nat → Nat) (R : Rd) : Nat → Nat
  | 0 => n
  | d + 1 => if rok (rrun n C R (n - (d + 1))) (cAt n C (n - (d + 1))) = true then rerr n C R d else n - (d + 1)
theorem okR_nx {R : Rd} (h : okR R) (c : Option Nat) : okR (rnx R c) := by
  unfold rnx
  by_cases h1 : rok R c = true
  · rw [if_pos h1]
    by_cases h2 : R.1 = 3
    · rw [if_pos h2]; exact okR_beg (okR_kind h _) (by decide)
    · rw [if_neg h2]
      have h8 := h.1
      cases c with
      | none => exact h
      | some n =>
        by_cases h3 : 48 ≤ n ∧ n ≤ 57
        · simp only [if_pos h3]
          unfold rok at h1
          simp only [if_neg h2, if_pos h3] at h1
          exact okR_dig h h1
        · simp only [if_neg h3]; exact okR_beg h (by omega)
  · rw [if_neg h1]; exact h

set_option maxHeartbeats 300000 in
set_option maxRecDepth 100000 in
/-- fitsCue(field, value) -/
theorem c_X6_fitsCue (l : Launch) {D : va_G} {dA : Nat → Nat} {b : Nat} {w : Wd} (i : Nat) (hi : i < 3) (v : Int32) : Met l yX6_fitsCue wsX6_fitsCue ({ frames := 1, cells := 0, slots := 0, locals := 21 } : Room) (PC D dA b w [.int (nI i), .int (v)]) (QR (some (.int (if fitI i v then 1 else 0)))) 0 0 Fno := by
  refine q_of (cc := cX6_fitsCue) (maxL := 2) (ret := (some .boolean)) (by decide) rfl rfl ?_
  intro p e s m args below meth c ls hx hb hr hml hts hown hlocks hG hW hS hl
  have hown : s.vm.findClass RX6 = some m.cls := hown
  have hl : lv_has ls 2 [(0, .int (nI i)), (1, .int (v))] := hl
  refine lv_iload_n hx hb dX6_fitsCue_0 rfl (lv_at hl 1 rfl) ?_
  refine va_gets hx hb (hG.2.2.1 0 _ rfl).1 hS hown (hts (.fieldLink RX6 266 "FoleyMixer" "LEAST_OF_CUE" "[I") (List.mem_of_getElem? (i := 1) rfl)) (fun _ h => h) dX6_fitsCue_1 ?_
  refine lv_iload_n hx hb dX6_fitsCue_4 rfl (lv_at hl 0 rfl) ?_
  refine q_R1 (va_runS (As := [.ref (dA 10), .int (nI i)]) (rest := [.int (v)]) ⟨hx, hb, hml, hown, hts⟩ (c_entry_in l (RD.st 0 rfl) (by decide) (i) (by show i < 3; exact hi)) (va_cwS 2 hts gX6_fitsCue_X6_entry rfl rfl rfl (by decide +kernel) ⟨Nat.le_of_ble_eq_true rfl, Nat.le_of_ble_eq_true rfl⟩) (q_preS hG hW hS) rfl rfl hl.1 rfl (lv_room (Nat.le_of_ble_eq_true rfl)) dX6_fitsCue_5 ⟨Nat.le_of_ble_eq_true rfl, Nat.le_of_ble_eq_true rfl⟩) ?_
  refine lv_icmp_lt (tgt := 26) hx hb dX6_fitsCue_8 (by decide) (fun c_8 => ?_) (fun c_8 => ?_)
  · skip
    refine lv_iconst (v := nI 0) hx hb dX6_fitsCue_26 (by decide) ?_
    exact q_rz hx hb hr hlocks dX6_fitsCue_27 (by first | (rw [if_pos ⟨Int32.not_lt.mp c_8, Int32.not_lt.mp c_19⟩]; rfl) | (rw [if_neg (fun q => absurd q.1 (Int32.not_le.mpr c_8))]; rfl) | (rw [if_neg (fun q => absurd q.2 (Int32.not_le.mpr c_19))]; rfl)) (q_bn _)
  · skip
    refine lv_iload_n hx hb dX6_fitsCue_11 rfl (lv_at hl 1 rfl) ?_
    refine va_gets hx hb (hG.2.2.1 1 _ rfl).1 hS hown (hts (.fieldLink RX6 263 "FoleyMixer" "MOST_OF_CUE" "[I") (List.mem_of_getElem? (i := 2) rfl)) (fun _ h => h) dX6_fitsCue_12 ?_
    refine lv_iload_n hx hb dX6_fitsCue_15 rfl (lv_at hl 0 rfl) ?_
    refine q_R1 (va_runS (As := [.ref (dA 11), .int (nI i)]) (rest := [.int (v)]) ⟨hx, hb, hml, hown, hts⟩ (c_entry_in l (RD.st 1 rfl) (by decide) (i) (by show i < 3; exact hi)) (va_cwS 2 hts gX6_fitsCue_X6_entry rfl rfl rfl (by decide +kernel) ⟨Nat.le_of_ble_eq_true rfl, Nat.le_of_ble_eq_true rfl⟩) (q_preS hG hW hS) rfl rfl hl.1 rfl (lv_room (Nat.le_of_ble_eq_true rfl)) dX6_fitsCue_16 ⟨Nat.le_of_ble_eq_true rfl, Nat.le_of_ble_eq_true rfl⟩) ?_
    refine lv_icmp_gt (tgt := 26) hx hb dX6_fitsCue_19 (by decide) (fun c_19 => ?_) (fun c_19 => ?_)
    · skip
      refine lv_iconst (v := nI 0) hx hb dX6_fitsCue_26 (by decide) ?_
      exact q_rz hx hb hr hlocks dX6_fitsCue_27 (by first | (rw [if_pos ⟨Int32.not_lt.mp c_8, Int32.not_lt.mp c_19⟩]; rfl) | (rw [if_neg (fun q => absurd q.1 (Int32.not_le.mpr c_8))]; rfl) | (rw [if_neg (fun q => absurd q.2 (Int32.not_le.mpr c_19))]; rfl)) (q_bn _)
    · skip
      refine lv_iconst (v := nI 1) hx hb dX6_fitsCue_22 (by decide) ?_
      refine lv_goto (tgt := 27) hx hb dX6_fitsCue_23 (by decide) ?_
      exact q_rz hx hb hr hlocks dX6_fitsCue_27 (by first | (rw [if_pos ⟨Int32.not_lt.mp c_8, Int32.not_lt.mp c_19⟩]; rfl) | (rw [if_neg (fun q => absurd q.1 (Int32.not_le.mpr c_8))]; rfl) | (rw [if_neg (fun q => absurd q.2 (Int32.not_le.mpr c_19))]; rfl)) (q_bn _)

set_option maxHeartbeats 300000 in
set_option maxRecDepth 100000 in
/-- put(row, index, value) beyond the row -/
theorem c_put_out (l : Launch) {D : va_G} {dA : Nat → Nat} {b : Nat} {w : Wd} {k n : Nat} {f : Nat → Int32} (hk : w k = some (eI dA n f)) (hn : n < 2 ^ 31) (i : Nat) (hi : n ≤ i) (hi2 : i < 2 ^ 31) (x : Int32) : Met l yX6_put wsX6_put ({ frames := 0, cells := 0, slots := 0, locals := 0 } : Room) (PC D dA b w [.ref (b + k), .int (nI i), .int (x)]) (QW D b (none) (fun w' => w' = w)) 0 0 (Fb b) := by
  refine q_of (cc := cX6_put) (maxL := 3) (ret := none) (by decide) rfl rfl ?_
  intro p e s m args below meth c ls hx hb hr hml hts hown hlocks hG hW hS hl
  have hown : s.vm.findClass RX6 = some m.cls := hown
  have hl : lv_has ls 3 [(0, .ref (b + k)), (1, .int (nI i)), (2, .int (x))] := hl
  refine lv_iload_n hx hb dX6_put_0 rfl (lv_at hl 1 rfl) ?_
  refine lv_if_lt (tgt := 14) hx hb dX6_put_1 (by decide) (fun c_1 => ?_) (fun c_1 => ?_)
  · skip
    have c_1 : i < 0 := (nI_lt0 (i := i) (by omega)).mp c_1
    exact q_wv hx hb hr hlocks hW hS dX6_put_14 (by first | rfl | omega) (by decide) (by decide)
  · skip
    have c_1 : ¬ (i < 0) := fun h__ => c_1 ((nI_lt0 (i := i) (by omega)).mpr h__)
    refine lv_iload_n hx hb dX6_put_4 rfl (lv_at hl 1 rfl) ?_
    refine lv_aload_n hx hb dX6_put_5 rfl (lv_at hl 0 rfl) ?_
    refine q_alen hx hb (hW.ar hG hk (by omega)) dX6_put_6 ?_
    refine lv_icmp_ge (tgt := 14) hx hb dX6_put_7 (by decide) (fun c_7 => ?_) (fun c_7 => ?_)
    · skip
      have c_7 : n ≤ i := (nI_leI (a := n) (b := i) (by omega) (by omega)).mp c_7
      exact q_wv hx hb hr hlocks hW hS dX6_put_14 (by first | rfl | omega) (by decide) (by decide)
    · skip
      have c_7 : ¬ (n ≤ i) := fun h__ => c_7 ((nI_leI (a := n) (b := i) (by omega) (by omega)).mpr h__)
      exact absurd (by omega) c_7

set_option maxHeartbeats 300000 in
set_option maxRecDepth 100000 in
/-- CueReader.restart() -/
theorem c_X0_restart (l : Launch) {D : va_G} {dA : Nat → Nat} {b : Nat} {w : Wd} {k : Nat} {R : Rd} (hR : isRdr dA b w k R) : Met l yX0_restart wsX0_restart ({ frames := 0, cells := 0, slots := 0, locals := 0 } : Room) (PC D dA b w [.ref (b + k)]) (QW D b (none) (fun w' => isRdr dA b w' k (rst R) ∧ ∀ id : Nat, id ≠ k → id ≠ k + 1 → w' id = w id)) 0 0 (Fb b) := by
  refine q_of (cc := cX0_restart) (maxL := 1) (ret := none) (by decide) rfl rfl ?_
  intro p e s m args below meth c ls hx hb hr hml hts hown hlocks hG hW hS hl
  have hown : s.vm.findClass RX0 = some m.cls := hown
  have hinX0 : ∀ w ∈ u_ws RX0 TX0 3, w ∈ wsX0_restart := fun w h => (goodIn_r (big := wsX0_restart) (u_ws RX0 TX0 3) [2, 3, 4] (by decide +kernel) (by decide +kernel) w h).1
  have hl : lv_has ls 1 [(0, .ref (b + k))] := hl
  obtain ⟨hr0, hr1, hro⟩ := id hR
  have hro1 := hro.1
  refine lv_aload_n hx hb dX0_restart_0 rfl (lv_at hl 0 rfl) ?_
  refine lv_iconst (v := nI 3) hx hb dX0_restart_1 (by decide) ?_
  refine q_put hx hb hts hinX0 tyX0_ok nmX0 hown hG hW hS hr0 rfl 1 (by decide) (hts (.fieldLink RX0 15 "FoleyMixer$CueReader" "part" "I") (List.mem_of_getElem? (i := 1) rfl)) rfl rfl rfl rfl (Nat.le_of_ble_eq_true rfl) dX0_restart_2 (fun H locs hW hS hz2 => ?_)
  obtain ⟨w1, ew1⟩ : ∃ w9 : Wd, w9 = va_up w k (some (.inr (0, [.ref (b + (k + 1)), .int (nI 3), .int (R.2.1)]))) := ⟨_, rfl⟩
  replace hW : WP D b w1 H := by rw [ew1]; exact hW
  have frw1 : ∀ id : Nat, id ≠ k → w1 id = w id := fun id h9 => by rw [ew1, up_ne h9]
  replace hr1 : w1 (k + 1) = some (eI dA 3 (fun i => oI (R.2.2 i))) := (frw1 _ (by omega)).trans hr1
  replace hr0 : w1 k = some (.inr (0, [.ref (b + (k + 1)), .int (nI 3), .int (R.2.1)])) := by rw [ew1]; exact up_eq
  exact q_wv hx hb hr hlocks hW hS dX0_restart_5 (by exact ⟨⟨hr0, hr1, Nat.le_refl 3, hro.2⟩, by intro id h9 h8; rw [frw1 id (by omega)]; try rfl⟩) (by decide) (by decide)

set_option maxHeartbeats 300000 in
set_option maxRecDepth 100000 in
/-- CueReader.kind() -/
theorem c_X0_kind (l : Launch) {D : va_G} {dA : Nat → Nat} {b : Nat} {w : Wd} {k : Nat} {R : Rd} (hR : isRdr dA b w k R) : Met l yX0_kind wsX0_kind ({ frames := 0, cells := 0, slots := 0, locals := 0 } : Room) (PC D dA b w [.ref (b + k)]) (QR (some (.int (R.2.1)))) 0 0 Fno := by
  refine q_of (cc := cX0_kind) (maxL := 1) (ret := (some .int)) (by decide) rfl rfl ?_
  intro p e s m args below meth c ls hx hb hr hml hts hown hlocks hG hW hS hl
  have hown : s.vm.findClass RX0 = some m.cls := hown
  have hinX0 : ∀ w ∈ u_ws RX0 TX0 3, w ∈ wsX0_kind := fun w h => (goodIn_r (big := wsX0_kind) (u_ws RX0 TX0 3) [2, 3, 4] (by decide +kernel) (by decide +kernel) w h).1
  have hl : lv_has ls 1 [(0, .ref (b + k))] := hl
  obtain ⟨hr0, hr1, hro⟩ := id hR
  have hro1 := hro.1
  refine lv_aload_n hx hb dX0_kind_0 rfl (lv_at hl 0 rfl) ?_
  refine q_get hx hb hts hinX0 hown hG hW hr0 rfl 2 (by decide) (hts (.fieldLink RX0 19 "FoleyMixer$CueReader" "kind" "I") (List.mem_of_getElem? (i := 1) rfl)) rfl rfl dX0_kind_1 ?_
  exact q_ri hx hb hr hlocks dX0_kind_4 (by rfl)

set_option maxHeartbeats 300000 in
set_option maxRecDepth 100000 in
/-- CueReader.numberOf(field) -/
theorem c_X0_numberOf (l : Launch) {D : va_G} {dA : Nat → Nat} {b : Nat} {w : Wd} {k : Nat} {R : Rd} (hR : isRdr dA b w k R) (i : Nat) (hi : i < 3) : Met l yX0_numberOf wsX0_numberOf ({ frames := 1, cells := 0, slots := 0, locals := 21 } : Room) (PC D dA b w [.ref (b + k), .int (nI i)]) (QR (some (.int (oI (R.2.2 i))))) 0 0 Fno := by
  refine q_of (cc := cX0_numberOf) (maxL := 2) (ret := (some .int)) (by decide) rfl rfl ?_
  intro p e s m args below meth c ls hx hb hr hml hts hown hlocks hG hW hS hl
  have hown : s.vm.findClass RX0 = some m.cls := hown
  have hinX0 : ∀ w ∈ u_ws RX0 TX0 3, w ∈ wsX0_numberOf := fun w h => (goodIn_r (big := wsX0_numberOf) (u_ws RX0 TX0 3) [5, 6, 7] (by decide +kernel) (by decide +kernel) w h).1
  have hl : lv_has ls 2 [(0, .ref (b + k)), (1, .int (nI i))] := hl
  obtain ⟨hr0, hr1, hro⟩ := id hR
  have hro1 := hro.1
  refine lv_aload_n hx hb dX0_numberOf_0 rfl (lv_at hl 0 rfl) ?_
  refine q_get hx hb hts hinX0 hown hG hW hr0 rfl 0 (by decide) (hts (.fieldLink RX0 11 "FoleyMixer$CueReader" "numbers" "[I") (List.mem_of_getElem? (i := 1) rfl)) rfl rfl dX0_numberOf_1 ?_
  refine lv_iload_n hx hb dX0_numberOf_4 rfl (lv_at hl 1 rfl) ?_
  refine q_R1 (va_runSN (As := [.ref (b + (k + 1)), .int (nI i)]) (rest := []) ⟨hx, hb, hml, hown, hts⟩ (c_entry_in l (RD.own hr1 (by decide)) (by decide) (i) (by omega)) ⟨(va_cnB 2 hts gX0_numberOf_X6_entry_n22 rfl rfl rfl (hG.nest 24 rfl) (hts (.initialized RX6) (List.mem_of_getElem? (i := 3) rfl)) (by decide +kernel) ⟨Nat.le_of_ble_eq_true rfl, Nat.le_of_ble_eq_true rfl⟩), (hts (.static yX6_entry) (List.mem_of_getElem? (i := 2) rfl)), trivial⟩ (q_preS hG hW hS) rfl rfl hl.1 rfl (lv_room (Nat.le_of_ble_eq_true rfl)) dX0_numberOf_5 ⟨Nat.le_of_ble_eq_true rfl, Nat.le_of_ble_eq_true rfl⟩) ?_
  exact q_ri hx hb hr hlocks dX0_numberOf_8 (by rfl)

set_option maxHeartbeats 300000 in
set_option maxRecDepth 100000 in
/-- CueReader.isComplete() -/
theorem c_X0_isComplete (l : Launch) {D : va_G} {dA : Nat → Nat} {b : Nat} {w : Wd} {k : Nat} {R : Rd} (hR : isRdr dA b w k R) : Met l yX0_isComplete wsX0_isComplete ({ frames := 2, cells := 0, slots := 0, locals := 42 } : Room) (PC D dA b w [.ref (b + k)]) (QR (some (.int (if R.1 = 2 ∧ R.2.2 2 ≠ none then 1 else 0)))) 0 0 Fno := by
  refine q_of (cc := cX0_isComplete) (maxL := 1) (ret := (some .boolean)) (by decide) rfl rfl ?_
  intro p e s m args below meth c ls hx hb hr hml hts hown hlocks hG hW hS hl
  have hown : s.vm.findClass RX0 = some m.cls := hown
  have hinX0 : ∀ w ∈ u_ws RX0 TX0 3, w ∈ wsX0_isComplete := fun w h => (goodIn_r (big := wsX0_isComplete) (u_ws RX0 TX0 3) [11, 12, 13] (by decide +kernel) (by decide +kernel) w h).1
  have hl : lv_has ls 1 [(0, .ref (b + k))] := hl
  obtain ⟨hr0, hr1, hro⟩ := id hR
  have hro1 := hro.1
  refine lv_aload_n hx hb dX0_isComplete_0 rfl (lv_at hl 0 rfl) ?_
  refine q_get hx hb hts hinX0 hown hG hW hr0 rfl 1 (by decide) (hts (.fieldLink RX0 15 "FoleyMixer$CueReader" "part" "I") (List.mem_of_getElem? (i := 1) rfl)) rfl rfl dX0_isComplete_1 ?_
  refine lv_iconst (v := nI 2) hx hb dX0_isComplete_4 (by decide) ?_
  refine lv_icmp_ne (tgt := 21) hx hb dX0_isComplete_5 (by decide) (fun c_5 => ?_) (fun c_5 => ?_)
  · skip
    have c_5 : ¬ (R.1 = 2) := fun h__ => c_5 ((nI_eq (a := R.1) (b := 2) (by omega) (by omega)).mpr h__)
    refine lv_iconst (v := nI 0) hx hb dX0_isComplete_21 (by decide) ?_
    exact q_rz hx hb hr hlocks dX0_isComplete_22 (by first | (rw [if_pos ⟨c_5, fun q => c_14 ((oI_none (fun v hv => by have := hro.2 2 (by omega) v hv; omega)).mpr q)⟩]; rfl) | (rw [if_neg (fun q => c_5 q.1)]; rfl) | (rw [if_neg (fun q => q.2 ((oI_none (fun v hv => by have := hro.2 2 (by omega) v hv; omega)).mp c_14))]; rfl)) (q_bn _)
  · skip
    have c_5 : R.1 = 2 := (nI_eq (a := R.1) (b := 2) (by omega) (by omega)).mp c_5
    refine lv_aload_n hx hb dX0_isComplete_8 rfl (lv_at hl 0 rfl) ?_
    refine lv_iconst (v := nI 2) hx hb dX0_isComplete_9 (by decide) ?_
    refine q_R1 (va_runV (As := [.int (nI 2)]) (rest := []) ⟨hx, hb, hml, hown, hts⟩ (c_X0_numberOf l hR (2) (by omega)) (cwV 1 hts gX0_isComplete_X0_numberOf rfl rfl rfl (by decide +kernel) ⟨Nat.le_of_ble_eq_true rfl, Nat.le_of_ble_eq_true rfl⟩) (q_preV hG hW hS hr0 rfl) rfl rfl hl.1 rfl (lv_room (Nat.le_of_ble_eq_true rfl)) dX0_isComplete_10 ⟨Nat.le_of_ble_eq_true rfl, Nat.le_of_ble_eq_true rfl⟩) ?_
    refine lv_iconst (v := (-1)) hx hb dX0_isComplete_13 (by decide) ?_
    refine lv_icmp_eq (tgt := 21) hx hb dX0_isComplete_14 (by decide) (fun c_14 => ?_) (fun c_14 => ?_)
    · skip
      refine lv_iconst (v := nI 0) hx hb dX0_isComplete_21 (by decide) ?_
      exact q_rz hx hb hr hlocks dX0_isComplete_22 (by first | (rw [if_pos ⟨c_5, fun q => c_14 ((oI_none (fun v hv => by have := hro.2 2 (by omega) v hv; omega)).mpr q)⟩]; rfl) | (rw [if_neg (fun q => c_5 q.1)]; rfl) | (rw [if_neg (fun q => q.2 ((oI_none (fun v hv => by have := hro.2 2 (by omega) v hv; omega)).mp c_14))]; rfl)) (q_bn _)
    · skip
      refine lv_iconst (v := nI 1) hx hb dX0_isComplete_17 (by decide) ?_
      refine lv_goto (tgt := 22) hx hb dX0_isComplete_18 (by decide) ?_
      exact q_rz hx hb hr hlocks dX0_isComplete_22 (by first | (rw [if_pos ⟨c_5, fun q => c_14 ((oI_none (fun v hv => by have := hro.2 2 (by omega) v hv; omega)).mpr q)⟩]; rfl) | (rw [if_neg (fun q => c_5 q.1)]; rfl) | (rw [if_neg (fun q => q.2 ((oI_none (fun v hv => by have := hro.2 2 (by omega) v hv; omega)).mp c_14))]; rfl)) (q_bn _)

set_option maxHeartbeats 300000 in
set_option maxRecDepth 100000 in
/-- CueReader.beginPart(next) -/
theorem c_beginPart_in (l : Launch) {D : va_G} {dA : Nat → Nat} {b : Nat} {w : Wd} {k : Nat} {R : Rd} (hR : isRdr dA b w k R) (p9 : Nat) (hp : p9 < 3) : Met l yX0_beginPart wsX0_beginPart ({ frames := 1, cells := 0, slots := 0, locals := 22 } : Room) (PC D dA b w [.ref (b + k), .int (nI p9)]) (QW D b (none) (fun w' => isRdr dA b w' k (rbeg R p9) ∧ ∀ id : Nat, id ≠ k → id ≠ k + 1 → w' id = w id)) 0 0 (Fb b) := by
  refine q_of (cc := cX0_beginPart) (maxL := 2) (ret := none) (by decide) rfl rfl ?_
  intro p e s m args below meth c ls hx hb hr hml hts hown hlocks hG hW hS hl
  have hown : s.vm.findClass RX0 = some m.cls := hown
  have hinX0 : ∀ w ∈ u_ws RX0 TX0 3, w ∈ wsX0_beginPart := fun w h => (goodIn_r (big := wsX0_beginPart) (u_ws RX0 TX0 3) [6, 7, 8] (by decide +kernel) (by decide +kernel) w h).1
  have hl : lv_has ls 2 [(0, .ref (b + k)), (1, .int (nI p9))] := hl
  obtain ⟨hr0, hr1, hro⟩ := id hR
  have hro1 := hro.1
  refine lv_aload_n hx hb dX0_beginPart_0 rfl (lv_at hl 0 rfl) ?_
  refine lv_iload_n hx hb dX0_beginPart_1 rfl (lv_at hl 1 rfl) ?_
  refine q_put hx hb hts hinX0 tyX0_ok nmX0 hown hG hW hS hr0 rfl 1 (by decide) (hts (.fieldLink RX0 15 "FoleyMixer$CueReader" "part" "I") (List.mem_of_getElem? (i := 1) rfl)) rfl rfl rfl rfl (Nat.le_of_ble_eq_true rfl) dX0_beginPart_2 (fun H locs hW hS hz2 => ?_)
  obtain ⟨w1, ew1⟩ : ∃ w9 : Wd, w9 = va_up w k (some (.inr (0, [.ref (b + (k + 1)), .int (nI p9), .int (R.2.1)]))) := ⟨_, rfl⟩
  replace hW : WP D b w1 H := by rw [ew1]; exact hW
  have frw1 : ∀ id : Nat, id ≠ k → w1 id = w id := fun id h9 => by rw [ew1, up_ne h9]
  replace hr1 : w1 (k + 1) = some (eI dA 3 (fun i => oI (R.2.2 i))) := (frw1 _ (by omega)).trans hr1
  replace hr0 : w1 k = some (.inr (0, [.ref (b + (k + 1)), .int (nI p9), .int (R.2.1)])) := by rw [ew1]; exact up_eq
  refine lv_aload_n hx hb dX0_beginPart_5 rfl (lv_at hl 0 rfl) ?_
  refine q_get hx hb hts hinX0 hown hG hW hr0 rfl 0 (by decide) (hts (.fieldLink RX0 11 "FoleyMixer$CueReader" "numbers" "[I") (List.mem_of_getElem? (i := 2) rfl)) rfl rfl dX0_beginPart_6 ?_
  refine lv_iload_n hx hb dX0_beginPart_9 rfl (lv_at hl 1 rfl) ?_
  refine lv_iconst (v := (-1)) hx hb dX0_beginPart_10 (by decide) ?_
  refine q_W0 (va_runSN (As := [.ref (b + (k + 1)), .int (nI p9), .int (-1)]) (rest := []) ⟨hx, hb, hml, hown, hts⟩ (c_X6_put l hr1 (by decide) (p9) (by omega) (-1)) ⟨(va_cnB 3 hts gX0_beginPart_X6_put_n44 rfl rfl rfl (hG.nest 23 rfl) (hts (.initialized RX6) (List.mem_of_getElem? (i := 4) rfl)) (by decide +kernel) ⟨Nat.le_of_ble_eq_true rfl, Nat.le_of_ble_eq_true rfl⟩), (hts (.static yX6_put) (List.mem_of_getElem? (i := 3) rfl)), trivial⟩ (q_preS hG hW hS) rfl rfl hl.1 rfl (lv_room (Nat.le_of_ble_eq_true rfl)) dX0_beginPart_11 ⟨Nat.le_of_ble_eq_true rfl, Nat.le_of_ble_eq_true rfl⟩) hS (fun w_11 H locs hp11 hW hS => ?_)
  obtain ⟨hr1, fr11⟩ := hp11
  replace hr0 : w_11 k = some (.inr (0, [.ref (b + (k + 1)), .int (nI p9), .int (R.2.1)])) := (fr11 _ (by omega)).trans hr0
  exact q_wv hx hb hr hlocks hW hS dX0_beginPart_14 (by exact ⟨⟨hr0, hr1.trans (eI_congr fun j => by unfold rbeg; rw [if_pos hp]; exact up_oI (o := none) j), okR_beg hro (by omega)⟩, by intro id h9 h8; rw [fr11 id (by omega)]; rw [frw1 id (by omega)]; try rfl⟩) (by decide) (by decide)

set_option maxHeartbeats 300000 in
set_option maxRecDepth 100000 in
/-- CueReader.beginPart(3) -/
theorem c_beginPart_out (l : Launch) {D : va_G} {dA : Nat → Nat} {b : Nat} {w : Wd} {k : Nat} {R : Rd} (hR : isRdr dA b w k R) : Met l yX0_beginPart wsX0_beginPart ({ frames := 1, cells := 0, slots := 0, locals := 22 } : Room) (PC D dA b w [.ref (b + k), .int (nI 3)]) (QW D b (none) (fun w' => isRdr dA b w' k (rbeg R 3) ∧ ∀ id : Nat, id ≠ k → id ≠ k + 1 → w' id = w id)) 0 0 (Fb b) := by
  refine q_of (cc := cX0_beginPart) (maxL := 2) (ret := none) (by decide) rfl rfl ?_
  intro p e s m args below meth c ls hx hb hr hml hts hown hlocks hG hW hS hl
  have hown : s.vm.findClass RX0 = some m.cls := hown
  have hinX0 : ∀ w ∈ u_ws RX0 TX0 3, w ∈ wsX0_beginPart := fun w h => (goodIn_r (big := wsX0_beginPart) (u_ws RX0 TX0 3) [6, 7, 8] (by decide +kernel) (by decide +kernel) w h).1
  have hl : lv_has ls 2 [(0, .ref (b + k)), (1, .int (nI 3))] := hl
  obtain ⟨hr0, hr1, hro⟩ := id hR
  have hro1 := hro.1
  refine lv_aload_n hx hb dX0_beginPart_0 rfl (lv_at hl 0 rfl) ?_
  refine lv_iload_n hx hb dX0_beginPart_1 rfl (lv_at hl 1 rfl) ?_
  refine q_put hx hb hts hinX0 tyX0_ok nmX0 hown hG hW hS hr0 rfl 1 (by decide) (hts (.fieldLink RX0 15 "FoleyMixer$CueReader" "part" "I") (List.mem_of_getElem? (i := 1) rfl)) rfl rfl rfl rfl (Nat.le_of_ble_eq_true rfl) dX0_beginPart_2 (fun H locs hW hS hz2 => ?_)
  obtain ⟨w1, ew1⟩ : ∃ w9 : Wd, w9 = va_up w k (some (.inr (0, [.ref (b + (k + 1)), .int (nI 3), .int (R.2.1)]))) := ⟨_, rfl⟩
  replace hW : WP D b w1 H := by rw [ew1]; exact hW
  have frw1 : ∀ id : Nat, id ≠ k → w1 id = w id := fun id h9 => by rw [ew1, up_ne h9]
  replace hr1 : w1 (k + 1) = some (eI dA 3 (fun i => oI (R.2.2 i))) := (frw1 _ (by omega)).trans hr1
  replace hr0 : w1 k = some (.inr (0, [.ref (b + (k + 1)), .int (nI 3), .int (R.2.1)])) := by rw [ew1]; exact up_eq
  refine lv_aload_n hx hb dX0_beginPart_5 rfl (lv_at hl 0 rfl) ?_
  refine q_get hx hb hts hinX0 hown hG hW hr0 rfl 0 (by decide) (hts (.fieldLink RX0 11 "FoleyMixer$CueReader" "numbers" "[I") (List.mem_of_getElem? (i := 2) rfl)) rfl rfl dX0_beginPart_6 ?_
  refine lv_iload_n hx hb dX0_beginPart_9 rfl (lv_at hl 1 rfl) ?_
  refine lv_iconst (v := (-1)) hx hb dX0_beginPart_10 (by decide) ?_
  refine q_W0 (va_runSN (As := [.ref (b + (k + 1)), .int (nI 3), .int (-1)]) (rest := []) ⟨hx, hb, hml, hown, hts⟩ (c_put_out l hr1 (by decide) 3 (by decide) (by decide) (-1)) ⟨(va_cnB 3 hts gX0_beginPart_X6_put_n44 rfl rfl rfl (hG.nest 23 rfl) (hts (.initialized RX6) (List.mem_of_getElem? (i := 4) rfl)) (by decide +kernel) ⟨Nat.le_of_ble_eq_true rfl, Nat.le_of_ble_eq_true rfl⟩), (hts (.static yX6_put) (List.mem_of_getElem? (i := 3) rfl)), trivial⟩ (q_preS hG hW hS) rfl rfl hl.1 rfl (lv_room (Nat.le_of_ble_eq_true rfl)) dX0_beginPart_11 ⟨Nat.le_of_ble_eq_true rfl, Nat.le_of_ble_eq_true rfl⟩) hS (fun w_11 H locs hp11 hW hS => ?_)
  rw [hp11] at hW
  exact q_wv hx hb hr hlocks hW hS dX0_beginPart_14 (by exact ⟨⟨hr0, hr1, okR_beg hro (by decide)⟩, by intro id h9 h8; rw [frw1 id (by omega)]; try rfl⟩) (by decide) (by decide)

theorem c_X0_beginPart (l : Launch) {D : va_G} {dA : Nat → Nat} {b : Nat} {w : Wd} {k : Nat} {R : Rd} (hR : isRdr dA b w k R) (p9 : Nat) (hp : p9 ≤ 3) : Met l yX0_beginPart wsX0_beginPart ({ frames := 1, cells := 0, slots := 0, locals := 22 } : Room) (PC D dA b w [.ref (b + k), .int (nI p9)]) (QW D b none (fun w' => isRdr dA b w' k (rbeg R p9) ∧ ∀ id : Nat, id ≠ k → id ≠ k + 1 → w' id = w id)) 0 0 (Fb b) := by
  by_cases h : p9 < 3
  · exact c_beginPart_in l hR p9 h
  · have e : p9 = 3 := by omega
    subst e; exact c_beginPart_out l hR
set_option maxHeartbeats 300000 in
set_option maxRecDepth 100000 in
/-- CueReader.takeKind(code) -/
theorem c_X0_takeKind (l : Launch) {D : va_G} {dA : Nat → Nat} {b : Nat} {w : Wd} {k : Nat} {R : Rd} (hR : isRdr dA b w k R) (c9 : Option Nat) (hc9 : ∀ v, c9 = some v → v < 2 ^ 31) : Met l yX0_takeKind wsX0_takeKind ({ frames := 2, cells := 0, slots := 0, locals := 43 } : Room) (PC D dA b w [.ref (b + k), .int (oI c9)]) (QW D b (some (.int (if kOk c9 = true then 1 else 0))) (fun w' => isRdr dA b w' k (if kOk c9 = true then rbeg (R.1, oI c9, R.2.2) 0 else R) ∧ ∀ id : Nat, id ≠ k → id ≠ k + 1 → w' id = w id)) 0 0 (Fb b) := by
  refine q_of (cc := cX0_takeKind) (maxL := 2) (ret := (some .boolean)) (by decide) rfl rfl ?_
  intro p e s m args below meth c ls hx hb hr hml hts hown hlocks hG hW hS hl
  have hown : s.vm.findClass RX0 = some m.cls := hown
  have hinX0 : ∀ w ∈ u_ws RX0 TX0 3, w ∈ wsX0_takeKind := fun w h => (goodIn_r (big := wsX0_takeKind) (u_ws RX0 TX0 3) [12, 13, 14] (by decide +kernel) (by decide +kernel) w h).1
  have hl : lv_has ls 2 [(0, .ref (b + k)), (1, .int (oI c9))] := hl
  obtain ⟨hr0, hr1, hro⟩ := id hR
  have hro1 := hro.1
  refine lv_iload_n hx hb dX0_takeKind_0 rfl (lv_at hl 1 rfl) ?_
  refine lv_bipush (v := nI 119) hx hb dX0_takeKind_1 (by decide) ?_
  refine lv_icmp_eq (tgt := 20) hx hb dX0_takeKind_3 (by decide) (fun c_3 => ?_) (fun c_3 => ?_)
  · skip
    have L20 : kOk c9 = true → ∀ (ls : Array Slot), lv_has ls 2 [(0, .ref (b + k)), (1, .int (oI c9))] → W p l e ({ frames := 2, cells := 0, slots := 0, locals := 43 } : Room) s m args below meth c s.heap [] 0 0 (MQ below (QW D b (some (.int (if kOk c9 = true then 1 else 0))) (fun w' => isRdr dA b w' k (if kOk c9 = true then rbeg (R.1, oI c9, R.2.2) 0 else R) ∧ ∀ id : Nat, id ≠ k → id ≠ k + 1 → w' id = w id)) args s 0 0 (Fb b)) (F0 m 20 ls []) := by
      intro  hk9 ls hl
      refine lv_aload_n hx hb dX0_takeKind_20 rfl (lv_at hl 0 rfl) ?_
      refine lv_iload_n hx hb dX0_takeKind_21 rfl (lv_at hl 1 rfl) ?_
      refine q_put hx hb hts hinX0 tyX0_ok nmX0 hown hG hW hS hr0 rfl 2 (by decide) (hts (.fieldLink RX0 19 "FoleyMixer$CueReader" "kind" "I") (List.mem_of_getElem? (i := 1) rfl)) rfl rfl rfl rfl (Nat.le_of_ble_eq_true rfl) dX0_takeKind_22 (fun H locs hW hS hz22 => ?_)
      obtain ⟨w1, ew1⟩ : ∃ w9 : Wd, w9 = va_up w k (some (.inr (0, [.ref (b + (k + 1)), .int (nI (R.1)), .int (oI c9)]))) := ⟨_, rfl⟩
      replace hW : WP D b w1 H := by rw [ew1]; exact hW
      have frw1 : ∀ id : Nat, id ≠ k → w1 id = w id := fun id h9 => by rw [ew1, up_ne h9]
      replace hr1 : w1 (k + 1) = some (eI dA 3 (fun i => oI (R.2.2 i))) := (frw1 _ (by omega)).trans hr1
      replace hr0 : w1 k = some (.inr (0, [.ref (b + (k + 1)), .int (nI (R.1)), .int (oI c9)])) := by rw [ew1]; exact up_eq
      refine lv_aload_n hx hb dX0_takeKind_25 rfl (lv_at hl 0 rfl) ?_
      refine lv_iconst (v := nI 0) hx hb dX0_takeKind_26 (by decide) ?_
      refine q_W0 (va_runV (As := [.int (nI 0)]) (rest := []) ⟨hx, hb, hml, hown, hts⟩ (c_X0_beginPart l (R := (R.1, oI c9, R.2.2)) ⟨hr0, hr1, hro⟩ 0 (by decide)) (cwV 1 hts gX0_takeKind_X0_beginPart rfl rfl rfl (by decide +kernel) ⟨Nat.le_of_ble_eq_true rfl, Nat.le_of_ble_eq_true rfl⟩) (q_preV hG hW hS hr0 rfl) rfl rfl hl.1 rfl (lv_room (Nat.le_of_ble_eq_true rfl)) dX0_takeKind_27 ⟨Nat.le_of_ble_eq_true rfl, Nat.le_of_ble_eq_true rfl⟩) hS (fun w_27 H locs hp27 hW hS => ?_)
      obtain ⟨hR2, fr27⟩ := hp27
      refine lv_iconst (v := nI 1) hx hb dX0_takeKind_30 (by decide) ?_
      exact q_wz hx hb hr hlocks hW hS dX0_takeKind_31 (by rw [if_pos hk9]; rfl) (q_bn _) (by rw [if_pos hk9]; exact ⟨hR2, by intro id h9 h8; rw [fr27 id (by omega) (by omega)]; rw [frw1 id (by omega)]; try rfl⟩) (by decide) (by decide)
    exact L20  (by unfold kOk; first | (rw [(oI_some hc9 (by decide)).mp c_3]; rfl) | (rw [(oI_some hc9 (by decide)).mp c_9]; rfl) | (rw [(oI_some hc9 (by decide)).mp c_15]; rfl)) _ (lv_sub hl [0, 1] rfl)
  · skip
    refine lv_iload_n hx hb dX0_takeKind_6 rfl (lv_at hl 1 rfl) ?_
    refine lv_bipush (v := nI 110) hx hb dX0_takeKind_7 (by decide) ?_
    refine lv_icmp_eq (tgt := 20) hx hb dX0_takeKind_9 (by decide) (fun c_9 => ?_) (fun c_9 => ?_)
    · skip
      have L20 : kOk c9 = true → ∀ (ls : Array Slot), lv_has ls 2 [(0, .ref (b + k)), (1, .int (oI c9))] → W p l e ({ frames := 2, cells := 0, slots := 0, locals := 43 } : Room) s m args below meth c s.heap [] 0 0 (MQ below (QW D b (some (.int (if kOk c9 = true then 1 else 0))) (fun w' => isRdr dA b w' k (if kOk c9 = true then rbeg (R.1, oI c9, R.2.2) 0 else R) ∧ ∀ id : Nat, id ≠ k → id ≠ k + 1 → w' id = w id)) args s 0 0 (Fb b)) (F0 m 20 ls []) := by
        intro  hk9 ls hl
        refine lv_aload_n hx hb dX0_takeKind_20 rfl (lv_at hl 0 rfl) ?_
        refine lv_iload_n hx hb dX0_takeKind_21 rfl (lv_at hl 1 rfl) ?_
        refine q_put hx hb hts hinX0 tyX0_ok nmX0 hown hG hW hS hr0 rfl 2 (by decide) (hts (.fieldLink RX0 19 "FoleyMixer$CueReader" "kind" "I") (List.mem_of_getElem? (i := 1) rfl)) rfl rfl rfl rfl (Nat.le_of_ble_eq_true rfl) dX0_takeKind_22 (fun H locs hW hS hz22 => ?_)
        obtain ⟨w2, ew2⟩ : ∃ w9 : Wd, w9 = va_up w k (some (.inr (0, [.ref (b + (k + 1)), .int (nI (R.1)), .int (oI c9)]))) := ⟨_, rfl⟩
        replace hW : WP D b w2 H := by rw [ew2]; exact hW
        have frw2 : ∀ id : Nat, id ≠ k → w2 id = w id := fun id h9 => by rw [ew2, up_ne h9]
        replace hr1 : w2 (k + 1) = some (eI dA 3 (fun i => oI (R.2.2 i))) := (frw2 _ (by omega)).trans hr1
        replace hr0 : w2 k = some (.inr (0, [.ref (b + (k + 1)), .int (nI (R.1)), .int (oI c9)])) := by rw [ew2]; exact up_eq
        refine lv_aload_n hx hb dX0_takeKind_25 rfl (lv_at hl 0 rfl) ?_
        refine lv_iconst (v := nI 0) hx hb dX0_takeKind_26 (by decide) ?_
        refine q_W0 (va_runV (As := [.int (nI 0)]) (rest := []) ⟨hx, hb, hml, hown, hts⟩ (c_X0_beginPart l (R := (R.1, oI c9, R.2.2)) ⟨hr0, hr1, hro⟩ 0 (by decide)) (cwV 1 hts gX0_takeKind_X0_beginPart rfl rfl rfl (by decide +kernel) ⟨Nat.le_of_ble_eq_true rfl, Nat.le_of_ble_eq_true rfl⟩) (q_preV hG hW hS hr0 rfl) rfl rfl hl.1 rfl (lv_room (Nat.le_of_ble_eq_true rfl)) dX0_takeKind_27 ⟨Nat.le_of_ble_eq_true rfl, Nat.le_of_ble_eq_true rfl⟩) hS (fun w_27 H locs hp27 hW hS => ?_)
        obtain ⟨hR2, fr27⟩ := hp27
        refine lv_iconst (v := nI 1) hx hb dX0_takeKind_30 (by decide) ?_
        exact q_wz hx hb hr hlocks hW hS dX0_takeKind_31 (by rw [if_pos hk9]; rfl) (q_bn _) (by rw [if_pos hk9]; exact ⟨hR2, by intro id h9 h8; rw [fr27 id (by omega) (by omega)]; rw [frw2 id (by omega)]; try rfl⟩) (by decide) (by decide)
      exact L20  (by unfold kOk; first | (rw [(oI_some hc9 (by decide)).mp c_3]; rfl) | (rw [(oI_some hc9 (by decide)).mp c_9]; rfl) | (rw [(oI_some hc9 (by decide)).mp c_15]; rfl)) _ (lv_sub hl [0, 1] rfl)
    · skip
      refine lv_iload_n hx hb dX0_takeKind_12 rfl (lv_at hl 1 rfl) ?_
      refine lv_bipush (v := nI 78) hx hb dX0_takeKind_13 (by decide) ?_
      refine lv_icmp_eq (tgt := 20) hx hb dX0_takeKind_15 (by decide) (fun c_15 => ?_) (fun c_15 => ?_)
      · skip
        have L20 : kOk c9 = true → ∀ (ls : Array Slot), lv_has ls 2 [(0, .ref (b + k)), (1, .int (oI c9))] → W p l e ({ frames := 2, cells := 0, slots := 0, locals := 43 } : Room) s m args below meth c s.heap [] 0 0 (MQ below (QW D b (some (.int (if kOk c9 = true then 1 else 0))) (fun w' => isRdr dA b w' k (if kOk c9 = true then rbeg (R.1, oI c9, R.2.2) 0 else R) ∧ ∀ id : Nat, id ≠ k → id ≠ k + 1 → w' id = w id)) args s 0 0 (Fb b)) (F0 m 20 ls []) := by
          intro  hk9 ls hl
          refine lv_aload_n hx hb dX0_takeKind_20 rfl (lv_at hl 0 rfl) ?_
          refine lv_iload_n hx hb dX0_takeKind_21 rfl (lv_at hl 1 rfl) ?_
          refine q_put hx hb hts hinX0 tyX0_ok nmX0 hown hG hW hS hr0 rfl 2 (by decide) (hts (.fieldLink RX0 19 "FoleyMixer$CueReader" "kind" "I") (List.mem_of_getElem? (i := 1) rfl)) rfl rfl rfl rfl (Nat.le_of_ble_eq_true rfl) dX0_takeKind_22 (fun H locs hW hS hz22 => ?_)
          obtain ⟨w3, ew3⟩ : ∃ w9 : Wd, w9 = va_up w k (some (.inr (0, [.ref (b + (k + 1)), .int (nI (R.1)), .int (oI c9)]))) := ⟨_, rfl⟩
          replace hW : WP D b w3 H := by rw [ew3]; exact hW
          have frw3 : ∀ id : Nat, id ≠ k → w3 id = w id := fun id h9 => by rw [ew3, up_ne h9]
          replace hr1 : w3 (k + 1) = some (eI dA 3 (fun i => oI (R.2.2 i))) := (frw3 _ (by omega)).trans hr1
          replace hr0 : w3 k = some (.inr (0, [.ref (b + (k + 1)), .int (nI (R.1)), .int (oI c9)])) := by rw [ew3]; exact up_eq
          refine lv_aload_n hx hb dX0_takeKind_25 rfl (lv_at hl 0 rfl) ?_
          refine lv_iconst (v := nI 0) hx hb dX0_takeKind_26 (by decide) ?_
          refine q_W0 (va_runV (As := [.int (nI 0)]) (rest := []) ⟨hx, hb, hml, hown, hts⟩ (c_X0_beginPart l (R := (R.1, oI c9, R.2.2)) ⟨hr0, hr1, hro⟩ 0 (by decide)) (cwV 1 hts gX0_takeKind_X0_beginPart rfl rfl rfl (by decide +kernel) ⟨Nat.le_of_ble_eq_true rfl, Nat.le_of_ble_eq_true rfl⟩) (q_preV hG hW hS hr0 rfl) rfl rfl hl.1 rfl (lv_room (Nat.le_of_ble_eq_true rfl)) dX0_takeKind_27 ⟨Nat.le_of_ble_eq_true rfl, Nat.le_of_ble_eq_true rfl⟩) hS (fun w_27 H locs hp27 hW hS => ?_)
          obtain ⟨hR2, fr27⟩ := hp27
          refine lv_iconst (v := nI 1) hx hb dX0_takeKind_30 (by decide) ?_
          exact q_wz hx hb hr hlocks hW hS dX0_takeKind_31 (by rw [if_pos hk9]; rfl) (q_bn _) (by rw [if_pos hk9]; exact ⟨hR2, by intro id h9 h8; rw [fr27 id (by omega) (by omega)]; rw [frw3 id (by omega)]; try rfl⟩) (by decide) (by decide)
        exact L20  (by unfold kOk; first | (rw [(oI_some hc9 (by decide)).mp c_3]; rfl) | (rw [(oI_some hc9 (by decide)).mp c_9]; rfl) | (rw [(oI_some hc9 (by decide)).mp c_15]; rfl)) _ (lv_sub hl [0, 1] rfl)
      · skip
        have hk9 : ¬ kOk c9 = true := by
          intro q; unfold kOk at q; simp only [Bool.or_eq_true, decide_eq_true_eq] at q
          rcases q with (q | q) | q
          · exact c_3 ((oI_some hc9 (by decide)).mpr q)
          · exact c_9 ((oI_some hc9 (by decide)).mpr q)
          · exact c_15 ((oI_some hc9 (by decide)).mpr q)
        refine lv_iconst (v := nI 0) hx hb dX0_takeKind_18 (by decide) ?_
        exact q_wz hx hb hr hlocks hW hS dX0_takeKind_19 (by rw [if_neg hk9]; rfl) (q_bn _) (by rw [if_neg hk9]; exact ⟨hR, fun _ _ _ => rfl⟩) (by decide) (by decide)

set_option maxHeartbeats 300000 in
set_option maxRecDepth 100000 in
/-- CueReader.takeDigit(digit) -/
theorem c_X0_takeDigit (l : Launch) {D : va_G} {dA : Nat → Nat} {b : Nat} {w : Wd} {k : Nat} {R : Rd} (hR : isRdr dA b w k R) (d9 : Nat) (hd : d9 ≤ 9) (hp3 : R.1 < 3) : Met l yX0_takeDigit wsX0_takeDigit ({ frames := 2, cells := 0, slots := 0, locals := 42 } : Room) (PC D dA b w [.ref (b + k), .int (nI d9)]) (QW D b (some (.int (if dOk R d9 = true then 1 else 0))) (fun w' => isRdr dA b w' k (if dOk R d9 = true then rdig R d9 else R) ∧ ∀ id : Nat, id ≠ k → id ≠ k + 1 → w' id = w id)) 0 0 (Fb b) := by
  refine q_of (cc := cX0_takeDigit) (maxL := 4) (ret := (some .boolean)) (by decide) rfl rfl ?_
  intro p e s m args below meth c ls hx hb hr hml hts hown hlocks hG hW hS hl
  have hown : s.vm.findClass RX0 = some m.cls := hown
  have hinX0 : ∀ w ∈ u_ws RX0 TX0 3, w ∈ wsX0_takeDigit := fun w h => (goodIn_r (big := wsX0_takeDigit) (u_ws RX0 TX0 3) [18, 19, 20] (by decide +kernel) (by decide +kernel) w h).1
  have hl : lv_has ls 4 [(0, .ref (b + k)), (1, .int (nI d9))] := hl
  obtain ⟨hr0, hr1, hro⟩ := id hR
  have hro1 := hro.1
  have hrv := hro.2 R.1 hp3
  refine lv_aload_n hx hb dX0_takeDigit_0 rfl (lv_at hl 0 rfl) ?_
  refine lv_aload_n hx hb dX0_takeDigit_1 rfl (lv_at hl 0 rfl) ?_
  refine q_get hx hb hts hinX0 hown hG hW hr0 rfl 1 (by decide) (hts (.fieldLink RX0 15 "FoleyMixer$CueReader" "part" "I") (List.mem_of_getElem? (i := 1) rfl)) rfl rfl dX0_takeDigit_2 ?_
  refine q_R1 (va_runV (As := [.int (nI (R.1))]) (rest := []) ⟨hx, hb, hml, hown, hts⟩ (c_X0_numberOf l hR (R.1) (by omega)) (cwV 1 hts gX0_takeDigit_X0_numberOf rfl rfl rfl (by decide +kernel) ⟨Nat.le_of_ble_eq_true rfl, Nat.le_of_ble_eq_true rfl⟩) (q_preV hG hW hS hr0 rfl) rfl rfl hl.1 rfl (lv_room (Nat.le_of_ble_eq_true rfl)) dX0_takeDigit_5 ⟨Nat.le_of_ble_eq_true rfl, Nat.le_of_ble_eq_true rfl⟩) ?_
  refine lv_istore_n (lv' := [(2, .int (oI (R.2.2 R.1))), (0, .ref (b + k)), (1, .int (nI d9))]) hx hb dX0_takeDigit_8 rfl hl (by decide) rfl (fun ls hl => ?_)
  refine lv_iload_n hx hb dX0_takeDigit_9 rfl (lv_at hl 0 rfl) ?_
  refine lv_iconst (v := (-1)) hx hb dX0_takeDigit_10 (by decide) ?_
  refine lv_icmp_ne (tgt := 18) hx hb dX0_takeDigit_11 (by decide) (fun c_11 => ?_) (fun c_11 => ?_)
  · skip
    obtain ⟨v9, hv9⟩ : ∃ v, R.2.2 R.1 = some v := by
      cases h7 : R.2.2 R.1 with
      | none => exact absurd (by rw [h7]; rfl) c_11
      | some v => exact ⟨v, rfl⟩
    have hv8 := hrv v9 hv9
    refine lv_iload_n hx hb dX0_takeDigit_18 rfl (lv_at hl 0 rfl) ?_
    refine q_top (y := nI (v9)) (by rw [hv9]; rfl) ?_
    refine lv_bipush (v := nI 10) hx hb dX0_takeDigit_19 (by decide) ?_
    refine lv_imul hx hb dX0_takeDigit_21 ?_
    refine q_top (y := nI (v9 * 10)) (nI_mul _ _) ?_
    refine lv_iload_n hx hb dX0_takeDigit_22 rfl (lv_at hl 2 rfl) ?_
    refine lv_iadd hx hb dX0_takeDigit_23 ?_
    refine q_top (y := nI ((v9 * 10) + d9)) (nI_add _ _) ?_
    have L24 : ∀  (y24_0 : Int32), y24_0 = nI (dval R d9) → ∀ (ls : Array Slot), lv_has ls 4 [(0, .ref (b + k)), (1, .int (nI d9)), (2, .int (oI (R.2.2 R.1)))] → W p l e ({ frames := 2, cells := 0, slots := 0, locals := 42 } : Room) s m args below meth c s.heap [] 0 0 (MQ below (QW D b (some (.int (if dOk R d9 = true then 1 else 0))) (fun w' => isRdr dA b w' k (if dOk R d9 = true then rdig R d9 else R) ∧ ∀ id : Nat, id ≠ k → id ≠ k + 1 → w' id = w id)) args s 0 0 (Fb b)) (F0 m 24 ls [.int (y24_0)]) := by
      intro  y24_0 ey24_0 ls hl
      subst ey24_0
      have hdv : dval R d9 ≤ 999 := by
        unfold dval
        cases h7 : R.2.2 R.1 with
        | none => dsimp only; omega
        | some v => dsimp only; have := hrv v h7; omega
      refine lv_istore_n (lv' := [(3, .int (nI (dval R d9))), (0, .ref (b + k)), (1, .int (nI d9)), (2, .int (oI (R.2.2 R.1)))]) hx hb dX0_takeDigit_24 rfl hl (by decide) rfl (fun ls hl => ?_)
      refine lv_iload_n hx hb dX0_takeDigit_25 rfl (lv_at hl 3 rfl) ?_
      refine lv_if_eq (tgt := 40) hx hb dX0_takeDigit_26 (by decide) (fun c_26 => ?_) (fun c_26 => ?_)
      · skip
        have hk9 : ¬ dOk R d9 = true := by
          intro q; unfold dOk at q; simp only [Bool.and_eq_true, decide_eq_true_eq] at q
          first
          | exact q.1 ((oI_some (fun v hv => by have := hro.2 R.1 (by omega) v hv; omega) (by decide)).mp c_26)
          | exact c_37 ((fitI_n (by omega)).mpr q.2)
        refine lv_iconst (v := nI 0) hx hb dX0_takeDigit_40 (by decide) ?_
        exact q_wz hx hb hr hlocks hW hS dX0_takeDigit_41 (by rw [if_neg hk9]; rfl) (q_bn _) (by rw [if_neg hk9]; exact ⟨hR, fun _ _ _ => rfl⟩) (by decide) (by decide)
      · skip
        refine lv_aload_n hx hb dX0_takeDigit_29 rfl (lv_at hl 1 rfl) ?_
        refine q_get hx hb hts hinX0 hown hG hW hr0 rfl 1 (by decide) (hts (.fieldLink RX0 15 "FoleyMixer$CueReader" "part" "I") (List.mem_of_getElem? (i := 1) rfl)) rfl rfl dX0_takeDigit_30 ?_
        refine lv_iload_n hx hb dX0_takeDigit_33 rfl (lv_at hl 0 rfl) ?_
        refine q_R1 (va_runSN (As := [.int (nI (R.1)), .int (nI (dval R d9))]) (rest := []) ⟨hx, hb, hml, hown, hts⟩ (c_X6_fitsCue l (R.1) (by omega) (nI (dval R d9))) ⟨(va_cnB 2 hts gX0_takeDigit_X6_fitsCue_n48 rfl rfl rfl (hG.nest 25 rfl) (hts (.initialized RX6) (List.mem_of_getElem? (i := 9) rfl)) (by decide +kernel) ⟨Nat.le_of_ble_eq_true rfl, Nat.le_of_ble_eq_true rfl⟩), (hts (.static yX6_fitsCue) (List.mem_of_getElem? (i := 11) rfl)), trivial⟩ (q_preS hG hW hS) rfl rfl hl.1 rfl (lv_room (Nat.le_of_ble_eq_true rfl)) dX0_takeDigit_34 ⟨Nat.le_of_ble_eq_true rfl, Nat.le_of_ble_eq_true rfl⟩) ?_
        refine lv_if_ne (tgt := 42) hx hb dX0_takeDigit_37 (by decide) (fun c_37 => ?_) (fun c_37 => ?_)
        · skip
          have c_37 : fitI R.1 (nI (dval R d9)) := Decidable.byContradiction (fun h__ => c_37 (pI_eq0.mpr h__))
          have hk9 : dOk R d9 = true := by
            unfold dOk; simp only [Bool.and_eq_true, decide_eq_true_eq]
            exact ⟨fun q => c_26 (by rw [q]; rfl), (fitI_n (by omega)).mp c_37⟩
          refine lv_aload_n hx hb dX0_takeDigit_42 rfl (lv_at hl 1 rfl) ?_
          refine q_get hx hb hts hinX0 hown hG hW hr0 rfl 0 (by decide) (hts (.fieldLink RX0 11 "FoleyMixer$CueReader" "numbers" "[I") (List.mem_of_getElem? (i := 2) rfl)) rfl rfl dX0_takeDigit_43 ?_
          refine lv_aload_n hx hb dX0_takeDigit_46 rfl (lv_at hl 1 rfl) ?_
          refine q_get hx hb hts hinX0 hown hG hW hr0 rfl 1 (by decide) (hts (.fieldLink RX0 15 "FoleyMixer$CueReader" "part" "I") (List.mem_of_getElem? (i := 1) rfl)) rfl rfl dX0_takeDigit_47 ?_
          refine lv_iload_n hx hb dX0_takeDigit_50 rfl (lv_at hl 0 rfl) ?_
          refine q_W0 (va_runSN (As := [.ref (b + (k + 1)), .int (nI (R.1)), .int (nI (dval R d9))]) (rest := []) ⟨hx, hb, hml, hown, hts⟩ (c_X6_put l hr1 (by decide) (R.1) (by exact hp3) (nI (dval R d9))) ⟨(va_cnB 3 hts gX0_takeDigit_X6_put_n44 rfl rfl rfl (hG.nest 23 rfl) (hts (.initialized RX6) (List.mem_of_getElem? (i := 9) rfl)) (by decide +kernel) ⟨Nat.le_of_ble_eq_true rfl, Nat.le_of_ble_eq_true rfl⟩), (hts (.static yX6_put) (List.mem_of_getElem? (i := 16) rfl)), trivial⟩ (q_preS hG hW hS) rfl rfl hl.1 rfl (lv_room (Nat.le_of_ble_eq_true rfl)) dX0_takeDigit_51 ⟨Nat.le_of_ble_eq_true rfl, Nat.le_of_ble_eq_true rfl⟩) hS (fun w_51 H locs hp51 hW hS => ?_)
          obtain ⟨hr1, fr51⟩ := hp51
          replace hr0 : w_51 k = some (.inr (0, [.ref (b + (k + 1)), .int (nI R.1), .int R.2.1])) := (fr51 _ (by omega)).trans hr0
          refine lv_iconst (v := nI 1) hx hb dX0_takeDigit_54 (by decide) ?_
          exact q_wz hx hb hr hlocks hW hS dX0_takeDigit_55 (by rw [if_pos hk9]; rfl) (q_bn _) (by rw [if_pos hk9]; exact ⟨⟨hr0, hr1.trans (eI_congr fun j => up_oI (o := some (dval R d9)) j), okR_dig hro hk9⟩, by intro id h9 h8; rw [fr51 id (by omega)]; try rfl⟩) (by decide) (by decide)
        · skip
          have c_37 : ¬ (fitI R.1 (nI (dval R d9))) := pI_eq0.mp c_37
          have hk9 : ¬ dOk R d9 = true := by
            intro q; unfold dOk at q; simp only [Bool.and_eq_true, decide_eq_true_eq] at q
            first
            | exact q.1 ((oI_some (fun v hv => by have := hro.2 R.1 (by omega) v hv; omega) (by decide)).mp c_26)
            | exact c_37 ((fitI_n (by omega)).mpr q.2)
          refine lv_iconst (v := nI 0) hx hb dX0_takeDigit_40 (by decide) ?_
          exact q_wz hx hb hr hlocks hW hS dX0_takeDigit_41 (by rw [if_neg hk9]; rfl) (q_bn _) (by rw [if_neg hk9]; exact ⟨hR, fun _ _ _ => rfl⟩) (by decide) (by decide)
    exact L24  _ (by first | (exact congrArg nI (dval_none ((oI_none (fun v hv => by have := hro.2 R.1 (by omega) v hv; omega)).mp c_11)).symm) | (rw [dval_some hv9])) _ (lv_sub hl [1, 2, 0] rfl)
  · skip
    refine lv_iload_n hx hb dX0_takeDigit_14 rfl (lv_at hl 2 rfl) ?_
    refine lv_goto (tgt := 24) hx hb dX0_takeDigit_15 (by decide) ?_
    have L24 : ∀  (y24_0 : Int32), y24_0 = nI (dval R d9) → ∀ (ls : Array Slot), lv_has ls 4 [(0, .ref (b + k)), (1, .int (nI d9)), (2, .int (oI (R.2.2 R.1)))] → W p l e ({ frames := 2, cells := 0, slots := 0, locals := 42 } : Room) s m args below meth c s.heap [] 0 0 (MQ below (QW D b (some (.int (if dOk R d9 = true then 1 else 0))) (fun w' => isRdr dA b w' k (if dOk R d9 = true then rdig R d9 else R) ∧ ∀ id : Nat, id ≠ k → id ≠ k + 1 → w' id = w id)) args s 0 0 (Fb b)) (F0 m 24 ls [.int (y24_0)]) := by
      intro  y24_0 ey24_0 ls hl
      subst ey24_0
      have hdv : dval R d9 ≤ 999 := by
        unfold dval
        cases h7 : R.2.2 R.1 with
        | none => dsimp only; omega
        | some v => dsimp only; have := hrv v h7; omega
      refine lv_istore_n (lv' := [(3, .int (nI (dval R d9))), (0, .ref (b + k)), (1, .int (nI d9)), (2, .int (oI (R.2.2 R.1)))]) hx hb dX0_takeDigit_24 rfl hl (by decide) rfl (fun ls hl => ?_)
      refine lv_iload_n hx hb dX0_takeDigit_25 rfl (lv_at hl 3 rfl) ?_
      refine lv_if_eq (tgt := 40) hx hb dX0_takeDigit_26 (by decide) (fun c_26 => ?_) (fun c_26 => ?_)
      · skip
        have hk9 : ¬ dOk R d9 = true := by
          intro q; unfold dOk at q; simp only [Bool.and_eq_true, decide_eq_true_eq] at q
          first
          | exact q.1 ((oI_some (fun v hv => by have := hro.2 R.1 (by omega) v hv; omega) (by decide)).mp c_26)
          | exact c_37 ((fitI_n (by omega)).mpr q.2)
        refine lv_iconst (v := nI 0) hx hb dX0_takeDigit_40 (by decide) ?_
        exact q_wz hx hb hr hlocks hW hS dX0_takeDigit_41 (by rw [if_neg hk9]; rfl) (q_bn _) (by rw [if_neg hk9]; exact ⟨hR, fun _ _ _ => rfl⟩) (by decide) (by decide)
      · skip
        refine lv_aload_n hx hb dX0_takeDigit_29 rfl (lv_at hl 1 rfl) ?_
        refine q_get hx hb hts hinX0 hown hG hW hr0 rfl 1 (by decide) (hts (.fieldLink RX0 15 "FoleyMixer$CueReader" "part" "I") (List.mem_of_getElem? (i := 1) rfl)) rfl rfl dX0_takeDigit_30 ?_
        refine lv_iload_n hx hb dX0_takeDigit_33 rfl (lv_at hl 0 rfl) ?_
        refine q_R1 (va_runSN (As := [.int (nI (R.1)), .int (nI (dval R d9))]) (rest := []) ⟨hx, hb, hml, hown, hts⟩ (c_X6_fitsCue l (R.1) (by omega) (nI (dval R d9))) ⟨(va_cnB 2 hts gX0_takeDigit_X6_fitsCue_n48 rfl rfl rfl (hG.nest 25 rfl) (hts (.initialized RX6) (List.mem_of_getElem? (i := 9) rfl)) (by decide +kernel) ⟨Nat.le_of_ble_eq_true rfl, Nat.le_of_ble_eq_true rfl⟩), (hts (.static yX6_fitsCue) (List.mem_of_getElem? (i := 11) rfl)), trivial⟩ (q_preS hG hW hS) rfl rfl hl.1 rfl (lv_room (Nat.le_of_ble_eq_true rfl)) dX0_takeDigit_34 ⟨Nat.le_of_ble_eq_true rfl, Nat.le_of_ble_eq_true rfl⟩) ?_
        refine lv_if_ne (tgt := 42) hx hb dX0_takeDigit_37 (by decide) (fun c_37 => ?_) (fun c_37 => ?_)
        · skip
          have c_37 : fitI R.1 (nI (dval R d9)) := Decidable.byContradiction (fun h__ => c_37 (pI_eq0.mpr h__))
          have hk9 : dOk R d9 = true := by
            unfold dOk; simp only [Bool.and_eq_true, decide_eq_true_eq]
            exact ⟨fun q => c_26 (by rw [q]; rfl), (fitI_n (by omega)).mp c_37⟩
          refine lv_aload_n hx hb dX0_takeDigit_42 rfl (lv_at hl 1 rfl) ?_
          refine q_get hx hb hts hinX0 hown hG hW hr0 rfl 0 (by decide) (hts (.fieldLink RX0 11 "FoleyMixer$CueReader" "numbers" "[I") (List.mem_of_getElem? (i := 2) rfl)) rfl rfl dX0_takeDigit_43 ?_
          refine lv_aload_n hx hb dX0_takeDigit_46 rfl (lv_at hl 1 rfl) ?_
          refine q_get hx hb hts hinX0 hown hG hW hr0 rfl 1 (by decide) (hts (.fieldLink RX0 15 "FoleyMixer$CueReader" "part" "I") (List.mem_of_getElem? (i := 1) rfl)) rfl rfl dX0_takeDigit_47 ?_
          refine lv_iload_n hx hb dX0_takeDigit_50 rfl (lv_at hl 0 rfl) ?_
          refine q_W0 (va_runSN (As := [.ref (b + (k + 1)), .int (nI (R.1)), .int (nI (dval R d9))]) (rest := []) ⟨hx, hb, hml, hown, hts⟩ (c_X6_put l hr1 (by decide) (R.1) (by exact hp3) (nI (dval R d9))) ⟨(va_cnB 3 hts gX0_takeDigit_X6_put_n44 rfl rfl rfl (hG.nest 23 rfl) (hts (.initialized RX6) (List.mem_of_getElem? (i := 9) rfl)) (by decide +kernel) ⟨Nat.le_of_ble_eq_true rfl, Nat.le_of_ble_eq_true rfl⟩), (hts (.static yX6_put) (List.mem_of_getElem? (i := 16) rfl)), trivial⟩ (q_preS hG hW hS) rfl rfl hl.1 rfl (lv_room (Nat.le_of_ble_eq_true rfl)) dX0_takeDigit_51 ⟨Nat.le_of_ble_eq_true rfl, Nat.le_of_ble_eq_true rfl⟩) hS (fun w_51 H locs hp51 hW hS => ?_)
          obtain ⟨hr1, fr51⟩ := hp51
          replace hr0 : w_51 k = some (.inr (0, [.ref (b + (k + 1)), .int (nI R.1), .int R.2.1])) := (fr51 _ (by omega)).trans hr0
          refine lv_iconst (v := nI 1) hx hb dX0_takeDigit_54 (by decide) ?_
          exact q_wz hx hb hr hlocks hW hS dX0_takeDigit_55 (by rw [if_pos hk9]; rfl) (q_bn _) (by rw [if_pos hk9]; exact ⟨⟨hr0, hr1.trans (eI_congr fun j => up_oI (o := some (dval R d9)) j), okR_dig hro hk9⟩, by intro id h9 h8; rw [fr51 id (by omega)]; try rfl⟩) (by decide) (by decide)
        · skip
          have c_37 : ¬ (fitI R.1 (nI (dval R d9))) := pI_eq0.mp c_37
          have hk9 : ¬ dOk R d9 = true := by
            intro q; unfold dOk at q; simp only [Bool.and_eq_true, decide_eq_true_eq] at q
            first
            | exact q.1 ((oI_some (fun v hv => by have := hro.2 R.1 (by omega) v hv; omega) (by decide)).mp c_26)
            | exact c_37 ((fitI_n (by omega)).mpr q.2)
          refine lv_iconst (v := nI 0) hx hb dX0_takeDigit_40 (by decide) ?_
          exact q_wz hx hb hr hlocks hW hS dX0_takeDigit_41 (by rw [if_neg hk9]; rfl) (q_bn _) (by rw [if_neg hk9]; exact ⟨hR, fun _ _ _ => rfl⟩) (by decide) (by decide)
    exact L24  _ (by first | (exact congrArg nI (dval_none ((oI_none (fun v hv => by have := hro.2 R.1 (by omega) v hv; omega)).mp c_11)).symm) | (rw [dval_some hv9])) _ (lv_sub hl [1, 2, 0] rfl)

set_option maxHeartbeats 300000 in
set_option maxRecDepth 100000 in
/-- CueReader.takeSign(code) -/
theorem c_X0_takeSign (l : Launch) {D : va_G} {dA : Nat → Nat} {b : Nat} {w : Wd} {k : Nat} {R : Rd} (hR : isRdr dA b w k R) (c9 : Option Nat) (hc9 : ∀ v, c9 = some v → v < 2 ^ 31) (hp3 : R.1 < 3) : Met l yX0_takeSign wsX0_takeSign ({ frames := 2, cells := 0, slots := 0, locals := 43 } : Room) (PC D dA b w [.ref (b + k), .int (oI c9)]) (QW D b (some (.int (if sOk R c9 = true then 1 else 0))) (fun w' => isRdr dA b w' k (if sOk R c9 = true then rbeg R (R.1 + 1) else R) ∧ ∀ id : Nat, id ≠ k → id ≠ k + 1 → w' id = w id)) 0 0 (Fb b) := by
  refine q_of (cc := cX0_takeSign) (maxL := 2) (ret := (some .boolean)) (by decide) rfl rfl ?_
  intro p e s m args below meth c ls hx hb hr hml hts hown hlocks hG hW hS hl
  have hown : s.vm.findClass RX0 = some m.cls := hown
  have hinX0 : ∀ w ∈ u_ws RX0 TX0 3, w ∈ wsX0_takeSign := fun w h => (goodIn_r (big := wsX0_takeSign) (u_ws RX0 TX0 3) [17, 18, 19] (by decide +kernel) (by decide +kernel) w h).1
  have hl : lv_has ls 2 [(0, .ref (b + k)), (1, .int (oI c9))] := hl
  obtain ⟨hr0, hr1, hro⟩ := id hR
  have hro1 := hro.1
  refine lv_aload_n hx hb dX0_takeSign_0 rfl (lv_at hl 0 rfl) ?_
  refine lv_aload_n hx hb dX0_takeSign_1 rfl (lv_at hl 0 rfl) ?_
  refine q_get hx hb hts hinX0 hown hG hW hr0 rfl 1 (by decide) (hts (.fieldLink RX0 15 "FoleyMixer$CueReader" "part" "I") (List.mem_of_getElem? (i := 1) rfl)) rfl rfl dX0_takeSign_2 ?_
  refine q_R1 (va_runV (As := [.int (nI (R.1))]) (rest := []) ⟨hx, hb, hml, hown, hts⟩ (c_X0_numberOf l hR (R.1) (by omega)) (cwV 1 hts gX0_takeSign_X0_numberOf rfl rfl rfl (by decide +kernel) ⟨Nat.le_of_ble_eq_true rfl, Nat.le_of_ble_eq_true rfl⟩) (q_preV hG hW hS hr0 rfl) rfl rfl hl.1 rfl (lv_room (Nat.le_of_ble_eq_true rfl)) dX0_takeSign_5 ⟨Nat.le_of_ble_eq_true rfl, Nat.le_of_ble_eq_true rfl⟩) ?_
  refine lv_iconst (v := (-1)) hx hb dX0_takeSign_8 (by decide) ?_
  refine lv_icmp_eq (tgt := 26) hx hb dX0_takeSign_9 (by decide) (fun c_9 => ?_) (fun c_9 => ?_)
  · skip
    have hk9 : ¬ sOk R c9 = true := by
      intro q; unfold sOk at q; simp only [Bool.and_eq_true, decide_eq_true_eq] at q
      first
      | exact q.1 ((oI_none (fun v hv => by have := hro.2 R.1 (by omega) v hv; omega)).mp c_9)
      | exact c_23 (by rw [q.2]; rfl)
    refine lv_iconst (v := nI 0) hx hb dX0_takeSign_26 (by decide) ?_
    exact q_wz hx hb hr hlocks hW hS dX0_takeSign_27 (by rw [if_neg hk9]; rfl) (q_bn _) (by rw [if_neg hk9]; exact ⟨hR, fun _ _ _ => rfl⟩) (by decide) (by decide)
  · skip
    refine lv_iload_n hx hb dX0_takeSign_12 rfl (lv_at hl 1 rfl) ?_
    refine va_getsN hx hb (hG.2.2.1 5 _ rfl).1 hS hown (va_Nw.use rfl (hG.nest 26 rfl)) (fun _ h => h) dX0_takeSign_13 ?_
    refine lv_aload_n hx hb dX0_takeSign_16 rfl (lv_at hl 0 rfl) ?_
    refine q_get hx hb hts hinX0 hown hG hW hr0 rfl 1 (by decide) (hts (.fieldLink RX0 15 "FoleyMixer$CueReader" "part" "I") (List.mem_of_getElem? (i := 1) rfl)) rfl rfl dX0_takeSign_17 ?_
    refine q_R1 (va_runSN (As := [.ref (dA 15), .int (nI (R.1))]) (rest := [.int (oI c9)]) ⟨hx, hb, hml, hown, hts⟩ (c_entry_in l (RD.st 5 rfl) (by decide) (R.1) (by exact hp3)) ⟨(va_cnB 2 hts gX0_takeSign_X6_entry_n22 rfl rfl rfl (hG.nest 24 rfl) (hts (.initialized RX6) (List.mem_of_getElem? (i := 9) rfl)) (by decide +kernel) ⟨Nat.le_of_ble_eq_true rfl, Nat.le_of_ble_eq_true rfl⟩), (hts (.static yX6_entry) (List.mem_of_getElem? (i := 8) rfl)), trivial⟩ (q_preS hG hW hS) rfl rfl hl.1 rfl (lv_room (Nat.le_of_ble_eq_true rfl)) dX0_takeSign_20 ⟨Nat.le_of_ble_eq_true rfl, Nat.le_of_ble_eq_true rfl⟩) ?_
    refine lv_icmp_eq (tgt := 28) hx hb dX0_takeSign_23 (by decide) (fun c_23 => ?_) (fun c_23 => ?_)
    · skip
      have hk9 : sOk R c9 = true := by
        unfold sOk; simp only [Bool.and_eq_true, decide_eq_true_eq]
        exact ⟨fun q => c_9 (by rw [q]; rfl), (oI_some hc9 (by have := sgn_le R.1; omega)).mp c_23⟩
      refine lv_aload_n hx hb dX0_takeSign_28 rfl (lv_at hl 0 rfl) ?_
      refine lv_aload_n hx hb dX0_takeSign_29 rfl (lv_at hl 0 rfl) ?_
      refine q_get hx hb hts hinX0 hown hG hW hr0 rfl 1 (by decide) (hts (.fieldLink RX0 15 "FoleyMixer$CueReader" "part" "I") (List.mem_of_getElem? (i := 1) rfl)) rfl rfl dX0_takeSign_30 ?_
      refine lv_iconst (v := nI 1) hx hb dX0_takeSign_33 (by decide) ?_
      refine lv_iadd hx hb dX0_takeSign_34 ?_
      refine q_top (y := nI (R.1 + 1)) (nI_add _ _) ?_
      refine q_W0 (va_runV (As := [.int (nI (R.1 + 1))]) (rest := []) ⟨hx, hb, hml, hown, hts⟩ (c_X0_beginPart l hR (R.1 + 1) (by omega)) (cwV 1 hts gX0_takeSign_X0_beginPart rfl rfl rfl (by decide +kernel) ⟨Nat.le_of_ble_eq_true rfl, Nat.le_of_ble_eq_true rfl⟩) (q_preV hG hW hS hr0 rfl) rfl rfl hl.1 rfl (lv_room (Nat.le_of_ble_eq_true rfl)) dX0_takeSign_35 ⟨Nat.le_of_ble_eq_true rfl, Nat.le_of_ble_eq_true rfl⟩) hS (fun w_35 H locs hp35 hW hS => ?_)
      obtain ⟨hR2, fr35⟩ := hp35
      refine lv_iconst (v := nI 1) hx hb dX0_takeSign_38 (by decide) ?_
      exact q_wz hx hb hr hlocks hW hS dX0_takeSign_39 (by rw [if_pos hk9]; rfl) (q_bn _) (by rw [if_pos hk9]; exact ⟨hR2, by intro id h9 h8; rw [fr35 id (by omega) (by omega)]; try rfl⟩) (by decide) (by decide)
    · skip
      have hk9 : ¬ sOk R c9 = true := by
        intro q; unfold sOk at q; simp only [Bool.and_eq_true, decide_eq_true_eq] at q
        first
        | exact q.1 ((oI_none (fun v hv => by have := hro.2 R.1 (by omega) v hv; omega)).mp c_9)
        | exact c_23 (by rw [q.2]; rfl)
      refine lv_iconst (v := nI 0) hx hb dX0_takeSign_26 (by decide) ?_
      exact q_wz hx hb hr hlocks hW hS dX0_takeSign_27 (by rw [if_neg hk9]; rfl) (q_bn _) (by rw [if_neg hk9]; exact ⟨hR, fun _ _ _ => rfl⟩) (by decide) (by decide)

set_option maxHeartbeats 300000 in
set_option maxRecDepth 100000 in
/-- CueReader.take(code) -/
theorem c_take_some (l : Launch) {D : va_G} {dA : Nat → Nat} {b : Nat} {w : Wd} {k : Nat} {R : Rd} (hR : isRdr dA b w k R) (n9 : Nat) (hn9 : n9 < 2 ^ 31) : Met l yX0_take wsX0_take ({ frames := 3, cells := 0, slots := 0, locals := 65 } : Room) (PC D dA b w [.ref (b + k), .int (nI n9)]) (QW D b (some (.int (if rok R (some n9) = true then 1 else 0))) (fun w' => isRdr dA b w' k (rnx R (some n9)) ∧ ∀ id : Nat, id ≠ k → id ≠ k + 1 → w' id = w id)) 0 0 (Fb b) := by
  refine q_of (cc := cX0_take) (maxL := 2) (ret := (some .boolean)) (by decide) rfl rfl ?_
  intro p e s m args below meth c ls hx hb hr hml hts hown hlocks hG hW hS hl
  have hown : s.vm.findClass RX0 = some m.cls := hown
  have hinX0 : ∀ w ∈ u_ws RX0 TX0 3, w ∈ wsX0_take := fun w h => (goodIn_r (big := wsX0_take) (u_ws RX0 TX0 3) [35, 36, 37] (by decide +kernel) (by decide +kernel) w h).1
  have hl : lv_has ls 2 [(0, .ref (b + k)), (1, .int (nI n9))] := hl
  obtain ⟨hr0, hr1, hro⟩ := id hR
  have hro1 := hro.1
  refine lv_aload_n hx hb dX0_take_0 rfl (lv_at hl 0 rfl) ?_
  refine q_get hx hb hts hinX0 hown hG hW hr0 rfl 1 (by decide) (hts (.fieldLink RX0 15 "FoleyMixer$CueReader" "part" "I") (List.mem_of_getElem? (i := 1) rfl)) rfl rfl dX0_take_1 ?_
  refine lv_iconst (v := nI 3) hx hb dX0_take_4 (by decide) ?_
  refine lv_icmp_ne (tgt := 14) hx hb dX0_take_5 (by decide) (fun c_5 => ?_) (fun c_5 => ?_)
  · skip
    have c_5 : ¬ (R.1 = 3) := fun h__ => c_5 ((nI_eq (a := R.1) (b := 3) (by omega) (by omega)).mpr h__)
    refine lv_iload_n hx hb dX0_take_14 rfl (lv_at hl 1 rfl) ?_
    refine lv_bipush (v := nI 48) hx hb dX0_take_15 (by decide) ?_
    refine lv_icmp_lt (tgt := 35) hx hb dX0_take_17 (by decide) (fun c_17 => ?_) (fun c_17 => ?_)
    · skip
      have c_17 : n9 < 48 := (nI_ltI (a := n9) (b := 48) (by omega) (by omega)).mp c_17
      have hk9 : rok R (some n9) = sOk R (some n9) := by unfold rok; rw [if_neg c_5]; dsimp only; rw [if_neg (by omega)]
      refine lv_aload_n hx hb dX0_take_35 rfl (lv_at hl 0 rfl) ?_
      refine lv_iload_n hx hb dX0_take_36 rfl (lv_at hl 1 rfl) ?_
      refine q_W1 (va_runV (As := [.int (nI n9)]) (rest := []) ⟨hx, hb, hml, hown, hts⟩ (c_X0_takeSign l hR (some n9) (by intro v hv; cases hv; omega) (by omega)) (cwV 1 hts gX0_take_X0_takeSign rfl rfl rfl (by decide +kernel) ⟨Nat.le_of_ble_eq_true rfl, Nat.le_of_ble_eq_true rfl⟩) (q_preV hG hW hS hr0 rfl) rfl rfl hl.1 rfl (lv_room (Nat.le_of_ble_eq_true rfl)) dX0_take_37 ⟨Nat.le_of_ble_eq_true rfl, Nat.le_of_ble_eq_true rfl⟩) hS (fun w_37 H locs hp37 hW hS => ?_)
      obtain ⟨hR2, fr37⟩ := hp37
      exact q_wz hx hb hr hlocks hW hS dX0_take_40 (by rw [hk9]) (q_bn _) (by refine ⟨?_, by intro id h9 h8; rw [fr37 id (by omega) (by omega)]; try rfl⟩; unfold rnx; rw [hk9, if_neg c_5]; dsimp only; rw [if_neg (show ¬ (48 ≤ n9 ∧ n9 ≤ 57) by omega)]; exact hR2) (by decide) (by decide)
    · skip
      have c_17 : ¬ (n9 < 48) := fun h__ => c_17 ((nI_ltI (a := n9) (b := 48) (by omega) (by omega)).mpr h__)
      refine lv_iload_n hx hb dX0_take_20 rfl (lv_at hl 1 rfl) ?_
      refine lv_bipush (v := nI 57) hx hb dX0_take_21 (by decide) ?_
      refine lv_icmp_gt (tgt := 35) hx hb dX0_take_23 (by decide) (fun c_23 => ?_) (fun c_23 => ?_)
      · skip
        have c_23 : 57 < n9 := (nI_ltI (a := 57) (b := n9) (by omega) (by omega)).mp c_23
        have hk9 : rok R (some n9) = sOk R (some n9) := by unfold rok; rw [if_neg c_5]; dsimp only; rw [if_neg (by omega)]
        refine lv_aload_n hx hb dX0_take_35 rfl (lv_at hl 0 rfl) ?_
        refine lv_iload_n hx hb dX0_take_36 rfl (lv_at hl 1 rfl) ?_
        refine q_W1 (va_runV (As := [.int (nI n9)]) (rest := []) ⟨hx, hb, hml, hown, hts⟩ (c_X0_takeSign l hR (some n9) (by intro v hv; cases hv; omega) (by omega)) (cwV 1 hts gX0_take_X0_takeSign rfl rfl rfl (by decide +kernel) ⟨Nat.le_of_ble_eq_true rfl, Nat.le_of_ble_eq_true rfl⟩) (q_preV hG hW hS hr0 rfl) rfl rfl hl.1 rfl (lv_room (Nat.le_of_ble_eq_true rfl)) dX0_take_37 ⟨Nat.le_of_ble_eq_true rfl, Nat.le_of_ble_eq_true rfl⟩) hS (fun w_37 H locs hp37 hW hS => ?_)
        obtain ⟨hR2, fr37⟩ := hp37
        exact q_wz hx hb hr hlocks hW hS dX0_take_40 (by rw [hk9]) (q_bn _) (by refine ⟨?_, by intro id h9 h8; rw [fr37 id (by omega) (by omega)]; try rfl⟩; unfold rnx; rw [hk9, if_neg c_5]; dsimp only; rw [if_neg (show ¬ (48 ≤ n9 ∧ n9 ≤ 57) by omega)]; exact hR2) (by decide) (by decide)
      · skip
        have c_23 : ¬ (57 < n9) := fun h__ => c_23 ((nI_ltI (a := 57) (b := n9) (by omega) (by omega)).mpr h__)
        have hk9 : rok R (some n9) = dOk R (n9 - 48) := by unfold rok; rw [if_neg c_5]; dsimp only; rw [if_pos ⟨by omega, by omega⟩]
        refine lv_aload_n hx hb dX0_take_26 rfl (lv_at hl 0 rfl) ?_
        refine lv_iload_n hx hb dX0_take_27 rfl (lv_at hl 1 rfl) ?_
        refine lv_bipush (v := nI 48) hx hb dX0_take_28 (by decide) ?_
        refine lv_isub hx hb dX0_take_30 ?_
        refine q_top (y := nI (n9 - 48)) (nI_sub (by omega)) ?_
        refine q_W1 (va_runV (As := [.int (nI (n9 - 48))]) (rest := []) ⟨hx, hb, hml, hown, hts⟩ (c_X0_takeDigit l hR (n9 - 48) (by omega) (by omega)) (cwV 1 hts gX0_take_X0_takeDigit rfl rfl rfl (by decide +kernel) ⟨Nat.le_of_ble_eq_true rfl, Nat.le_of_ble_eq_true rfl⟩) (q_preV hG hW hS hr0 rfl) rfl rfl hl.1 rfl (lv_room (Nat.le_of_ble_eq_true rfl)) dX0_take_31 ⟨Nat.le_of_ble_eq_true rfl, Nat.le_of_ble_eq_true rfl⟩) hS (fun w_31 H locs hp31 hW hS => ?_)
        obtain ⟨hR2, fr31⟩ := hp31
        exact q_wz hx hb hr hlocks hW hS dX0_take_34 (by rw [hk9]) (q_bn _) (by refine ⟨?_, by intro id h9 h8; rw [fr31 id (by omega) (by omega)]; try rfl⟩; unfold rnx; rw [hk9, if_neg c_5]; dsimp only; rw [if_pos (show 48 ≤ n9 ∧ n9 ≤ 57 from ⟨by omega, by omega⟩)]; exact hR2) (by decide) (by decide)
  · skip
    have c_5 : R.1 = 3 := (nI_eq (a := R.1) (b := 3) (by omega) (by omega)).mp c_5
    have hk9 : rok R (some n9) = kOk (some n9) := by unfold rok; rw [if_pos c_5]
    refine lv_aload_n hx hb dX0_take_8 rfl (lv_at hl 0 rfl) ?_
    refine lv_iload_n hx hb dX0_take_9 rfl (lv_at hl 1 rfl) ?_
    refine q_W1 (va_runV (As := [.int (nI n9)]) (rest := []) ⟨hx, hb, hml, hown, hts⟩ (c_X0_takeKind l hR (some n9) (by intro v hv; cases hv; omega)) (cwV 1 hts gX0_take_X0_takeKind rfl rfl rfl (by decide +kernel) ⟨Nat.le_of_ble_eq_true rfl, Nat.le_of_ble_eq_true rfl⟩) (q_preV hG hW hS hr0 rfl) rfl rfl hl.1 rfl (lv_room (Nat.le_of_ble_eq_true rfl)) dX0_take_10 ⟨Nat.le_of_ble_eq_true rfl, Nat.le_of_ble_eq_true rfl⟩) hS (fun w_10 H locs hp10 hW hS => ?_)
    obtain ⟨hR2, fr10⟩ := hp10
    exact q_wz hx hb hr hlocks hW hS dX0_take_13 (by rw [hk9]) (q_bn _) (by refine ⟨?_, by intro id h9 h8; rw [fr10 id (by omega) (by omega)]; try rfl⟩; unfold rnx; rw [hk9, if_pos c_5]; first | exact hR2 | (by_cases h9 : kOk _ = true <;> simp only [h9, if_true] at hR2 ⊢ <;> exact hR2)) (by decide) (by decide)

set_option maxHeartbeats 300000 in
set_option maxRecDepth 100000 in
/-- CueReader.take(code) -/
theorem c_take_none (l : Launch) {D : va_G} {dA : Nat → Nat} {b : Nat} {w : Wd} {k : Nat} {R : Rd} (hR : isRdr dA b w k R) : Met l yX0_take wsX0_take ({ frames := 3, cells := 0, slots := 0, locals := 64 } : Room) (PC D dA b w [.ref (b + k), .int (-1)]) (QW D b (some (.int (if rok R none = true then 1 else 0))) (fun w' => isRdr dA b w' k (rnx R none) ∧ ∀ id : Nat, id ≠ k → id ≠ k + 1 → w' id = w id)) 0 0 (Fb b) := by
  refine q_of (cc := cX0_take) (maxL := 2) (ret := (some .boolean)) (by decide) rfl rfl ?_
  intro p e s m args below meth c ls hx hb hr hml hts hown hlocks hG hW hS hl
  have hown : s.vm.findClass RX0 = some m.cls := hown
  have hinX0 : ∀ w ∈ u_ws RX0 TX0 3, w ∈ wsX0_take := fun w h => (goodIn_r (big := wsX0_take) (u_ws RX0 TX0 3) [35, 36, 37] (by decide +kernel) (by decide +kernel) w h).1
  have hl : lv_has ls 2 [(0, .ref (b + k)), (1, .int (-1))] := hl
  obtain ⟨hr0, hr1, hro⟩ := id hR
  have hro1 := hro.1
  refine lv_aload_n hx hb dX0_take_0 rfl (lv_at hl 0 rfl) ?_
  refine q_get hx hb hts hinX0 hown hG hW hr0 rfl 1 (by decide) (hts (.fieldLink RX0 15 "FoleyMixer$CueReader" "part" "I") (List.mem_of_getElem? (i := 1) rfl)) rfl rfl dX0_take_1 ?_
  refine lv_iconst (v := nI 3) hx hb dX0_take_4 (by decide) ?_
  refine lv_icmp_ne (tgt := 14) hx hb dX0_take_5 (by decide) (fun c_5 => ?_) (fun c_5 => ?_)
  · skip
    have c_5 : ¬ (R.1 = 3) := fun h__ => c_5 ((nI_eq (a := R.1) (b := 3) (by omega) (by omega)).mpr h__)
    refine lv_iload_n hx hb dX0_take_14 rfl (lv_at hl 1 rfl) ?_
    refine lv_bipush (v := nI 48) hx hb dX0_take_15 (by decide) ?_
    refine lv_icmp_lt (tgt := 35) hx hb dX0_take_17 (by decide) (fun c_17 => ?_) (fun c_17 => ?_)
    · skip
      have hk9 : rok R none = sOk R none := by unfold rok sOk; rw [if_neg c_5]; simp
      refine lv_aload_n hx hb dX0_take_35 rfl (lv_at hl 0 rfl) ?_
      refine lv_iload_n hx hb dX0_take_36 rfl (lv_at hl 1 rfl) ?_
      refine q_W1 (va_runV (As := [.int (-1)]) (rest := []) ⟨hx, hb, hml, hown, hts⟩ (c_X0_takeSign l hR (none) (by intro v hv; cases hv) (by omega)) (cwV 1 hts gX0_take_X0_takeSign rfl rfl rfl (by decide +kernel) ⟨Nat.le_of_ble_eq_true rfl, Nat.le_of_ble_eq_true rfl⟩) (q_preV hG hW hS hr0 rfl) rfl rfl hl.1 rfl (lv_room (Nat.le_of_ble_eq_true rfl)) dX0_take_37 ⟨Nat.le_of_ble_eq_true rfl, Nat.le_of_ble_eq_true rfl⟩) hS (fun w_37 H locs hp37 hW hS => ?_)
      obtain ⟨hR2, fr37⟩ := hp37
      exact q_wz hx hb hr hlocks hW hS dX0_take_40 (by rw [hk9]) (q_bn _) (by refine ⟨?_, by intro id h9 h8; rw [fr37 id (by omega) (by omega)]; try rfl⟩; unfold rnx; rw [hk9, if_neg c_5]; dsimp only; have h9 : ¬ sOk R none = true := (by unfold sOk; simp); rw [if_neg h9] at hR2 ⊢; exact hR2) (by decide) (by decide)
    · skip
      exact absurd (by decide) c_17
  · skip
    have c_5 : R.1 = 3 := (nI_eq (a := R.1) (b := 3) (by omega) (by omega)).mp c_5
    have hk9 : rok R none = kOk none := by unfold rok; rw [if_pos c_5]
    refine lv_aload_n hx hb dX0_take_8 rfl (lv_at hl 0 rfl) ?_
    refine lv_iload_n hx hb dX0_take_9 rfl (lv_at hl 1 rfl) ?_
    refine q_W1 (va_runV (As := [.int (-1)]) (rest := []) ⟨hx, hb, hml, hown, hts⟩ (c_X0_takeKind l hR (none) (by intro v hv; cases hv)) (cwV 1 hts gX0_take_X0_takeKind rfl rfl rfl (by decide +kernel) ⟨Nat.le_of_ble_eq_true rfl, Nat.le_of_ble_eq_true rfl⟩) (q_preV hG hW hS hr0 rfl) rfl rfl hl.1 rfl (lv_room (Nat.le_of_ble_eq_true rfl)) dX0_take_10 ⟨Nat.le_of_ble_eq_true rfl, Nat.le_of_ble_eq_true rfl⟩) hS (fun w_10 H locs hp10 hW hS => ?_)
    obtain ⟨hR2, fr10⟩ := hp10
    exact q_wz hx hb hr hlocks hW hS dX0_take_13 (by rw [hk9]) (q_bn _) (by refine ⟨?_, by intro id h9 h8; rw [fr10 id (by omega) (by omega)]; try rfl⟩; unfold rnx; rw [hk9, if_pos c_5]; first | exact hR2 | (by_cases h9 : kOk _ = true <;> simp only [h9, if_true] at hR2 ⊢ <;> exact hR2)) (by decide) (by decide)

