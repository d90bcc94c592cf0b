-- THE READER: part, kind, numbers (none: not begun)
/-- a number, or NONE -/
def oI : Option Nat → Int32
  | none => -1
  | some v => nI v
abbrev Rd : Type := Nat × Int32 × (Nat → Option Nat)
def cLo (i : Nat) : Nat := ([0, 1, 1] : List Nat).getD i 0
def cHi (i : Nat) : Nat := ([99, 20, 30] : List Nat).getD i 0
def sgn (i : Nat) : Nat := ([43, 64, 59] : List Nat).getD i 0
theorem cHi_le : ∀ i, cHi i ≤ 99 := by
  intro i
  match i with
  | 0 => decide
  | 1 => decide
  | 2 => decide
  | i + 3 => simp [cHi]
theorem sgn_le : ∀ i, sgn i ≤ 64 := by
  intro i
  match i with
  | 0 => decide
  | 1 => decide
  | 2 => decide
  | i + 3 => simp [sgn]
abbrev fitI (i : Nat) (v : Int32) : Prop := nI (cLo i) ≤ v ∧ v ≤ nI (cHi i)
theorem cLo_le : ∀ i, cLo i ≤ 1 := by
  intro i
  match i with
  | 0 => decide
  | 1 => decide
  | 2 => decide
  | i + 3 => simp [cLo]
theorem fitI_n {i v : Nat} (hv : v < 2 ^ 31) : fitI i (nI v) ↔ (cLo i ≤ v ∧ v ≤ cHi i) := by
  have h1 := cLo_le i
  have h2 := cHi_le i
  unfold fitI
  rw [nI_leI (by omega) hv, nI_leI hv (by omega)]
theorem oI_none {o : Option Nat} (h : ∀ v, o = some v → v < 2 ^ 31) : oI o = -1 ↔ o = none := by
  cases o with
  | none => simp [oI]
  | some v =>
    have hv := h v rfl
    constructor
    · intro q
      have q2 := congrArg Int32.toInt q
      rw [show oI (some v) = nI v from rfl, nI_toInt hv] at q2
      have : ((-1 : Int32)).toInt = -1 := by decide
      omega
    · intro q; cases q
theorem oI_some {o : Option Nat} (h : ∀ v, o = some v → v < 2 ^ 31) {m : Nat} (hm : m < 2 ^ 31) : oI o = nI m ↔ o = some m := by
  cases o with
  | none =>
    constructor
    · intro q
      have q2 := congrArg Int32.toInt q
      rw [nI_toInt hm] at q2
      have : (oI none).toInt = -1 := by decide
      omega
    · intro q; cases q
  | some v =>
    rw [show oI (some v) = nI v from rfl, nI_eq (h v rfl) hm]
    simp
def kOk (c : Option Nat) : Bool := decide (c = some 119) || decide (c = some 110) || decide (c = some 78)
def rbeg (R : Rd) (p : Nat) : Rd := (p, R.2.1, if p < 3 then va_up R.2.2 p none else R.2.2)
def dval (R : Rd) (d : Nat) : Nat := match R.2.2 R.1 with
  | none => d
  | some v => v * 10 + d
def dOk (R : Rd) (d : Nat) : Bool := decide (R.2.2 R.1 ≠ some 0) && (decide (cLo R.1 ≤ dval R d) && decide (dval R d ≤ cHi R.1))
def rdig (R : Rd) (d : Nat) : Rd := (R.1, R.2.1, va_up R.2.2 R.1 (some (dval R d)))
def sOk (R : Rd) (c : Option Nat) : Bool := decide (R.2.2 R.1 ≠ none) && decide (c = some (sgn R.1))
/-- does the reader take the code, and what is it then -/
def rok (R : Rd) (c : Option Nat) : Bool := if R.1 = 3 then kOk c else match c with
  | none => false
  | some n => if 48 ≤ n ∧ n ≤ 57 then dOk R (n - 48) else sOk R (some n)
def rnx (R : Rd) (c : Option Nat) : Rd := if rok R c = true then (if R.1 = 3 then rbeg (R.1, oI c, R.2.2) 0 else match c with
  | none => R
  | some n => if 48 ≤ n ∧ n ≤ 57 then rdig R (n - 48) else rbeg R (R.1 + 1)) else R
def okR (R : Rd) : Prop := R.1 ≤ 3 ∧ ∀ i, i < 3 → ∀ v, R.2.2 i = some v → v ≤ 99
def isRdr (dA : Nat → Nat) (b : Nat) (w : Wd) (k : Nat) (R : Rd) : Prop := w k = some (.inr (0, [.ref (b + (k + 1)), .int (nI R.1), .int R.2.1])) ∧ w (k + 1) = some (eI dA 3 (fun i => oI (R.2.2 i))) ∧ okR R
theorem isRdr.fr {dA : Nat → Nat} {b : Nat} {w w1 : Wd} {k : Nat} {R : Rd} (h : isRdr dA b w k R) (h0 : w1 k = w k) (h1 : w1 (k + 1) = w (k + 1)) : isRdr dA b w1 k R := ⟨h0.trans h.1, h1.trans h.2.1, h.2.2⟩
theorem okR_beg {R : Rd} (h : okR R) {p : Nat} (hp : p ≤ 3) : okR (rbeg R p) := by
  refine ⟨hp, fun i hi v hv => ?_⟩
  unfold rbeg at hv
  by_cases h1 : p < 3
  · simp only [if_pos h1] at hv
    unfold va_up at hv
    by_cases h2 : i = p
    · rw [if_pos h2] at hv; cases hv
    · rw [if_neg h2] at hv; exact h.2 i hi v hv
  · simp only [if_neg h1] at hv; exact h.2 i hi v hv
theorem okR_kind {R : Rd} (h : okR R) (x : Int32) : okR (R.1, x, R.2.2) := h
theorem okR_dig {R : Rd} (h : okR R) {d : Nat} (hd : dOk R d = true) : okR (rdig R d) := by
  refine ⟨h.1, fun i hi v hv => ?_⟩
  unfold dOk at hd
  simp only [Bool.and_eq_true, decide_eq_true_eq] at hd
  have h9 := cHi_le R.1
  unfold rdig at hv
  dsimp only at hv
  unfold va_up at hv
  by_cases h2 : i = R.1
  · rw [if_pos h2] at hv; cases hv; omega
  · rw [if_neg h2] at hv; exact h.2 i hi v hv
theorem up_oI {f : Nat → Option Nat} {i : Nat} {o : Option Nat} (j : Nat) : va_up (fun i => oI (f i)) i (oI o) j = oI (va_up f i o j) := by
  unfold va_up; by_cases h : j = i <;> simp [h]
theorem dval_none {R : Rd} {d : Nat} (h : R.2.2 R.1 = none) : dval R d = d := by unfold dval; rw [h]
theorem dval_some {R : Rd} {d v : Nat} (h : R.2.2 R.1 = some v) : dval R d = v * 10 + d := by unfold dval; rw [h]
-- the buffer
def isScr (dA : Nat → Nat) (b : Nat) (w : Wd) (k n : Nat) (C : Nat → Nat) : Prop := w k = some (.inr (5, [.ref (b + (k + 1)), .int (nI n)])) ∧ w (k + 1) = some (eN dA 80 C) ∧ n ≤ 80 ∧ ∀ i, i < n → C i < 128
theorem isScr.fr {dA : Nat → Nat} {b : Nat} {w w1 : Wd} {k n : Nat} {C : Nat → Nat} (h : isScr dA b w k n C) (h0 : w1 k = w k) (h1 : w1 (k + 1) = w (k + 1)) : isScr dA b w1 k n C := ⟨h0.trans h.1, h1.trans h.2.1, h.2.2⟩
/-- the code at i, if there is one -/
def cAt (n : Nat) (C : Nat → Nat) (i : Nat) : Option Nat := if i < n then some (C i) else none
/-- the reader behind the first i codes -/
def rrun (n : Nat) (C : Nat → Nat) (R : Rd) : Nat → Rd
  | 0 => R
  | i + 1 => rnx (rrun n C R i) (cAt n C i)
def rst (R : Rd) : Rd := (3, R.2.1, R.2.2)
/-- the first place that the reader does not take -/
def rerr (n : Nat) (C : Nat → Nat) (R : Rd) : Nat → Nat
  | 0 => n
  | d + 1 => if rok (rrun n C R (n - (d + 1))) (cAt n C (n - (d + 1))) = true then rerr n C R d else n - (d + 1)
theorem okR_nx {R : Rd} (h : okR R) (c : Option Nat) : okR (rnx R c) := by
  unfold rnx
  by_cases h1 : rok R c = true
  · rw [if_pos h1]
    by_cases h2 : R.1 = 3
    · rw [if_pos h2]; exact okR_beg (okR_kind h _) (by decide)
    · rw [if_neg h2]
      have h8 := h.1
      cases c with
      | none => exact h
      | some n =>
        by_cases h3 : 48 ≤ n ∧ n ≤ 57
        · simp only [if_pos h3]
          unfold rok at h1
          simp only [if_neg h2, if_pos h3] at h1
          exact okR_dig h h1
        · simp only [if_neg h3]; exact okR_beg h (by omega)
  · rw [if_neg h1]; exact h

set_option maxHeartbeats 300000 in
set_option maxRecDepth 100000 in
/-- fitsCue(field, value) -/
theorem c_X6_fitsCue (l : Launch) {D : va_G} {dA : Nat → Nat} {b : Nat} {w : Wd} (i : Nat) (hi : i < 3) (v : Int32) : Met l yX6_fitsCue wsX6_fitsCue ({ frames := 1, cells := 0, slots := 0, locals := 21 } : Room) (PC D dA b w [.int (nI i), .int (v)]) (QR (some (.int (if fitI i v then 1 else 0)))) 0 0 Fno := by
  refine q_of (cc := cX6_fitsCue) (maxL := 2) (ret := (some .boolean)) (by decide) rfl rfl ?_
  intro p e s m args below meth c ls hx hb hr hml hts hown hlocks hG hW hS hl
  have hown : s.vm.findClass RX6 = some m.cls := hown
  have hl : lv_has ls 2 [(0, .int (nI i)), (1, .int (v))] := hl
  refine lv_iload_n hx hb dX6_fitsCue_0 rfl (lv_at hl 1 rfl) ?_
  refine va_gets hx hb (hG.2.2.1 0 _ rfl).1 hS hown (hts (.fieldLink RX6 268 "FoleyMixer" "LEAST_OF_CUE" "[I") (List.mem_of_getElem? (i := 1) rfl)) (fun _ h => h) dX6_fitsCue_1 ?_
  refine lv_iload_n hx hb dX6_fitsCue_4 rfl (lv_at hl 0 rfl) ?_
  refine q_R1 (va_runS (As := [.ref (dA 10), .int (nI i)]) (rest := [.int (v)]) ⟨hx, hb, hml, hown, hts⟩ (c_entry_in l (RD.st 0 rfl) (by decide) (i) (by show i < 3; exact hi)) (va_cwS 2 hts gX6_fitsCue_X6_entry rfl rfl rfl (by decide +kernel) ⟨Nat.le_of_ble_eq_true rfl, Nat.le_of_ble_eq_true rfl⟩) (q_preS hG hW hS) rfl rfl hl.1 rfl (lv_room (Nat.le_of_ble_eq_true rfl)) dX6_fitsCue_5 ⟨Nat.le_of_ble_eq_true rfl, Nat.le_of_ble_eq_true rfl⟩) ?_
  refine lv_icmp_lt (tgt := 26) hx hb dX6_fitsCue_8 (by decide) (fun c_8 => ?_) (fun c_8 => ?_)
  · skip
    refine lv_iconst (v := nI 0) hx hb dX6_fitsCue_26 (by decide) ?_
    exact q_rz hx hb hr hlocks dX6_fitsCue_27 (by first | (rw [if_pos ⟨Int32.not_lt.mp c_8, Int32.not_lt.mp c_19⟩]; rfl) | (rw [if_neg (fun q => absurd q.1 (Int32.not_le.mpr c_8))]; rfl) | (rw [if_neg (fun q => absurd q.2 (Int32.not_le.mpr c_19))]; rfl)) (q_bn _)
  · skip
    refine lv_iload_n hx hb dX6_fitsCue_11 rfl (lv_at hl 1 rfl) ?_
    refine va_gets hx hb (hG.2.2.1 1 _ rfl).1 hS hown (hts (.fieldLink RX6 265 "FoleyMixer" "MOST_OF_CUE" "[I") (List.mem_of_getElem? (i := 2) rfl)) (fun _ h => h) dX6_fitsCue_12 ?_
    refine lv_iload_n hx hb dX6_fitsCue_15 rfl (lv_at hl 0 rfl) ?_
    refine q_R1 (va_runS (As := [.ref (dA 11), .int (nI i)]) (rest := [.int (v)]) ⟨hx, hb, hml, hown, hts⟩ (c_entry_in l (RD.st 1 rfl) (by decide) (i) (by show i < 3; exact hi)) (va_cwS 2 hts gX6_fitsCue_X6_entry rfl rfl rfl (by decide +kernel) ⟨Nat.le_of_ble_eq_true rfl, Nat.le_of_ble_eq_true rfl⟩) (q_preS hG hW hS) rfl rfl hl.1 rfl (lv_room (Nat.le_of_ble_eq_true rfl)) dX6_fitsCue_16 ⟨Nat.le_of_ble_eq_true rfl, Nat.le_of_ble_eq_true rfl⟩) ?_
    refine lv_icmp_gt (tgt := 26) hx hb dX6_fitsCue_19 (by decide) (fun c_19 => ?_) (fun c_19 => ?_)
    · skip
      refine lv_iconst (v := nI 0) hx hb dX6_fitsCue_26 (by decide) ?_
      exact q_rz hx hb hr hlocks dX6_fitsCue_27 (by first | (rw [if_pos ⟨Int32.not_lt.mp c_8, Int32.not_lt.mp c_19⟩]; rfl) | (rw [if_neg (fun q => absurd q.1 (Int32.not_le.mpr c_8))]; rfl) | (rw [if_neg (fun q => absurd q.2 (Int32.not_le.mpr c_19))]; rfl)) (q_bn _)
    · skip
      refine lv_iconst (v := nI 1) hx hb dX6_fitsCue_22 (by decide) ?_
      refine lv_goto (tgt := 27) hx hb dX6_fitsCue_23 (by decide) ?_
      exact q_rz hx hb hr hlocks dX6_fitsCue_27 (by first | (rw [if_pos ⟨Int32.not_lt.mp c_8, Int32.not_lt.mp c_19⟩]; rfl) | (rw [if_neg (fun q => absurd q.1 (Int32.not_le.mpr c_8))]; rfl) | (rw [if_neg (fun q => absurd q.2 (Int32.not_le.mpr c_19))]; rfl)) (q_bn _)

set_option maxHeartbeats 300000 in
set_option maxRecDepth 100000 in
/-- put(row, index, value) beyond the row -/
theorem c_put_out (l : Launch) {D : va_G} {dA : Nat → Nat} {b : Nat} {w : Wd} {k n : Nat} {f : Nat → Int32} (hk : w k = some (eI dA n f)) (hn : n < 2 ^ 31) (i : Nat) (hi : n ≤ i) (hi2 : i < 2 ^ 31) (x : Int32) : Met l yX6_put wsX6_put ({ frames := 0, cells := 0, slots := 0, locals := 0 } : Room) (PC D dA b w [.ref (b + k), .int (nI i), .int (x)]) (QW D b (none) (fun w' => w' = w)) 0 0 (Fb b) := by
  refine q_of (cc := cX6_put) (maxL := 3) (ret := none) (by decide) rfl rfl ?_
  intro p e s m args below meth c ls hx hb hr hml hts hown hlocks hG hW hS hl
  have hown : s.vm.findClass RX6 = some m.cls := hown
  have hl : lv_has ls 3 [(0, .ref (b + k)), (1, .int (nI i)), (2, .int (x))] := hl
  refine lv_iload_n hx hb dX6_put_0 rfl (lv_at hl 1 rfl) ?_
  refine lv_if_lt (tgt := 14) hx hb dX6_put_1 (by decide) (fun c_1 => ?_) (fun c_1 => ?_)
  · skip
    have c_1 : i < 0 := (nI_lt0 (i := i) (by omega)).mp c_1
    exact q_wv hx hb hr hlocks hW hS dX6_put_14 (by first | rfl | omega) (by decide) (by decide)
  · skip
    have c_1 : ¬ (i < 0) := fun h__ => c_1 ((nI_lt0 (i := i) (by omega)).mpr h__)
    refine lv_iload_n hx hb dX6_put_4 rfl (lv_at hl 1 rfl) ?_
    refine lv_aload_n hx hb dX6_put_5 rfl (lv_at hl 0 rfl) ?_
    refine q_alen hx hb (hW.ar hG hk (by omega)) dX6_put_6 ?_
    refine lv_icmp_ge (tgt := 14) hx hb dX6_put_7 (by decide) (fun c_7 => ?_) (fun c_7 => ?_)
    · skip
      have c_7 : n ≤ i := (nI_leI (a := n) (b := i) (by omega) (by omega)).mp c_7
      exact q_wv hx hb hr hlocks hW hS dX6_put_14 (by first | rfl | omega) (by decide) (by decide)
    · skip
      have c_7 : ¬ (n ≤ i) := fun h__ => c_7 ((nI_leI (a := n) (b := i) (by omega) (by omega)).mpr h__)
      exact absurd (by omega) c_7

set_option maxHeartbeats 300000 in
set_option maxRecDepth 100000 in
/-- CueReader.restart() -/
theorem c_X0_restart (l : Launch) {D : va_G} {dA : Nat → Nat} {b : Nat} {w : Wd} {k : Nat} {R : Rd} (hR : isRdr dA b w k R) : Met l yX0_restart wsX0_restart ({ frames := 0, cells := 0, slots := 0, locals := 0 } : Room) (PC D dA b w [.ref (b + k)]) (QW D b (none) (fun w' => isRdr dA b w' k (rst R) ∧ ∀ id : Nat, id ≠ k → id ≠ k + 1 → w' id = w id)) 0 0 (Fb b) := by
  refine q_of (cc := cX0_restart) (maxL := 1) (ret := none) (by decide) rfl rfl ?_
  intro p e s m args below meth c ls hx hb hr hml hts hown hlocks hG hW hS hl
  have hown : s.vm.findClass RX0 = some m.cls := hown
  have hinX0 : ∀ w ∈ u_ws RX0 TX0 3, w ∈ wsX0_restart := fun w h => (goodIn_r (big := wsX0_restart) (u_ws RX0 TX0 3) [2, 3, 4] (by decide +kernel) (by decide +kernel) w h).1
  have hl : lv_has ls 1 [(0, .ref (b + k))] := hl
  obtain ⟨hr0, hr1, hro⟩ := id hR
  have hro1 := hro.1
  refine lv_aload_n hx hb dX0_restart_0 rfl (lv_at hl 0 rfl) ?_
  refine lv_iconst (v := nI 3) hx hb dX0_restart_1 (by decide) ?_
  refine q_put hx hb hts hinX0 tyX0_ok nmX0 hown hG hW hS hr0 rfl 1 (by decide) (hts (.fieldLink RX0 15 "FoleyMixer$CueReader" "part" "I") (List.mem_of_getElem? (i := 1) rfl)) rfl rfl rfl rfl (Nat.le_of_ble_eq_true rfl) dX0_restart_2 (fun H locs hW hS hz2 => ?_)
  obtain ⟨w1, ew1⟩ : ∃ wq__ : Wd, wq__ = va_up w k (some (.inr (0, [.ref (b + (k + 1)), .int (nI 3), .int (R.2.1)]))) := ⟨_, rfl⟩
  replace hW : WP D b w1 H := by rw [ew1]; exact hW
  have frw1 : ∀ id : Nat, id ≠ k → w1 id = w id := fun id h9 => by rw [ew1, up_ne h9]
  replace hr1 : w1 (k + 1) = some (eI dA 3 (fun i => oI (R.2.2 i))) := (frw1 _ (by omega)).trans hr1
  replace hr0 : w1 k = some (.inr (0, [.ref (b + (k + 1)), .int (nI 3), .int (R.2.1)])) := by rw [ew1]; exact up_eq
  exact q_wv hx hb hr hlocks hW hS dX0_restart_5 (by exact ⟨⟨hr0, hr1, Nat.le_refl 3, hro.2⟩, by intro id h9 h8; rw [frw1 id (by omega)]; try rfl⟩) (by decide) (by decide)

set_option maxHeartbeats 300000 in
set_option maxRecDepth 100000 in
/-- CueReader.kind() -/
theorem c_X0_kind (l : Launch) {D : va_G} {dA : Nat → Nat} {b : Nat} {w : Wd} {k : Nat} {R : Rd} (hR : isRdr dA b w k R) : Met l yX0_kind wsX0_kind ({ frames := 0, cells := 0, slots := 0, locals := 0 } : Room) (PC D dA b w [.ref (b + k)]) (QR (some (.int (R.2.1)))) 0 0 Fno := by
  refine q_of (cc := cX0_kind) (maxL := 1) (ret := (some .int)) (by decide) rfl rfl ?_
  intro p e s m args below meth c ls hx hb hr hml hts hown hlocks hG hW hS hl
  have hown : s.vm.findClass RX0 = some m.cls := hown
  have hinX0 : ∀ w ∈ u_ws RX0 TX0 3, w ∈ wsX0_kind := fun w h => (goodIn_r (big := wsX0_kind) (u_ws RX0 TX0 3) [2, 3, 4] (by decide +kernel) (by decide +kernel) w h).1
  have hl : lv_has ls 1 [(0, .ref (b + k))] := hl
  obtain ⟨hr0, hr1, hro⟩ := id hR
  have hro1 := hro.1
  refine lv_aload_n hx hb dX0_kind_0 rfl (lv_at hl 0 rfl) ?_
  refine q_get hx hb hts hinX0 hown hG hW hr0 rfl 2 (by decide) (hts (.fieldLink RX0 19 "FoleyMixer$CueReader" "kind" "I") (List.mem_of_getElem? (i := 1) rfl)) rfl rfl dX0_kind_1 ?_
  exact q_ri hx hb hr hlocks dX0_kind_4 (by rfl)

set_option maxHeartbeats 300000 in
set_option maxRecDepth 100000 in
/-- CueReader.numberOf(field) -/
theorem c_X0_numberOf (l : Launch) {D : va_G} {dA : Nat → Nat} {b : Nat} {w : Wd} {k : Nat} {R : Rd} (hR : isRdr dA b w k R) (i : Nat) (hi : i < 3) : Met l yX0_numberOf wsX0_numberOf ({ frames := 1, cells := 0, slots := 0, locals := 21 } : Room) (PC D dA b w [.ref (b + k), .int (nI i)]) (QR (some (.int (oI (R.2.2 i))))) 0 0 Fno := by
  refine q_of (cc := cX0_numberOf) (maxL := 2) (ret := (some .int)) (by decide) rfl rfl ?_
  intro p e s m args below meth c ls hx hb hr hml hts hown hlocks hG hW hS hl
  have hown : s.vm.findClass RX0 = some m.cls := hown
  have hinX0 : ∀ w ∈ u_ws RX0 TX0 3, w ∈ wsX0_numberOf := fun w h => (goodIn_r (big := wsX0_numberOf) (u_ws RX0 TX0 3) [5, 6, 7] (by decide +kernel) (by decide +kernel) w h).1
  have hl : lv_has ls 2 [(0, .ref (b + k)), (1, .int (nI i))] := hl
  obtain ⟨hr0, hr1, hro⟩ := id hR
  have hro1 := hro.1
  refine lv_aload_n hx hb dX0_numberOf_0 rfl (lv_at hl 0 rfl) ?_
  refine q_get hx hb hts hinX0 hown hG hW hr0 rfl 0 (by decide) (hts (.fieldLink RX0 11 "FoleyMixer$CueReader" "numbers" "[I") (List.mem_of_getElem? (i := 1) rfl)) rfl rfl dX0_numberOf_1 ?_
  refine lv_iload_n hx hb dX0_numberOf_4 rfl (lv_at hl 1 rfl) ?_
  refine q_R1 (va_runSN (As := [.ref (b + (k + 1)), .int (nI i)]) (rest := []) ⟨hx, hb, hml, hown, hts⟩ (c_entry_in l (RD.own hr1 (by decide)) (by decide) (i) (by omega)) ⟨(va_cnB 2 hts gX0_numberOf_X6_entry_n22 rfl rfl rfl (hG.nest 30 rfl) (hts (.initialized RX6) (List.mem_of_getElem? (i := 3) rfl)) (by decide +kernel) ⟨Nat.le_of_ble_eq_true rfl, Nat.le_of_ble_eq_true rfl⟩), (hts (.static yX6_entry) (List.mem_of_getElem? (i := 2) rfl)), trivial⟩ (q_preS hG hW hS) rfl rfl hl.1 rfl (lv_room (Nat.le_of_ble_eq_true rfl)) dX0_numberOf_5 ⟨Nat.le_of_ble_eq_true rfl, Nat.le_of_ble_eq_true rfl⟩) ?_
  exact q_ri hx hb hr hlocks dX0_numberOf_8 (by rfl)

set_option maxHeartbeats 300000 in
set_option maxRecDepth 100000 in
/-- CueReader.isComplete() -/
theorem c_X0_isComplete (l : Launch) {D : va_G} {dA : Nat → Nat} {b : Nat} {w : Wd} {k : Nat} {R : Rd} (hR : isRdr dA b w k R) : Met l yX0_isComplete wsX0_isComplete ({ frames := 2, cells := 0, slots := 0, locals := 42 } : Room) (PC D dA b w [.ref (b + k)]) (QR (some (.int (if R.1 = 2 ∧ R.2.2 2 ≠ none then 1 else 0)))) 0 0 Fno := by
  refine q_of (cc := cX0_isComplete) (maxL := 1) (ret := (some .boolean)) (by decide) rfl rfl ?_
  intro p e s m args below meth c ls hx hb hr hml hts hown hlocks hG hW hS hl
  have hown : s.vm.findClass RX0 = some m.cls := hown
  have hinX0 : ∀ w ∈ u_ws RX0 TX0 3, w ∈ wsX0_isComplete := fun w h => (goodIn_r (big := wsX0_isComplete) (u_ws RX0 TX0 3) [11, 12, 13] (by decide +kernel) (by decide +kernel) w h).1
  have hl : lv_has ls 1 [(0, .ref (b + k))] := hl
  obtain ⟨hr0, hr1, hro⟩ := id hR
  have hro1 := hro.1
  refine lv_aload_n hx hb dX0_isComplete_0 rfl (lv_at hl 0 rfl) ?_
  refine q_get hx hb hts hinX0 hown hG hW hr0 rfl 1 (by decide) (hts (.fieldLink RX0 15 "FoleyMixer$CueReader" "part" "I") (List.mem_of_getElem? (i := 1) rfl)) rfl rfl dX0_isComplete_1 ?_
  refine lv_iconst (v := nI 2) hx hb dX0_isComplete_4 (by decide) ?_
  refine lv_icmp_ne (tgt := 21) hx hb dX0_isComplete_5 (by decide) (fun c_5 => ?_) (fun c_5 => ?_)
  · skip
    have c_5 : ¬ (R.1 = 2) := fun h__ => c_5 ((nI_eq (a := R.1) (b := 2) (by omega) (by omega)).mpr h__)
    refine lv_iconst (v := nI 0) hx hb dX0_isComplete_21 (by decide) ?_
    exact q_rz hx hb hr hlocks dX0_isComplete_22 (by first | (rw [if_pos ⟨c_5, fun q => c_14 ((oI_none (fun v hv => by have := hro.2 2 (by omega) v hv; omega)).mpr q)⟩]; rfl) | (rw [if_neg (fun q => c_5 q.1)]; rfl) | (rw [if_neg (fun q => q.2 ((oI_none (fun v hv => by have := hro.2 2 (by omega) v hv; omega)).mp c_14))]; rfl)) (q_bn _)
  · skip
    have c_5 : R.1 = 2 := (nI_eq (a := R.1) (b := 2) (by omega) (by omega)).mp c_5
    refine lv_aload_n hx hb dX0_isComplete_8 rfl (lv_at hl 0 rfl) ?_
    refine lv_iconst (v := nI 2) hx hb dX0_isComplete_9 (by decide) ?_
    refine q_R1 (va_runV (As := [.int (nI 2)]) (rest := []) ⟨hx, hb, hml, hown, hts⟩ (c_X0_numberOf l hR (2) (by omega)) (cwV 1 hts gX0_isComplete_X0_numberOf rfl rfl rfl (by decide +kernel) ⟨Nat.le_of_ble_eq_true rfl, Nat.le_of_ble_eq_true rfl⟩) (q_preV hG hW hS hr0 rfl) rfl rfl hl.1 rfl (lv_room (Nat.le_of_ble_eq_true rfl)) dX0_isComplete_10 ⟨Nat.le_of_ble_eq_true rfl, Nat.le_of_ble_eq_true rfl⟩) ?_
    refine lv_iconst (v := (-1)) hx hb dX0_isComplete_13 (by decide) ?_
    refine lv_icmp_eq (tgt := 21) hx hb dX0_isComplete_14 (by decide) (fun c_14 => ?_) (fun c_14 => ?_)
    · skip
      refine lv_iconst (v := nI 0) hx hb dX0_isComplete_21 (by decide) ?_
      exact q_rz hx hb hr hlocks dX0_isComplete_22 (by first | (rw [if_pos ⟨c_5, fun q => c_14 ((oI_none (fun v hv => by have := hro.2 2 (by omega) v hv; omega)).mpr q)⟩]; rfl) | (rw [if_neg (fun q => c_5 q.1)]; rfl) | (rw [if_neg (fun q => q.2 ((oI_none (fun v hv => by have := hro.2 2 (by omega) v hv; omega)).mp c_14))]; rfl)) (q_bn _)
    · skip
      refine lv_iconst (v := nI 1) hx hb dX0_isComplete_17 (by decide) ?_
      refine lv_goto (tgt := 22) hx hb dX0_isComplete_18 (by decide) ?_
      exact q_rz hx hb hr hlocks dX0_isComplete_22 (by first | (rw [if_pos ⟨c_5, fun q => c_14 ((oI_none (fun v hv => by have := hro.2 2 (by omega) v hv; omega)).mpr q)⟩]; rfl) | (rw [if_neg (fun q => c_5 q.1)]; rfl) | (rw [if_neg (fun q => q.2 ((oI_none (fun v hv => by have := hro.2 2 (by omega) v hv; omega)).mp c_14))]; rfl)) (q_bn _)

set_option maxHeartbeats 300000 in
set_option maxRecDepth 100000 in
/-- CueReader.beginPart(next) -/
theorem c_beginPart_in (l : Launch) {D : va_G} {dA : Nat → Nat} {b : Nat} {w : Wd} {k : Nat} {R : Rd} (hR : isRdr dA b w k R) (p9 : Nat) (hp : p9 < 3) : Met l yX0_beginPart wsX0_beginPart ({ frames := 1, cells := 0, slots := 0, locals := 22 } : Room) (PC D dA b w [.ref (b + k), .int (nI p9)]) (QW D b (none) (fun w' => isRdr dA b w' k (rbeg R p9) ∧ ∀ id : Nat, id ≠ k → id ≠ k + 1 → w' id = w id)) 0 0 (Fb b) := by
  refine q_of (cc := cX0_beginPart) (maxL := 2) (ret := none) (by decide) rfl rfl ?_
  intro p e s m args below meth c ls hx hb hr hml hts hown hlocks hG hW hS hl
  have hown : s.vm.findClass RX0 = some m.cls := hown
  have hinX0 : ∀ w ∈ u_ws RX0 TX0 3, w ∈ wsX0_beginPart := fun w h => (goodIn_r (big := wsX0_beginPart) (u_ws RX0 TX0 3) [6, 7, 8] (by decide +kernel) (by decide +kernel) w h).1
  have hl : lv_has ls 2 [(0, .ref (b + k)), (1, .int (nI p9))] := hl
  obtain ⟨hr0, hr1, hro⟩ := id hR
  have hro1 := hro.1
  refine lv_aload_n hx hb dX0_beginPart_0 rfl (lv_at hl 0 rfl) ?_
  refine lv_iload_n hx hb dX0_beginPart_1 rfl (lv_at hl 1 rfl) ?_
  refine q_put hx hb hts hinX0 tyX0_ok nmX0 hown hG hW hS hr0 rfl 1 (by decide) (hts (.fieldLink RX0 15 "FoleyMixer$CueReader" "part" "I") (List.mem_of_getElem? (i := 1) rfl)) rfl rfl rfl rfl (Nat.le_of_ble_eq_true rfl) dX0_beginPart_2 (fun H locs hW hS hz2 => ?_)
  obtain ⟨w1, ew1⟩ : ∃ wq__ : Wd, wq__ = va_up w k (some (.inr (0, [.ref (b + (k + 1)), .int (nI p9), .int (R.2.1)]))) := ⟨_, rfl⟩
  replace hW : WP D b w1 H := by rw [ew1]; exact hW
  have frw1 : ∀ id : Nat, id ≠ k → w1 id = w id := fun id h9 => by rw [ew1, up_ne h9]
  replace hr1 : w1 (k + 1) = some (eI dA 3 (fun i => oI (R.2.2 i))) := (frw1 _ (by omega)).trans hr1
  replace hr0 : w1 k = some (.inr (0, [.ref (b + (k + 1)), .int (nI p9), .int (R.2.1)])) := by rw [ew1]; exact up_eq
  refine lv_aload_n hx hb dX0_beginPart_5 rfl (lv_at hl 0 rfl) ?_
  refine q_get hx hb hts hinX0 hown hG hW hr0 rfl 0 (by decide) (hts (.fieldLink RX0 11 "FoleyMixer$CueReader" "numbers" "[I") (List.mem_of_getElem? (i := 2) rfl)) rfl rfl dX0_beginPart_6 ?_
  refine lv_iload_n hx hb dX0_beginPart_9 rfl (lv_at hl 1 rfl) ?_
  refine lv_iconst (v := (-1)) hx hb dX0_beginPart_10 (by decide) ?_
  refine q_W0 (va_runSN (As := [.ref (b + (k + 1)), .int (nI p9), .int (-1)]) (rest := []) ⟨hx, hb, hml, hown, hts⟩ (c_X6_put l hr1 (by decide) (p9) (by omega) (-1)) ⟨(va_cnB 3 hts gX0_beginPart_X6_put_n44 rfl rfl rfl (hG.nest 29 rfl) (hts (.initialized RX6) (List.mem_of_getElem? (i := 4) rfl)) (by decide +kernel) ⟨Nat.le_of_ble_eq_true rfl, Nat.le_of_ble_eq_true rfl⟩), (hts (.static yX6_put) (List.mem_of_getElem? (i := 3) rfl)), trivial⟩ (q_preS hG hW hS) rfl rfl hl.1 rfl (lv_room (Nat.le_of_ble_eq_true rfl)) dX0_beginPart_11 ⟨Nat.le_of_ble_eq_true rfl, Nat.le_of_ble_eq_true rfl⟩) hS (fun w_11 H locs hp11 hW hS => ?_)
  obtain ⟨hr1, fr11⟩ := hp11
  replace hr0 : w_11 k = some (.inr (0, [.ref (b + (k + 1)), .int (nI p9), .int (R.2.1)])) := (fr11 _ (by omega)).trans hr0
  exact q_wv hx hb hr hlocks hW hS dX0_beginPart_14 (by exact ⟨⟨hr0, hr1.trans (eI_congr fun j => by unfold rbeg; rw [if_pos hp]; exact up_oI (o := none) j), okR_beg hro (by omega)⟩, by intro id h9 h8; rw [fr11 id (by omega)]; rw [frw1 id (by omega)]; try rfl⟩) (by decide) (by decide)

set_option maxHeartbeats 300000 in
set_option maxRecDepth 100000 in
/-- CueReader.beginPart(3) -/
theorem c_beginPart_out (l : Launch) {D : va_G} {dA : Nat → Nat} {b : Nat} {w : Wd} {k : Nat} {R : Rd} (hR : isRdr dA b w k R) : Met l yX0_beginPart wsX0_beginPart ({ frames := 1, cells := 0, slots := 0, locals := 22 } : Room) (PC D dA b w [.ref (b + k), .int (nI 3)]) (QW D b (none) (fun w' => isRdr dA b w' k (rbeg R 3) ∧ ∀ id : Nat, id ≠ k → id ≠ k + 1 → w' id = w id)) 0 0 (Fb b) := by
  refine q_of (cc := cX0_beginPart) (maxL := 2) (ret := none) (by decide) rfl rfl ?_
  intro p e s m args below meth c ls hx hb hr hml hts hown hlocks hG hW hS hl
  have hown : s.vm.findClass RX0 = some m.cls := hown
  have hinX0 : ∀ w ∈ u_ws RX0 TX0 3, w ∈ wsX0_beginPart := fun w h => (goodIn_r (big := wsX0_beginPart) (u_ws RX0 TX0 3) [6, 7, 8] (by decide +kernel) (by decide +kernel) w h).1
  have hl : lv_has ls 2 [(0, .ref (b + k)), (1, .int (nI 3))] := hl
  obtain ⟨hr0, hr1, hro⟩ := id hR
  have hro1 := hro.1
  refine lv_aload_n hx hb dX0_beginPart_0 rfl (lv_at hl 0 rfl) ?_
  refine lv_iload_n hx hb dX0_beginPart_1 rfl (lv_at hl 1 rfl) ?_
  refine q_put hx hb hts hinX0 tyX0_ok nmX0 hown hG hW hS hr0 rfl 1 (by decide) (hts (.fieldLink RX0 15 "FoleyMixer$CueReader" "part" "I") (List.mem_of_getElem? (i := 1) rfl)) rfl rfl rfl rfl (Nat.le_of_ble_eq_true rfl) dX0_beginPart_2 (fun H locs hW hS hz2 => ?_)
  obtain ⟨w1, ew1⟩ : ∃ wq__ : Wd, wq__ = va_up w k (some (.inr (0, [.ref (b + (k + 1)), .int (nI 3), .int (R.2.1)]))) := ⟨_, rfl⟩
  replace hW : WP D b w1 H := by rw [ew1]; exact hW
  have frw1 : ∀ id : Nat, id ≠ k → w1 id = w id := fun id h9 => by rw [ew1, up_ne h9]
  replace hr1 : w1 (k + 1) = some (eI dA 3 (fun i => oI (R.2.2 i))) := (frw1 _ (by omega)).trans hr1
  replace hr0 : w1 k = some (.inr (0, [.ref (b + (k + 1)), .int (nI 3), .int (R.2.1)])) := by rw [ew1]; exact up_eq
  refine lv_aload_n hx hb dX0_beginPart_5 rfl (lv_at hl 0 rfl) ?_
  refine q_get hx hb hts hinX0 hown hG hW hr0 rfl 0 (by decide) (hts (.fieldLink RX0 11 "FoleyMixer$CueReader" "numbers" "[I") (List.mem_of_getElem? (i := 2) rfl)) rfl rfl dX0_beginPart_6 ?_
  refine lv_iload_n hx hb dX0_beginPart_9 rfl (lv_at hl 1 rfl) ?_
  refine lv_iconst (v := (-1)) hx hb dX0_beginPart_10 (by decide) ?_
  refine q_W0 (va_runSN (As := [.ref (b + (k + 1)), .int (nI 3), .int (-1)]) (rest := []) ⟨hx, hb, hml, hown, hts⟩ (c_put_out l hr1 (by decide) 3 (by decide) (by decide) (-1)) ⟨(va_cnB 3 hts gX0_beginPart_X6_put_n44 rfl rfl rfl (hG.nest 29 rfl) (hts (.initialized RX6) (List.mem_of_getElem? (i := 4) rfl)) (by decide +kernel) ⟨Nat.le_of_ble_eq_true rfl, Nat.le_of_ble_eq_true rfl⟩), (hts (.static yX6_put) (List.mem_of_getElem? (i := 3) rfl)), trivial⟩ (q_preS hG hW hS) rfl rfl hl.1 rfl (lv_room (Nat.le_of_ble_eq_true rfl)) dX0_beginPart_11 ⟨Nat.le_of_ble_eq_true rfl, Nat.le_of_ble_eq_true rfl⟩) hS (fun w_11 H locs hp11 hW hS => ?_)
  rw [hp11] at hW
  exact q_wv hx hb hr hlocks hW hS dX0_beginPart_14 (by exact ⟨⟨hr0, hr1, okR_beg hro (by decide)⟩, by intro id h9 h8; rw [frw1 id (by omega)]; try rfl⟩) (by decide) (by decide)

theorem c_X0_beginPart (l : Launch) {D : va_G} {dA : Nat → Nat} {b : Nat} {w : Wd} {k : Nat} {R : Rd} (hR : isRdr dA b w k R) (p9 : Nat) (hp : p9 ≤ 3) : Met l yX0_beginPart wsX0_beginPart ({ frames := 1, cells := 0, slots := 0, locals := 22 } : Room) (PC D dA b w [.ref (b + k), .int (nI p9)]) (QW D b none (fun w' => isRdr dA b w' k (rbeg R p9) ∧ ∀ id : Nat, id ≠ k → id ≠ k + 1 → w' id = w id)) 0 0 (Fb b) := by
  by_cases h : p9 < 3
  · exact c_beginPart_in l hR p9 h
  · have e : p9 = 3 := by omega
    subst e; exact c_beginPart_out l hR
set_option maxHeartbeats 300000 in
set_option maxRecDepth 100000 in
/-- CueReader.takeKind(code) -/
theorem c_X0_takeKind (l : Launch) {D : va_G} {dA : Nat → Nat} {b : Nat} {w : Wd} {k : Nat} {R : Rd} (hR : isRdr dA b w k R) (c9 : Option Nat) (hc9 : ∀ v, c9 = some v → v < 2 ^ 31) : Met l yX0_takeKind wsX0_takeKind ({ frames := 2, cells := 0, slots := 0, locals := 43 } : Room) (PC D dA b w [.ref (b + k), .int (oI c9)]) (QW D b (some (.int (if kOk c9 = true then 1 else 0))) (fun w' => isRdr dA b w' k (if kOk c9 = true then rbeg (R.1, oI c9, R.2.2) 0 else R) ∧ ∀ id : Nat, id ≠ k → id ≠ k + 1 → w' id = w id)) 0 0 (Fb b) := by
  refine q_of (cc := cX0_takeKind) (maxL := 2) (ret := (some .boolean)) (by decide) rfl rfl ?_
  intro p e s m args below meth c ls hx hb hr hml hts hown hlocks hG hW hS hl
  have hown : s.vm.findClass RX0 = some m.cls := hown
  have hinX0 : ∀ w ∈ u_ws RX0 TX0 3, w ∈ wsX0_takeKind := fun w h => (goodIn_r (big := wsX0_takeKind) (u_ws RX0 TX0 3) [12, 13, 14] (by decide +kernel) (by decide +kernel) w h).1
  have hl : lv_has ls 2 [(0, .ref (b + k)), (1, .int (oI c9))] := hl
  obtain ⟨hr0, hr1, hro⟩ := id hR
  have hro1 := hro.1
  refine lv_iload_n hx hb dX0_takeKind_0 rfl (lv_at hl 1 rfl) ?_
  refine lv_bipush (v := nI 119) hx hb dX0_takeKind_1 (by decide) ?_
  refine lv_icmp_eq (tgt := 20) hx hb dX0_takeKind_3 (by decide) (fun c_3 => ?_) (fun c_3 => ?_)
  · skip
    have L20 : kOk c9 = true → ∀ (ls : Array Slot), lv_has ls 2 [(0, .ref (b + k)), (1, .int (oI c9))] → W p l e ({ frames := 2, cells := 0, slots := 0, locals := 43 } : Room) s m args below meth c s.heap [] 0 0 (MQ below (QW D b (some (.int (if kOk c9 = true then 1 else 0))) (fun w' => isRdr dA b w' k (if kOk c9 = true then rbeg (R.1, oI c9, R.2.2) 0 else R) ∧ ∀ id : Nat, id ≠ k → id ≠ k + 1 → w' id = w id)) args s 0 0 (Fb b)) (F0 m 20 ls []) := by
      intro  hk9 ls hl
      refine lv_aload_n hx hb dX0_takeKind_20 rfl (lv_at hl 0 rfl) ?_
      refine lv_iload_n hx hb dX0_takeKind_21 rfl (lv_at hl 1 rfl) ?_
      refine q_put hx hb hts hinX0 tyX0_ok nmX0 hown hG hW hS hr0 rfl 2 (by decide) (hts (.fieldLink RX0 19 "FoleyMixer$CueReader" "kind" "I") (List.mem_of_getElem? (i := 1) rfl)) rfl rfl rfl rfl (Nat.le_of_ble_eq_true rfl) dX0_takeKind_22 (fun H locs hW hS hz22 => ?_)
      obtain ⟨w1, ew1⟩ : ∃ wq__ : Wd, wq__ = va_up w k (some (.inr (0, [.ref (b + (k + 1)), .int (nI (R.1)), .int (oI c9)]))) := ⟨_, rfl⟩
      replace hW : WP D b w1 H := by rw [ew1]; exact hW
      have frw1 : ∀ id : Nat, id ≠ k → w1 id = w id := fun id h9 => by rw [ew1, up_ne h9]
      replace hr1 : w1 (k + 1) = some (eI dA 3 (fun i => oI (R.2.2 i))) := (frw1 _ (by omega)).trans hr1
      replace hr0 : w1 k = some (.inr (0, [.ref (b + (k + 1)), .int (nI (R.1)), .int (oI c9)])) := by rw [ew1]; exact up_eq
      refine lv_aload_n hx hb dX0_takeKind_25 rfl (lv_at hl 0 rfl) ?_
      refine lv_iconst (v := nI 0) hx hb dX0_takeKind_26 (by decide) ?_
      refine q_W0 (va_runV (As := [.int (nI 0)]) (rest := []) ⟨hx, hb, hml, hown, hts⟩ (c_X0_beginPart l (R := (R.1, oI c9, R.2.2)) ⟨hr0, hr1, hro⟩ 0 (by decide)) (cwV 1 hts gX0_takeKind_X0_beginPart rfl rfl rfl (by decide +kernel) ⟨Nat.le_of_ble_eq_true rfl, Nat.le_of_ble_eq_true rfl⟩) (q_preV hG hW hS hr0 rfl) rfl rfl hl.1 rfl (lv_room (Nat.le_of_ble_eq_true rfl)) dX0_takeKind_27 ⟨Nat.le_of_ble_eq_true rfl, Nat.le_of_ble_eq_true rfl⟩) hS (fun w_27 H locs hp27 hW hS => ?_)
      obtain ⟨hR2, fr27⟩ := hp27
      refine lv_iconst (v := nI 1) hx hb dX0_takeKind_30 (by decide) ?_
      exact q_wz hx hb hr hlocks hW hS dX0_takeKind_31 (by rw [if_pos hk9]; rfl) (q_bn _) (by rw [if_pos hk9]; exact ⟨hR2, by intro id h9 h8; rw [fr27 id (by omega) (by omega)]; rw [frw1 id (by omega)]; try rfl⟩) (by decide) (by decide)
    exact L20  (by unfold kOk; first | (rw [(oI_some hc9 (by decide)).mp c_3]; rfl) | (rw [(oI_some hc9 (by decide)).mp c_9]; rfl) | (rw [(oI_some hc9 (by decide)).mp c_15]; rfl)) _ (lv_sub hl [0, 1] rfl)
  · skip
    refine lv_iload_n hx hb dX0_takeKind_6 rfl (lv_at hl 1 rfl) ?_
    refine lv_bipush (v := nI 110) hx hb dX0_takeKind_7 (by decide) ?_
    refine lv_icmp_eq (tgt := 20) hx hb dX0_takeKind_9 (by decide) (fun c_9 => ?_) (fun c_9 => ?_)
    · skip
      have L20 : kOk c9 = true → ∀ (ls : Array Slot), lv_has ls 2 [(0, .ref (b + k)), (1, .int (oI c9))] → W p l e ({ frames := 2, cells := 0, slots := 0, locals := 43 } : Room) s m args below meth c s.heap [] 0 0 (MQ below (QW D b (some (.int (if kOk c9 = true then 1 else 0))) (fun w' => isRdr dA b w' k (if kOk c9 = true then rbeg (R.1, oI c9, R.2.2) 0 else R) ∧ ∀ id : Nat, id ≠ k → id ≠ k + 1 → w' id = w id)) args s 0 0 (Fb b)) (F0 m 20 ls []) := by
        intro  hk9 ls hl
        refine lv_aload_n hx hb dX0_takeKind_20 rfl (lv_at hl 0 rfl) ?_
        refine lv_iload_n hx hb dX0_takeKind_21 rfl (lv_at hl 1 rfl) ?_
        refine q_put hx hb hts hinX0 tyX0_ok nmX0 hown hG hW hS hr0 rfl 2 (by decide) (hts (.fieldLink RX0 19 "FoleyMixer$CueReader" "kind" "I") (List.mem_of_getElem? (i := 1) rfl)) rfl rfl rfl rfl (Nat.le_of_ble_eq_true rfl) dX0_takeKind_22 (fun H locs hW hS hz22 => ?_)
        obtain ⟨w2, ew2⟩ : ∃ wq__ : Wd, wq__ = va_up w k (some (.inr (0, [.ref (b + (k + 1)), .int (nI (R.1)), .int (oI c9)]))) := ⟨_, rfl⟩
        replace hW : WP D b w2 H := by rw [ew2]; exact hW
        have frw2 : ∀ id : Nat, id ≠ k → w2 id = w id := fun id h9 => by rw [ew2, up_ne h9]
        replace hr1 : w2 (k + 1) = some (eI dA 3 (fun i => oI (R.2.2 i))) := (frw2 _ (by omega)).trans hr1
        replace hr0 : w2 k = some (.inr (0, [.ref (b + (k + 1)), .int (nI (R.1)), .int (oI c9)])) := by rw [ew2]; exact up_eq
        refine lv_aload_n hx hb dX0_takeKind_25 rfl (lv_at hl 0 rfl) ?_
        refine lv_iconst (v := nI 0) hx hb dX0_takeKind_26 (by decide) ?_
        refine q_W0 (va_runV (As := [.int (nI 0)]) (rest := []) ⟨hx, hb, hml, hown, hts⟩ (c_X0_beginPart l (R := (R.1, oI c9, R.2.2)) ⟨hr0, hr1, hro⟩ 0 (by decide)) (cwV 1 hts gX0_takeKind_X0_beginPart rfl rfl rfl (by decide +kernel) ⟨Nat.le_of_ble_eq_true rfl, Nat.le_of_ble_eq_true rfl⟩) (q_preV hG hW hS hr0 rfl) rfl rfl hl.1 rfl (lv_room (Nat.le_of_ble_eq_true rfl)) dX0_takeKind_27 ⟨Nat.le_of_ble_eq_true rfl, Nat.le_of_ble_eq_true rfl⟩) hS (fun w_27 H locs hp27 hW hS => ?_)
        obtain ⟨hR2, fr27⟩ := hp27
        refine lv_iconst (v := nI 1) hx hb dX0_takeKind_30 (by decide) ?_
        exact q_wz hx hb hr hlocks hW hS dX0_takeKind_31 (by rw [if_pos hk9]; rfl) (q_bn _) (by rw [if_pos hk9]; exact ⟨hR2, by intro id h9 h8; rw [fr27 id (by omega) (by omega)]; rw [frw2 id (by omega)]; try rfl⟩) (by decide) (by decide)
      exact L20  (by unfold kOk; first | (rw [(oI_some hc9 (by decide)).mp c_3]; rfl) | (rw [(oI_some hc9 (by decide)).mp c_9]; rfl) | (rw [(oI_some hc9 (by decide)).mp c_15]; rfl)) _ (lv_sub hl [0, 1] rfl)
    · skip
      refine lv_iload_n hx hb dX0_takeKind_12 rfl (lv_at hl 1 rfl) ?_
      refine lv_bipush (v := nI 78) hx hb dX0_takeKind_13 (by decide) ?_
      refine lv_icmp_eq (tgt := 20) hx hb dX0_takeKind_15 (by decide) (fun c_15 => ?_) (fun c_15 => ?_)
      · skip
        have L20 : kOk c9 = true → ∀ (ls : Array Slot), lv_has ls 2 [(0, .ref (b + k)), (1, .int (oI c9))] → W p l e ({ frames := 2, cells := 0, slots := 0, locals := 43 } : Room) s m args below meth c s.heap [] 0 0 (MQ below (QW D b (some (.int (if kOk c9 = true then 1 else 0))) (fun w' => isRdr dA b w' k (if kOk c9 = true then rbeg (R.1, oI c9, R.2.2) 0 else R) ∧ ∀ id : Nat, id ≠ k → id ≠ k + 1 → w' id = w id)) args s 0 0 (Fb b)) (F0 m 20 ls []) := by
          intro  hk9 ls hl
          refine lv_aload_n hx hb dX0_takeKind_20 rfl (lv_at hl 0 rfl) ?_
          refine lv_iload_n hx hb dX0_takeKind_21 rfl (lv_at hl 1 rfl) ?_
          refine q_put hx hb hts hinX0 tyX0_ok nmX0 hown hG hW hS hr0 rfl 2 (by decide) (hts (.fieldLink RX0 19 "FoleyMixer$CueReader" "kind" "I") (List.mem_of_getElem? (i := 1) rfl)) rfl rfl rfl rfl (Nat.le_of_ble_eq_true rfl) dX0_takeKind_22 (fun H locs hW hS hz22 => ?_)
          obtain ⟨w3, ew3⟩ : ∃ wq__ : Wd, wq__ = va_up w k (some (.inr (0, [.ref (b + (k + 1)), .int (nI (R.1)), .int (oI c9)]))) := ⟨_, rfl⟩
          replace hW : WP D b w3 H := by rw [ew3]; exact hW
          have frw3 : ∀ id : Nat, id ≠ k → w3 id = w id := fun id h9 => by rw [ew3, up_ne h9]
          replace hr1 : w3 (k + 1) = some (eI dA 3 (fun i => oI (R.2.2 i))) := (frw3 _ (by omega)).trans hr1
          replace hr0 : w3 k = some (.inr (0, [.ref (b + (k + 1)), .int (nI (R.1)), .int (oI c9)])) := by rw [ew3]; exact up_eq
          refine lv_aload_n hx hb dX0_takeKind_25 rfl (lv_at hl 0 rfl) ?_
          refine lv_iconst (v := nI 0) hx hb dX0_takeKind_26 (by decide) ?_
          refine q_W0 (va_runV (As := [.int (nI 0)]) (rest := []) ⟨hx, hb, hml, hown, hts⟩ (c_X0_beginPart l (R := (R.1, oI c9, R.2.2)) ⟨hr0, hr1, hro⟩ 0 (by decide)) (cwV 1 hts gX0_takeKind_X0_beginPart rfl rfl rfl (by decide +kernel) ⟨Nat.le_of_ble_eq_true rfl, Nat.le_of_ble_eq_true rfl⟩) (q_preV hG hW hS hr0 rfl) rfl rfl hl.1 rfl (lv_room (Nat.le_of_ble_eq_true rfl)) dX0_takeKind_27 ⟨Nat.le_of_ble_eq_true rfl, Nat.le_of_ble_eq_true rfl⟩) hS (fun w_27 H locs hp27 hW hS => ?_)
          obtain ⟨hR2, fr27⟩ := hp27
          refine lv_iconst (v := nI 1) hx hb dX0_takeKind_30 (by decide) ?_
          exact q_wz hx hb hr hlocks hW hS dX0_takeKind_31 (by rw [if_pos hk9]; rfl) (q_bn _) (by rw [if_pos hk9]; exact ⟨hR2, by intro id h9 h8; rw [fr27 id (by omega) (by omega)]; rw [frw3 id (by omega)]; try rfl⟩) (by decide) (by decide)
        exact L20  (by unfold kOk; first | (rw [(oI_some hc9 (by decide)).mp c_3]; rfl) | (rw [(oI_some hc9 (by decide)).mp c_9]; rfl) | (rw [(oI_some hc9 (by decide)).mp c_15]; rfl)) _ (lv_sub hl [0, 1] rfl)
      · skip
        have hk9 : ¬ kOk c9 = true := by
          intro q; unfold kOk at q; simp only [Bool.or_eq_true, decide_eq_true_eq] at q
          rcases q with (q | q) | q
          · exact c_3 ((oI_some hc9 (by decide)).mpr q)
          · exact c_9 ((oI_some hc9 (by decide)).mpr q)
          · exact c_15 ((oI_some hc9 (by decide)).mpr q)
        refine lv_iconst (v := nI 0) hx hb dX0_takeKind_18 (by decide) ?_
        exact q_wz hx hb hr hlocks hW hS dX0_takeKind_19 (by rw [if_neg hk9]; rfl) (q_bn _) (by rw [if_neg hk9]; exact ⟨hR, fun _ _ _ => rfl⟩) (by decide) (by decide)

set_option maxHeartbeats 300000 in
set_option maxRecDepth 100000 in
/-- CueReader.takeDigit(digit) -/
theorem c_X0_takeDigit (l : Launch) {D : va_G} {dA : Nat → Nat} {b : Nat} {w : Wd} {k : Nat} {R : Rd} (hR : isRdr dA b w k R) (d9 : Nat) (hd : d9 ≤ 9) (hp3 : R.1 < 3) : Met l yX0_takeDigit wsX0_takeDigit ({ frames := 2, cells := 0, slots := 0, locals := 42 } : Room) (PC D dA b w [.ref (b + k), .int (nI d9)]) (QW D b (some (.int (if dOk R d9 = true then 1 else 0))) (fun w' => isRdr dA b w' k (if dOk R d9 = true then rdig R d9 else R) ∧ ∀ id : Nat, id ≠ k → id ≠ k + 1 → w' id = w id)) 0 0 (Fb b) := by
  refine q_of (cc := cX0_takeDigit) (maxL := 4) (ret := (some .boolean)) (by decide) rfl rfl ?_
  intro p e s m args below meth c ls hx hb hr hml hts hown hlocks hG hW hS hl
  have hown : s.vm.findClass RX0 = some m.cls := hown
  have hinX0 : ∀ w ∈ u_ws RX0 TX0 3, w ∈ wsX0_takeDigit := fun w h => (goodIn_r (big := wsX0_takeDigit) (u_ws RX0 TX0 3) [18, 19, 20] (by decide +kernel) (by decide +kernel) w h).1
  have hl : lv_has ls 4 [(0, .ref (b + k)), (1, .int (nI d9))] := hl
  obtain ⟨hr0, hr1, hro⟩ := id hR
  have hro1 := hro.1
  have hrv := hro.2 R.1 hp3
  refine lv_aload_n hx hb dX0_takeDigit_0 rfl (lv_at hl 0 rfl) ?_
  refine lv_aload_n hx hb dX0_takeDigit_1 rfl (lv_at hl 0 rfl) ?_
  refine q_get hx hb hts hinX0 hown hG hW hr0 rfl 1 (by decide) (hts (.fieldLink RX0 15 "FoleyMixer$CueReader" "part" "I") (List.mem_of_getElem? (i := 1) rfl)) rfl rfl dX0_takeDigit_2 ?_
  refine q_R1 (va_runV (As := [.int (nI (R.1))]) (rest := []) ⟨hx, hb, hml, hown, hts⟩ (c_X0_numberOf l hR (R.1) (by omega)) (cwV 1 hts gX0_takeDigit_X0_numberOf rfl rfl rfl (by decide +kernel) ⟨Nat.le_of_ble_eq_true rfl, Nat.le_of_ble_eq_true rfl⟩) (q_preV hG hW hS hr0 rfl) rfl rfl hl.1 rfl (lv_room (Nat.le_of_ble_eq_true rfl)) dX0_takeDigit_5 ⟨Nat.le_of_ble_eq_true rfl, Nat.le_of_ble_eq_true rfl⟩) ?_
  refine lv_istore_n (lv' := [(2, .int (oI (R.2.2 R.1))), (0, .ref (b + k)), (1, .int (nI d9))]) hx hb dX0_takeDigit_8 rfl hl (by decide) rfl (fun ls hl => ?_)
  refine lv_iload_n hx hb dX0_takeDigit_9 rfl (lv_at hl 0 rfl) ?_
  refine lv_iconst (v := (-1)) hx hb dX0_takeDigit_10 (by decide) ?_
  refine lv_icmp_ne (tgt := 18) hx hb dX0_takeDigit_11 (by decide) (fun c_11 => ?_) (fun c_11 => ?_)
  · skip
    obtain ⟨v9, hv9⟩ : ∃ v, R.2.2 R.1 = some v := by
      cases h7 : R.2.2 R.1 with
      | none => exact absurd (by rw [h7]; rfl) c_11
      | some v => exact ⟨v, rfl⟩
    have hv8 := hrv v9 hv9
    refine lv_iload_n hx hb dX0_takeDigit_18 rfl (lv_at hl 0 rfl) ?_
    refine q_top (y := nI (v9)) (by rw [hv9]; rfl) ?_
    refine lv_bipush (v := nI 10) hx hb dX0_takeDigit_19 (by decide) ?_
    refine lv_imul hx hb dX0_takeDigit_21 ?_
    refine q_top (y := nI (v9 * 10)) (nI_mul _ _) ?_
    refine lv_iload_n hx hb dX0_takeDigit_22 rfl (lv_at hl 2 rfl) ?_
    refine lv_iadd hx hb dX0_takeDigit_23 ?_
    refine q_top (y := nI ((v9 * 10) + d9)) (nI_add _ _) ?_
    have L24 : ∀  (y24_0 : Int32), y24_0 = nI (dval R d9) → ∀ (ls : Array Slot), lv_has ls 4 [(0, .ref (b + k)), (1, .int (nI d9)), (2, .int (oI (R.2.2 R.1)))] → W p l e ({ frames := 2, cells := 0, slots := 0, locals := 42 } : Room) s m args below meth c s.heap [] 0 0 (MQ below (QW D b (some (.int (if dOk R d9 = true then 1 else 0))) (fun w' => isRdr dA b w' k (if dOk R d9 = true then rdig R d9 else R) ∧ ∀ id : Nat, id ≠ k → id ≠ k + 1 → w' id = w id)) args s 0 0 (Fb b)) (F0 m 24 ls [.int (y24_0)]) := by
      intro  y24_0 ey24_0 ls hl
      subst ey24_0
      have hdv : dval R d9 ≤ 999 := by
        unfold dval
        cases h7 : R.2.2 R.1 with
        | none => dsimp only; omega
        | some v => dsimp only; have := hrv v h7; omega
      refine lv_istore_n (lv' := [(3, .int (nI (dval R d9))), (0, .ref (b + k)), (1, .int (nI d9)), (2, .int (oI (R.2.2 R.1)))]) hx hb dX0_takeDigit_24 rfl hl (by decide) rfl (fun ls hl => ?_)
      refine lv_iload_n hx hb dX0_takeDigit_25 rfl (lv_at hl 3 rfl) ?_
      refine lv_if_eq (tgt := 40) hx hb dX0_takeDigit_26 (by decide) (fun c_26 => ?_) (fun c_26 => ?_)
      · skip
        have hk9 : ¬ dOk R d9 = true := by
          intro q; unfold dOk at q; simp only [Bool.and_eq_true, decide_eq_true_eq] at q
          first
          | exact q.1 ((oI_some (fun v hv => by have := hro.2 R.1 (by omega) v hv; omega) (by decide)).mp c_26)
          | exact c_37 ((fitI_n (by omega)).mpr q.2)
        refine lv_iconst (v := nI 0) hx hb dX0_takeDigit_40 (by decide) ?_
        exact q_wz hx hb hr hlocks hW hS dX0_takeDigit_41 (by rw [if_neg hk9]; rfl) (q_bn _) (by rw [if_neg hk9]; exact ⟨hR, fun _ _ _ => rfl⟩) (by decide) (by decide)
      · skip
        refine lv_aload_n hx hb dX0_takeDigit_29 rfl (lv_at hl 1 rfl) ?_
        refine q_get hx hb hts hinX0 hown hG hW hr0 rfl 1 (by decide) (hts (.fieldLink RX0 15 "FoleyMixer$CueReader" "part" "I") (List.mem_of_getElem? (i := 1) rfl)) rfl rfl dX0_takeDigit_30 ?_
        refine lv_iload_n hx hb dX0_takeDigit_33 rfl (lv_at hl 0 rfl) ?_
        refine q_R1 (va_runSN (As := [.int (nI (R.1)), .int (nI (dval R d9))]) (rest := []) ⟨hx, hb, hml, hown, hts⟩ (c_X6_fitsCue l (R.1) (by omega) (nI (dval R d9))) ⟨(va_cnB 2 hts gX0_takeDigit_X6_fitsCue_n48 rfl rfl rfl (hG.nest 31 rfl) (hts (.initialized RX6) (List.mem_of_getElem? (i := 9) rfl)) (by decide +kernel) ⟨Nat.le_of_ble_eq_true rfl, Nat.le_of_ble_eq_true rfl⟩), (hts (.static yX6_fitsCue) (List.mem_of_getElem? (i := 11) rfl)), trivial⟩ (q_preS hG hW hS) rfl rfl hl.1 rfl (lv_room (Nat.le_of_ble_eq_true rfl)) dX0_takeDigit_34 ⟨Nat.le_of_ble_eq_true rfl, Nat.le_of_ble_eq_true rfl⟩) ?_
        refine lv_if_ne (tgt := 42) hx hb dX0_takeDigit_37 (by decide) (fun c_37 => ?_) (fun c_37 => ?_)
        · skip
          have c_37 : fitI R.1 (nI (dval R d9)) := Decidable.byContradiction (fun h__ => c_37 (pI_eq0.mpr h__))
          have hk9 : dOk R d9 = true := by
            unfold dOk; simp only [Bool.and_eq_true, decide_eq_true_eq]
            exact ⟨fun q => c_26 (by rw [q]; rfl), (fitI_n (by omega)).mp c_37⟩
          refine lv_aload_n hx hb dX0_takeDigit_42 rfl (lv_at hl 1 rfl) ?_
          refine q_get hx hb hts hinX0 hown hG hW hr0 rfl 0 (by decide) (hts (.fieldLink RX0 11 "FoleyMixer$CueReader" "numbers" "[I") (List.mem_of_getElem? (i := 2) rfl)) rfl rfl dX0_takeDigit_43 ?_
          refine lv_aload_n hx hb dX0_takeDigit_46 rfl (lv_at hl 1 rfl) ?_
          refine q_get hx hb hts hinX0 hown hG hW hr0 rfl 1 (by decide) (hts (.fieldLink RX0 15 "FoleyMixer$CueReader" "part" "I") (List.mem_of_getElem? (i := 1) rfl)) rfl rfl dX0_takeDigit_47 ?_
          refine lv_iload_n hx hb dX0_takeDigit_50 rfl (lv_at hl 0 rfl) ?_
          refine q_W0 (va_runSN (As := [.ref (b + (k + 1)), .int (nI (R.1)), .int (nI (dval R d9))]) (rest := []) ⟨hx, hb, hml, hown, hts⟩ (c_X6_put l hr1 (by decide) (R.1) (by exact hp3) (nI (dval R d9))) ⟨(va_cnB 3 hts gX0_takeDigit_X6_put_n44 rfl rfl rfl (hG.nest 29 rfl) (hts (.initialized RX6) (List.mem_of_getElem? (i := 9) rfl)) (by decide +kernel) ⟨Nat.le_of_ble_eq_true rfl, Nat.le_of_ble_eq_true rfl⟩), (hts (.static yX6_put) (List.mem_of_getElem? (i := 16) rfl)), trivial⟩ (q_preS hG hW hS) rfl rfl hl.1 rfl (lv_room (Nat.le_of_ble_eq_true rfl)) dX0_takeDigit_51 ⟨Nat.le_of_ble_eq_true rfl, Nat.le_of_ble_eq_true rfl⟩) hS (fun w_51 H locs hp51 hW hS => ?_)
          obtain ⟨hr1, fr51⟩ := hp51
          replace hr0 : w_51 k = some (.inr (0, [.ref (b + (k + 1)), .int (nI R.1), .int R.2.1])) := (fr51 _ (by omega)).trans hr0
          refine lv_iconst (v := nI 1) hx hb dX0_takeDigit_54 (by decide) ?_
          exact q_wz hx hb hr hlocks hW hS dX0_takeDigit_55 (by rw [if_pos hk9]; rfl) (q_bn _) (by rw [if_pos hk9]; exact ⟨⟨hr0, hr1.trans (eI_congr fun j => up_oI (o := some (dval R d9)) j), okR_dig hro hk9⟩, by intro id h9 h8; rw [fr51 id (by omega)]; try rfl⟩) (by decide) (by decide)
        · skip
          have c_37 : ¬ (fitI R.1 (nI (dval R d9))) := pI_eq0.mp c_37
          have hk9 : ¬ dOk R d9 = true := by
            intro q; unfold dOk at q; simp only [Bool.and_eq_true, decide_eq_true_eq] at q
            first
            | exact q.1 ((oI_some (fun v hv => by have := hro.2 R.1 (by omega) v hv; omega) (by decide)).mp c_26)
            | exact c_37 ((fitI_n (by omega)).mpr q.2)
          refine lv_iconst (v := nI 0) hx hb dX0_takeDigit_40 (by decide) ?_
          exact q_wz hx hb hr hlocks hW hS dX0_takeDigit_41 (by rw [if_neg hk9]; rfl) (q_bn _) (by rw [if_neg hk9]; exact ⟨hR, fun _ _ _ => rfl⟩) (by decide) (by decide)
    exact L24  _ (by first | (exact congrArg nI (dval_none ((oI_none (fun v hv => by have := hro.2 R.1 (by omega) v hv; omega)).mp c_11)).symm) | (rw [dval_some hv9])) _ (lv_sub hl [1, 2, 0] rfl)
  · skip
    refine lv_iload_n hx hb dX0_takeDigit_14 rfl (lv_at hl 2 rfl) ?_
    refine lv_goto (tgt := 24) hx hb dX0_takeDigit_15 (by decide) ?_
    have L24 : ∀  (y24_0 : Int32), y24_0 = nI (dval R d9) → ∀ (ls : Array Slot), lv_has ls 4 [(0, .ref (b + k)), (1, .int (nI d9)), (2, .int (oI (R.2.2 R.1)))] → W p l e ({ frames := 2, cells := 0, slots := 0, locals := 42 } : Room) s m args below meth c s.heap [] 0 0 (MQ below (QW D b (some (.int (if dOk R d9 = true then 1 else 0))) (fun w' => isRdr dA b w' k (if dOk R d9 = true then rdig R d9 else R) ∧ ∀ id : Nat, id ≠ k → id ≠ k + 1 → w' id = w id)) args s 0 0 (Fb b)) (F0 m 24 ls [.int (y24_0)]) := by
      intro  y24_0 ey24_0 ls hl
      subst ey24_0
      have hdv : dval R d9 ≤ 999 := by
        unfold dval
        cases h7 : R.2.2 R.1 with
        | none => dsimp only; omega
        | some v => dsimp only; have := hrv v h7; omega
      refine lv_istore_n (lv' := [(3, .int (nI (dval R d9))), (0, .ref (b + k)), (1, .int (nI d9)), (2, .int (oI (R.2.2 R.1)))]) hx hb dX0_takeDigit_24 rfl hl (by decide) rfl (fun ls hl => ?_)
      refine lv_iload_n hx hb dX0_takeDigit_25 rfl (lv_at hl 3 rfl) ?_
      refine lv_if_eq (tgt := 40) hx hb dX0_takeDigit_26 (by decide) (fun c_26 => ?_) (fun c_26 => ?_)
      · skip
        have hk9 : ¬ dOk R d9 = true := by
          intro q; unfold dOk at q; simp only [Bool.and_eq_true, decide_eq_true_eq] at q
          first
          | exact q.1 ((oI_some (fun v hv => by have := hro.2 R.1 (by omega) v hv; omega) (by decide)).mp c_26)
          | exact c_37 ((fitI_n (by omega)).mpr q.2)
        refine lv_iconst (v := nI 0) hx hb dX0_takeDigit_40 (by decide) ?_
        exact q_wz hx hb hr hlocks hW hS dX0_takeDigit_41 (by rw [if_neg hk9]; rfl) (q_bn _) (by rw [if_neg hk9]; exact ⟨hR, fun _ _ _ => rfl⟩) (by decide) (by decide)
      · skip
        refine lv_aload_n hx hb dX0_takeDigit_29 rfl (lv_at hl 1 rfl) ?_
        refine q_get hx hb hts hinX0 hown hG hW hr0 rfl 1 (by decide) (hts (.fieldLink RX0 15 "FoleyMixer$CueReader" "part" "I") (List.mem_of_getElem? (i := 1) rfl)) rfl rfl dX0_takeDigit_30 ?_
        refine lv_iload_n hx hb dX0_takeDigit_33 rfl (lv_at hl 0 rfl) ?_
        refine q_R1 (va_runSN (As := [.int (nI (R.1)), .int (nI (dval R d9))]) (rest := []) ⟨hx, hb, hml, hown, hts⟩ (c_X6_fitsCue l (R.1) (by omega) (nI (dval R d9))) ⟨(va_cnB 2 hts gX0_takeDigit_X6_fitsCue_n48 rfl rfl rfl (hG.nest 31 rfl) (hts (.initialized RX6) (List.mem_of_getElem? (i := 9) rfl)) (by decide +kernel) ⟨Nat.le_of_ble_eq_true rfl, Nat.le_of_ble_eq_true rfl⟩), (hts (.static yX6_fitsCue) (List.mem_of_getElem? (i := 11) rfl)), trivial⟩ (q_preS hG hW hS) rfl rfl hl.1 rfl (lv_room (Nat.le_of_ble_eq_true rfl)) dX0_takeDigit_34 ⟨Nat.le_of_ble_eq_true rfl, Nat.le_of_ble_eq_true rfl⟩) ?_
        refine lv_if_ne (tgt := 42) hx hb dX0_takeDigit_37 (by decide) (fun c_37 => ?_) (fun c_37 => ?_)
        · skip
          have c_37 : fitI R.1 (nI (dval R d9)) := Decidable.byContradiction (fun h__ => c_37 (pI_eq0.mpr h__))
          have hk9 : dOk R d9 = true := by
            unfold dOk; simp only [Bool.and_eq_true, decide_eq_true_eq]
            exact ⟨fun q => c_26 (by rw [q]; rfl), (fitI_n (by omega)).mp c_37⟩
          refine lv_aload_n hx hb dX0_takeDigit_42 rfl (lv_at hl 1 rfl) ?_
          refine q_get hx hb hts hinX0 hown hG hW hr0 rfl 0 (by decide) (hts (.fieldLink RX0 11 "FoleyMixer$CueReader" "numbers" "[I") (List.mem_of_getElem? (i := 2) rfl)) rfl rfl dX0_takeDigit_43 ?_
          refine lv_aload_n hx hb dX0_takeDigit_46 rfl (lv_at hl 1 rfl) ?_
          refine q_get hx hb hts hinX0 hown hG hW hr0 rfl 1 (by decide) (hts (.fieldLink RX0 15 "FoleyMixer$CueReader" "part" "I") (List.mem_of_getElem? (i := 1) rfl)) rfl rfl dX0_takeDigit_47 ?_
          refine lv_iload_n hx hb dX0_takeDigit_50 rfl (lv_at hl 0 rfl) ?_
          refine q_W0 (va_runSN (As := [.ref (b + (k + 1)), .int (nI (R.1)), .int (nI (dval R d9))]) (rest := []) ⟨hx, hb, hml, hown, hts⟩ (c_X6_put l hr1 (by decide) (R.1) (by exact hp3) (nI (dval R d9))) ⟨(va_cnB 3 hts gX0_takeDigit_X6_put_n44 rfl rfl rfl (hG.nest 29 rfl) (hts (.initialized RX6) (List.mem_of_getElem? (i := 9) rfl)) (by decide +kernel) ⟨Nat.le_of_ble_eq_true rfl, Nat.le_of_ble_eq_true rfl⟩), (hts (.static yX6_put) (List.mem_of_getElem? (i := 16) rfl)), trivial⟩ (q_preS hG hW hS) rfl rfl hl.1 rfl (lv_room (Nat.le_of_ble_eq_true rfl)) dX0_takeDigit_51 ⟨Nat.le_of_ble_eq_true rfl, Nat.le_of_ble_eq_true rfl⟩) hS (fun w_51 H locs hp51 hW hS => ?_)
          obtain ⟨hr1, fr51⟩ := hp51
          replace hr0 : w_51 k = some (.inr (0, [.ref (b + (k + 1)), .int (nI R.1), .int R.2.1])) := (fr51 _ (by omega)).trans hr0
          refine lv_iconst (v := nI 1) hx hb dX0_takeDigit_54 (by decide) ?_
          exact q_wz hx hb hr hlocks hW hS dX0_takeDigit_55 (by rw [if_pos hk9]; rfl) (q_bn _) (by rw [if_pos hk9]; exact ⟨⟨hr0, hr1.trans (eI_congr fun j => up_oI (o := some (dval R d9)) j), okR_dig hro hk9⟩, by intro id h9 h8; rw [fr51 id (by omega)]; try rfl⟩) (by decide) (by decide)
        · skip
          have c_37 : ¬ (fitI R.1 (nI (dval R d9))) := pI_eq0.mp c_37
          have hk9 : ¬ dOk R d9 = true := by
            intro q; unfold dOk at q; simp only [Bool.and_eq_true, decide_eq_true_eq] at q
            first
            | exact q.1 ((oI_some (fun v hv => by have := hro.2 R.1 (by omega) v hv; omega) (by decide)).mp c_26)
            | exact c_37 ((fitI_n (by omega)).mpr q.2)
          refine lv_iconst (v := nI 0) hx hb dX0_takeDigit_40 (by decide) ?_
          exact q_wz hx hb hr hlocks hW hS dX0_takeDigit_41 (by rw [if_neg hk9]; rfl) (q_bn _) (by rw [if_neg hk9]; exact ⟨hR, fun _ _ _ => rfl⟩) (by decide) (by decide)
    exact L24  _ (by first | (exact congrArg nI (dval_none ((oI_none (fun v hv => by have := hro.2 R.1 (by omega) v hv; omega)).mp c_11)).symm) | (rw [dval_some hv9])) _ (lv_sub hl [1, 2, 0] rfl)

set_option maxHeartbeats 300000 in
set_option maxRecDepth 100000 in
/-- CueReader.takeSign(code) -/
theorem c_X0_takeSign (l : Launch) {D : va_G} {dA : Nat → Nat} {b : Nat} {w : Wd} {k : Nat} {R : Rd} (hR : isRdr dA b w k R) (c9 : Option Nat) (hc9 : ∀ v, c9 = some v → v < 2 ^ 31) (hp3 : R.1 < 3) : Met l yX0_takeSign wsX0_takeSign ({ frames := 2, cells := 0, slots := 0, locals := 43 } : Room) (PC D dA b w [.ref (b + k), .int (oI c9)]) (QW D b (some (.int (if sOk R c9 = true then 1 else 0))) (fun w' => isRdr dA b w' k (if sOk R c9 = true then rbeg R (R.1 + 1) else R) ∧ ∀ id : Nat, id ≠ k → id ≠ k + 1 → w' id = w id)) 0 0 (Fb b) := by
  refine q_of (cc := cX0_takeSign) (maxL := 2) (ret := (some .boolean)) (by decide) rfl rfl ?_
  intro p e s m args below meth c ls hx hb hr hml hts hown hlocks hG hW hS hl
  have hown : s.vm.findClass RX0 = some m.cls := hown
  have hinX0 : ∀ w ∈ u_ws RX0 TX0 3, w ∈ wsX0_takeSign := fun w h => (goodIn_r (big := wsX0_takeSign) (u_ws RX0 TX0 3) [17, 18, 19] (by decide +kernel) (by decide +kernel) w h).1
  have hl : lv_has ls 2 [(0, .ref (b + k)), (1, .int (oI c9))] := hl
  obtain ⟨hr0, hr1, hro⟩ := id hR
  have hro1 := hro.1
  refine lv_aload_n hx hb dX0_takeSign_0 rfl (lv_at hl 0 rfl) ?_
  refine lv_aload_n hx hb dX0_takeSign_1 rfl (lv_at hl 0 rfl) ?_
  refine q_get hx hb hts hinX0 hown hG hW hr0 rfl 1 (by decide) (hts (.fieldLink RX0 15 "FoleyMixer$CueReader" "part" "I") (List.mem_of_getElem? (i := 1) rfl)) rfl rfl dX0_takeSign_2 ?_
  refine q_R1 (va_runV (As := [.int (nI (R.1))]) (rest := []) ⟨hx, hb, hml, hown, hts⟩ (c_X0_numberOf l hR (R.1) (by omega)) (cwV 1 hts gX0_takeSign_X0_numberOf rfl rfl rfl (by decide +kernel) ⟨Nat.le_of_ble_eq_true rfl, Nat.le_of_ble_eq_true rfl⟩) (q_preV hG hW hS hr0 rfl) rfl rfl hl.1 rfl (lv_room (Nat.le_of_ble_eq_true rfl)) dX0_takeSign_5 ⟨Nat.le_of_ble_eq_true rfl, Nat.le_of_ble_eq_true rfl⟩) ?_
  refine lv_iconst (v := (-1)) hx hb dX0_takeSign_8 (by decide) ?_
  refine lv_icmp_eq (tgt := 26) hx hb dX0_takeSign_9 (by decide) (fun c_9 => ?_) (fun c_9 => ?_)
  · skip
    have hk9 : ¬ sOk R c9 = true := by
      intro q; unfold sOk at q; simp only [Bool.and_eq_true, decide_eq_true_eq] at q
      first
      | exact q.1 ((oI_none (fun v hv => by have := hro.2 R.1 (by omega) v hv; omega)).mp c_9)
      | exact c_23 (by rw [q.2]; rfl)
    refine lv_iconst (v := nI 0) hx hb dX0_takeSign_26 (by decide) ?_
    exact q_wz hx hb hr hlocks hW hS dX0_takeSign_27 (by rw [if_neg hk9]; rfl) (q_bn _) (by rw [if_neg hk9]; exact ⟨hR, fun _ _ _ => rfl⟩) (by decide) (by decide)
  · skip
    refine lv_iload_n hx hb dX0_takeSign_12 rfl (lv_at hl 1 rfl) ?_
    refine va_getsN hx hb (hG.2.2.1 5 _ rfl).1 hS hown (va_Nw.use rfl (hG.nest 32 rfl)) (fun _ h => h) dX0_takeSign_13 ?_
    refine lv_aload_n hx hb dX0_takeSign_16 rfl (lv_at hl 0 rfl) ?_
    refine q_get hx hb hts hinX0 hown hG hW hr0 rfl 1 (by decide) (hts (.fieldLink RX0 15 "FoleyMixer$CueReader" "part" "I") (List.mem_of_getElem? (i := 1) rfl)) rfl rfl dX0_takeSign_17 ?_
    refine q_R1 (va_runSN (As := [.ref (dA 15), .int (nI (R.1))]) (rest := [.int (oI c9)]) ⟨hx, hb, hml, hown, hts⟩ (c_entry_in l (RD.st 5 rfl) (by decide) (R.1) (by exact hp3)) ⟨(va_cnB 2 hts gX0_takeSign_X6_entry_n22 rfl rfl rfl (hG.nest 30 rfl) (hts (.initialized RX6) (List.mem_of_getElem? (i := 9) rfl)) (by decide +kernel) ⟨Nat.le_of_ble_eq_true rfl, Nat.le_of_ble_eq_true rfl⟩), (hts (.static yX6_entry) (List.mem_of_getElem? (i := 8) rfl)), trivial⟩ (q_preS hG hW hS) rfl rfl hl.1 rfl (lv_room (Nat.le_of_ble_eq_true rfl)) dX0_takeSign_20 ⟨Nat.le_of_ble_eq_true rfl, Nat.le_of_ble_eq_true rfl⟩) ?_
    refine lv_icmp_eq (tgt := 28) hx hb dX0_takeSign_23 (by decide) (fun c_23 => ?_) (fun c_23 => ?_)
    · skip
      have hk9 : sOk R c9 = true := by
        unfold sOk; simp only [Bool.and_eq_true, decide_eq_true_eq]
        exact ⟨fun q => c_9 (by rw [q]; rfl), (oI_some hc9 (by have := sgn_le R.1; omega)).mp c_23⟩
      refine lv_aload_n hx hb dX0_takeSign_28 rfl (lv_at hl 0 rfl) ?_
      refine lv_aload_n hx hb dX0_takeSign_29 rfl (lv_at hl 0 rfl) ?_
      refine q_get hx hb hts hinX0 hown hG hW hr0 rfl 1 (by decide) (hts (.fieldLink RX0 15 "FoleyMixer$CueReader" "part" "I") (List.mem_of_getElem? (i := 1) rfl)) rfl rfl dX0_takeSign_30 ?_
      refine lv_iconst (v := nI 1) hx hb dX0_takeSign_33 (by decide) ?_
      refine lv_iadd hx hb dX0_takeSign_34 ?_
      refine q_top (y := nI (R.1 + 1)) (nI_add _ _) ?_
      refine q_W0 (va_runV (As := [.int (nI (R.1 + 1))]) (rest := []) ⟨hx, hb, hml, hown, hts⟩ (c_X0_beginPart l hR (R.1 + 1) (by omega)) (cwV 1 hts gX0_takeSign_X0_beginPart rfl rfl rfl (by decide +kernel) ⟨Nat.le_of_ble_eq_true rfl, Nat.le_of_ble_eq_true rfl⟩) (q_preV hG hW hS hr0 rfl) rfl rfl hl.1 rfl (lv_room (Nat.le_of_ble_eq_true rfl)) dX0_takeSign_35 ⟨Nat.le_of_ble_eq_true rfl, Nat.le_of_ble_eq_true rfl⟩) hS (fun w_35 H locs hp35 hW hS => ?_)
      obtain ⟨hR2, fr35⟩ := hp35
      refine lv_iconst (v := nI 1) hx hb dX0_takeSign_38 (by decide) ?_
      exact q_wz hx hb hr hlocks hW hS dX0_takeSign_39 (by rw [if_pos hk9]; rfl) (q_bn _) (by rw [if_pos hk9]; exact ⟨hR2, by intro id h9 h8; rw [fr35 id (by omega) (by omega)]; try rfl⟩) (by decide) (by decide)
    · skip
      have hk9 : ¬ sOk R c9 = true := by
        intro q; unfold sOk at q; simp only [Bool.and_eq_true, decide_eq_true_eq] at q
        first
        | exact q.1 ((oI_none (fun v hv => by have := hro.2 R.1 (by omega) v hv; omega)).mp c_9)
        | exact c_23 (by rw [q.2]; rfl)
      refine lv_iconst (v := nI 0) hx hb dX0_takeSign_26 (by decide) ?_
      exact q_wz hx hb hr hlocks hW hS dX0_takeSign_27 (by rw [if_neg hk9]; rfl) (q_bn _) (by rw [if_neg hk9]; exact ⟨hR, fun _ _ _ => rfl⟩) (by decide) (by decide)

set_option maxHeartbeats 300000 in
set_option maxRecDepth 100000 in
/-- CueReader.take(code) -/
theorem c_take_some (l : Launch) {D : va_G} {dA : Nat → Nat} {b : Nat} {w : Wd} {k : Nat} {R : Rd} (hR : isRdr dA b w k R) (n9 : Nat) (hn9 : n9 < 2 ^ 31) : Met l yX0_take wsX0_take ({ frames := 3, cells := 0, slots := 0, locals := 65 } : Room) (PC D dA b w [.ref (b + k), .int (nI n9)]) (QW D b (some (.int (if rok R (some n9) = true then 1 else 0))) (fun w' => isRdr dA b w' k (rnx R (some n9)) ∧ ∀ id : Nat, id ≠ k → id ≠ k + 1 → w' id = w id)) 0 0 (Fb b) := by
  refine q_of (cc := cX0_take) (maxL := 2) (ret := (some .boolean)) (by decide) rfl rfl ?_
  intro p e s m args below meth c ls hx hb hr hml hts hown hlocks hG hW hS hl
  have hown : s.vm.findClass RX0 = some m.cls := hown
  have hinX0 : ∀ w ∈ u_ws RX0 TX0 3, w ∈ wsX0_take := fun w h => (goodIn_r (big := wsX0_take) (u_ws RX0 TX0 3) [35, 36, 37] (by decide +kernel) (by decide +kernel) w h).1
  have hl : lv_has ls 2 [(0, .ref (b + k)), (1, .int (nI n9))] := hl
  obtain ⟨hr0, hr1, hro⟩ := id hR
  have hro1 := hro.1
  refine lv_aload_n hx hb dX0_take_0 rfl (lv_at hl 0 rfl) ?_
  refine q_get hx hb hts hinX0 hown hG hW hr0 rfl 1 (by decide) (hts (.fieldLink RX0 15 "FoleyMixer$CueReader" "part" "I") (List.mem_of_getElem? (i := 1) rfl)) rfl rfl dX0_take_1 ?_
  refine lv_iconst (v := nI 3) hx hb dX0_take_4 (by decide) ?_
  refine lv_icmp_ne (tgt := 14) hx hb dX0_take_5 (by decide) (fun c_5 => ?_) (fun c_5 => ?_)
  · skip
    have c_5 : ¬ (R.1 = 3) := fun h__ => c_5 ((nI_eq (a := R.1) (b := 3) (by omega) (by omega)).mpr h__)
    refine lv_iload_n hx hb dX0_take_14 rfl (lv_at hl 1 rfl) ?_
    refine lv_bipush (v := nI 48) hx hb dX0_take_15 (by decide) ?_
    refine lv_icmp_lt (tgt := 35) hx hb dX0_take_17 (by decide) (fun c_17 => ?_) (fun c_17 => ?_)
    · skip
      have c_17 : n9 < 48 := (nI_ltI (a := n9) (b := 48) (by omega) (by omega)).mp c_17
      have hk9 : rok R (some n9) = sOk R (some n9) := by unfold rok; rw [if_neg c_5]; dsimp only; rw [if_neg (by omega)]
      refine lv_aload_n hx hb dX0_take_35 rfl (lv_at hl 0 rfl) ?_
      refine lv_iload_n hx hb dX0_take_36 rfl (lv_at hl 1 rfl) ?_
      refine q_W1 (va_runV (As := [.int (nI n9)]) (rest := []) ⟨hx, hb, hml, hown, hts⟩ (c_X0_takeSign l hR (some n9) (by intro v hv; cases hv; omega) (by omega)) (cwV 1 hts gX0_take_X0_takeSign rfl rfl rfl (by decide +kernel) ⟨Nat.le_of_ble_eq_true rfl, Nat.le_of_ble_eq_true rfl⟩) (q_preV hG hW hS hr0 rfl) rfl rfl hl.1 rfl (lv_room (Nat.le_of_ble_eq_true rfl)) dX0_take_37 ⟨Nat.le_of_ble_eq_true rfl, Nat.le_of_ble_eq_true rfl⟩) hS (fun w_37 H locs hp37 hW hS => ?_)
      obtain ⟨hR2, fr37⟩ := hp37
      exact q_wz hx hb hr hlocks hW hS dX0_take_40 (by rw [hk9]) (q_bn _) (by refine ⟨?_, by intro id h9 h8; rw [fr37 id (by omega) (by omega)]; try rfl⟩; unfold rnx; rw [hk9, if_neg c_5]; dsimp only; rw [if_neg (show ¬ (48 ≤ n9 ∧ n9 ≤ 57) by omega)]; exact hR2) (by decide) (by decide)
    · skip
      have c_17 : ¬ (n9 < 48) := fun h__ => c_17 ((nI_ltI (a := n9) (b := 48) (by omega) (by omega)).mpr h__)
      refine lv_iload_n hx hb dX0_take_20 rfl (lv_at hl 1 rfl) ?_
      refine lv_bipush (v := nI 57) hx hb dX0_take_21 (by decide) ?_
      refine lv_icmp_gt (tgt := 35) hx hb dX0_take_23 (by decide) (fun c_23 => ?_) (fun c_23 => ?_)
      · skip
        have c_23 : 57 < n9 := (nI_ltI (a := 57) (b := n9) (by omega) (by omega)).mp c_23
        have hk9 : rok R (some n9) = sOk R (some n9) := by unfold rok; rw [if_neg c_5]; dsimp only; rw [if_neg (by omega)]
        refine lv_aload_n hx hb dX0_take_35 rfl (lv_at hl 0 rfl) ?_
        refine lv_iload_n hx hb dX0_take_36 rfl (lv_at hl 1 rfl) ?_
        refine q_W1 (va_runV (As := [.int (nI n9)]) (rest := []) ⟨hx, hb, hml, hown, hts⟩ (c_X0_takeSign l hR (some n9) (by intro v hv; cases hv; omega) (by omega)) (cwV 1 hts gX0_take_X0_takeSign rfl rfl rfl (by decide +kernel) ⟨Nat.le_of_ble_eq_true rfl, Nat.le_of_ble_eq_true rfl⟩) (q_preV hG hW hS hr0 rfl) rfl rfl hl.1 rfl (lv_room (Nat.le_of_ble_eq_true rfl)) dX0_take_37 ⟨Nat.le_of_ble_eq_true rfl, Nat.le_of_ble_eq_true rfl⟩) hS (fun w_37 H locs hp37 hW hS => ?_)
        obtain ⟨hR2, fr37⟩ := hp37
        exact q_wz hx hb hr hlocks hW hS dX0_take_40 (by rw [hk9]) (q_bn _) (by refine ⟨?_, by intro id h9 h8; rw [fr37 id (by omega) (by omega)]; try rfl⟩; unfold rnx; rw [hk9, if_neg c_5]; dsimp only; rw [if_neg (show ¬ (48 ≤ n9 ∧ n9 ≤ 57) by omega)]; exact hR2) (by decide) (by decide)
      · skip
        have c_23 : ¬ (57 < n9) := fun h__ => c_23 ((nI_ltI (a := 57) (b := n9) (by omega) (by omega)).mpr h__)
        have hk9 : rok R (some n9) = dOk R (n9 - 48) := by unfold rok; rw [if_neg c_5]; dsimp only; rw [if_pos ⟨by omega, by omega⟩]
        refine lv_aload_n hx hb dX0_take_26 rfl (lv_at hl 0 rfl) ?_
        refine lv_iload_n hx hb dX0_take_27 rfl (lv_at hl 1 rfl) ?_
        refine lv_bipush (v := nI 48) hx hb dX0_take_28 (by decide) ?_
        refine lv_isub hx hb dX0_take_30 ?_
        refine q_top (y := nI (n9 - 48)) (nI_sub (by omega)) ?_
        refine q_W1 (va_runV (As := [.int (nI (n9 - 48))]) (rest := []) ⟨hx, hb, hml, hown, hts⟩ (c_X0_takeDigit l hR (n9 - 48) (by omega) (by omega)) (cwV 1 hts gX0_take_X0_takeDigit rfl rfl rfl (by decide +kernel) ⟨Nat.le_of_ble_eq_true rfl, Nat.le_of_ble_eq_true rfl⟩) (q_preV hG hW hS hr0 rfl) rfl rfl hl.1 rfl (lv_room (Nat.le_of_ble_eq_true rfl)) dX0_take_31 ⟨Nat.le_of_ble_eq_true rfl, Nat.le_of_ble_eq_true rfl⟩) hS (fun w_31 H locs hp31 hW hS => ?_)
        obtain ⟨hR2, fr31⟩ := hp31
        exact q_wz hx hb hr hlocks hW hS dX0_take_34 (by rw [hk9]) (q_bn _) (by refine ⟨?_, by intro id h9 h8; rw [fr31 id (by omega) (by omega)]; try rfl⟩; unfold rnx; rw [hk9, if_neg c_5]; dsimp only; rw [if_pos (show 48 ≤ n9 ∧ n9 ≤ 57 from ⟨by omega, by omega⟩)]; exact hR2) (by decide) (by decide)
  · skip
    have c_5 : R.1 = 3 := (nI_eq (a := R.1) (b := 3) (by omega) (by omega)).mp c_5
    have hk9 : rok R (some n9) = kOk (some n9) := by unfold rok; rw [if_pos c_5]
    refine lv_aload_n hx hb dX0_take_8 rfl (lv_at hl 0 rfl) ?_
    refine lv_iload_n hx hb dX0_take_9 rfl (lv_at hl 1 rfl) ?_
    refine q_W1 (va_runV (As := [.int (nI n9)]) (rest := []) ⟨hx, hb, hml, hown, hts⟩ (c_X0_takeKind l hR (some n9) (by intro v hv; cases hv; omega)) (cwV 1 hts gX0_take_X0_takeKind rfl rfl rfl (by decide +kernel) ⟨Nat.le_of_ble_eq_true rfl, Nat.le_of_ble_eq_true rfl⟩) (q_preV hG hW hS hr0 rfl) rfl rfl hl.1 rfl (lv_room (Nat.le_of_ble_eq_true rfl)) dX0_take_10 ⟨Nat.le_of_ble_eq_true rfl, Nat.le_of_ble_eq_true rfl⟩) hS (fun w_10 H locs hp10 hW hS => ?_)
    obtain ⟨hR2, fr10⟩ := hp10
    exact q_wz hx hb hr hlocks hW hS dX0_take_13 (by rw [hk9]) (q_bn _) (by refine ⟨?_, by intro id h9 h8; rw [fr10 id (by omega) (by omega)]; try rfl⟩; unfold rnx; rw [hk9, if_pos c_5]; first | exact hR2 | (by_cases h9 : kOk _ = true <;> simp only [h9, if_true] at hR2 ⊢ <;> exact hR2)) (by decide) (by decide)

set_option maxHeartbeats 300000 in
set_option maxRecDepth 100000 in
/-- CueReader.take(code) -/
theorem c_take_none (l : Launch) {D : va_G} {dA : Nat → Nat} {b : Nat} {w : Wd} {k : Nat} {R : Rd} (hR : isRdr dA b w k R) : Met l yX0_take wsX0_take ({ frames := 3, cells := 0, slots := 0, locals := 65 } : Room) (PC D dA b w [.ref (b + k), .int (-1)]) (QW D b (some (.int (if rok R none = true then 1 else 0))) (fun w' => isRdr dA b w' k (rnx R none) ∧ ∀ id : Nat, id ≠ k → id ≠ k + 1 → w' id = w id)) 0 0 (Fb b) := by
  refine q_of (cc := cX0_take) (maxL := 2) (ret := (some .boolean)) (by decide) rfl rfl ?_
  intro p e s m args below meth c ls hx hb hr hml hts hown hlocks hG hW hS hl
  have hown : s.vm.findClass RX0 = some m.cls := hown
  have hinX0 : ∀ w ∈ u_ws RX0 TX0 3, w ∈ wsX0_take := fun w h => (goodIn_r (big := wsX0_take) (u_ws RX0 TX0 3) [35, 36, 37] (by decide +kernel) (by decide +kernel) w h).1
  have hl : lv_has ls 2 [(0, .ref (b + k)), (1, .int (-1))] := hl
  obtain ⟨hr0, hr1, hro⟩ := id hR
  have hro1 := hro.1
  refine lv_aload_n hx hb dX0_take_0 rfl (lv_at hl 0 rfl) ?_
  refine q_get hx hb hts hinX0 hown hG hW hr0 rfl 1 (by decide) (hts (.fieldLink RX0 15 "FoleyMixer$CueReader" "part" "I") (List.mem_of_getElem? (i := 1) rfl)) rfl rfl dX0_take_1 ?_
  refine lv_iconst (v := nI 3) hx hb dX0_take_4 (by decide) ?_
  refine lv_icmp_ne (tgt := 14) hx hb dX0_take_5 (by decide) (fun c_5 => ?_) (fun c_5 => ?_)
  · skip
    have c_5 : ¬ (R.1 = 3) := fun h__ => c_5 ((nI_eq (a := R.1) (b := 3) (by omega) (by omega)).mpr h__)
    refine lv_iload_n hx hb dX0_take_14 rfl (lv_at hl 1 rfl) ?_
    refine lv_bipush (v := nI 48) hx hb dX0_take_15 (by decide) ?_
    refine lv_icmp_lt (tgt := 35) hx hb dX0_take_17 (by decide) (fun c_17 => ?_) (fun c_17 => ?_)
    · skip
      have hk9 : rok R none = sOk R none := by unfold rok sOk; rw [if_neg c_5]; simp
      refine lv_aload_n hx hb dX0_take_35 rfl (lv_at hl 0 rfl) ?_
      refine lv_iload_n hx hb dX0_take_36 rfl (lv_at hl 1 rfl) ?_
      refine q_W1 (va_runV (As := [.int (-1)]) (rest := []) ⟨hx, hb, hml, hown, hts⟩ (c_X0_takeSign l hR (none) (by intro v hv; cases hv) (by omega)) (cwV 1 hts gX0_take_X0_takeSign rfl rfl rfl (by decide +kernel) ⟨Nat.le_of_ble_eq_true rfl, Nat.le_of_ble_eq_true rfl⟩) (q_preV hG hW hS hr0 rfl) rfl rfl hl.1 rfl (lv_room (Nat.le_of_ble_eq_true rfl)) dX0_take_37 ⟨Nat.le_of_ble_eq_true rfl, Nat.le_of_ble_eq_true rfl⟩) hS (fun w_37 H locs hp37 hW hS => ?_)
      obtain ⟨hR2, fr37⟩ := hp37
      exact q_wz hx hb hr hlocks hW hS dX0_take_40 (by rw [hk9]) (q_bn _) (by refine ⟨?_, by intro id h9 h8; rw [fr37 id (by omega) (by omega)]; try rfl⟩; unfold rnx; rw [hk9, if_neg c_5]; dsimp only; have h9 : ¬ sOk R none = true := (by unfold sOk; simp); rw [if_neg h9] at hR2 ⊢; exact hR2) (by decide) (by decide)
    · skip
      exact absurd (by decide) c_17
  · skip
    have c_5 : R.1 = 3 := (nI_eq (a := R.1) (b := 3) (by omega) (by omega)).mp c_5
    have hk9 : rok R none = kOk none := by unfold rok; rw [if_pos c_5]
    refine lv_aload_n hx hb dX0_take_8 rfl (lv_at hl 0 rfl) ?_
    refine lv_iload_n hx hb dX0_take_9 rfl (lv_at hl 1 rfl) ?_
    refine q_W1 (va_runV (As := [.int (-1)]) (rest := []) ⟨hx, hb, hml, hown, hts⟩ (c_X0_takeKind l hR (none) (by intro v hv; cases hv)) (cwV 1 hts gX0_take_X0_takeKind rfl rfl rfl (by decide +kernel) ⟨Nat.le_of_ble_eq_true rfl, Nat.le_of_ble_eq_true rfl⟩) (q_preV hG hW hS hr0 rfl) rfl rfl hl.1 rfl (lv_room (Nat.le_of_ble_eq_true rfl)) dX0_take_10 ⟨Nat.le_of_ble_eq_true rfl, Nat.le_of_ble_eq_true rfl⟩) hS (fun w_10 H locs hp10 hW hS => ?_)
    obtain ⟨hR2, fr10⟩ := hp10
    exact q_wz hx hb hr hlocks hW hS dX0_take_13 (by rw [hk9]) (q_bn _) (by refine ⟨?_, by intro id h9 h8; rw [fr10 id (by omega) (by omega)]; try rfl⟩; unfold rnx; rw [hk9, if_pos c_5]; first | exact hR2 | (by_cases h9 : kOk _ = true <;> simp only [h9, if_true] at hR2 ⊢ <;> exact hR2)) (by decide) (by decide)

theorem scr_add {n : Nat} {C : Nat → Nat} (h : ∀ i, i < n → C i < 128) {c : Nat} (hc : c < 128) : ∀ i, i < n + 1 → va_up C n c i < 128 := by
  intro i hi
  unfold va_up
  by_cases e : i = n
  · rw [if_pos e]; exact hc
  · rw [if_neg e]; exact h i (by omega)
/-- a code more -/
def ap (B : Nat × (Nat → Nat)) (c : Nat) : Nat × (Nat → Nat) := (B.1 + 1, va_up B.2 B.1 c)
/-- the digits of a number below 100 -/
def dl (v : Nat) : Nat := if 10 ≤ v then 2 else 1
def apN (B : Nat × (Nat → Nat)) (v : Nat) : Nat × (Nat → Nat) := if 10 ≤ v then ap (ap B (48 + v / 10)) (48 + v % 10) else ap B (48 + v % 10)
theorem apN_len (B : Nat × (Nat → Nat)) (v : Nat) : (apN B v).1 = B.1 + dl v := by
  unfold apN dl; by_cases h : 10 ≤ v
  · rw [if_pos h, if_pos h]; rfl
  · rw [if_neg h, if_neg h]; rfl
theorem dl_rng (v : Nat) : 1 ≤ dl v ∧ dl v ≤ 2 := by unfold dl; split <;> omega
/-- a whole cue, with its sign, behind what there is -/
def apC (B : Nat × (Nat → Nat)) (sg a l d : Nat) : Nat × (Nat → Nat) := apN (ap (apN (ap (apN (ap (if B.1 = 0 then B else ap B 59) sg) a) 43) l) 64) d
def needC (n a l d : Nat) : Nat := (if n = 0 then 3 else 4) + dl a + dl l + dl d
theorem apC_len (B : Nat × (Nat → Nat)) (sg a l d : Nat) : (apC B sg a l d).1 = B.1 + needC B.1 a l d := by
  unfold apC needC
  rw [apN_len]; unfold ap; dsimp only
  rw [apN_len]; dsimp only
  rw [apN_len]; dsimp only
  by_cases h : B.1 = 0
  · rw [if_pos h, if_pos h]; omega
  · rw [if_neg h, if_neg h]; dsimp only; omega

set_option maxHeartbeats 300000 in
set_option maxRecDepth 100000 in
/-- Script.size() -/
theorem c_X5_size (l : Launch) {D : va_G} {dA : Nat → Nat} {b : Nat} {w : Wd} {k n : Nat} {C : Nat → Nat} (hs : isScr dA b w k n C) : Met l yX5_size wsX5_size ({ frames := 0, cells := 0, slots := 0, locals := 0 } : Room) (PC D dA b w [.ref (b + k)]) (QR (some (.int (nI n)))) 0 0 Fno := by
  refine q_of (cc := cX5_size) (maxL := 1) (ret := (some .int)) (by decide) rfl rfl ?_
  intro p e s m args below meth c ls hx hb hr hml hts hown hlocks hG hW hS hl
  have hown : s.vm.findClass RX5 = some m.cls := hown
  have hinX5 : ∀ w ∈ u_ws RX5 TX5 2, w ∈ wsX5_size := fun w h => (goodIn_r (big := wsX5_size) (u_ws RX5 TX5 2) [2, 3] (by decide +kernel) (by decide +kernel) w h).1
  have hl : lv_has ls 1 [(0, .ref (b + k))] := hl
  obtain ⟨hs0, hs1, hs80, hs128⟩ := id hs
  refine lv_aload_n hx hb dX5_size_0 rfl (lv_at hl 0 rfl) ?_
  refine q_get hx hb hts hinX5 hown hG hW hs0 rfl 1 (by decide) (hts (.fieldLink RX5 15 "FoleyMixer$Script" "size" "I") (List.mem_of_getElem? (i := 1) rfl)) rfl rfl dX5_size_1 ?_
  exact q_ri hx hb hr hlocks dX5_size_4 (by rfl)

set_option maxHeartbeats 300000 in
set_option maxRecDepth 100000 in
/-- Script.isFull() -/
theorem c_X5_isFull (l : Launch) {D : va_G} {dA : Nat → Nat} {b : Nat} {w : Wd} {k n : Nat} {C : Nat → Nat} (hs : isScr dA b w k n C) : Met l yX5_isFull wsX5_isFull ({ frames := 0, cells := 0, slots := 0, locals := 0 } : Room) (PC D dA b w [.ref (b + k)]) (QR (some (.int (if 80 ≤ n then 1 else 0)))) 0 0 Fno := by
  refine q_of (cc := cX5_isFull) (maxL := 1) (ret := (some .boolean)) (by decide) rfl rfl ?_
  intro p e s m args below meth c ls hx hb hr hml hts hown hlocks hG hW hS hl
  have hown : s.vm.findClass RX5 = some m.cls := hown
  have hinX5 : ∀ w ∈ u_ws RX5 TX5 2, w ∈ wsX5_isFull := fun w h => (goodIn_r (big := wsX5_isFull) (u_ws RX5 TX5 2) [3, 4] (by decide +kernel) (by decide +kernel) w h).1
  have hl : lv_has ls 1 [(0, .ref (b + k))] := hl
  obtain ⟨hs0, hs1, hs80, hs128⟩ := id hs
  refine lv_aload_n hx hb dX5_isFull_0 rfl (lv_at hl 0 rfl) ?_
  refine q_get hx hb hts hinX5 hown hG hW hs0 rfl 1 (by decide) (hts (.fieldLink RX5 15 "FoleyMixer$Script" "size" "I") (List.mem_of_getElem? (i := 1) rfl)) rfl rfl dX5_isFull_1 ?_
  refine lv_aload_n hx hb dX5_isFull_4 rfl (lv_at hl 0 rfl) ?_
  refine q_get hx hb hts hinX5 hown hG hW hs0 rfl 0 (by decide) (hts (.fieldLink RX5 9 "FoleyMixer$Script" "codes" "[I") (List.mem_of_getElem? (i := 2) rfl)) rfl rfl dX5_isFull_5 ?_
  refine q_alen hx hb (hW.ar hG hs1 (by omega)) dX5_isFull_8 ?_
  refine lv_icmp_lt (tgt := 16) hx hb dX5_isFull_9 (by decide) (fun c_9 => ?_) (fun c_9 => ?_)
  · skip
    have c_9 : n < 80 := (nI_ltI (a := n) (b := 80) (by omega) (by omega)).mp c_9
    refine lv_iconst (v := nI 0) hx hb dX5_isFull_16 (by decide) ?_
    exact q_rz hx hb hr hlocks dX5_isFull_17 (by first | rfl | (rw [if_pos (by omega)]; rfl) | (rw [if_neg (by omega)]; rfl)) (q_bn _)
  · skip
    have c_9 : ¬ (n < 80) := fun h__ => c_9 ((nI_ltI (a := n) (b := 80) (by omega) (by omega)).mpr h__)
    refine lv_iconst (v := nI 1) hx hb dX5_isFull_12 (by decide) ?_
    refine lv_goto (tgt := 17) hx hb dX5_isFull_13 (by decide) ?_
    exact q_rz hx hb hr hlocks dX5_isFull_17 (by first | rfl | (rw [if_pos (by omega)]; rfl) | (rw [if_neg (by omega)]; rfl)) (q_bn _)

set_option maxHeartbeats 300000 in
set_option maxRecDepth 100000 in
/-- Script.clear() -/
theorem c_X5_clear (l : Launch) {D : va_G} {dA : Nat → Nat} {b : Nat} {w : Wd} {k n : Nat} {C : Nat → Nat} (hs : isScr dA b w k n C) : Met l yX5_clear wsX5_clear ({ frames := 0, cells := 0, slots := 0, locals := 0 } : Room) (PC D dA b w [.ref (b + k)]) (QW D b (none) (fun w' => isScr dA b w' k 0 C ∧ ∀ id : Nat, id ≠ k → w' id = w id)) 0 0 (Fb b) := by
  refine q_of (cc := cX5_clear) (maxL := 1) (ret := none) (by decide) rfl rfl ?_
  intro p e s m args below meth c ls hx hb hr hml hts hown hlocks hG hW hS hl
  have hown : s.vm.findClass RX5 = some m.cls := hown
  have hinX5 : ∀ w ∈ u_ws RX5 TX5 2, w ∈ wsX5_clear := fun w h => (goodIn_r (big := wsX5_clear) (u_ws RX5 TX5 2) [2, 3] (by decide +kernel) (by decide +kernel) w h).1
  have hl : lv_has ls 1 [(0, .ref (b + k))] := hl
  obtain ⟨hs0, hs1, hs80, hs128⟩ := id hs
  refine lv_aload_n hx hb dX5_clear_0 rfl (lv_at hl 0 rfl) ?_
  refine lv_iconst (v := nI 0) hx hb dX5_clear_1 (by decide) ?_
  refine q_put hx hb hts hinX5 tyX5_ok nmX5 hown hG hW hS hs0 rfl 1 (by decide) (hts (.fieldLink RX5 15 "FoleyMixer$Script" "size" "I") (List.mem_of_getElem? (i := 1) rfl)) rfl rfl rfl rfl (Nat.le_of_ble_eq_true rfl) dX5_clear_2 (fun H locs hW hS hz2 => ?_)
  obtain ⟨w1, ew1⟩ : ∃ wq__ : Wd, wq__ = va_up w k (some (.inr (5, [.ref (b + (k + 1)), .int (nI 0)]))) := ⟨_, rfl⟩
  replace hW : WP D b w1 H := by rw [ew1]; exact hW
  have frw1 : ∀ id : Nat, id ≠ k → w1 id = w id := fun id h9 => by rw [ew1, up_ne h9]
  replace hs1 : w1 (k + 1) = some (eN dA 80 C) := (frw1 _ (by omega)).trans hs1
  replace hs0 : w1 k = some (.inr (5, [.ref (b + (k + 1)), .int (nI 0)])) := by rw [ew1]; exact up_eq
  exact q_wv hx hb hr hlocks hW hS dX5_clear_5 (by exact ⟨⟨hs0, hs1, by decide, fun i hi => absurd hi (Nat.not_lt_zero i)⟩, by intro id h9; rw [frw1 id (by omega)]; try rfl⟩) (by decide) (by decide)

set_option maxHeartbeats 300000 in
set_option maxRecDepth 100000 in
/-- Script.add(code) -/
theorem c_X5_add (l : Launch) {D : va_G} {dA : Nat → Nat} {b : Nat} {w : Wd} {k n : Nat} {C : Nat → Nat} (hs : isScr dA b w k n C) (c9 : Nat) (hc9 : c9 < 128) (hn : n < 80) : Met l yX5_add wsX5_add ({ frames := 0, cells := 0, slots := 0, locals := 0 } : Room) (PC D dA b w [.ref (b + k), .int (nI c9)]) (QW D b (none) (fun w' => isScr dA b w' k (n + 1) (va_up C n c9) ∧ ∀ id : Nat, id ≠ k → id ≠ k + 1 → w' id = w id)) 0 0 (Fb b) := by
  refine q_of (cc := cX5_add) (maxL := 2) (ret := none) (by decide) rfl rfl ?_
  intro p e s m args below meth c ls hx hb hr hml hts hown hlocks hG hW hS hl
  have hown : s.vm.findClass RX5 = some m.cls := hown
  have hinX5 : ∀ w ∈ u_ws RX5 TX5 2, w ∈ wsX5_add := fun w h => (goodIn_r (big := wsX5_add) (u_ws RX5 TX5 2) [3, 4] (by decide +kernel) (by decide +kernel) w h).1
  have hl : lv_has ls 2 [(0, .ref (b + k)), (1, .int (nI c9))] := hl
  obtain ⟨hs0, hs1, hs80, hs128⟩ := id hs
  refine lv_aload_n hx hb dX5_add_0 rfl (lv_at hl 0 rfl) ?_
  refine q_get hx hb hts hinX5 hown hG hW hs0 rfl 1 (by decide) (hts (.fieldLink RX5 15 "FoleyMixer$Script" "size" "I") (List.mem_of_getElem? (i := 1) rfl)) rfl rfl dX5_add_1 ?_
  refine lv_if_lt (tgt := 39) hx hb dX5_add_4 (by decide) (fun c_4 => ?_) (fun c_4 => ?_)
  · skip
    have c_4 : n < 0 := (nI_lt0 (i := n) (by omega)).mp c_4
    exact q_wv hx hb hr hlocks hW hS dX5_add_39 (by first | omega | exact ⟨⟨hs0, hs1, by omega, scr_add hs128 hc9⟩, by intro id h9 h8; try rfl⟩) (by decide) (by decide)
  · skip
    have c_4 : ¬ (n < 0) := fun h__ => c_4 ((nI_lt0 (i := n) (by omega)).mpr h__)
    refine lv_aload_n hx hb dX5_add_7 rfl (lv_at hl 0 rfl) ?_
    refine q_get hx hb hts hinX5 hown hG hW hs0 rfl 1 (by decide) (hts (.fieldLink RX5 15 "FoleyMixer$Script" "size" "I") (List.mem_of_getElem? (i := 1) rfl)) rfl rfl dX5_add_8 ?_
    refine lv_aload_n hx hb dX5_add_11 rfl (lv_at hl 0 rfl) ?_
    refine q_get hx hb hts hinX5 hown hG hW hs0 rfl 0 (by decide) (hts (.fieldLink RX5 9 "FoleyMixer$Script" "codes" "[I") (List.mem_of_getElem? (i := 2) rfl)) rfl rfl dX5_add_12 ?_
    refine q_alen hx hb (hW.ar hG hs1 (by omega)) dX5_add_15 ?_
    refine lv_icmp_ge (tgt := 39) hx hb dX5_add_16 (by decide) (fun c_16 => ?_) (fun c_16 => ?_)
    · skip
      have c_16 : 80 ≤ n := (nI_leI (a := 80) (b := n) (by omega) (by omega)).mp c_16
      exact q_wv hx hb hr hlocks hW hS dX5_add_39 (by first | omega | exact ⟨⟨hs0, hs1, by omega, scr_add hs128 hc9⟩, by intro id h9 h8; try rfl⟩) (by decide) (by decide)
    · skip
      have c_16 : ¬ (80 ≤ n) := fun h__ => c_16 ((nI_leI (a := 80) (b := n) (by omega) (by omega)).mpr h__)
      refine lv_aload_n hx hb dX5_add_19 rfl (lv_at hl 0 rfl) ?_
      refine q_get hx hb hts hinX5 hown hG hW hs0 rfl 0 (by decide) (hts (.fieldLink RX5 9 "FoleyMixer$Script" "codes" "[I") (List.mem_of_getElem? (i := 2) rfl)) rfl rfl dX5_add_20 ?_
      refine lv_aload_n hx hb dX5_add_23 rfl (lv_at hl 0 rfl) ?_
      refine q_get hx hb hts hinX5 hown hG hW hs0 rfl 1 (by decide) (hts (.fieldLink RX5 15 "FoleyMixer$Script" "size" "I") (List.mem_of_getElem? (i := 1) rfl)) rfl rfl dX5_add_24 ?_
      refine lv_iload_n hx hb dX5_add_27 rfl (lv_at hl 1 rfl) ?_
      refine q_nast hx hb hG hW hS hs1 (by omega) (by omega) dX5_add_28 (fun H locs hW hS hz28 => ?_)
      obtain ⟨w1, ew1⟩ : ∃ wq__ : Wd, wq__ = va_up w (k + 1) (some (eN dA 80 (va_up C n c9))) := ⟨_, rfl⟩
      replace hW : WP D b w1 H := by rw [ew1]; exact hW
      have frw1 : ∀ id : Nat, id ≠ k + 1 → w1 id = w id := fun id h9 => by rw [ew1, up_ne h9]
      replace hs0 : w1 k = some (.inr (5, [.ref (b + (k + 1)), .int (nI n)])) := (frw1 _ (by omega)).trans hs0
      replace hs1 : w1 (k + 1) = some (eN dA 80 (va_up C n c9)) := by rw [ew1]; exact up_eq
      refine lv_aload_n hx hb dX5_add_29 rfl (lv_at hl 0 rfl) ?_
      refine lv_dup hx hb dX5_add_30 rfl ?_
      refine q_get hx hb hts hinX5 hown hG hW hs0 rfl 1 (by decide) (hts (.fieldLink RX5 15 "FoleyMixer$Script" "size" "I") (List.mem_of_getElem? (i := 1) rfl)) rfl rfl dX5_add_31 ?_
      refine lv_iconst (v := nI 1) hx hb dX5_add_34 (by decide) ?_
      refine lv_iadd hx hb dX5_add_35 ?_
      refine q_top (y := nI (n + 1)) (nI_add _ _) ?_
      refine q_put hx hb hts hinX5 tyX5_ok nmX5 hown hG hW hS hs0 rfl 1 (by decide) (hts (.fieldLink RX5 15 "FoleyMixer$Script" "size" "I") (List.mem_of_getElem? (i := 1) rfl)) rfl rfl rfl rfl (Nat.le_of_ble_eq_true rfl) dX5_add_36 (fun H locs hW hS hz36 => ?_)
      obtain ⟨w2, ew2⟩ : ∃ wq__ : Wd, wq__ = va_up w1 k (some (.inr (5, [.ref (b + (k + 1)), .int (nI (n + 1))]))) := ⟨_, rfl⟩
      replace hW : WP D b w2 H := by rw [ew2]; exact hW
      have frw2 : ∀ id : Nat, id ≠ k → w2 id = w1 id := fun id h9 => by rw [ew2, up_ne h9]
      replace hs1 : w2 (k + 1) = some (eN dA 80 (va_up C n c9)) := (frw2 _ (by omega)).trans hs1
      replace hs0 : w2 k = some (.inr (5, [.ref (b + (k + 1)), .int (nI (n + 1))])) := by rw [ew2]; exact up_eq
      exact q_wv hx hb hr hlocks hW hS dX5_add_39 (by first | omega | exact ⟨⟨hs0, hs1, by omega, scr_add hs128 hc9⟩, by intro id h9 h8; rw [frw2 id (by omega)]; rw [frw1 id (by omega)]; try rfl⟩) (by decide) (by decide)

set_option maxHeartbeats 300000 in
set_option maxRecDepth 100000 in
/-- Script.codeAt(index) -/
theorem c_X5_codeAt (l : Launch) {D : va_G} {dA : Nat → Nat} {b : Nat} {w : Wd} {k n : Nat} {C : Nat → Nat} (hs : isScr dA b w k n C) (i : Nat) (hi : i < 2 ^ 31) : Met l yX5_codeAt wsX5_codeAt ({ frames := 1, cells := 0, slots := 0, locals := 21 } : Room) (PC D dA b w [.ref (b + k), .int (nI i)]) (QR (some (.int (oI (cAt n C i))))) 0 0 Fno := by
  refine q_of (cc := cX5_codeAt) (maxL := 2) (ret := (some .int)) (by decide) rfl rfl ?_
  intro p e s m args below meth c ls hx hb hr hml hts hown hlocks hG hW hS hl
  have hown : s.vm.findClass RX5 = some m.cls := hown
  have hinX5 : ∀ w ∈ u_ws RX5 TX5 2, w ∈ wsX5_codeAt := fun w h => (goodIn_r (big := wsX5_codeAt) (u_ws RX5 TX5 2) [6, 7] (by decide +kernel) (by decide +kernel) w h).1
  have hl : lv_has ls 2 [(0, .ref (b + k)), (1, .int (nI i))] := hl
  obtain ⟨hs0, hs1, hs80, hs128⟩ := id hs
  refine lv_iload_n hx hb dX5_codeAt_0 rfl (lv_at hl 1 rfl) ?_
  refine lv_if_lt (tgt := 23) hx hb dX5_codeAt_1 (by decide) (fun c_1 => ?_) (fun c_1 => ?_)
  · skip
    have c_1 : i < 0 := (nI_lt0 (i := i) (by omega)).mp c_1
    refine lv_iconst (v := (-1)) hx hb dX5_codeAt_23 (by decide) ?_
    exact q_ri hx hb hr hlocks dX5_codeAt_24 (by unfold cAt; first | (rw [if_pos (by omega)]; rfl) | (rw [if_neg (by omega)]; rfl))
  · skip
    have c_1 : ¬ (i < 0) := fun h__ => c_1 ((nI_lt0 (i := i) (by omega)).mpr h__)
    refine lv_iload_n hx hb dX5_codeAt_4 rfl (lv_at hl 1 rfl) ?_
    refine lv_aload_n hx hb dX5_codeAt_5 rfl (lv_at hl 0 rfl) ?_
    refine q_get hx hb hts hinX5 hown hG hW hs0 rfl 1 (by decide) (hts (.fieldLink RX5 15 "FoleyMixer$Script" "size" "I") (List.mem_of_getElem? (i := 1) rfl)) rfl rfl dX5_codeAt_6 ?_
    refine lv_icmp_ge (tgt := 23) hx hb dX5_codeAt_9 (by decide) (fun c_9 => ?_) (fun c_9 => ?_)
    · skip
      have c_9 : n ≤ i := (nI_leI (a := n) (b := i) (by omega) (by omega)).mp c_9
      refine lv_iconst (v := (-1)) hx hb dX5_codeAt_23 (by decide) ?_
      exact q_ri hx hb hr hlocks dX5_codeAt_24 (by unfold cAt; first | (rw [if_pos (by omega)]; rfl) | (rw [if_neg (by omega)]; rfl))
    · skip
      have c_9 : ¬ (n ≤ i) := fun h__ => c_9 ((nI_leI (a := n) (b := i) (by omega) (by omega)).mpr h__)
      refine lv_aload_n hx hb dX5_codeAt_12 rfl (lv_at hl 0 rfl) ?_
      refine q_get hx hb hts hinX5 hown hG hW hs0 rfl 0 (by decide) (hts (.fieldLink RX5 9 "FoleyMixer$Script" "codes" "[I") (List.mem_of_getElem? (i := 2) rfl)) rfl rfl dX5_codeAt_13 ?_
      refine lv_iload_n hx hb dX5_codeAt_16 rfl (lv_at hl 1 rfl) ?_
      refine q_R1 (va_runSN (As := [.ref (b + (k + 1)), .int (nI i)]) (rest := []) ⟨hx, hb, hml, hown, hts⟩ (c_entry_in l (RD.own hs1 (by decide)) (by decide) (i) (by omega)) ⟨(va_cnB 2 hts gX5_codeAt_X6_entry_n19 rfl rfl rfl (hG.nest 27 rfl) (hts (.initialized RX6) (List.mem_of_getElem? (i := 4) rfl)) (by decide +kernel) ⟨Nat.le_of_ble_eq_true rfl, Nat.le_of_ble_eq_true rfl⟩), (hts (.static yX6_entry) (List.mem_of_getElem? (i := 3) rfl)), trivial⟩ (q_preS hG hW hS) rfl rfl hl.1 rfl (lv_room (Nat.le_of_ble_eq_true rfl)) dX5_codeAt_17 ⟨Nat.le_of_ble_eq_true rfl, Nat.le_of_ble_eq_true rfl⟩) ?_
      refine lv_goto (tgt := 24) hx hb dX5_codeAt_20 (by decide) ?_
      exact q_ri hx hb hr hlocks dX5_codeAt_24 (by unfold cAt; first | (rw [if_pos (by omega)]; rfl) | (rw [if_neg (by omega)]; rfl))

set_option maxHeartbeats 300000 in
set_option maxRecDepth 100000 in
/-- Script.errorFor(reader) -/
theorem c_X5_errorFor (l : Launch) {D : va_G} {dA : Nat → Nat} {b : Nat} {w : Wd} {k n : Nat} {C : Nat → Nat} (hs : isScr dA b w k n C) {kr : Nat} {R : Rd} (hR : isRdr dA b w kr R) (hkk : kr + 2 ≤ k ∨ k + 2 ≤ kr) : Met l yX5_errorFor wsX5_errorFor ({ frames := 4, cells := 0, slots := 0, locals := 86 } : Room) (PC D dA b w [.ref (b + k), .ref (b + kr)]) (QW D b (some (.int (nI (rerr n C (rst R) n)))) (fun w' => isRdr dA b w' kr (rrun n C (rst R) (rerr n C (rst R) n)) ∧ ∀ id : Nat, id ≠ kr → id ≠ kr + 1 → w' id = w id)) 0 0 (Fb b) := by
  refine q_of (cc := cX5_errorFor) (maxL := 3) (ret := (some .int)) (by decide) rfl rfl ?_
  intro p e s m args below meth c ls hx hb hr hml hts hown hlocks hG hW hS hl
  have hown : s.vm.findClass RX5 = some m.cls := hown
  have hinX5 : ∀ w ∈ u_ws RX5 TX5 2, w ∈ wsX5_errorFor := fun w h => (goodIn_r (big := wsX5_errorFor) (u_ws RX5 TX5 2) [48, 49] (by decide +kernel) (by decide +kernel) w h).1
  have hl : lv_has ls 3 [(0, .ref (b + k)), (1, .ref (b + kr))] := hl
  have hsz := hs.2.2.1
  have hs128 := hs.2.2.2
  have hs9 := hs
  refine lv_aload_n hx hb dX5_errorFor_0 rfl (lv_at hl 1 rfl) ?_
  refine q_W0 (va_runVN (As := []) (rest := []) ⟨hx, hb, hml, hown, hts⟩ (c_X0_restart l hR) ⟨(va_cnB 0 hts gX5_errorFor_X0_restart_n23 rfl rfl rfl (hG.nest 26 rfl) (hts (.initialized RX0) (List.mem_of_getElem? (i := 3) rfl)) (by decide +kernel) ⟨Nat.le_of_ble_eq_true rfl, Nat.le_of_ble_eq_true rfl⟩), (hts (.instanceMethod yX0_restart) (List.mem_of_getElem? (i := 2) rfl)), (hts (.selects RX0 yX0_restart yX0_restart) (List.mem_of_getElem? (i := 4) rfl))⟩ (q_preV hG hW hS (hR).1 rfl) rfl rfl hl.1 rfl (lv_room (Nat.le_of_ble_eq_true rfl)) dX5_errorFor_1 ⟨Nat.le_of_ble_eq_true rfl, Nat.le_of_ble_eq_true rfl⟩) hS (fun w_1 H locs hp1 hW hS => ?_)
  obtain ⟨hR, fr1⟩ := hp1
  replace hs : isScr dA b w_1 k n C := hs.fr (fr1 _ (by omega) (by omega)) (fr1 _ (by omega) (by omega))
  refine lv_iconst (v := nI 0) hx hb dX5_errorFor_4 (by decide) ?_
  refine lv_istore_n (lv' := [(2, .int (nI 0)), (0, .ref (b + k)), (1, .ref (b + kr))]) hx hb dX5_errorFor_5 rfl hl (by decide) rfl (fun ls hl => ?_)
  have L6 : ∀ (n6 : Nat) (i : Nat), i ≤ n → rerr n C (rst R) n = rerr n C (rst R) (n - i) → n - i < n6 → ∀ (x6_2 : Int32), x6_2 = nI (i) → ∀ (w2 : Wd) (H : Heap) (locs : List Loc), (∀ id : Nat, id ≠ kr → id ≠ kr + 1 → w2 id = w id) → isRdr dA b w2 kr (rrun n C (rst R) i) → WP D b w2 H → va_S (Fb b) s.heap H locs → ∀ (ls : Array Slot), lv_has ls 3 [(0, .ref (b + k)), (1, .ref (b + kr)), (2, .int x6_2)] → W p l e ({ frames := 4, cells := 0, slots := 0, locals := 86 } : Room) s m args below meth c H locs 0 0 (MQ below (QW D b (some (.int (nI (rerr n C (rst R) n)))) (fun w' => isRdr dA b w' kr (rrun n C (rst R) (rerr n C (rst R) n)) ∧ ∀ id : Nat, id ≠ kr → id ≠ kr + 1 → w' id = w id)) args s 0 0 (Fb b)) (F0 m 6 ls []) := by
    intro n6
    induction n6 with
    | zero =>
      intro i hi0 hi1 hn6 x6_2 ex6_2 w2 H locs fr hR hW hS ls hl
      exact absurd hn6 (Nat.not_lt_zero _)
    | succ n6 ih6 =>
      intro i hi0 hi1 hn6 x6_2 ex6_2 w2 H locs fr hR hW hS ls hl
      subst ex6_2
      replace hs := hs9.fr (fr _ (by omega) (by omega)) (fr _ (by omega) (by omega))
      refine lv_iload_n hx hb dX5_errorFor_6 rfl (lv_at hl 2 rfl) ?_
      refine lv_aload_n hx hb dX5_errorFor_7 rfl (lv_at hl 0 rfl) ?_
      refine q_get hx hb hts hinX5 hown hG hW (hs).1 rfl 1 (by decide) (hts (.fieldLink RX5 15 "FoleyMixer$Script" "size" "I") (List.mem_of_getElem? (i := 1) rfl)) rfl rfl dX5_errorFor_8 ?_
      refine lv_icmp_ge (tgt := 34) hx hb dX5_errorFor_11 (by decide) (fun c_11 => ?_) (fun c_11 => ?_)
      · skip
        have c_11 : n ≤ i := (nI_leI (a := n) (b := i) (by omega) (by omega)).mp c_11
        refine lv_aload_n hx hb dX5_errorFor_34 rfl (lv_at hl 0 rfl) ?_
        refine q_get hx hb hts hinX5 hown hG hW (hs).1 rfl 1 (by decide) (hts (.fieldLink RX5 15 "FoleyMixer$Script" "size" "I") (List.mem_of_getElem? (i := 1) rfl)) rfl rfl dX5_errorFor_35 ?_
        exact q_wi hx hb hr hlocks hW hS dX5_errorFor_38 (by rw [hi1, show n - i = 0 by omega]; rfl) (by refine ⟨?_, fr⟩; rw [hi1, show n - i = 0 by omega]; rw [show i = n by omega] at hR; exact hR) (by decide) (by decide)
      · skip
        have c_11 : ¬ (n ≤ i) := fun h__ => c_11 ((nI_leI (a := n) (b := i) (by omega) (by omega)).mpr h__)
        have hcA : cAt n C i = some (C i) := by unfold cAt; rw [if_pos (by omega)]
        have hcb := hs128 i (by omega)
        refine lv_aload_n hx hb dX5_errorFor_14 rfl (lv_at hl 1 rfl) ?_
        refine lv_aload_n hx hb dX5_errorFor_15 rfl (lv_at hl 0 rfl) ?_
        refine lv_iload_n hx hb dX5_errorFor_16 rfl (lv_at hl 2 rfl) ?_
        refine q_R1 (va_runV (As := [.int (nI i)]) (rest := [.ref (b + kr)]) ⟨hx, hb, hml, hown, hts⟩ (c_X5_codeAt l hs (i) (by omega)) (cwV 1 hts gX5_errorFor_X5_codeAt rfl rfl rfl (by decide +kernel) ⟨Nat.le_of_ble_eq_true rfl, Nat.le_of_ble_eq_true rfl⟩) (q_preV hG hW hS (hs).1 rfl) rfl rfl hl.1 rfl (lv_room (Nat.le_of_ble_eq_true rfl)) dX5_errorFor_17 ⟨Nat.le_of_ble_eq_true rfl, Nat.le_of_ble_eq_true rfl⟩) ?_
        refine q_top (y := nI (C i)) (by rw [hcA]; rfl) ?_
        refine q_W1 (va_runVN (As := [.int (nI (C i))]) (rest := []) ⟨hx, hb, hml, hown, hts⟩ (c_take_some l hR (C i) (by omega)) ⟨(va_cnB 1 hts gX5_errorFor_X0_take_n32 rfl rfl rfl (hG.nest 28 rfl) (hts (.initialized RX0) (List.mem_of_getElem? (i := 3) rfl)) (by decide +kernel) ⟨Nat.le_of_ble_eq_true rfl, Nat.le_of_ble_eq_true rfl⟩), (hts (.instanceMethod yX0_take) (List.mem_of_getElem? (i := 16) rfl)), (hts (.selects RX0 yX0_take yX0_take) (List.mem_of_getElem? (i := 17) rfl))⟩ (q_preV hG hW hS (hR).1 rfl) rfl rfl hl.1 rfl (lv_room (Nat.le_of_ble_eq_true rfl)) dX5_errorFor_20 ⟨Nat.le_of_ble_eq_true rfl, Nat.le_of_ble_eq_true rfl⟩) hS (fun w_20 H locs hp20 hW hS => ?_)
        obtain ⟨hR, fr20⟩ := hp20
        replace hs : isScr dA b w_20 k n C := hs.fr (fr20 _ (by omega) (by omega)) (fr20 _ (by omega) (by omega))
        refine lv_if_ne (tgt := 28) hx hb dX5_errorFor_23 (by decide) (fun c_23 => ?_) (fun c_23 => ?_)
        · skip
          have c_23 : rok (rrun n C (rst R) i) (some (C i)) = true := Decidable.byContradiction (fun h__ => c_23 (pI_eq0.mpr h__))
          refine lv_iinc (v := nI (i + 1)) (lv' := [(2, .int (nI (i + 1))), (0, .ref (b + k)), (1, .ref (b + kr))]) hx hb dX5_errorFor_28 hl (k := 2) rfl (nI_add _ 1) (by decide) rfl (fun ls hl => ?_)
          refine lv_goto (tgt := 6) hx hb dX5_errorFor_31 (by decide) ?_
          exact ih6 (i + 1) (by omega) (by first | rfl | (rw [hi1, show n - i = (n - (i + 1)) + 1 by omega, rerr, show n - (n - (i + 1) + 1) = i by omega, hcA, if_pos c_23])) (by omega) _ (by first | rfl | (congr 1; omega)) _ _ _ (by intro id h9 h8; rw [fr20 id h9 h8, fr id h9 h8]) (by rw [rrun, hcA]; exact hR) hW hS _ (lv_sub hl [1, 2, 0] rfl)
        · skip
          have c_23 : ¬ (rok (rrun n C (rst R) i) (some (C i)) = true) := pI_eq0.mp c_23
          refine lv_iload_n hx hb dX5_errorFor_26 rfl (lv_at hl 2 rfl) ?_
          exact q_wi hx hb hr hlocks hW hS dX5_errorFor_27 (by rw [hi1, show n - i = (n - (i + 1)) + 1 by omega, rerr, show n - (n - (i + 1) + 1) = i by omega, hcA, if_neg c_23]) (by refine ⟨?_, fun id h9 h8 => by rw [fr20 id h9 h8, fr id h9 h8]⟩; rw [hi1, show n - i = (n - (i + 1)) + 1 by omega, rerr, show n - (n - (i + 1) + 1) = i by omega, hcA, if_neg c_23]; unfold rnx at hR; rw [if_neg c_23] at hR; exact hR) (by decide) (by decide)
  exact L6 ((n - 0) + 1) 0 (by omega) (by first | rfl | (rw [hi1, show n - i = (n - (i + 1)) + 1 by omega, rerr, show n - (n - (i + 1) + 1) = i by omega, hcA, if_pos c_23])) (Nat.lt_succ_self _) _ (by first | rfl | (congr 1; omega)) _ _ _ (by exact fr1) (by exact hR) hW hS _ (lv_sub hl [1, 2, 0] rfl)

set_option maxHeartbeats 300000 in
set_option maxRecDepth 100000 in
/-- Script.addNumber(value) -/
theorem c_X5_addNumber (l : Launch) {D : va_G} {dA : Nat → Nat} {b : Nat} {w : Wd} {k n : Nat} {C : Nat → Nat} (hs : isScr dA b w k n C) (v : Nat) (hv : v ≤ 99) (hn : n + dl v ≤ 80) : Met l yX5_addNumber wsX5_addNumber ({ frames := 1, cells := 0, slots := 0, locals := 21 } : Room) (PC D dA b w [.ref (b + k), .int (nI v)]) (QW D b (none) (fun w' => isScr dA b w' k (apN (n, C) v).1 (apN (n, C) v).2 ∧ ∀ id : Nat, id ≠ k → id ≠ k + 1 → w' id = w id)) 0 0 (Fb b) := by
  refine q_of (cc := cX5_addNumber) (maxL := 2) (ret := none) (by decide) rfl rfl ?_
  intro p e s m args below meth c ls hx hb hr hml hts hown hlocks hG hW hS hl
  have hown : s.vm.findClass RX5 = some m.cls := hown
  have hl : lv_has ls 2 [(0, .ref (b + k)), (1, .int (nI v))] := hl
  have hd9 := dl_rng v
  have hm9 : v % 10 < 10 := Nat.mod_lt _ (by decide)
  have hs80 := hs.2.2.1
  refine lv_iload_n hx hb dX5_addNumber_0 rfl (lv_at hl 1 rfl) ?_
  refine lv_bipush (v := nI 10) hx hb dX5_addNumber_1 (by decide) ?_
  refine lv_icmp_lt (tgt := 17) hx hb dX5_addNumber_3 (by decide) (fun c_3 => ?_) (fun c_3 => ?_)
  · skip
    have c_3 : v < 10 := (nI_ltI (a := v) (b := 10) (by omega) (by omega)).mp c_3
    refine lv_aload_n hx hb dX5_addNumber_17 rfl (lv_at hl 0 rfl) ?_
    refine lv_bipush (v := nI 48) hx hb dX5_addNumber_18 (by decide) ?_
    refine lv_iload_n hx hb dX5_addNumber_20 rfl (lv_at hl 1 rfl) ?_
    refine lv_bipush (v := nI 10) hx hb dX5_addNumber_21 (by decide) ?_
    refine lv_irem hx hb dX5_addNumber_23 (by decide) ?_
    refine q_top (y := nI (v % 10)) (pk_rem (by omega) (by omega) (by omega)) ?_
    refine lv_iadd hx hb dX5_addNumber_24 ?_
    refine q_top (y := nI (48 + (v % 10))) (nI_add _ _) ?_
    refine q_W0 (va_runV (As := [.int (nI (48 + (v % 10)))]) (rest := []) ⟨hx, hb, hml, hown, hts⟩ (c_X5_add l hs (48 + (v % 10)) (by omega) (by omega)) (cwV 1 hts gX5_addNumber_X5_add rfl rfl rfl (by decide +kernel) ⟨Nat.le_of_ble_eq_true rfl, Nat.le_of_ble_eq_true rfl⟩) (q_preV hG hW hS (hs).1 rfl) rfl rfl hl.1 rfl (lv_room (Nat.le_of_ble_eq_true rfl)) dX5_addNumber_25 ⟨Nat.le_of_ble_eq_true rfl, Nat.le_of_ble_eq_true rfl⟩) hS (fun w_25 H locs hp25 hW hS => ?_)
    obtain ⟨hs, fr25⟩ := hp25
    exact q_wv hx hb hr hlocks hW hS dX5_addNumber_28 (by refine ⟨?_, by intro id h9 h8; rw [fr25 id (by omega) (by omega)]; try rfl⟩; unfold apN; first | (rw [if_pos (by omega)]; exact hs) | (rw [if_neg (by omega)]; exact hs)) (by decide) (by decide)
  · skip
    have c_3 : ¬ (v < 10) := fun h__ => c_3 ((nI_ltI (a := v) (b := 10) (by omega) (by omega)).mpr h__)
    have hd8 : dl v = 2 := by unfold dl; rw [if_pos (by omega)]
    refine lv_aload_n hx hb dX5_addNumber_6 rfl (lv_at hl 0 rfl) ?_
    refine lv_bipush (v := nI 48) hx hb dX5_addNumber_7 (by decide) ?_
    refine lv_iload_n hx hb dX5_addNumber_9 rfl (lv_at hl 1 rfl) ?_
    refine lv_bipush (v := nI 10) hx hb dX5_addNumber_10 (by decide) ?_
    refine lv_idiv hx hb dX5_addNumber_12 (by decide) ?_
    refine q_top (y := nI (v / 10)) (pk_div (by omega) (by omega) (by omega)) ?_
    refine lv_iadd hx hb dX5_addNumber_13 ?_
    refine q_top (y := nI (48 + (v / 10))) (nI_add _ _) ?_
    refine q_W0 (va_runV (As := [.int (nI (48 + (v / 10)))]) (rest := []) ⟨hx, hb, hml, hown, hts⟩ (c_X5_add l hs (48 + (v / 10)) (by omega) (by omega)) (cwV 1 hts gX5_addNumber_X5_add rfl rfl rfl (by decide +kernel) ⟨Nat.le_of_ble_eq_true rfl, Nat.le_of_ble_eq_true rfl⟩) (q_preV hG hW hS (hs).1 rfl) rfl rfl hl.1 rfl (lv_room (Nat.le_of_ble_eq_true rfl)) dX5_addNumber_14 ⟨Nat.le_of_ble_eq_true rfl, Nat.le_of_ble_eq_true rfl⟩) hS (fun w_14 H locs hp14 hW hS => ?_)
    obtain ⟨hs, fr14⟩ := hp14
    refine lv_aload_n hx hb dX5_addNumber_17 rfl (lv_at hl 0 rfl) ?_
    refine lv_bipush (v := nI 48) hx hb dX5_addNumber_18 (by decide) ?_
    refine lv_iload_n hx hb dX5_addNumber_20 rfl (lv_at hl 1 rfl) ?_
    refine lv_bipush (v := nI 10) hx hb dX5_addNumber_21 (by decide) ?_
    refine lv_irem hx hb dX5_addNumber_23 (by decide) ?_
    refine q_top (y := nI (v % 10)) (pk_rem (by omega) (by omega) (by omega)) ?_
    refine lv_iadd hx hb dX5_addNumber_24 ?_
    refine q_top (y := nI (48 + (v % 10))) (nI_add _ _) ?_
    refine q_W0 (va_runV (As := [.int (nI (48 + (v % 10)))]) (rest := []) ⟨hx, hb, hml, hown, hts⟩ (c_X5_add l hs (48 + (v % 10)) (by omega) (by omega)) (cwV 1 hts gX5_addNumber_X5_add rfl rfl rfl (by decide +kernel) ⟨Nat.le_of_ble_eq_true rfl, Nat.le_of_ble_eq_true rfl⟩) (q_preV hG hW hS (hs).1 rfl) rfl rfl hl.1 rfl (lv_room (Nat.le_of_ble_eq_true rfl)) dX5_addNumber_25 ⟨Nat.le_of_ble_eq_true rfl, Nat.le_of_ble_eq_true rfl⟩) hS (fun w_25 H locs hp25 hW hS => ?_)
    obtain ⟨hs, fr25⟩ := hp25
    exact q_wv hx hb hr hlocks hW hS dX5_addNumber_28 (by refine ⟨?_, by intro id h9 h8; rw [fr25 id (by omega) (by omega)]; rw [fr14 id (by omega) (by omega)]; try rfl⟩; unfold apN; first | (rw [if_pos (by omega)]; exact hs) | (rw [if_neg (by omega)]; exact hs)) (by decide) (by decide)

set_option maxHeartbeats 300000 in
set_option maxRecDepth 100000 in
/-- Script.addCue(sign, cues, number) -/
theorem c_X5_addCue (l : Launch) {D : va_G} {dA : Nat → Nat} {b : Nat} {w : Wd} {k n : Nat} {C : Nat → Nat} (hs : isScr dA b w k n C) {kc lim nc : Nat} {V : Nat → Nat → Nat} (hc : isCues dA b w kc lim nc V) (hkk : kc + 2 ≤ k ∨ k + 2 ≤ kc) (sg i : Nat) (hsg : sg < 128) (hi : i < nc) : Met l yX5_addCue wsX5_addCue ({ frames := 2, cells := 0, slots := 0, locals := 42 } : Room) (PC D dA b w [.ref (b + k), .int (nI sg), .ref (b + kc), .int (nI i)]) (QW D b (some (.int (if n + needC n (V i 0) (V i 1) (V i 2) ≤ 80 then 1 else 0))) (fun w' => isScr dA b w' k (if n + needC n (V i 0) (V i 1) (V i 2) ≤ 80 then apC (n, C) sg (V i 0) (V i 1) (V i 2) else (n, C)).1 (if n + needC n (V i 0) (V i 1) (V i 2) ≤ 80 then apC (n, C) sg (V i 0) (V i 1) (V i 2) else (n, C)).2 ∧ ∀ id : Nat, id ≠ k → id ≠ k + 1 → w' id = w id)) 0 0 (Fb b) := by
  refine q_of (cc := cX5_addCue) (maxL := 8) (ret := (some .boolean)) (by decide) rfl rfl ?_
  intro p e s m args below meth c ls hx hb hr hml hts hown hlocks hG hW hS hl
  have hown : s.vm.findClass RX5 = some m.cls := hown
  have hinX5 : ∀ w ∈ u_ws RX5 TX5 2, w ∈ wsX5_addCue := fun w h => (goodIn_r (big := wsX5_addCue) (u_ws RX5 TX5 2) [20, 21] (by decide +kernel) (by decide +kernel) w h).1
  have hl : lv_has ls 8 [(0, .ref (b + k)), (1, .int (nI sg)), (2, .ref (b + kc)), (3, .int (nI i))] := hl
  have hs80 := hs.2.2.1
  have hok := hc.2.2.2.1 i hi
  have hd0 := dl_rng (V i 0)
  have hd1 := dl_rng (V i 1)
  have hd2 := dl_rng (V i 2)
  have hnd : needC n (V i 0) (V i 1) (V i 2) = (if n = 0 then 3 else 4) + dl (V i 0) + dl (V i 1) + dl (V i 2) := rfl
  have hsn : 3 ≤ (if n = 0 then 3 else 4) ∧ (if n = 0 then 3 else 4) ≤ 4 := by split <;> decide
  refine lv_aload_n hx hb dX5_addCue_0 rfl (lv_at hl 0 rfl) ?_
  refine q_get hx hb hts hinX5 hown hG hW (hs).1 rfl 1 (by decide) (hts (.fieldLink RX5 15 "FoleyMixer$Script" "size" "I") (List.mem_of_getElem? (i := 1) rfl)) rfl rfl dX5_addCue_1 ?_
  refine lv_istore (lv' := [(4, .int (nI n)), (0, .ref (b + k)), (1, .int (nI sg)), (2, .ref (b + kc)), (3, .int (nI i))]) hx hb dX5_addCue_4 hl (by decide) rfl (fun ls hl => ?_)
  have L16 : ∀  (y16_0 : Int32), y16_0 = nI (if n = 0 then 3 else 4) → ∀ (ls : Array Slot), lv_has ls 8 [(0, .ref (b + k)), (1, .int (nI sg)), (2, .ref (b + kc)), (3, .int (nI i)), (4, .int (nI n))] → W p l e ({ frames := 2, cells := 0, slots := 0, locals := 42 } : Room) s m args below meth c s.heap [] 0 0 (MQ below (QW D b (some (.int (if n + needC n (V i 0) (V i 1) (V i 2) ≤ 80 then 1 else 0))) (fun w' => isScr dA b w' k (if n + needC n (V i 0) (V i 1) (V i 2) ≤ 80 then apC (n, C) sg (V i 0) (V i 1) (V i 2) else (n, C)).1 (if n + needC n (V i 0) (V i 1) (V i 2) ≤ 80 then apC (n, C) sg (V i 0) (V i 1) (V i 2) else (n, C)).2 ∧ ∀ id : Nat, id ≠ k → id ≠ k + 1 → w' id = w id)) args s 0 0 (Fb b)) (F0 m 16 ls [.int (y16_0)]) := by
    intro  y16_0 ey16_0 ls hl
    subst ey16_0
    refine lv_istore (lv' := [(5, .int (nI (if n = 0 then 3 else 4))), (0, .ref (b + k)), (1, .int (nI sg)), (2, .ref (b + kc)), (3, .int (nI i)), (4, .int (nI n))]) hx hb dX5_addCue_16 hl (by decide) rfl (fun ls hl => ?_)
    have L58 : ∀ (x58_6 : Int32), x58_6 = nI (dl (V i 0) + dl (V i 1) + dl (V i 2)) → ∀ (ls : Array Slot), lv_has ls 8 [(0, .ref (b + k)), (1, .int (nI sg)), (2, .ref (b + kc)), (3, .int (nI i)), (4, .int (nI n)), (5, .int (nI (if n = 0 then 3 else 4))), (6, .int x58_6)] → W p l e ({ frames := 2, cells := 0, slots := 0, locals := 42 } : Room) s m args below meth c s.heap [] 0 0 (MQ below (QW D b (some (.int (if n + needC n (V i 0) (V i 1) (V i 2) ≤ 80 then 1 else 0))) (fun w' => isScr dA b w' k (if n + needC n (V i 0) (V i 1) (V i 2) ≤ 80 then apC (n, C) sg (V i 0) (V i 1) (V i 2) else (n, C)).1 (if n + needC n (V i 0) (V i 1) (V i 2) ≤ 80 then apC (n, C) sg (V i 0) (V i 1) (V i 2) else (n, C)).2 ∧ ∀ id : Nat, id ≠ k → id ≠ k + 1 → w' id = w id)) args s 0 0 (Fb b)) (F0 m 58 ls []) := by
      intro  x58_6 ex58_6 ls hl
      subst ex58_6
      refine lv_iload hx hb dX5_addCue_58 (lv_at hl 4 rfl) ?_
      refine lv_iload hx hb dX5_addCue_60 (lv_at hl 5 rfl) ?_
      refine lv_iadd hx hb dX5_addCue_62 ?_
      refine q_top (y := nI (n + (if n = 0 then 3 else 4))) (nI_add _ _) ?_
      refine lv_iload hx hb dX5_addCue_63 (lv_at hl 6 rfl) ?_
      refine lv_iadd hx hb dX5_addCue_65 ?_
      refine q_top (y := nI ((n + (if n = 0 then 3 else 4)) + (dl (V i 0) + dl (V i 1) + dl (V i 2)))) (nI_add _ _) ?_
      refine lv_aload_n hx hb dX5_addCue_66 rfl (lv_at hl 0 rfl) ?_
      refine q_get hx hb hts hinX5 hown hG hW (hs).1 rfl 0 (by decide) (hts (.fieldLink RX5 9 "FoleyMixer$Script" "codes" "[I") (List.mem_of_getElem? (i := 2) rfl)) rfl rfl dX5_addCue_67 ?_
      refine q_alen hx hb (hW.ar hG (hs).2.1 (by omega)) dX5_addCue_70 ?_
      refine lv_icmp_le (tgt := 76) hx hb dX5_addCue_71 (by decide) (fun c_71 => ?_) (fun c_71 => ?_)
      · skip
        have c_71 : (n + (if n = 0 then 3 else 4)) + (dl (V i 0) + dl (V i 1) + dl (V i 2)) ≤ 80 := (nI_leI (a := (n + (if n = 0 then 3 else 4)) + (dl (V i 0) + dl (V i 1) + dl (V i 2))) (b := 80) (by omega) (by omega)).mp c_71
        refine lv_iload hx hb dX5_addCue_76 (lv_at hl 4 rfl) ?_
        refine lv_if_le (tgt := 87) hx hb dX5_addCue_78 (by decide) (fun c_78 => ?_) (fun c_78 => ?_)
        · skip
          have c_78 : n ≤ 0 := (nI_le0 (i := n) (by omega)).mp c_78
          refine lv_aload_n hx hb dX5_addCue_87 rfl (lv_at hl 0 rfl) ?_
          refine lv_iload_n hx hb dX5_addCue_88 rfl (lv_at hl 1 rfl) ?_
          refine q_W0 (va_runV (As := [.int (nI sg)]) (rest := []) ⟨hx, hb, hml, hown, hts⟩ (c_X5_add l hs (sg) (by omega) (by omega)) (cwV 1 hts gX5_addCue_X5_add rfl rfl rfl (by decide +kernel) ⟨Nat.le_of_ble_eq_true rfl, Nat.le_of_ble_eq_true rfl⟩) (q_preV hG hW hS (hs).1 rfl) rfl rfl hl.1 rfl (lv_room (Nat.le_of_ble_eq_true rfl)) dX5_addCue_89 ⟨Nat.le_of_ble_eq_true rfl, Nat.le_of_ble_eq_true rfl⟩) hS (fun w_89 H locs hp89 hW hS => ?_)
          obtain ⟨hs, fr89⟩ := hp89
          replace hc : isCues dA b w_89 kc lim nc V := hc.fr (fr89 _ (by omega) (by omega)) (fr89 _ (by omega) (by omega))
          refine lv_iconst (v := nI 0) hx hb dX5_addCue_92 (by decide) ?_
          refine lv_istore (lv' := [(7, .int (nI 0)), (0, .ref (b + k)), (1, .int (nI sg)), (2, .ref (b + kc)), (3, .int (nI i)), (4, .int (nI n)), (5, .int (nI (if n = 0 then 3 else 4))), (6, .int (nI (dl (V i 0) + dl (V i 1) + dl (V i 2))))]) hx hb dX5_addCue_93 hl (by decide) rfl (fun ls hl => ?_)
          refine lv_iload hx hb dX5_addCue_95 (lv_at hl 0 rfl) ?_
          refine lv_iconst (v := nI 2) hx hb dX5_addCue_97 (by decide) ?_
          refine lv_icmp_gt (tgt := 136) hx hb dX5_addCue_98 (by decide) (fun c_98 => ?_) (fun c_98 => ?_)
          · skip
            have c_98 : 2 < 0 := (nI_ltI (a := 2) (b := 0) (by omega) (by omega)).mp c_98
            exact absurd c_98 (by omega)
          · skip
            have c_98 : ¬ (2 < 0) := fun h__ => c_98 ((nI_ltI (a := 2) (b := 0) (by omega) (by omega)).mpr h__)
            refine lv_aload_n hx hb dX5_addCue_101 rfl (lv_at hl 1 rfl) ?_
            refine lv_aload_n hx hb dX5_addCue_102 rfl (lv_at hl 3 rfl) ?_
            refine lv_iload_n hx hb dX5_addCue_103 rfl (lv_at hl 4 rfl) ?_
            refine lv_iload hx hb dX5_addCue_104 (lv_at hl 0 rfl) ?_
            refine q_R1 (va_runVN (As := [.int (nI i), .int (nI 0)]) (rest := [.ref (b + k)]) ⟨hx, hb, hml, hown, hts⟩ (c_X1_numberOf l hc (i) (0) (by omega) (by omega)) ⟨(va_cnB 2 hts gX5_addCue_X1_numberOf_n36 rfl rfl rfl (hG.nest 37 rfl) (hts (.initialized RX1) (List.mem_of_getElem? (i := 4) rfl)) (by decide +kernel) ⟨Nat.le_of_ble_eq_true rfl, Nat.le_of_ble_eq_true rfl⟩), (hts (.instanceMethod yX1_numberOf) (List.mem_of_getElem? (i := 3) rfl)), (hts (.selects RX1 yX1_numberOf yX1_numberOf) (List.mem_of_getElem? (i := 5) rfl))⟩ (q_preV hG hW hS (isCues.obj hc) rfl) rfl rfl hl.1 rfl (lv_room (Nat.le_of_ble_eq_true rfl)) dX5_addCue_106 ⟨Nat.le_of_ble_eq_true rfl, Nat.le_of_ble_eq_true rfl⟩) ?_
            have q_106 := hc.2.2.2.1 (i) (by omega)
            refine q_W0 (va_runV (As := [.int (nI (V i 0))]) (rest := []) ⟨hx, hb, hml, hown, hts⟩ (c_X5_addNumber l hs (V i 0) (by omega) (by omega)) (cwV 1 hts gX5_addCue_X5_addNumber rfl rfl rfl (by decide +kernel) ⟨Nat.le_of_ble_eq_true rfl, Nat.le_of_ble_eq_true rfl⟩) (q_preV hG hW hS (hs).1 rfl) rfl rfl hl.1 rfl (lv_room (Nat.le_of_ble_eq_true rfl)) dX5_addCue_109 ⟨Nat.le_of_ble_eq_true rfl, Nat.le_of_ble_eq_true rfl⟩) hS (fun w_109 H locs hp109 hW hS => ?_)
            obtain ⟨hs, fr109⟩ := hp109
            replace hc : isCues dA b w_109 kc lim nc V := hc.fr (fr109 _ (by omega) (by omega)) (fr109 _ (by omega) (by omega))
            have ql_109 := apN_len (n + 1, va_up C n sg) (V i 0)
            dsimp only at ql_109
            refine lv_iload hx hb dX5_addCue_112 (lv_at hl 0 rfl) ?_
            refine lv_iconst (v := nI 2) hx hb dX5_addCue_114 (by decide) ?_
            refine lv_icmp_ge (tgt := 130) hx hb dX5_addCue_115 (by decide) (fun c_115 => ?_) (fun c_115 => ?_)
            · skip
              have c_115 : 2 ≤ 0 := (nI_leI (a := 2) (b := 0) (by omega) (by omega)).mp c_115
              exact absurd c_115 (by omega)
            · skip
              have c_115 : ¬ (2 ≤ 0) := fun h__ => c_115 ((nI_leI (a := 2) (b := 0) (by omega) (by omega)).mpr h__)
              refine lv_aload_n hx hb dX5_addCue_118 rfl (lv_at hl 1 rfl) ?_
              refine va_getsN hx hb (hG.2.2.1 5 _ rfl).1 hS hown (va_Nw.use rfl (hG.nest 38 rfl)) (fun _ h => h) dX5_addCue_119 ?_
              refine lv_iload hx hb dX5_addCue_122 (lv_at hl 0 rfl) ?_
              refine q_R1 (va_runSN (As := [.ref (dA 15), .int (nI 0)]) (rest := [.ref (b + k)]) ⟨hx, hb, hml, hown, hts⟩ (c_entry_in l (RD.st 5 rfl) (by decide) (0) (by decide)) ⟨(va_cnB 2 hts gX5_addCue_X6_entry_n19 rfl rfl rfl (hG.nest 27 rfl) (hts (.initialized RX6) (List.mem_of_getElem? (i := 18) rfl)) (by decide +kernel) ⟨Nat.le_of_ble_eq_true rfl, Nat.le_of_ble_eq_true rfl⟩), (hts (.static yX6_entry) (List.mem_of_getElem? (i := 17) rfl)), trivial⟩ (q_preS hG hW hS) rfl rfl hl.1 rfl (lv_room (Nat.le_of_ble_eq_true rfl)) dX5_addCue_124 ⟨Nat.le_of_ble_eq_true rfl, Nat.le_of_ble_eq_true rfl⟩) ?_
              refine q_W0 (va_runV (As := [.int (nI 43)]) (rest := []) ⟨hx, hb, hml, hown, hts⟩ (c_X5_add l hs (43) (by omega) (by omega)) (cwV 1 hts gX5_addCue_X5_add rfl rfl rfl (by decide +kernel) ⟨Nat.le_of_ble_eq_true rfl, Nat.le_of_ble_eq_true rfl⟩) (q_preV hG hW hS (hs).1 rfl) rfl rfl hl.1 rfl (lv_room (Nat.le_of_ble_eq_true rfl)) dX5_addCue_127 ⟨Nat.le_of_ble_eq_true rfl, Nat.le_of_ble_eq_true rfl⟩) hS (fun w_127 H locs hp127 hW hS => ?_)
              obtain ⟨hs, fr127⟩ := hp127
              replace hc : isCues dA b w_127 kc lim nc V := hc.fr (fr127 _ (by omega) (by omega)) (fr127 _ (by omega) (by omega))
              refine lv_iinc (v := nI (1)) (lv' := [(7, .int (nI 1)), (0, .ref (b + k)), (1, .int (nI sg)), (2, .ref (b + kc)), (3, .int (nI i)), (4, .int (nI n)), (5, .int (nI (if n = 0 then 3 else 4))), (6, .int (nI (dl (V i 0) + dl (V i 1) + dl (V i 2))))]) hx hb dX5_addCue_130 hl (k := 0) rfl (nI_add _ 1) (by decide) rfl (fun ls hl => ?_)
              refine lv_goto (tgt := 95) hx hb dX5_addCue_133 (by decide) ?_
              refine lv_iload hx hb dX5_addCue_95 (lv_at hl 0 rfl) ?_
              refine lv_iconst (v := nI 2) hx hb dX5_addCue_97 (by decide) ?_
              refine lv_icmp_gt (tgt := 136) hx hb dX5_addCue_98 (by decide) (fun c_98 => ?_) (fun c_98 => ?_)
              · skip
                have c_98 : 2 < 1 := (nI_ltI (a := 2) (b := 1) (by omega) (by omega)).mp c_98
                exact absurd c_98 (by omega)
              · skip
                have c_98 : ¬ (2 < 1) := fun h__ => c_98 ((nI_ltI (a := 2) (b := 1) (by omega) (by omega)).mpr h__)
                refine lv_aload_n hx hb dX5_addCue_101 rfl (lv_at hl 1 rfl) ?_
                refine lv_aload_n hx hb dX5_addCue_102 rfl (lv_at hl 3 rfl) ?_
                refine lv_iload_n hx hb dX5_addCue_103 rfl (lv_at hl 4 rfl) ?_
                refine lv_iload hx hb dX5_addCue_104 (lv_at hl 0 rfl) ?_
                refine q_R1 (va_runVN (As := [.int (nI i), .int (nI 1)]) (rest := [.ref (b + k)]) ⟨hx, hb, hml, hown, hts⟩ (c_X1_numberOf l hc (i) (1) (by omega) (by omega)) ⟨(va_cnB 2 hts gX5_addCue_X1_numberOf_n36 rfl rfl rfl (hG.nest 37 rfl) (hts (.initialized RX1) (List.mem_of_getElem? (i := 4) rfl)) (by decide +kernel) ⟨Nat.le_of_ble_eq_true rfl, Nat.le_of_ble_eq_true rfl⟩), (hts (.instanceMethod yX1_numberOf) (List.mem_of_getElem? (i := 3) rfl)), (hts (.selects RX1 yX1_numberOf yX1_numberOf) (List.mem_of_getElem? (i := 5) rfl))⟩ (q_preV hG hW hS (isCues.obj hc) rfl) rfl rfl hl.1 rfl (lv_room (Nat.le_of_ble_eq_true rfl)) dX5_addCue_106 ⟨Nat.le_of_ble_eq_true rfl, Nat.le_of_ble_eq_true rfl⟩) ?_
                have q_106 := hc.2.2.2.1 (i) (by omega)
                refine q_W0 (va_runV (As := [.int (nI (V i 1))]) (rest := []) ⟨hx, hb, hml, hown, hts⟩ (c_X5_addNumber l hs (V i 1) (by omega) (by omega)) (cwV 1 hts gX5_addCue_X5_addNumber rfl rfl rfl (by decide +kernel) ⟨Nat.le_of_ble_eq_true rfl, Nat.le_of_ble_eq_true rfl⟩) (q_preV hG hW hS (hs).1 rfl) rfl rfl hl.1 rfl (lv_room (Nat.le_of_ble_eq_true rfl)) dX5_addCue_109 ⟨Nat.le_of_ble_eq_true rfl, Nat.le_of_ble_eq_true rfl⟩) hS (fun w_109 H locs hp109 hW hS => ?_)
                obtain ⟨hs, fr109_1⟩ := hp109
                replace hc : isCues dA b w_109 kc lim nc V := hc.fr (fr109_1 _ (by omega) (by omega)) (fr109_1 _ (by omega) (by omega))
                have ql_109 := apN_len (((apN (n + 1, va_up C n sg) (V i 0)).1) + 1, va_up ((apN (n + 1, va_up C n sg) (V i 0)).2) ((apN (n + 1, va_up C n sg) (V i 0)).1) 43) (V i 1)
                dsimp only at ql_109
                refine lv_iload hx hb dX5_addCue_112 (lv_at hl 0 rfl) ?_
                refine lv_iconst (v := nI 2) hx hb dX5_addCue_114 (by decide) ?_
                refine lv_icmp_ge (tgt := 130) hx hb dX5_addCue_115 (by decide) (fun c_115 => ?_) (fun c_115 => ?_)
                · skip
                  have c_115 : 2 ≤ 1 := (nI_leI (a := 2) (b := 1) (by omega) (by omega)).mp c_115
                  exact absurd c_115 (by omega)
                · skip
                  have c_115 : ¬ (2 ≤ 1) := fun h__ => c_115 ((nI_leI (a := 2) (b := 1) (by omega) (by omega)).mpr h__)
                  refine lv_aload_n hx hb dX5_addCue_118 rfl (lv_at hl 1 rfl) ?_
                  refine va_getsN hx hb (hG.2.2.1 5 _ rfl).1 hS hown (va_Nw.use rfl (hG.nest 38 rfl)) (fun _ h => h) dX5_addCue_119 ?_
                  refine lv_iload hx hb dX5_addCue_122 (lv_at hl 0 rfl) ?_
                  refine q_R1 (va_runSN (As := [.ref (dA 15), .int (nI 1)]) (rest := [.ref (b + k)]) ⟨hx, hb, hml, hown, hts⟩ (c_entry_in l (RD.st 5 rfl) (by decide) (1) (by decide)) ⟨(va_cnB 2 hts gX5_addCue_X6_entry_n19 rfl rfl rfl (hG.nest 27 rfl) (hts (.initialized RX6) (List.mem_of_getElem? (i := 18) rfl)) (by decide +kernel) ⟨Nat.le_of_ble_eq_true rfl, Nat.le_of_ble_eq_true rfl⟩), (hts (.static yX6_entry) (List.mem_of_getElem? (i := 17) rfl)), trivial⟩ (q_preS hG hW hS) rfl rfl hl.1 rfl (lv_room (Nat.le_of_ble_eq_true rfl)) dX5_addCue_124 ⟨Nat.le_of_ble_eq_true rfl, Nat.le_of_ble_eq_true rfl⟩) ?_
                  refine q_W0 (va_runV (As := [.int (nI 64)]) (rest := []) ⟨hx, hb, hml, hown, hts⟩ (c_X5_add l hs (64) (by omega) (by omega)) (cwV 1 hts gX5_addCue_X5_add rfl rfl rfl (by decide +kernel) ⟨Nat.le_of_ble_eq_true rfl, Nat.le_of_ble_eq_true rfl⟩) (q_preV hG hW hS (hs).1 rfl) rfl rfl hl.1 rfl (lv_room (Nat.le_of_ble_eq_true rfl)) dX5_addCue_127 ⟨Nat.le_of_ble_eq_true rfl, Nat.le_of_ble_eq_true rfl⟩) hS (fun w_127 H locs hp127 hW hS => ?_)
                  obtain ⟨hs, fr127_2⟩ := hp127
                  replace hc : isCues dA b w_127 kc lim nc V := hc.fr (fr127_2 _ (by omega) (by omega)) (fr127_2 _ (by omega) (by omega))
                  refine lv_iinc (v := nI (2)) (lv' := [(7, .int (nI 2)), (0, .ref (b + k)), (1, .int (nI sg)), (2, .ref (b + kc)), (3, .int (nI i)), (4, .int (nI n)), (5, .int (nI (if n = 0 then 3 else 4))), (6, .int (nI (dl (V i 0) + dl (V i 1) + dl (V i 2))))]) hx hb dX5_addCue_130 hl (k := 0) rfl (nI_add _ 1) (by decide) rfl (fun ls hl => ?_)
                  refine lv_goto (tgt := 95) hx hb dX5_addCue_133 (by decide) ?_
                  refine lv_iload hx hb dX5_addCue_95 (lv_at hl 0 rfl) ?_
                  refine lv_iconst (v := nI 2) hx hb dX5_addCue_97 (by decide) ?_
                  refine lv_icmp_gt (tgt := 136) hx hb dX5_addCue_98 (by decide) (fun c_98 => ?_) (fun c_98 => ?_)
                  · skip
                    have c_98 : 2 < 2 := (nI_ltI (a := 2) (b := 2) (by omega) (by omega)).mp c_98
                    exact absurd c_98 (by omega)
                  · skip
                    have c_98 : ¬ (2 < 2) := fun h__ => c_98 ((nI_ltI (a := 2) (b := 2) (by omega) (by omega)).mpr h__)
                    refine lv_aload_n hx hb dX5_addCue_101 rfl (lv_at hl 1 rfl) ?_
                    refine lv_aload_n hx hb dX5_addCue_102 rfl (lv_at hl 3 rfl) ?_
                    refine lv_iload_n hx hb dX5_addCue_103 rfl (lv_at hl 4 rfl) ?_
                    refine lv_iload hx hb dX5_addCue_104 (lv_at hl 0 rfl) ?_
                    refine q_R1 (va_runVN (As := [.int (nI i), .int (nI 2)]) (rest := [.ref (b + k)]) ⟨hx, hb, hml, hown, hts⟩ (c_X1_numberOf l hc (i) (2) (by omega) (by omega)) ⟨(va_cnB 2 hts gX5_addCue_X1_numberOf_n36 rfl rfl rfl (hG.nest 37 rfl) (hts (.initialized RX1) (List.mem_of_getElem? (i := 4) rfl)) (by decide +kernel) ⟨Nat.le_of_ble_eq_true rfl, Nat.le_of_ble_eq_true rfl⟩), (hts (.instanceMethod yX1_numberOf) (List.mem_of_getElem? (i := 3) rfl)), (hts (.selects RX1 yX1_numberOf yX1_numberOf) (List.mem_of_getElem? (i := 5) rfl))⟩ (q_preV hG hW hS (isCues.obj hc) rfl) rfl rfl hl.1 rfl (lv_room (Nat.le_of_ble_eq_true rfl)) dX5_addCue_106 ⟨Nat.le_of_ble_eq_true rfl, Nat.le_of_ble_eq_true rfl⟩) ?_
                    have q_106 := hc.2.2.2.1 (i) (by omega)
                    refine q_W0 (va_runV (As := [.int (nI (V i 2))]) (rest := []) ⟨hx, hb, hml, hown, hts⟩ (c_X5_addNumber l hs (V i 2) (by omega) (by omega)) (cwV 1 hts gX5_addCue_X5_addNumber rfl rfl rfl (by decide +kernel) ⟨Nat.le_of_ble_eq_true rfl, Nat.le_of_ble_eq_true rfl⟩) (q_preV hG hW hS (hs).1 rfl) rfl rfl hl.1 rfl (lv_room (Nat.le_of_ble_eq_true rfl)) dX5_addCue_109 ⟨Nat.le_of_ble_eq_true rfl, Nat.le_of_ble_eq_true rfl⟩) hS (fun w_109 H locs hp109 hW hS => ?_)
                    obtain ⟨hs, fr109_3⟩ := hp109
                    replace hc : isCues dA b w_109 kc lim nc V := hc.fr (fr109_3 _ (by omega) (by omega)) (fr109_3 _ (by omega) (by omega))
                    have ql_109 := apN_len (((apN (((apN (n + 1, va_up C n sg) (V i 0)).1) + 1, va_up ((apN (n + 1, va_up C n sg) (V i 0)).2) ((apN (n + 1, va_up C n sg) (V i 0)).1) 43) (V i 1)).1) + 1, va_up ((apN (((apN (n + 1, va_up C n sg) (V i 0)).1) + 1, va_up ((apN (n + 1, va_up C n sg) (V i 0)).2) ((apN (n + 1, va_up C n sg) (V i 0)).1) 43) (V i 1)).2) ((apN (((apN (n + 1, va_up C n sg) (V i 0)).1) + 1, va_up ((apN (n + 1, va_up C n sg) (V i 0)).2) ((apN (n + 1, va_up C n sg) (V i 0)).1) 43) (V i 1)).1) 64) (V i 2)
                    dsimp only at ql_109
                    refine lv_iload hx hb dX5_addCue_112 (lv_at hl 0 rfl) ?_
                    refine lv_iconst (v := nI 2) hx hb dX5_addCue_114 (by decide) ?_
                    refine lv_icmp_ge (tgt := 130) hx hb dX5_addCue_115 (by decide) (fun c_115 => ?_) (fun c_115 => ?_)
                    · skip
                      have c_115 : 2 ≤ 2 := (nI_leI (a := 2) (b := 2) (by omega) (by omega)).mp c_115
                      refine lv_iinc (v := nI (3)) (lv' := [(7, .int (nI 3)), (0, .ref (b + k)), (1, .int (nI sg)), (2, .ref (b + kc)), (3, .int (nI i)), (4, .int (nI n)), (5, .int (nI (if n = 0 then 3 else 4))), (6, .int (nI (dl (V i 0) + dl (V i 1) + dl (V i 2))))]) hx hb dX5_addCue_130 hl (k := 0) rfl (nI_add _ 1) (by decide) rfl (fun ls hl => ?_)
                      refine lv_goto (tgt := 95) hx hb dX5_addCue_133 (by decide) ?_
                      refine lv_iload hx hb dX5_addCue_95 (lv_at hl 0 rfl) ?_
                      refine lv_iconst (v := nI 2) hx hb dX5_addCue_97 (by decide) ?_
                      refine lv_icmp_gt (tgt := 136) hx hb dX5_addCue_98 (by decide) (fun c_98 => ?_) (fun c_98 => ?_)
                      · skip
                        have c_98 : 2 < 3 := (nI_ltI (a := 2) (b := 3) (by omega) (by omega)).mp c_98
                        refine lv_iconst (v := nI 1) hx hb dX5_addCue_136 (by decide) ?_
                        exact q_wz hx hb hr hlocks hW hS dX5_addCue_137 (by rw [if_pos (by omega)]; rfl) (q_bn _) (by refine ⟨?_, by intro id h9 h8; rw [fr109_3 id (by omega) (by omega)]; rw [fr127_2 id (by omega) (by omega)]; rw [fr109_1 id (by omega) (by omega)]; rw [fr127 id (by omega) (by omega)]; rw [fr109 id (by omega) (by omega)]; rw [fr89 id (by omega) (by omega)]; try rfl⟩; rw [if_pos (by omega)]; unfold apC; first | (rw [if_pos (show (n, C).1 = 0 by first | assumption | (dsimp only; omega))]; exact hs) | (rw [if_neg (show ¬ (n, C).1 = 0 by first | assumption | (dsimp only; omega))]; exact hs)) (by decide) (by decide)
                      · skip
                        have c_98 : ¬ (2 < 3) := fun h__ => c_98 ((nI_ltI (a := 2) (b := 3) (by omega) (by omega)).mpr h__)
                        exact absurd c_98 (by omega)
                    · skip
                      have c_115 : ¬ (2 ≤ 2) := fun h__ => c_115 ((nI_leI (a := 2) (b := 2) (by omega) (by omega)).mpr h__)
                      exact absurd c_115 (by omega)
        · skip
          have c_78 : ¬ (n ≤ 0) := fun h__ => c_78 ((nI_le0 (i := n) (by omega)).mpr h__)
          have hs4 : (if n = 0 then 3 else 4) = 4 := if_neg (by omega)
          refine lv_aload_n hx hb dX5_addCue_81 rfl (lv_at hl 0 rfl) ?_
          refine lv_bipush (v := nI 59) hx hb dX5_addCue_82 (by decide) ?_
          refine q_W0 (va_runV (As := [.int (nI 59)]) (rest := []) ⟨hx, hb, hml, hown, hts⟩ (c_X5_add l hs (59) (by omega) (by omega)) (cwV 1 hts gX5_addCue_X5_add rfl rfl rfl (by decide +kernel) ⟨Nat.le_of_ble_eq_true rfl, Nat.le_of_ble_eq_true rfl⟩) (q_preV hG hW hS (hs).1 rfl) rfl rfl hl.1 rfl (lv_room (Nat.le_of_ble_eq_true rfl)) dX5_addCue_84 ⟨Nat.le_of_ble_eq_true rfl, Nat.le_of_ble_eq_true rfl⟩) hS (fun w_84 H locs hp84 hW hS => ?_)
          obtain ⟨hs, fr84⟩ := hp84
          replace hc : isCues dA b w_84 kc lim nc V := hc.fr (fr84 _ (by omega) (by omega)) (fr84 _ (by omega) (by omega))
          refine lv_aload_n hx hb dX5_addCue_87 rfl (lv_at hl 0 rfl) ?_
          refine lv_iload_n hx hb dX5_addCue_88 rfl (lv_at hl 1 rfl) ?_
          refine q_W0 (va_runV (As := [.int (nI sg)]) (rest := []) ⟨hx, hb, hml, hown, hts⟩ (c_X5_add l hs (sg) (by omega) (by omega)) (cwV 1 hts gX5_addCue_X5_add rfl rfl rfl (by decide +kernel) ⟨Nat.le_of_ble_eq_true rfl, Nat.le_of_ble_eq_true rfl⟩) (q_preV hG hW hS (hs).1 rfl) rfl rfl hl.1 rfl (lv_room (Nat.le_of_ble_eq_true rfl)) dX5_addCue_89 ⟨Nat.le_of_ble_eq_true rfl, Nat.le_of_ble_eq_true rfl⟩) hS (fun w_89 H locs hp89 hW hS => ?_)
          obtain ⟨hs, fr89⟩ := hp89
          replace hc : isCues dA b w_89 kc lim nc V := hc.fr (fr89 _ (by omega) (by omega)) (fr89 _ (by omega) (by omega))
          refine lv_iconst (v := nI 0) hx hb dX5_addCue_92 (by decide) ?_
          refine lv_istore (lv' := [(7, .int (nI 0)), (0, .ref (b + k)), (1, .int (nI sg)), (2, .ref (b + kc)), (3, .int (nI i)), (4, .int (nI n)), (5, .int (nI (if n = 0 then 3 else 4))), (6, .int (nI (dl (V i 0) + dl (V i 1) + dl (V i 2))))]) hx hb dX5_addCue_93 hl (by decide) rfl (fun ls hl => ?_)
          refine lv_iload hx hb dX5_addCue_95 (lv_at hl 0 rfl) ?_
          refine lv_iconst (v := nI 2) hx hb dX5_addCue_97 (by decide) ?_
          refine lv_icmp_gt (tgt := 136) hx hb dX5_addCue_98 (by decide) (fun c_98 => ?_) (fun c_98 => ?_)
          · skip
            have c_98 : 2 < 0 := (nI_ltI (a := 2) (b := 0) (by omega) (by omega)).mp c_98
            exact absurd c_98 (by omega)
          · skip
            have c_98 : ¬ (2 < 0) := fun h__ => c_98 ((nI_ltI (a := 2) (b := 0) (by omega) (by omega)).mpr h__)
            refine lv_aload_n hx hb dX5_addCue_101 rfl (lv_at hl 1 rfl) ?_
            refine lv_aload_n hx hb dX5_addCue_102 rfl (lv_at hl 3 rfl) ?_
            refine lv_iload_n hx hb dX5_addCue_103 rfl (lv_at hl 4 rfl) ?_
            refine lv_iload hx hb dX5_addCue_104 (lv_at hl 0 rfl) ?_
            refine q_R1 (va_runVN (As := [.int (nI i), .int (nI 0)]) (rest := [.ref (b + k)]) ⟨hx, hb, hml, hown, hts⟩ (c_X1_numberOf l hc (i) (0) (by omega) (by omega)) ⟨(va_cnB 2 hts gX5_addCue_X1_numberOf_n36 rfl rfl rfl (hG.nest 37 rfl) (hts (.initialized RX1) (List.mem_of_getElem? (i := 4) rfl)) (by decide +kernel) ⟨Nat.le_of_ble_eq_true rfl, Nat.le_of_ble_eq_true rfl⟩), (hts (.instanceMethod yX1_numberOf) (List.mem_of_getElem? (i := 3) rfl)), (hts (.selects RX1 yX1_numberOf yX1_numberOf) (List.mem_of_getElem? (i := 5) rfl))⟩ (q_preV hG hW hS (isCues.obj hc) rfl) rfl rfl hl.1 rfl (lv_room (Nat.le_of_ble_eq_true rfl)) dX5_addCue_106 ⟨Nat.le_of_ble_eq_true rfl, Nat.le_of_ble_eq_true rfl⟩) ?_
            have q_106 := hc.2.2.2.1 (i) (by omega)
            refine q_W0 (va_runV (As := [.int (nI (V i 0))]) (rest := []) ⟨hx, hb, hml, hown, hts⟩ (c_X5_addNumber l hs (V i 0) (by omega) (by omega)) (cwV 1 hts gX5_addCue_X5_addNumber rfl rfl rfl (by decide +kernel) ⟨Nat.le_of_ble_eq_true rfl, Nat.le_of_ble_eq_true rfl⟩) (q_preV hG hW hS (hs).1 rfl) rfl rfl hl.1 rfl (lv_room (Nat.le_of_ble_eq_true rfl)) dX5_addCue_109 ⟨Nat.le_of_ble_eq_true rfl, Nat.le_of_ble_eq_true rfl⟩) hS (fun w_109 H locs hp109 hW hS => ?_)
            obtain ⟨hs, fr109⟩ := hp109
            replace hc : isCues dA b w_109 kc lim nc V := hc.fr (fr109 _ (by omega) (by omega)) (fr109 _ (by omega) (by omega))
            have ql_109 := apN_len ((n + 1) + 1, va_up (va_up C n 59) (n + 1) sg) (V i 0)
            dsimp only at ql_109
            refine lv_iload hx hb dX5_addCue_112 (lv_at hl 0 rfl) ?_
            refine lv_iconst (v := nI 2) hx hb dX5_addCue_114 (by decide) ?_
            refine lv_icmp_ge (tgt := 130) hx hb dX5_addCue_115 (by decide) (fun c_115 => ?_) (fun c_115 => ?_)
            · skip
              have c_115 : 2 ≤ 0 := (nI_leI (a := 2) (b := 0) (by omega) (by omega)).mp c_115
              exact absurd c_115 (by omega)
            · skip
              have c_115 : ¬ (2 ≤ 0) := fun h__ => c_115 ((nI_leI (a := 2) (b := 0) (by omega) (by omega)).mpr h__)
              refine lv_aload_n hx hb dX5_addCue_118 rfl (lv_at hl 1 rfl) ?_
              refine va_getsN hx hb (hG.2.2.1 5 _ rfl).1 hS hown (va_Nw.use rfl (hG.nest 38 rfl)) (fun _ h => h) dX5_addCue_119 ?_
              refine lv_iload hx hb dX5_addCue_122 (lv_at hl 0 rfl) ?_
              refine q_R1 (va_runSN (As := [.ref (dA 15), .int (nI 0)]) (rest := [.ref (b + k)]) ⟨hx, hb, hml, hown, hts⟩ (c_entry_in l (RD.st 5 rfl) (by decide) (0) (by decide)) ⟨(va_cnB 2 hts gX5_addCue_X6_entry_n19 rfl rfl rfl (hG.nest 27 rfl) (hts (.initialized RX6) (List.mem_of_getElem? (i := 18) rfl)) (by decide +kernel) ⟨Nat.le_of_ble_eq_true rfl, Nat.le_of_ble_eq_true rfl⟩), (hts (.static yX6_entry) (List.mem_of_getElem? (i := 17) rfl)), trivial⟩ (q_preS hG hW hS) rfl rfl hl.1 rfl (lv_room (Nat.le_of_ble_eq_true rfl)) dX5_addCue_124 ⟨Nat.le_of_ble_eq_true rfl, Nat.le_of_ble_eq_true rfl⟩) ?_
              refine q_W0 (va_runV (As := [.int (nI 43)]) (rest := []) ⟨hx, hb, hml, hown, hts⟩ (c_X5_add l hs (43) (by omega) (by omega)) (cwV 1 hts gX5_addCue_X5_add rfl rfl rfl (by decide +kernel) ⟨Nat.le_of_ble_eq_true rfl, Nat.le_of_ble_eq_true rfl⟩) (q_preV hG hW hS (hs).1 rfl) rfl rfl hl.1 rfl (lv_room (Nat.le_of_ble_eq_true rfl)) dX5_addCue_127 ⟨Nat.le_of_ble_eq_true rfl, Nat.le_of_ble_eq_true rfl⟩) hS (fun w_127 H locs hp127 hW hS => ?_)
              obtain ⟨hs, fr127⟩ := hp127
              replace hc : isCues dA b w_127 kc lim nc V := hc.fr (fr127 _ (by omega) (by omega)) (fr127 _ (by omega) (by omega))
              refine lv_iinc (v := nI (1)) (lv' := [(7, .int (nI 1)), (0, .ref (b + k)), (1, .int (nI sg)), (2, .ref (b + kc)), (3, .int (nI i)), (4, .int (nI n)), (5, .int (nI (if n = 0 then 3 else 4))), (6, .int (nI (dl (V i 0) + dl (V i 1) + dl (V i 2))))]) hx hb dX5_addCue_130 hl (k := 0) rfl (nI_add _ 1) (by decide) rfl (fun ls hl => ?_)
              refine lv_goto (tgt := 95) hx hb dX5_addCue_133 (by decide) ?_
              refine lv_iload hx hb dX5_addCue_95 (lv_at hl 0 rfl) ?_
              refine lv_iconst (v := nI 2) hx hb dX5_addCue_97 (by decide) ?_
              refine lv_icmp_gt (tgt := 136) hx hb dX5_addCue_98 (by decide) (fun c_98 => ?_) (fun c_98 => ?_)
              · skip
                have c_98 : 2 < 1 := (nI_ltI (a := 2) (b := 1) (by omega) (by omega)).mp c_98
                exact absurd c_98 (by omega)
              · skip
                have c_98 : ¬ (2 < 1) := fun h__ => c_98 ((nI_ltI (a := 2) (b := 1) (by omega) (by omega)).mpr h__)
                refine lv_aload_n hx hb dX5_addCue_101 rfl (lv_at hl 1 rfl) ?_
                refine lv_aload_n hx hb dX5_addCue_102 rfl (lv_at hl 3 rfl) ?_
                refine lv_iload_n hx hb dX5_addCue_103 rfl (lv_at hl 4 rfl) ?_
                refine lv_iload hx hb dX5_addCue_104 (lv_at hl 0 rfl) ?_
                refine q_R1 (va_runVN (As := [.int (nI i), .int (nI 1)]) (rest := [.ref (b + k)]) ⟨hx, hb, hml, hown, hts⟩ (c_X1_numberOf l hc (i) (1) (by omega) (by omega)) ⟨(va_cnB 2 hts gX5_addCue_X1_numberOf_n36 rfl rfl rfl (hG.nest 37 rfl) (hts (.initialized RX1) (List.mem_of_getElem? (i := 4) rfl)) (by decide +kernel) ⟨Nat.le_of_ble_eq_true rfl, Nat.le_of_ble_eq_true rfl⟩), (hts (.instanceMethod yX1_numberOf) (List.mem_of_getElem? (i := 3) rfl)), (hts (.selects RX1 yX1_numberOf yX1_numberOf) (List.mem_of_getElem? (i := 5) rfl))⟩ (q_preV hG hW hS (isCues.obj hc) rfl) rfl rfl hl.1 rfl (lv_room (Nat.le_of_ble_eq_true rfl)) dX5_addCue_106 ⟨Nat.le_of_ble_eq_true rfl, Nat.le_of_ble_eq_true rfl⟩) ?_
                have q_106 := hc.2.2.2.1 (i) (by omega)
                refine q_W0 (va_runV (As := [.int (nI (V i 1))]) (rest := []) ⟨hx, hb, hml, hown, hts⟩ (c_X5_addNumber l hs (V i 1) (by omega) (by omega)) (cwV 1 hts gX5_addCue_X5_addNumber rfl rfl rfl (by decide +kernel) ⟨Nat.le_of_ble_eq_true rfl, Nat.le_of_ble_eq_true rfl⟩) (q_preV hG hW hS (hs).1 rfl) rfl rfl hl.1 rfl (lv_room (Nat.le_of_ble_eq_true rfl)) dX5_addCue_109 ⟨Nat.le_of_ble_eq_true rfl, Nat.le_of_ble_eq_true rfl⟩) hS (fun w_109 H locs hp109 hW hS => ?_)
                obtain ⟨hs, fr109_4⟩ := hp109
                replace hc : isCues dA b w_109 kc lim nc V := hc.fr (fr109_4 _ (by omega) (by omega)) (fr109_4 _ (by omega) (by omega))
                have ql_109 := apN_len (((apN ((n + 1) + 1, va_up (va_up C n 59) (n + 1) sg) (V i 0)).1) + 1, va_up ((apN ((n + 1) + 1, va_up (va_up C n 59) (n + 1) sg) (V i 0)).2) ((apN ((n + 1) + 1, va_up (va_up C n 59) (n + 1) sg) (V i 0)).1) 43) (V i 1)
                dsimp only at ql_109
                refine lv_iload hx hb dX5_addCue_112 (lv_at hl 0 rfl) ?_
                refine lv_iconst (v := nI 2) hx hb dX5_addCue_114 (by decide) ?_
                refine lv_icmp_ge (tgt := 130) hx hb dX5_addCue_115 (by decide) (fun c_115 => ?_) (fun c_115 => ?_)
                · skip
                  have c_115 : 2 ≤ 1 := (nI_leI (a := 2) (b := 1) (by omega) (by omega)).mp c_115
                  exact absurd c_115 (by omega)
                · skip
                  have c_115 : ¬ (2 ≤ 1) := fun h__ => c_115 ((nI_leI (a := 2) (b := 1) (by omega) (by omega)).mpr h__)
                  refine lv_aload_n hx hb dX5_addCue_118 rfl (lv_at hl 1 rfl) ?_
                  refine va_getsN hx hb (hG.2.2.1 5 _ rfl).1 hS hown (va_Nw.use rfl (hG.nest 38 rfl)) (fun _ h => h) dX5_addCue_119 ?_
                  refine lv_iload hx hb dX5_addCue_122 (lv_at hl 0 rfl) ?_
                  refine q_R1 (va_runSN (As := [.ref (dA 15), .int (nI 1)]) (rest := [.ref (b + k)]) ⟨hx, hb, hml, hown, hts⟩ (c_entry_in l (RD.st 5 rfl) (by decide) (1) (by decide)) ⟨(va_cnB 2 hts gX5_addCue_X6_entry_n19 rfl rfl rfl (hG.nest 27 rfl) (hts (.initialized RX6) (List.mem_of_getElem? (i := 18) rfl)) (by decide +kernel) ⟨Nat.le_of_ble_eq_true rfl, Nat.le_of_ble_eq_true rfl⟩), (hts (.static yX6_entry) (List.mem_of_getElem? (i := 17) rfl)), trivial⟩ (q_preS hG hW hS) rfl rfl hl.1 rfl (lv_room (Nat.le_of_ble_eq_true rfl)) dX5_addCue_124 ⟨Nat.le_of_ble_eq_true rfl, Nat.le_of_ble_eq_true rfl⟩) ?_
                  refine q_W0 (va_runV (As := [.int (nI 64)]) (rest := []) ⟨hx, hb, hml, hown, hts⟩ (c_X5_add l hs (64) (by omega) (by omega)) (cwV 1 hts gX5_addCue_X5_add rfl rfl rfl (by decide +kernel) ⟨Nat.le_of_ble_eq_true rfl, Nat.le_of_ble_eq_true rfl⟩) (q_preV hG hW hS (hs).1 rfl) rfl rfl hl.1 rfl (lv_room (Nat.le_of_ble_eq_true rfl)) dX5_addCue_127 ⟨Nat.le_of_ble_eq_true rfl, Nat.le_of_ble_eq_true rfl⟩) hS (fun w_127 H locs hp127 hW hS => ?_)
                  obtain ⟨hs, fr127_5⟩ := hp127
                  replace hc : isCues dA b w_127 kc lim nc V := hc.fr (fr127_5 _ (by omega) (by omega)) (fr127_5 _ (by omega) (by omega))
                  refine lv_iinc (v := nI (2)) (lv' := [(7, .int (nI 2)), (0, .ref (b + k)), (1, .int (nI sg)), (2, .ref (b + kc)), (3, .int (nI i)), (4, .int (nI n)), (5, .int (nI (if n = 0 then 3 else 4))), (6, .int (nI (dl (V i 0) + dl (V i 1) + dl (V i 2))))]) hx hb dX5_addCue_130 hl (k := 0) rfl (nI_add _ 1) (by decide) rfl (fun ls hl => ?_)
                  refine lv_goto (tgt := 95) hx hb dX5_addCue_133 (by decide) ?_
                  refine lv_iload hx hb dX5_addCue_95 (lv_at hl 0 rfl) ?_
                  refine lv_iconst (v := nI 2) hx hb dX5_addCue_97 (by decide) ?_
                  refine lv_icmp_gt (tgt := 136) hx hb dX5_addCue_98 (by decide) (fun c_98 => ?_) (fun c_98 => ?_)
                  · skip
                    have c_98 : 2 < 2 := (nI_ltI (a := 2) (b := 2) (by omega) (by omega)).mp c_98
                    exact absurd c_98 (by omega)
                  · skip
                    have c_98 : ¬ (2 < 2) := fun h__ => c_98 ((nI_ltI (a := 2) (b := 2) (by omega) (by omega)).mpr h__)
                    refine lv_aload_n hx hb dX5_addCue_101 rfl (lv_at hl 1 rfl) ?_
                    refine lv_aload_n hx hb dX5_addCue_102 rfl (lv_at hl 3 rfl) ?_
                    refine lv_iload_n hx hb dX5_addCue_103 rfl (lv_at hl 4 rfl) ?_
                    refine lv_iload hx hb dX5_addCue_104 (lv_at hl 0 rfl) ?_
                    refine q_R1 (va_runVN (As := [.int (nI i), .int (nI 2)]) (rest := [.ref (b + k)]) ⟨hx, hb, hml, hown, hts⟩ (c_X1_numberOf l hc (i) (2) (by omega) (by omega)) ⟨(va_cnB 2 hts gX5_addCue_X1_numberOf_n36 rfl rfl rfl (hG.nest 37 rfl) (hts (.initialized RX1) (List.mem_of_getElem? (i := 4) rfl)) (by decide +kernel) ⟨Nat.le_of_ble_eq_true rfl, Nat.le_of_ble_eq_true rfl⟩), (hts (.instanceMethod yX1_numberOf) (List.mem_of_getElem? (i := 3) rfl)), (hts (.selects RX1 yX1_numberOf yX1_numberOf) (List.mem_of_getElem? (i := 5) rfl))⟩ (q_preV hG hW hS (isCues.obj hc) rfl) rfl rfl hl.1 rfl (lv_room (Nat.le_of_ble_eq_true rfl)) dX5_addCue_106 ⟨Nat.le_of_ble_eq_true rfl, Nat.le_of_ble_eq_true rfl⟩) ?_
                    have q_106 := hc.2.2.2.1 (i) (by omega)
                    refine q_W0 (va_runV (As := [.int (nI (V i 2))]) (rest := []) ⟨hx, hb, hml, hown, hts⟩ (c_X5_addNumber l hs (V i 2) (by omega) (by omega)) (cwV 1 hts gX5_addCue_X5_addNumber rfl rfl rfl (by decide +kernel) ⟨Nat.le_of_ble_eq_true rfl, Nat.le_of_ble_eq_true rfl⟩) (q_preV hG hW hS (hs).1 rfl) rfl rfl hl.1 rfl (lv_room (Nat.le_of_ble_eq_true rfl)) dX5_addCue_109 ⟨Nat.le_of_ble_eq_true rfl, Nat.le_of_ble_eq_true rfl⟩) hS (fun w_109 H locs hp109 hW hS => ?_)
                    obtain ⟨hs, fr109_6⟩ := hp109
                    replace hc : isCues dA b w_109 kc lim nc V := hc.fr (fr109_6 _ (by omega) (by omega)) (fr109_6 _ (by omega) (by omega))
                    have ql_109 := apN_len (((apN (((apN ((n + 1) + 1, va_up (va_up C n 59) (n + 1) sg) (V i 0)).1) + 1, va_up ((apN ((n + 1) + 1, va_up (va_up C n 59) (n + 1) sg) (V i 0)).2) ((apN ((n + 1) + 1, va_up (va_up C n 59) (n + 1) sg) (V i 0)).1) 43) (V i 1)).1) + 1, va_up ((apN (((apN ((n + 1) + 1, va_up (va_up C n 59) (n + 1) sg) (V i 0)).1) + 1, va_up ((apN ((n + 1) + 1, va_up (va_up C n 59) (n + 1) sg) (V i 0)).2) ((apN ((n + 1) + 1, va_up (va_up C n 59) (n + 1) sg) (V i 0)).1) 43) (V i 1)).2) ((apN (((apN ((n + 1) + 1, va_up (va_up C n 59) (n + 1) sg) (V i 0)).1) + 1, va_up ((apN ((n + 1) + 1, va_up (va_up C n 59) (n + 1) sg) (V i 0)).2) ((apN ((n + 1) + 1, va_up (va_up C n 59) (n + 1) sg) (V i 0)).1) 43) (V i 1)).1) 64) (V i 2)
                    dsimp only at ql_109
                    refine lv_iload hx hb dX5_addCue_112 (lv_at hl 0 rfl) ?_
                    refine lv_iconst (v := nI 2) hx hb dX5_addCue_114 (by decide) ?_
                    refine lv_icmp_ge (tgt := 130) hx hb dX5_addCue_115 (by decide) (fun c_115 => ?_) (fun c_115 => ?_)
                    · skip
                      have c_115 : 2 ≤ 2 := (nI_leI (a := 2) (b := 2) (by omega) (by omega)).mp c_115
                      refine lv_iinc (v := nI (3)) (lv' := [(7, .int (nI 3)), (0, .ref (b + k)), (1, .int (nI sg)), (2, .ref (b + kc)), (3, .int (nI i)), (4, .int (nI n)), (5, .int (nI (if n = 0 then 3 else 4))), (6, .int (nI (dl (V i 0) + dl (V i 1) + dl (V i 2))))]) hx hb dX5_addCue_130 hl (k := 0) rfl (nI_add _ 1) (by decide) rfl (fun ls hl => ?_)
                      refine lv_goto (tgt := 95) hx hb dX5_addCue_133 (by decide) ?_
                      refine lv_iload hx hb dX5_addCue_95 (lv_at hl 0 rfl) ?_
                      refine lv_iconst (v := nI 2) hx hb dX5_addCue_97 (by decide) ?_
                      refine lv_icmp_gt (tgt := 136) hx hb dX5_addCue_98 (by decide) (fun c_98 => ?_) (fun c_98 => ?_)
                      · skip
                        have c_98 : 2 < 3 := (nI_ltI (a := 2) (b := 3) (by omega) (by omega)).mp c_98
                        refine lv_iconst (v := nI 1) hx hb dX5_addCue_136 (by decide) ?_
                        exact q_wz hx hb hr hlocks hW hS dX5_addCue_137 (by rw [if_pos (by omega)]; rfl) (q_bn _) (by refine ⟨?_, by intro id h9 h8; rw [fr109_6 id (by omega) (by omega)]; rw [fr127_5 id (by omega) (by omega)]; rw [fr109_4 id (by omega) (by omega)]; rw [fr127 id (by omega) (by omega)]; rw [fr109 id (by omega) (by omega)]; rw [fr89 id (by omega) (by omega)]; rw [fr84 id (by omega) (by omega)]; try rfl⟩; rw [if_pos (by omega)]; unfold apC; first | (rw [if_pos (show (n, C).1 = 0 by first | assumption | (dsimp only; omega))]; exact hs) | (rw [if_neg (show ¬ (n, C).1 = 0 by first | assumption | (dsimp only; omega))]; exact hs)) (by decide) (by decide)
                      · skip
                        have c_98 : ¬ (2 < 3) := fun h__ => c_98 ((nI_ltI (a := 2) (b := 3) (by omega) (by omega)).mpr h__)
                        exact absurd c_98 (by omega)
                    · skip
                      have c_115 : ¬ (2 ≤ 2) := fun h__ => c_115 ((nI_leI (a := 2) (b := 2) (by omega) (by omega)).mpr h__)
                      exact absurd c_115 (by omega)
      · skip
        have c_71 : ¬ ((n + (if n = 0 then 3 else 4)) + (dl (V i 0) + dl (V i 1) + dl (V i 2)) ≤ 80) := fun h__ => c_71 ((nI_leI (a := (n + (if n = 0 then 3 else 4)) + (dl (V i 0) + dl (V i 1) + dl (V i 2))) (b := 80) (by omega) (by omega)).mpr h__)
        refine lv_iconst (v := nI 0) hx hb dX5_addCue_74 (by decide) ?_
        exact q_wz hx hb hr hlocks hW hS dX5_addCue_75 (by rw [if_neg (by omega)]; rfl) (q_bn _) (by rw [if_neg (by omega)]; exact ⟨hs, fun _ _ _ => rfl⟩) (by decide) (by decide)
    refine lv_iconst (v := nI 0) hx hb dX5_addCue_18 (by decide) ?_
    refine lv_istore (lv' := [(6, .int (nI 0)), (5, .int (nI (if n = 0 then 3 else 4))), (0, .ref (b + k)), (1, .int (nI sg)), (2, .ref (b + kc)), (3, .int (nI i)), (4, .int (nI n))]) hx hb dX5_addCue_19 hl (by decide) rfl (fun ls hl => ?_)
    refine lv_iconst (v := nI 0) hx hb dX5_addCue_21 (by decide) ?_
    refine lv_istore (lv' := [(7, .int (nI 0)), (6, .int (nI 0)), (5, .int (nI (if n = 0 then 3 else 4))), (0, .ref (b + k)), (1, .int (nI sg)), (2, .ref (b + kc)), (3, .int (nI i)), (4, .int (nI n))]) hx hb dX5_addCue_22 hl (by decide) rfl (fun ls hl => ?_)
    refine lv_iload hx hb dX5_addCue_24 (lv_at hl 0 rfl) ?_
    refine lv_iconst (v := nI 2) hx hb dX5_addCue_26 (by decide) ?_
    refine lv_icmp_gt (tgt := 58) hx hb dX5_addCue_27 (by decide) (fun c_27 => ?_) (fun c_27 => ?_)
    · skip
      have c_27 : 2 < 0 := (nI_ltI (a := 2) (b := 0) (by omega) (by omega)).mp c_27
      exact absurd c_27 (by omega)
    · skip
      have c_27 : ¬ (2 < 0) := fun h__ => c_27 ((nI_ltI (a := 2) (b := 0) (by omega) (by omega)).mpr h__)
      refine lv_iload hx hb dX5_addCue_30 (lv_at hl 1 rfl) ?_
      refine lv_aload_n hx hb dX5_addCue_32 rfl (lv_at hl 5 rfl) ?_
      refine lv_iload_n hx hb dX5_addCue_33 rfl (lv_at hl 6 rfl) ?_
      refine lv_iload hx hb dX5_addCue_34 (lv_at hl 0 rfl) ?_
      refine q_R1 (va_runVN (As := [.int (nI i), .int (nI 0)]) (rest := [.int (nI 0)]) ⟨hx, hb, hml, hown, hts⟩ (c_X1_numberOf l hc (i) (0) (by omega) (by omega)) ⟨(va_cnB 2 hts gX5_addCue_X1_numberOf_n36 rfl rfl rfl (hG.nest 37 rfl) (hts (.initialized RX1) (List.mem_of_getElem? (i := 4) rfl)) (by decide +kernel) ⟨Nat.le_of_ble_eq_true rfl, Nat.le_of_ble_eq_true rfl⟩), (hts (.instanceMethod yX1_numberOf) (List.mem_of_getElem? (i := 3) rfl)), (hts (.selects RX1 yX1_numberOf yX1_numberOf) (List.mem_of_getElem? (i := 5) rfl))⟩ (q_preV hG hW hS (isCues.obj hc) rfl) rfl rfl hl.1 rfl (lv_room (Nat.le_of_ble_eq_true rfl)) dX5_addCue_36 ⟨Nat.le_of_ble_eq_true rfl, Nat.le_of_ble_eq_true rfl⟩) ?_
      have q_36 := hc.2.2.2.1 (i) (by omega)
      refine lv_bipush (v := nI 10) hx hb dX5_addCue_39 (by decide) ?_
      refine lv_icmp_lt (tgt := 48) hx hb dX5_addCue_41 (by decide) (fun c_41 => ?_) (fun c_41 => ?_)
      · skip
        have c_41 : V i 0 < 10 := (nI_ltI (a := V i 0) (b := 10) (by omega) (by omega)).mp c_41
        refine lv_iconst (v := nI 1) hx hb dX5_addCue_48 (by decide) ?_
        refine q_top (y := nI (dl (V i 0))) (by unfold dl; first | (rw [if_pos (by omega)]; done) | (rw [if_neg (by omega)]; done)) ?_
        refine lv_iadd hx hb dX5_addCue_49 ?_
        refine q_top (y := nI (0 + (dl (V i 0)))) (nI_add _ _) ?_
        refine lv_istore (lv' := [(6, .int (nI (0 + (dl (V i 0))))), (7, .int (nI 0)), (5, .int (nI (if n = 0 then 3 else 4))), (0, .ref (b + k)), (1, .int (nI sg)), (2, .ref (b + kc)), (3, .int (nI i)), (4, .int (nI n))]) hx hb dX5_addCue_50 hl (by decide) rfl (fun ls hl => ?_)
        refine lv_iinc (v := nI (1)) (lv' := [(7, .int (nI 1)), (6, .int (nI (0 + (dl (V i 0))))), (5, .int (nI (if n = 0 then 3 else 4))), (0, .ref (b + k)), (1, .int (nI sg)), (2, .ref (b + kc)), (3, .int (nI i)), (4, .int (nI n))]) hx hb dX5_addCue_52 hl (k := 1) rfl (nI_add _ 1) (by decide) rfl (fun ls hl => ?_)
        refine lv_goto (tgt := 24) hx hb dX5_addCue_55 (by decide) ?_
        refine lv_iload hx hb dX5_addCue_24 (lv_at hl 0 rfl) ?_
        refine lv_iconst (v := nI 2) hx hb dX5_addCue_26 (by decide) ?_
        refine lv_icmp_gt (tgt := 58) hx hb dX5_addCue_27 (by decide) (fun c_27 => ?_) (fun c_27 => ?_)
        · skip
          have c_27 : 2 < 1 := (nI_ltI (a := 2) (b := 1) (by omega) (by omega)).mp c_27
          exact absurd c_27 (by omega)
        · skip
          have c_27 : ¬ (2 < 1) := fun h__ => c_27 ((nI_ltI (a := 2) (b := 1) (by omega) (by omega)).mpr h__)
          refine lv_iload hx hb dX5_addCue_30 (lv_at hl 1 rfl) ?_
          refine lv_aload_n hx hb dX5_addCue_32 rfl (lv_at hl 5 rfl) ?_
          refine lv_iload_n hx hb dX5_addCue_33 rfl (lv_at hl 6 rfl) ?_
          refine lv_iload hx hb dX5_addCue_34 (lv_at hl 0 rfl) ?_
          refine q_R1 (va_runVN (As := [.int (nI i), .int (nI 1)]) (rest := [.int (nI (0 + (dl (V i 0))))]) ⟨hx, hb, hml, hown, hts⟩ (c_X1_numberOf l hc (i) (1) (by omega) (by omega)) ⟨(va_cnB 2 hts gX5_addCue_X1_numberOf_n36 rfl rfl rfl (hG.nest 37 rfl) (hts (.initialized RX1) (List.mem_of_getElem? (i := 4) rfl)) (by decide +kernel) ⟨Nat.le_of_ble_eq_true rfl, Nat.le_of_ble_eq_true rfl⟩), (hts (.instanceMethod yX1_numberOf) (List.mem_of_getElem? (i := 3) rfl)), (hts (.selects RX1 yX1_numberOf yX1_numberOf) (List.mem_of_getElem? (i := 5) rfl))⟩ (q_preV hG hW hS (isCues.obj hc) rfl) rfl rfl hl.1 rfl (lv_room (Nat.le_of_ble_eq_true rfl)) dX5_addCue_36 ⟨Nat.le_of_ble_eq_true rfl, Nat.le_of_ble_eq_true rfl⟩) ?_
          have q_36 := hc.2.2.2.1 (i) (by omega)
          refine lv_bipush (v := nI 10) hx hb dX5_addCue_39 (by decide) ?_
          refine lv_icmp_lt (tgt := 48) hx hb dX5_addCue_41 (by decide) (fun c_41 => ?_) (fun c_41 => ?_)
          · skip
            have c_41 : V i 1 < 10 := (nI_ltI (a := V i 1) (b := 10) (by omega) (by omega)).mp c_41
            refine lv_iconst (v := nI 1) hx hb dX5_addCue_48 (by decide) ?_
            refine q_top (y := nI (dl (V i 1))) (by unfold dl; first | (rw [if_pos (by omega)]; done) | (rw [if_neg (by omega)]; done)) ?_
            refine lv_iadd hx hb dX5_addCue_49 ?_
            refine q_top (y := nI ((0 + (dl (V i 0))) + (dl (V i 1)))) (nI_add _ _) ?_
            refine lv_istore (lv' := [(6, .int (nI ((0 + (dl (V i 0))) + (dl (V i 1))))), (7, .int (nI 1)), (5, .int (nI (if n = 0 then 3 else 4))), (0, .ref (b + k)), (1, .int (nI sg)), (2, .ref (b + kc)), (3, .int (nI i)), (4, .int (nI n))]) hx hb dX5_addCue_50 hl (by decide) rfl (fun ls hl => ?_)
            refine lv_iinc (v := nI (2)) (lv' := [(7, .int (nI 2)), (6, .int (nI ((0 + (dl (V i 0))) + (dl (V i 1))))), (5, .int (nI (if n = 0 then 3 else 4))), (0, .ref (b + k)), (1, .int (nI sg)), (2, .ref (b + kc)), (3, .int (nI i)), (4, .int (nI n))]) hx hb dX5_addCue_52 hl (k := 1) rfl (nI_add _ 1) (by decide) rfl (fun ls hl => ?_)
            refine lv_goto (tgt := 24) hx hb dX5_addCue_55 (by decide) ?_
            refine lv_iload hx hb dX5_addCue_24 (lv_at hl 0 rfl) ?_
            refine lv_iconst (v := nI 2) hx hb dX5_addCue_26 (by decide) ?_
            refine lv_icmp_gt (tgt := 58) hx hb dX5_addCue_27 (by decide) (fun c_27 => ?_) (fun c_27 => ?_)
            · skip
              have c_27 : 2 < 2 := (nI_ltI (a := 2) (b := 2) (by omega) (by omega)).mp c_27
              exact absurd c_27 (by omega)
            · skip
              have c_27 : ¬ (2 < 2) := fun h__ => c_27 ((nI_ltI (a := 2) (b := 2) (by omega) (by omega)).mpr h__)
              refine lv_iload hx hb dX5_addCue_30 (lv_at hl 1 rfl) ?_
              refine lv_aload_n hx hb dX5_addCue_32 rfl (lv_at hl 5 rfl) ?_
              refine lv_iload_n hx hb dX5_addCue_33 rfl (lv_at hl 6 rfl) ?_
              refine lv_iload hx hb dX5_addCue_34 (lv_at hl 0 rfl) ?_
              refine q_R1 (va_runVN (As := [.int (nI i), .int (nI 2)]) (rest := [.int (nI ((0 + (dl (V i 0))) + (dl (V i 1))))]) ⟨hx, hb, hml, hown, hts⟩ (c_X1_numberOf l hc (i) (2) (by omega) (by omega)) ⟨(va_cnB 2 hts gX5_addCue_X1_numberOf_n36 rfl rfl rfl (hG.nest 37 rfl) (hts (.initialized RX1) (List.mem_of_getElem? (i := 4) rfl)) (by decide +kernel) ⟨Nat.le_of_ble_eq_true rfl, Nat.le_of_ble_eq_true rfl⟩), (hts (.instanceMethod yX1_numberOf) (List.mem_of_getElem? (i := 3) rfl)), (hts (.selects RX1 yX1_numberOf yX1_numberOf) (List.mem_of_getElem? (i := 5) rfl))⟩ (q_preV hG hW hS (isCues.obj hc) rfl) rfl rfl hl.1 rfl (lv_room (Nat.le_of_ble_eq_true rfl)) dX5_addCue_36 ⟨Nat.le_of_ble_eq_true rfl, Nat.le_of_ble_eq_true rfl⟩) ?_
              have q_36 := hc.2.2.2.1 (i) (by omega)
              refine lv_bipush (v := nI 10) hx hb dX5_addCue_39 (by decide) ?_
              refine lv_icmp_lt (tgt := 48) hx hb dX5_addCue_41 (by decide) (fun c_41 => ?_) (fun c_41 => ?_)
              · skip
                have c_41 : V i 2 < 10 := (nI_ltI (a := V i 2) (b := 10) (by omega) (by omega)).mp c_41
                refine lv_iconst (v := nI 1) hx hb dX5_addCue_48 (by decide) ?_
                refine q_top (y := nI (dl (V i 2))) (by unfold dl; first | (rw [if_pos (by omega)]; done) | (rw [if_neg (by omega)]; done)) ?_
                refine lv_iadd hx hb dX5_addCue_49 ?_
                refine q_top (y := nI (((0 + (dl (V i 0))) + (dl (V i 1))) + (dl (V i 2)))) (nI_add _ _) ?_
                refine lv_istore (lv' := [(6, .int (nI (((0 + (dl (V i 0))) + (dl (V i 1))) + (dl (V i 2))))), (7, .int (nI 2)), (5, .int (nI (if n = 0 then 3 else 4))), (0, .ref (b + k)), (1, .int (nI sg)), (2, .ref (b + kc)), (3, .int (nI i)), (4, .int (nI n))]) hx hb dX5_addCue_50 hl (by decide) rfl (fun ls hl => ?_)
                refine lv_iinc (v := nI (3)) (lv' := [(7, .int (nI 3)), (6, .int (nI (((0 + (dl (V i 0))) + (dl (V i 1))) + (dl (V i 2))))), (5, .int (nI (if n = 0 then 3 else 4))), (0, .ref (b + k)), (1, .int (nI sg)), (2, .ref (b + kc)), (3, .int (nI i)), (4, .int (nI n))]) hx hb dX5_addCue_52 hl (k := 1) rfl (nI_add _ 1) (by decide) rfl (fun ls hl => ?_)
                refine lv_goto (tgt := 24) hx hb dX5_addCue_55 (by decide) ?_
                refine lv_iload hx hb dX5_addCue_24 (lv_at hl 0 rfl) ?_
                refine lv_iconst (v := nI 2) hx hb dX5_addCue_26 (by decide) ?_
                refine lv_icmp_gt (tgt := 58) hx hb dX5_addCue_27 (by decide) (fun c_27 => ?_) (fun c_27 => ?_)
                · skip
                  have c_27 : 2 < 3 := (nI_ltI (a := 2) (b := 3) (by omega) (by omega)).mp c_27
                  exact L58  _ (by first | rfl | (congr 1; omega)) _ (lv_sub hl [3, 4, 5, 6, 7, 2, 1] rfl)
                · skip
                  have c_27 : ¬ (2 < 3) := fun h__ => c_27 ((nI_ltI (a := 2) (b := 3) (by omega) (by omega)).mpr h__)
                  exact absurd c_27 (by omega)
              · skip
                have c_41 : ¬ (V i 2 < 10) := fun h__ => c_41 ((nI_ltI (a := V i 2) (b := 10) (by omega) (by omega)).mpr h__)
                refine lv_iconst (v := nI 2) hx hb dX5_addCue_44 (by decide) ?_
                refine lv_goto (tgt := 49) hx hb dX5_addCue_45 (by decide) ?_
                refine q_top (y := nI (dl (V i 2))) (by unfold dl; first | (rw [if_pos (by omega)]; done) | (rw [if_neg (by omega)]; done)) ?_
                refine lv_iadd hx hb dX5_addCue_49 ?_
                refine q_top (y := nI (((0 + (dl (V i 0))) + (dl (V i 1))) + (dl (V i 2)))) (nI_add _ _) ?_
                refine lv_istore (lv' := [(6, .int (nI (((0 + (dl (V i 0))) + (dl (V i 1))) + (dl (V i 2))))), (7, .int (nI 2)), (5, .int (nI (if n = 0 then 3 else 4))), (0, .ref (b + k)), (1, .int (nI sg)), (2, .ref (b + kc)), (3, .int (nI i)), (4, .int (nI n))]) hx hb dX5_addCue_50 hl (by decide) rfl (fun ls hl => ?_)
                refine lv_iinc (v := nI (3)) (lv' := [(7, .int (nI 3)), (6, .int (nI (((0 + (dl (V i 0))) + (dl (V i 1))) + (dl (V i 2))))), (5, .int (nI (if n = 0 then 3 else 4))), (0, .ref (b + k)), (1, .int (nI sg)), (2, .ref (b + kc)), (3, .int (nI i)), (4, .int (nI n))]) hx hb dX5_addCue_52 hl (k := 1) rfl (nI_add _ 1) (by decide) rfl (fun ls hl => ?_)
                refine lv_goto (tgt := 24) hx hb dX5_addCue_55 (by decide) ?_
                refine lv_iload hx hb dX5_addCue_24 (lv_at hl 0 rfl) ?_
                refine lv_iconst (v := nI 2) hx hb dX5_addCue_26 (by decide) ?_
                refine lv_icmp_gt (tgt := 58) hx hb dX5_addCue_27 (by decide) (fun c_27 => ?_) (fun c_27 => ?_)
                · skip
                  have c_27 : 2 < 3 := (nI_ltI (a := 2) (b := 3) (by omega) (by omega)).mp c_27
                  exact L58  _ (by first | rfl | (congr 1; omega)) _ (lv_sub hl [3, 4, 5, 6, 7, 2, 1] rfl)
                · skip
                  have c_27 : ¬ (2 < 3) := fun h__ => c_27 ((nI_ltI (a := 2) (b := 3) (by omega) (by omega)).mpr h__)
                  exact absurd c_27 (by omega)
          · skip
            have c_41 : ¬ (V i 1 < 10) := fun h__ => c_41 ((nI_ltI (a := V i 1) (b := 10) (by omega) (by omega)).mpr h__)
            refine lv_iconst (v := nI 2) hx hb dX5_addCue_44 (by decide) ?_
            refine lv_goto (tgt := 49) hx hb dX5_addCue_45 (by decide) ?_
            refine q_top (y := nI (dl (V i 1))) (by unfold dl; first | (rw [if_pos (by omega)]; done) | (rw [if_neg (by omega)]; done)) ?_
            refine lv_iadd hx hb dX5_addCue_49 ?_
            refine q_top (y := nI ((0 + (dl (V i 0))) + (dl (V i 1)))) (nI_add _ _) ?_
            refine lv_istore (lv' := [(6, .int (nI ((0 + (dl (V i 0))) + (dl (V i 1))))), (7, .int (nI 1)), (5, .int (nI (if n = 0 then 3 else 4))), (0, .ref (b + k)), (1, .int (nI sg)), (2, .ref (b + kc)), (3, .int (nI i)), (4, .int (nI n))]) hx hb dX5_addCue_50 hl (by decide) rfl (fun ls hl => ?_)
            refine lv_iinc (v := nI (2)) (lv' := [(7, .int (nI 2)), (6, .int (nI ((0 + (dl (V i 0))) + (dl (V i 1))))), (5, .int (nI (if n = 0 then 3 else 4))), (0, .ref (b + k)), (1, .int (nI sg)), (2, .ref (b + kc)), (3, .int (nI i)), (4, .int (nI n))]) hx hb dX5_addCue_52 hl (k := 1) rfl (nI_add _ 1) (by decide) rfl (fun ls hl => ?_)
            refine lv_goto (tgt := 24) hx hb dX5_addCue_55 (by decide) ?_
            refine lv_iload hx hb dX5_addCue_24 (lv_at hl 0 rfl) ?_
            refine lv_iconst (v := nI 2) hx hb dX5_addCue_26 (by decide) ?_
            refine lv_icmp_gt (tgt := 58) hx hb dX5_addCue_27 (by decide) (fun c_27 => ?_) (fun c_27 => ?_)
            · skip
              have c_27 : 2 < 2 := (nI_ltI (a := 2) (b := 2) (by omega) (by omega)).mp c_27
              exact absurd c_27 (by omega)
            · skip
              have c_27 : ¬ (2 < 2) := fun h__ => c_27 ((nI_ltI (a := 2) (b := 2) (by omega) (by omega)).mpr h__)
              refine lv_iload hx hb dX5_addCue_30 (lv_at hl 1 rfl) ?_
              refine lv_aload_n hx hb dX5_addCue_32 rfl (lv_at hl 5 rfl) ?_
              refine lv_iload_n hx hb dX5_addCue_33 rfl (lv_at hl 6 rfl) ?_
              refine lv_iload hx hb dX5_addCue_34 (lv_at hl 0 rfl) ?_
              refine q_R1 (va_runVN (As := [.int (nI i), .int (nI 2)]) (rest := [.int (nI ((0 + (dl (V i 0))) + (dl (V i 1))))]) ⟨hx, hb, hml, hown, hts⟩ (c_X1_numberOf l hc (i) (2) (by omega) (by omega)) ⟨(va_cnB 2 hts gX5_addCue_X1_numberOf_n36 rfl rfl rfl (hG.nest 37 rfl) (hts (.initialized RX1) (List.mem_of_getElem? (i := 4) rfl)) (by decide +kernel) ⟨Nat.le_of_ble_eq_true rfl, Nat.le_of_ble_eq_true rfl⟩), (hts (.instanceMethod yX1_numberOf) (List.mem_of_getElem? (i := 3) rfl)), (hts (.selects RX1 yX1_numberOf yX1_numberOf) (List.mem_of_getElem? (i := 5) rfl))⟩ (q_preV hG hW hS (isCues.obj hc) rfl) rfl rfl hl.1 rfl (lv_room (Nat.le_of_ble_eq_true rfl)) dX5_addCue_36 ⟨Nat.le_of_ble_eq_true rfl, Nat.le_of_ble_eq_true rfl⟩) ?_
              have q_36 := hc.2.2.2.1 (i) (by omega)
              refine lv_bipush (v := nI 10) hx hb dX5_addCue_39 (by decide) ?_
              refine lv_icmp_lt (tgt := 48) hx hb dX5_addCue_41 (by decide) (fun c_41 => ?_) (fun c_41 => ?_)
              · skip
                have c_41 : V i 2 < 10 := (nI_ltI (a := V i 2) (b := 10) (by omega) (by omega)).mp c_41
                refine lv_iconst (v := nI 1) hx hb dX5_addCue_48 (by decide) ?_
                refine q_top (y := nI (dl (V i 2))) (by unfold dl; first | (rw [if_pos (by omega)]; done) | (rw [if_neg (by omega)]; done)) ?_
                refine lv_iadd hx hb dX5_addCue_49 ?_
                refine q_top (y := nI (((0 + (dl (V i 0))) + (dl (V i 1))) + (dl (V i 2)))) (nI_add _ _) ?_
                refine lv_istore (lv' := [(6, .int (nI (((0 + (dl (V i 0))) + (dl (V i 1))) + (dl (V i 2))))), (7, .int (nI 2)), (5, .int (nI (if n = 0 then 3 else 4))), (0, .ref (b + k)), (1, .int (nI sg)), (2, .ref (b + kc)), (3, .int (nI i)), (4, .int (nI n))]) hx hb dX5_addCue_50 hl (by decide) rfl (fun ls hl => ?_)
                refine lv_iinc (v := nI (3)) (lv' := [(7, .int (nI 3)), (6, .int (nI (((0 + (dl (V i 0))) + (dl (V i 1))) + (dl (V i 2))))), (5, .int (nI (if n = 0 then 3 else 4))), (0, .ref (b + k)), (1, .int (nI sg)), (2, .ref (b + kc)), (3, .int (nI i)), (4, .int (nI n))]) hx hb dX5_addCue_52 hl (k := 1) rfl (nI_add _ 1) (by decide) rfl (fun ls hl => ?_)
                refine lv_goto (tgt := 24) hx hb dX5_addCue_55 (by decide) ?_
                refine lv_iload hx hb dX5_addCue_24 (lv_at hl 0 rfl) ?_
                refine lv_iconst (v := nI 2) hx hb dX5_addCue_26 (by decide) ?_
                refine lv_icmp_gt (tgt := 58) hx hb dX5_addCue_27 (by decide) (fun c_27 => ?_) (fun c_27 => ?_)
                · skip
                  have c_27 : 2 < 3 := (nI_ltI (a := 2) (b := 3) (by omega) (by omega)).mp c_27
                  exact L58  _ (by first | rfl | (congr 1; omega)) _ (lv_sub hl [3, 4, 5, 6, 7, 2, 1] rfl)
                · skip
                  have c_27 : ¬ (2 < 3) := fun h__ => c_27 ((nI_ltI (a := 2) (b := 3) (by omega) (by omega)).mpr h__)
                  exact absurd c_27 (by omega)
              · skip
                have c_41 : ¬ (V i 2 < 10) := fun h__ => c_41 ((nI_ltI (a := V i 2) (b := 10) (by omega) (by omega)).mpr h__)
                refine lv_iconst (v := nI 2) hx hb dX5_addCue_44 (by decide) ?_
                refine lv_goto (tgt := 49) hx hb dX5_addCue_45 (by decide) ?_
                refine q_top (y := nI (dl (V i 2))) (by unfold dl; first | (rw [if_pos (by omega)]; done) | (rw [if_neg (by omega)]; done)) ?_
                refine lv_iadd hx hb dX5_addCue_49 ?_
                refine q_top (y := nI (((0 + (dl (V i 0))) + (dl (V i 1))) + (dl (V i 2)))) (nI_add _ _) ?_
                refine lv_istore (lv' := [(6, .int (nI (((0 + (dl (V i 0))) + (dl (V i 1))) + (dl (V i 2))))), (7, .int (nI 2)), (5, .int (nI (if n = 0 then 3 else 4))), (0, .ref (b + k)), (1, .int (nI sg)), (2, .ref (b + kc)), (3, .int (nI i)), (4, .int (nI n))]) hx hb dX5_addCue_50 hl (by decide) rfl (fun ls hl => ?_)
                refine lv_iinc (v := nI (3)) (lv' := [(7, .int (nI 3)), (6, .int (nI (((0 + (dl (V i 0))) + (dl (V i 1))) + (dl (V i 2))))), (5, .int (nI (if n = 0 then 3 else 4))), (0, .ref (b + k)), (1, .int (nI sg)), (2, .ref (b + kc)), (3, .int (nI i)), (4, .int (nI n))]) hx hb dX5_addCue_52 hl (k := 1) rfl (nI_add _ 1) (by decide) rfl (fun ls hl => ?_)
                refine lv_goto (tgt := 24) hx hb dX5_addCue_55 (by decide) ?_
                refine lv_iload hx hb dX5_addCue_24 (lv_at hl 0 rfl) ?_
                refine lv_iconst (v := nI 2) hx hb dX5_addCue_26 (by decide) ?_
                refine lv_icmp_gt (tgt := 58) hx hb dX5_addCue_27 (by decide) (fun c_27 => ?_) (fun c_27 => ?_)
                · skip
                  have c_27 : 2 < 3 := (nI_ltI (a := 2) (b := 3) (by omega) (by omega)).mp c_27
                  exact L58  _ (by first | rfl | (congr 1; omega)) _ (lv_sub hl [3, 4, 5, 6, 7, 2, 1] rfl)
                · skip
                  have c_27 : ¬ (2 < 3) := fun h__ => c_27 ((nI_ltI (a := 2) (b := 3) (by omega) (by omega)).mpr h__)
                  exact absurd c_27 (by omega)
      · skip
        have c_41 : ¬ (V i 0 < 10) := fun h__ => c_41 ((nI_ltI (a := V i 0) (b := 10) (by omega) (by omega)).mpr h__)
        refine lv_iconst (v := nI 2) hx hb dX5_addCue_44 (by decide) ?_
        refine lv_goto (tgt := 49) hx hb dX5_addCue_45 (by decide) ?_
        refine q_top (y := nI (dl (V i 0))) (by unfold dl; first | (rw [if_pos (by omega)]; done) | (rw [if_neg (by omega)]; done)) ?_
        refine lv_iadd hx hb dX5_addCue_49 ?_
        refine q_top (y := nI (0 + (dl (V i 0)))) (nI_add _ _) ?_
        refine lv_istore (lv' := [(6, .int (nI (0 + (dl (V i 0))))), (7, .int (nI 0)), (5, .int (nI (if n = 0 then 3 else 4))), (0, .ref (b + k)), (1, .int (nI sg)), (2, .ref (b + kc)), (3, .int (nI i)), (4, .int (nI n))]) hx hb dX5_addCue_50 hl (by decide) rfl (fun ls hl => ?_)
        refine lv_iinc (v := nI (1)) (lv' := [(7, .int (nI 1)), (6, .int (nI (0 + (dl (V i 0))))), (5, .int (nI (if n = 0 then 3 else 4))), (0, .ref (b + k)), (1, .int (nI sg)), (2, .ref (b + kc)), (3, .int (nI i)), (4, .int (nI n))]) hx hb dX5_addCue_52 hl (k := 1) rfl (nI_add _ 1) (by decide) rfl (fun ls hl => ?_)
        refine lv_goto (tgt := 24) hx hb dX5_addCue_55 (by decide) ?_
        refine lv_iload hx hb dX5_addCue_24 (lv_at hl 0 rfl) ?_
        refine lv_iconst (v := nI 2) hx hb dX5_addCue_26 (by decide) ?_
        refine lv_icmp_gt (tgt := 58) hx hb dX5_addCue_27 (by decide) (fun c_27 => ?_) (fun c_27 => ?_)
        · skip
          have c_27 : 2 < 1 := (nI_ltI (a := 2) (b := 1) (by omega) (by omega)).mp c_27
          exact absurd c_27 (by omega)
        · skip
          have c_27 : ¬ (2 < 1) := fun h__ => c_27 ((nI_ltI (a := 2) (b := 1) (by omega) (by omega)).mpr h__)
          refine lv_iload hx hb dX5_addCue_30 (lv_at hl 1 rfl) ?_
          refine lv_aload_n hx hb dX5_addCue_32 rfl (lv_at hl 5 rfl) ?_
          refine lv_iload_n hx hb dX5_addCue_33 rfl (lv_at hl 6 rfl) ?_
          refine lv_iload hx hb dX5_addCue_34 (lv_at hl 0 rfl) ?_
          refine q_R1 (va_runVN (As := [.int (nI i), .int (nI 1)]) (rest := [.int (nI (0 + (dl (V i 0))))]) ⟨hx, hb, hml, hown, hts⟩ (c_X1_numberOf l hc (i) (1) (by omega) (by omega)) ⟨(va_cnB 2 hts gX5_addCue_X1_numberOf_n36 rfl rfl rfl (hG.nest 37 rfl) (hts (.initialized RX1) (List.mem_of_getElem? (i := 4) rfl)) (by decide +kernel) ⟨Nat.le_of_ble_eq_true rfl, Nat.le_of_ble_eq_true rfl⟩), (hts (.instanceMethod yX1_numberOf) (List.mem_of_getElem? (i := 3) rfl)), (hts (.selects RX1 yX1_numberOf yX1_numberOf) (List.mem_of_getElem? (i := 5) rfl))⟩ (q_preV hG hW hS (isCues.obj hc) rfl) rfl rfl hl.1 rfl (lv_room (Nat.le_of_ble_eq_true rfl)) dX5_addCue_36 ⟨Nat.le_of_ble_eq_true rfl, Nat.le_of_ble_eq_true rfl⟩) ?_
          have q_36 := hc.2.2.2.1 (i) (by omega)
          refine lv_bipush (v := nI 10) hx hb dX5_addCue_39 (by decide) ?_
          refine lv_icmp_lt (tgt := 48) hx hb dX5_addCue_41 (by decide) (fun c_41 => ?_) (fun c_41 => ?_)
          · skip
            have c_41 : V i 1 < 10 := (nI_ltI (a := V i 1) (b := 10) (by omega) (by omega)).mp c_41
            refine lv_iconst (v := nI 1) hx hb dX5_addCue_48 (by decide) ?_
            refine q_top (y := nI (dl (V i 1))) (by unfold dl; first | (rw [if_pos (by omega)]; done) | (rw [if_neg (by omega)]; done)) ?_
            refine lv_iadd hx hb dX5_addCue_49 ?_
            refine q_top (y := nI ((0 + (dl (V i 0))) + (dl (V i 1)))) (nI_add _ _) ?_
            refine lv_istore (lv' := [(6, .int (nI ((0 + (dl (V i 0))) + (dl (V i 1))))), (7, .int (nI 1)), (5, .int (nI (if n = 0 then 3 else 4))), (0, .ref (b + k)), (1, .int (nI sg)), (2, .ref (b + kc)), (3, .int (nI i)), (4, .int (nI n))]) hx hb dX5_addCue_50 hl (by decide) rfl (fun ls hl => ?_)
            refine lv_iinc (v := nI (2)) (lv' := [(7, .int (nI 2)), (6, .int (nI ((0 + (dl (V i 0))) + (dl (V i 1))))), (5, .int (nI (if n = 0 then 3 else 4))), (0, .ref (b + k)), (1, .int (nI sg)), (2, .ref (b + kc)), (3, .int (nI i)), (4, .int (nI n))]) hx hb dX5_addCue_52 hl (k := 1) rfl (nI_add _ 1) (by decide) rfl (fun ls hl => ?_)
            refine lv_goto (tgt := 24) hx hb dX5_addCue_55 (by decide) ?_
            refine lv_iload hx hb dX5_addCue_24 (lv_at hl 0 rfl) ?_
            refine lv_iconst (v := nI 2) hx hb dX5_addCue_26 (by decide) ?_
            refine lv_icmp_gt (tgt := 58) hx hb dX5_addCue_27 (by decide) (fun c_27 => ?_) (fun c_27 => ?_)
            · skip
              have c_27 : 2 < 2 := (nI_ltI (a := 2) (b := 2) (by omega) (by omega)).mp c_27
              exact absurd c_27 (by omega)
            · skip
              have c_27 : ¬ (2 < 2) := fun h__ => c_27 ((nI_ltI (a := 2) (b := 2) (by omega) (by omega)).mpr h__)
              refine lv_iload hx hb dX5_addCue_30 (lv_at hl 1 rfl) ?_
              refine lv_aload_n hx hb dX5_addCue_32 rfl (lv_at hl 5 rfl) ?_
              refine lv_iload_n hx hb dX5_addCue_33 rfl (lv_at hl 6 rfl) ?_
              refine lv_iload hx hb dX5_addCue_34 (lv_at hl 0 rfl) ?_
              refine q_R1 (va_runVN (As := [.int (nI i), .int (nI 2)]) (rest := [.int (nI ((0 + (dl (V i 0))) + (dl (V i 1))))]) ⟨hx, hb, hml, hown, hts⟩ (c_X1_numberOf l hc (i) (2) (by omega) (by omega)) ⟨(va_cnB 2 hts gX5_addCue_X1_numberOf_n36 rfl rfl rfl (hG.nest 37 rfl) (hts (.initialized RX1) (List.mem_of_getElem? (i := 4) rfl)) (by decide +kernel) ⟨Nat.le_of_ble_eq_true rfl, Nat.le_of_ble_eq_true rfl⟩), (hts (.instanceMethod yX1_numberOf) (List.mem_of_getElem? (i := 3) rfl)), (hts (.selects RX1 yX1_numberOf yX1_numberOf) (List.mem_of_getElem? (i := 5) rfl))⟩ (q_preV hG hW hS (isCues.obj hc) rfl) rfl rfl hl.1 rfl (lv_room (Nat.le_of_ble_eq_true rfl)) dX5_addCue_36 ⟨Nat.le_of_ble_eq_true rfl, Nat.le_of_ble_eq_true rfl⟩) ?_
              have q_36 := hc.2.2.2.1 (i) (by omega)
              refine lv_bipush (v := nI 10) hx hb dX5_addCue_39 (by decide) ?_
              refine lv_icmp_lt (tgt := 48) hx hb dX5_addCue_41 (by decide) (fun c_41 => ?_) (fun c_41 => ?_)
              · skip
                have c_41 : V i 2 < 10 := (nI_ltI (a := V i 2) (b := 10) (by omega) (by omega)).mp c_41
                refine lv_iconst (v := nI 1) hx hb dX5_addCue_48 (by decide) ?_
                refine q_top (y := nI (dl (V i 2))) (by unfold dl; first | (rw [if_pos (by omega)]; done) | (rw [if_neg (by omega)]; done)) ?_
                refine lv_iadd hx hb dX5_addCue_49 ?_
                refine q_top (y := nI (((0 + (dl (V i 0))) + (dl (V i 1))) + (dl (V i 2)))) (nI_add _ _) ?_
                refine lv_istore (lv' := [(6, .int (nI (((0 + (dl (V i 0))) + (dl (V i 1))) + (dl (V i 2))))), (7, .int (nI 2)), (5, .int (nI (if n = 0 then 3 else 4))), (0, .ref (b + k)), (1, .int (nI sg)), (2, .ref (b + kc)), (3, .int (nI i)), (4, .int (nI n))]) hx hb dX5_addCue_50 hl (by decide) rfl (fun ls hl => ?_)
                refine lv_iinc (v := nI (3)) (lv' := [(7, .int (nI 3)), (6, .int (nI (((0 + (dl (V i 0))) + (dl (V i 1))) + (dl (V i 2))))), (5, .int (nI (if n = 0 then 3 else 4))), (0, .ref (b + k)), (1, .int (nI sg)), (2, .ref (b + kc)), (3, .int (nI i)), (4, .int (nI n))]) hx hb dX5_addCue_52 hl (k := 1) rfl (nI_add _ 1) (by decide) rfl (fun ls hl => ?_)
                refine lv_goto (tgt := 24) hx hb dX5_addCue_55 (by decide) ?_
                refine lv_iload hx hb dX5_addCue_24 (lv_at hl 0 rfl) ?_
                refine lv_iconst (v := nI 2) hx hb dX5_addCue_26 (by decide) ?_
                refine lv_icmp_gt (tgt := 58) hx hb dX5_addCue_27 (by decide) (fun c_27 => ?_) (fun c_27 => ?_)
                · skip
                  have c_27 : 2 < 3 := (nI_ltI (a := 2) (b := 3) (by omega) (by omega)).mp c_27
                  exact L58  _ (by first | rfl | (congr 1; omega)) _ (lv_sub hl [3, 4, 5, 6, 7, 2, 1] rfl)
                · skip
                  have c_27 : ¬ (2 < 3) := fun h__ => c_27 ((nI_ltI (a := 2) (b := 3) (by omega) (by omega)).mpr h__)
                  exact absurd c_27 (by omega)
              · skip
                have c_41 : ¬ (V i 2 < 10) := fun h__ => c_41 ((nI_ltI (a := V i 2) (b := 10) (by omega) (by omega)).mpr h__)
                refine lv_iconst (v := nI 2) hx hb dX5_addCue_44 (by decide) ?_
                refine lv_goto (tgt := 49) hx hb dX5_addCue_45 (by decide) ?_
                refine q_top (y := nI (dl (V i 2))) (by unfold dl; first | (rw [if_pos (by omega)]; done) | (rw [if_neg (by omega)]; done)) ?_
                refine lv_iadd hx hb dX5_addCue_49 ?_
                refine q_top (y := nI (((0 + (dl (V i 0))) + (dl (V i 1))) + (dl (V i 2)))) (nI_add _ _) ?_
                refine lv_istore (lv' := [(6, .int (nI (((0 + (dl (V i 0))) + (dl (V i 1))) + (dl (V i 2))))), (7, .int (nI 2)), (5, .int (nI (if n = 0 then 3 else 4))), (0, .ref (b + k)), (1, .int (nI sg)), (2, .ref (b + kc)), (3, .int (nI i)), (4, .int (nI n))]) hx hb dX5_addCue_50 hl (by decide) rfl (fun ls hl => ?_)
                refine lv_iinc (v := nI (3)) (lv' := [(7, .int (nI 3)), (6, .int (nI (((0 + (dl (V i 0))) + (dl (V i 1))) + (dl (V i 2))))), (5, .int (nI (if n = 0 then 3 else 4))), (0, .ref (b + k)), (1, .int (nI sg)), (2, .ref (b + kc)), (3, .int (nI i)), (4, .int (nI n))]) hx hb dX5_addCue_52 hl (k := 1) rfl (nI_add _ 1) (by decide) rfl (fun ls hl => ?_)
                refine lv_goto (tgt := 24) hx hb dX5_addCue_55 (by decide) ?_
                refine lv_iload hx hb dX5_addCue_24 (lv_at hl 0 rfl) ?_
                refine lv_iconst (v := nI 2) hx hb dX5_addCue_26 (by decide) ?_
                refine lv_icmp_gt (tgt := 58) hx hb dX5_addCue_27 (by decide) (fun c_27 => ?_) (fun c_27 => ?_)
                · skip
                  have c_27 : 2 < 3 := (nI_ltI (a := 2) (b := 3) (by omega) (by omega)).mp c_27
                  exact L58  _ (by first | rfl | (congr 1; omega)) _ (lv_sub hl [3, 4, 5, 6, 7, 2, 1] rfl)
                · skip
                  have c_27 : ¬ (2 < 3) := fun h__ => c_27 ((nI_ltI (a := 2) (b := 3) (by omega) (by omega)).mpr h__)
                  exact absurd c_27 (by omega)
          · skip
            have c_41 : ¬ (V i 1 < 10) := fun h__ => c_41 ((nI_ltI (a := V i 1) (b := 10) (by omega) (by omega)).mpr h__)
            refine lv_iconst (v := nI 2) hx hb dX5_addCue_44 (by decide) ?_
            refine lv_goto (tgt := 49) hx hb dX5_addCue_45 (by decide) ?_
            refine q_top (y := nI (dl (V i 1))) (by unfold dl; first | (rw [if_pos (by omega)]; done) | (rw [if_neg (by omega)]; done)) ?_
            refine lv_iadd hx hb dX5_addCue_49 ?_
            refine q_top (y := nI ((0 + (dl (V i 0))) + (dl (V i 1)))) (nI_add _ _) ?_
            refine lv_istore (lv' := [(6, .int (nI ((0 + (dl (V i 0))) + (dl (V i 1))))), (7, .int (nI 1)), (5, .int (nI (if n = 0 then 3 else 4))), (0, .ref (b + k)), (1, .int (nI sg)), (2, .ref (b + kc)), (3, .int (nI i)), (4, .int (nI n))]) hx hb dX5_addCue_50 hl (by decide) rfl (fun ls hl => ?_)
            refine lv_iinc (v := nI (2)) (lv' := [(7, .int (nI 2)), (6, .int (nI ((0 + (dl (V i 0))) + (dl (V i 1))))), (5, .int (nI (if n = 0 then 3 else 4))), (0, .ref (b + k)), (1, .int (nI sg)), (2, .ref (b + kc)), (3, .int (nI i)), (4, .int (nI n))]) hx hb dX5_addCue_52 hl (k := 1) rfl (nI_add _ 1) (by decide) rfl (fun ls hl => ?_)
            refine lv_goto (tgt := 24) hx hb dX5_addCue_55 (by decide) ?_
            refine lv_iload hx hb dX5_addCue_24 (lv_at hl 0 rfl) ?_
            refine lv_iconst (v := nI 2) hx hb dX5_addCue_26 (by decide) ?_
            refine lv_icmp_gt (tgt := 58) hx hb dX5_addCue_27 (by decide) (fun c_27 => ?_) (fun c_27 => ?_)
            · skip
              have c_27 : 2 < 2 := (nI_ltI (a := 2) (b := 2) (by omega) (by omega)).mp c_27
              exact absurd c_27 (by omega)
            · skip
              have c_27 : ¬ (2 < 2) := fun h__ => c_27 ((nI_ltI (a := 2) (b := 2) (by omega) (by omega)).mpr h__)
              refine lv_iload hx hb dX5_addCue_30 (lv_at hl 1 rfl) ?_
              refine lv_aload_n hx hb dX5_addCue_32 rfl (lv_at hl 5 rfl) ?_
              refine lv_iload_n hx hb dX5_addCue_33 rfl (lv_at hl 6 rfl) ?_
              refine lv_iload hx hb dX5_addCue_34 (lv_at hl 0 rfl) ?_
              refine q_R1 (va_runVN (As := [.int (nI i), .int (nI 2)]) (rest := [.int (nI ((0 + (dl (V i 0))) + (dl (V i 1))))]) ⟨hx, hb, hml, hown, hts⟩ (c_X1_numberOf l hc (i) (2) (by omega) (by omega)) ⟨(va_cnB 2 hts gX5_addCue_X1_numberOf_n36 rfl rfl rfl (hG.nest 37 rfl) (hts (.initialized RX1) (List.mem_of_getElem? (i := 4) rfl)) (by decide +kernel) ⟨Nat.le_of_ble_eq_true rfl, Nat.le_of_ble_eq_true rfl⟩), (hts (.instanceMethod yX1_numberOf) (List.mem_of_getElem? (i := 3) rfl)), (hts (.selects RX1 yX1_numberOf yX1_numberOf) (List.mem_of_getElem? (i := 5) rfl))⟩ (q_preV hG hW hS (isCues.obj hc) rfl) rfl rfl hl.1 rfl (lv_room (Nat.le_of_ble_eq_true rfl)) dX5_addCue_36 ⟨Nat.le_of_ble_eq_true rfl, Nat.le_of_ble_eq_true rfl⟩) ?_
              have q_36 := hc.2.2.2.1 (i) (by omega)
              refine lv_bipush (v := nI 10) hx hb dX5_addCue_39 (by decide) ?_
              refine lv_icmp_lt (tgt := 48) hx hb dX5_addCue_41 (by decide) (fun c_41 => ?_) (fun c_41 => ?_)
              · skip
                have c_41 : V i 2 < 10 := (nI_ltI (a := V i 2) (b := 10) (by omega) (by omega)).mp c_41
                refine lv_iconst (v := nI 1) hx hb dX5_addCue_48 (by decide) ?_
                refine q_top (y := nI (dl (V i 2))) (by unfold dl; first | (rw [if_pos (by omega)]; done) | (rw [if_neg (by omega)]; done)) ?_
                refine lv_iadd hx hb dX5_addCue_49 ?_
                refine q_top (y := nI (((0 + (dl (V i 0))) + (dl (V i 1))) + (dl (V i 2)))) (nI_add _ _) ?_
                refine lv_istore (lv' := [(6, .int (nI (((0 + (dl (V i 0))) + (dl (V i 1))) + (dl (V i 2))))), (7, .int (nI 2)), (5, .int (nI (if n = 0 then 3 else 4))), (0, .ref (b + k)), (1, .int (nI sg)), (2, .ref (b + kc)), (3, .int (nI i)), (4, .int (nI n))]) hx hb dX5_addCue_50 hl (by decide) rfl (fun ls hl => ?_)
                refine lv_iinc (v := nI (3)) (lv' := [(7, .int (nI 3)), (6, .int (nI (((0 + (dl (V i 0))) + (dl (V i 1))) + (dl (V i 2))))), (5, .int (nI (if n = 0 then 3 else 4))), (0, .ref (b + k)), (1, .int (nI sg)), (2, .ref (b + kc)), (3, .int (nI i)), (4, .int (nI n))]) hx hb dX5_addCue_52 hl (k := 1) rfl (nI_add _ 1) (by decide) rfl (fun ls hl => ?_)
                refine lv_goto (tgt := 24) hx hb dX5_addCue_55 (by decide) ?_
                refine lv_iload hx hb dX5_addCue_24 (lv_at hl 0 rfl) ?_
                refine lv_iconst (v := nI 2) hx hb dX5_addCue_26 (by decide) ?_
                refine lv_icmp_gt (tgt := 58) hx hb dX5_addCue_27 (by decide) (fun c_27 => ?_) (fun c_27 => ?_)
                · skip
                  have c_27 : 2 < 3 := (nI_ltI (a := 2) (b := 3) (by omega) (by omega)).mp c_27
                  exact L58  _ (by first | rfl | (congr 1; omega)) _ (lv_sub hl [3, 4, 5, 6, 7, 2, 1] rfl)
                · skip
                  have c_27 : ¬ (2 < 3) := fun h__ => c_27 ((nI_ltI (a := 2) (b := 3) (by omega) (by omega)).mpr h__)
                  exact absurd c_27 (by omega)
              · skip
                have c_41 : ¬ (V i 2 < 10) := fun h__ => c_41 ((nI_ltI (a := V i 2) (b := 10) (by omega) (by omega)).mpr h__)
                refine lv_iconst (v := nI 2) hx hb dX5_addCue_44 (by decide) ?_
                refine lv_goto (tgt := 49) hx hb dX5_addCue_45 (by decide) ?_
                refine q_top (y := nI (dl (V i 2))) (by unfold dl; first | (rw [if_pos (by omega)]; done) | (rw [if_neg (by omega)]; done)) ?_
                refine lv_iadd hx hb dX5_addCue_49 ?_
                refine q_top (y := nI (((0 + (dl (V i 0))) + (dl (V i 1))) + (dl (V i 2)))) (nI_add _ _) ?_
                refine lv_istore (lv' := [(6, .int (nI (((0 + (dl (V i 0))) + (dl (V i 1))) + (dl (V i 2))))), (7, .int (nI 2)), (5, .int (nI (if n = 0 then 3 else 4))), (0, .ref (b + k)), (1, .int (nI sg)), (2, .ref (b + kc)), (3, .int (nI i)), (4, .int (nI n))]) hx hb dX5_addCue_50 hl (by decide) rfl (fun ls hl => ?_)
                refine lv_iinc (v := nI (3)) (lv' := [(7, .int (nI 3)), (6, .int (nI (((0 + (dl (V i 0))) + (dl (V i 1))) + (dl (V i 2))))), (5, .int (nI (if n = 0 then 3 else 4))), (0, .ref (b + k)), (1, .int (nI sg)), (2, .ref (b + kc)), (3, .int (nI i)), (4, .int (nI n))]) hx hb dX5_addCue_52 hl (k := 1) rfl (nI_add _ 1) (by decide) rfl (fun ls hl => ?_)
                refine lv_goto (tgt := 24) hx hb dX5_addCue_55 (by decide) ?_
                refine lv_iload hx hb dX5_addCue_24 (lv_at hl 0 rfl) ?_
                refine lv_iconst (v := nI 2) hx hb dX5_addCue_26 (by decide) ?_
                refine lv_icmp_gt (tgt := 58) hx hb dX5_addCue_27 (by decide) (fun c_27 => ?_) (fun c_27 => ?_)
                · skip
                  have c_27 : 2 < 3 := (nI_ltI (a := 2) (b := 3) (by omega) (by omega)).mp c_27
                  exact L58  _ (by first | rfl | (congr 1; omega)) _ (lv_sub hl [3, 4, 5, 6, 7, 2, 1] rfl)
                · skip
                  have c_27 : ¬ (2 < 3) := fun h__ => c_27 ((nI_ltI (a := 2) (b := 3) (by omega) (by omega)).mpr h__)
                  exact absurd c_27 (by omega)
  refine lv_iload hx hb dX5_addCue_6 (lv_at hl 0 rfl) ?_
  refine lv_if_ne (tgt := 15) hx hb dX5_addCue_8 (by decide) (fun c_8 => ?_) (fun c_8 => ?_)
  · skip
    have c_8 : ¬ (n = 0) := fun h__ => c_8 ((nI_eq0 (i := n) (by omega)).mpr h__)
    refine lv_iconst (v := nI 4) hx hb dX5_addCue_15 (by decide) ?_
    exact L16  _ (by first | (rw [if_pos (by assumption)]; done) | (rw [if_neg (by assumption)]; done)) _ (lv_sub hl [1, 2, 3, 4, 0] rfl)
  · skip
    have c_8 : n = 0 := (nI_eq0 (i := n) (by omega)).mp c_8
    refine lv_iconst (v := nI 3) hx hb dX5_addCue_11 (by decide) ?_
    refine lv_goto (tgt := 16) hx hb dX5_addCue_12 (by decide) ?_
    exact L16  _ (by first | (rw [if_pos (by assumption)]; done) | (rw [if_neg (by assumption)]; done)) _ (lv_sub hl [1, 2, 3, 4, 0] rfl)

