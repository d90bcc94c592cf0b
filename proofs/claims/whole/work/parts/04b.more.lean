/-- a content that differs beyond the row's end alone -/
theorem WP.same {D : va_G} {dA : Nat → Nat} {b : Nat} {w : Wd} {H : Heap} {k n : Nat} {f g : Nat → Nat} (h : WP D b w H) (hk : w k = some (eN dA n f)) (hfg : ∀ i, i < n → f i = g i) : WP D b (va_up w k (some (eN dA n g))) H := by
  have h1 := h k _ hk
  refine h.set ?_ (fun _ _ => rfl)
  show H[b + k]? = some (vp_cell _ _)
  rw [show H[b + k]? = some (vp_cell (dA 0) (n, .inl (fun j => nI (f j)))) from h1, vp_cell_i, vp_cell_i]
  congr 1
  unfold arrV
  congr 1
  apply Array.ext
  · simp
  · intro i h1 h2
    simp only [Array.size_ofFn] at h1
    simp [hfg i h1]
theorem WP.sameI {D : va_G} {dA : Nat → Nat} {b : Nat} {w : Wd} {H : Heap} {k n : Nat} {f g : Nat → Int32} (h : WP D b w H) (hk : w k = some (eI dA n f)) (hfg : ∀ i, i < n → f i = g i) : WP D b (va_up w k (some (eI dA n g))) H := by
  have h1 := h k _ hk
  refine h.set ?_ (fun _ _ => rfl)
  show H[b + k]? = some (vp_cell _ _)
  rw [show H[b + k]? = some (vp_cell (dA 0) (n, .inl f)) from h1, vp_cell_i, vp_cell_i]
  congr 1
  unfold arrV
  congr 1
  apply Array.ext
  · simp
  · intro i h1 h2
    simp only [Array.size_ofFn] at h1
    simp [hfg i h1]
theorem nI_or (a b : Nat) : nI a ||| nI b = nI (a ||| b) := by
  apply Int32.toBitVec_inj.mp
  show (Int32.ofNat a).toBitVec ||| (Int32.ofNat b).toBitVec = (Int32.ofNat (a ||| b)).toBitVec
  simp [Int32.toBitVec_ofNat', BitVec.ofNat_or]
theorem nI_shl1' : ∀ n, n < 31 → nI 1 <<< (nI n &&& 31) = nI (2 ^ n) := by decide +kernel
theorem nI_shl1 {n : Nat} (h : n < 31) : nI 1 <<< (nI n &&& 31) = nI (2 ^ n) := nI_shl1' n h
theorem nI_shr {x n : Nat} (hx : x < 2 ^ 31) (h : n < 31) : nI x >>> (nI n &&& 31) = nI (x / 2 ^ n) := by
  have e : ((nI n &&& 31).toBitVec.smod 32).toNat = n := by
    have : ∀ n, n < 31 → ((nI n &&& 31).toBitVec.smod 32).toNat = n := by decide +kernel
    exact this n h
  exact pk_shrN hx _ n e
theorem nI_and1 (x : Nat) : nI x &&& nI 1 = nI (x % 2) := by
  apply Int32.toBitVec_inj.mp
  apply BitVec.eq_of_toNat_eq
  show ((Int32.ofNat x).toBitVec &&& (Int32.ofNat 1).toBitVec).toNat = (Int32.ofNat (x % 2)).toBitVec.toNat
  simp only [Int32.toBitVec_ofNat', BitVec.toNat_and, BitVec.toNat_ofNat]
  have h1 : (1 : Nat) % 2 ^ 32 = 1 := by decide
  rw [h1, Nat.and_one_is_mod]
  omega
theorem bit_div {x n : Nat} : x / 2 ^ n % 2 = if x.testBit n = true then 1 else 0 := by
  rw [Nat.testBit_eq_decide_div_mod_eq]
  by_cases h : x / 2 ^ n % 2 = 1
  · simp [h]
  · have : x / 2 ^ n % 2 = 0 := by omega
    simp [this]
theorem nI_max {a c : Nat} (ha : a < 2 ^ 31) (hc : c < 2 ^ 31) : (if nI a < nI c then nI c else nI a) = nI (max a c) := by
  by_cases h : a < c
  · rw [if_pos ((nI_ltI ha hc).mpr h), Nat.max_eq_right (by omega)]
  · rw [if_neg (fun q => h ((nI_ltI ha hc).mp q)), Nat.max_eq_left (by omega)]
theorem nI_max0 {a c : Nat} (ha : a < 2 ^ 31) (hc : c < 2 ^ 31) : (if nI 0 < nI a - nI c then nI a - nI c else nI 0) = nI (a - c) := by
  by_cases h : c ≤ a
  · rw [pk_sub h]
    by_cases h2 : 0 < a - c
    · rw [if_pos ((nI_ltI (by omega) (by omega)).mpr h2)]
    · rw [if_neg (fun q => h2 ((nI_ltI (by omega) (by omega)).mp q))]
      have : a - c = 0 := by omega
      rw [this]
  · have e : (nI a - nI c).toInt = (a : Int) - c := by
      have : ∀ x y : Int32, (x - y).toInt = (x.toInt - y.toInt).bmod (2 ^ 32) := fun x y => Int32.toInt_sub x y
      rw [this, nI_toInt ha, nI_toInt hc]
      exact Int.bmod_eq_of_le (by omega) (by omega)
    rw [if_neg (fun q => by
      have q := Int32.lt_iff_toInt_lt.mp q
      rw [e, nI_toInt (by omega)] at q
      omega)]
    have : a - c = 0 := by omega
    rw [this]
theorem eN_congr {dA : Nat → Nat} {n : Nat} {f g : Nat → Nat} (h : ∀ j, f j = g j) : (some (eN dA n f) : Option va_E) = some (eN dA n g) := by rw [show f = g from funext h]
theorem eI_congr {dA : Nat → Nat} {n : Nat} {f g : Nat → Int32} (h : ∀ j, f j = g j) : (some (eI dA n f) : Option va_E) = some (eI dA n g) := by rw [show f = g from funext h]
theorem fill_step {α : Type} {f g : Nat → α} {i : Nat} {x : α} (hx : x = f i) (j : Nat) : va_up (fun t => if t < i then f t else g t) i x j = if j < i + 1 then f j else g j := by
  unfold va_up
  by_cases h1 : j = i
  · subst h1; rw [if_pos rfl, if_pos (by omega), hx]
  · rw [if_neg h1]; dsimp only
    by_cases h2 : j < i
    · rw [if_pos h2, if_pos (by omega)]
    · rw [if_neg h2, if_neg (by omega)]
theorem range_step {α : Type} {f g : Nat → α} {lo i : Nat} {x : α} (hl : lo ≤ i) (hx : x = f i) (j : Nat) : va_up (fun t => if lo ≤ t ∧ t < i then f t else g t) i x j = if lo ≤ j ∧ j < i + 1 then f j else g j := by
  unfold va_up
  by_cases h1 : j = i
  · subst h1; rw [if_pos rfl, if_pos (by omega), hx]
  · rw [if_neg h1]; dsimp only
    by_cases h2 : lo ≤ j ∧ j < i
    · rw [if_pos h2, if_pos (by omega)]
    · rw [if_neg h2, if_neg (by omega)]
theorem fill_0 {α : Type} {f g : Nat → α} (j : Nat) : g j = if j < 0 then f j else g j := (if_neg (Nat.not_lt_zero j)).symm
theorem range_0 {α : Type} {f g : Nat → α} {lo : Nat} (j : Nat) : g j = if lo ≤ j ∧ j < lo then f j else g j := (if_neg (by omega)).symm
