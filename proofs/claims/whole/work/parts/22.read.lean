/-- what a reader holds on its way -/
def invR (R : Rd) : Prop := R.1 ≤ 3 ∧ (R.1 < 3 → (R.2.1 = nI 119 ∨ R.2.1 = nI 110 ∨ R.2.1 = nI 78) ∧ (∀ i, i < R.1 → R.2.2 i ≠ none) ∧ ∀ i, i ≤ R.1 → ∀ v, R.2.2 i = some v → cLo i ≤ v ∧ v ≤ cHi i)
theorem invR_rst (R : Rd) : invR (rst R) := ⟨Nat.le_refl _, fun h => absurd (show 3 < 3 from h) (by decide)⟩
theorem invR_nx {R : Rd} (h : invR R) (c : Option Nat) : invR (rnx R c) := by
  unfold rnx
  by_cases k : rok R c = true
  · rw [if_pos k]
    obtain ⟨h1, h2⟩ := h
    by_cases e : R.1 = 3
    · rw [if_pos e]
      unfold rok at k
      rw [if_pos e] at k
      refine ⟨Nat.zero_le _, fun _ => ⟨?_, fun i hi => absurd (show i < 0 from hi) (Nat.not_lt_zero _), fun i hi v hv => ?_⟩⟩
      · unfold kOk at k
        simp only [Bool.or_eq_true, decide_eq_true_eq] at k
        rcases k with (k | k) | k
        · subst k; exact Or.inl rfl
        · subst k; exact Or.inr (Or.inl rfl)
        · subst k; exact Or.inr (Or.inr rfl)
      · have : i = 0 := Nat.le_zero.mp hi
        subst this
        simp [rbeg, va_up] at hv
    · rw [if_neg e]
      have h3 := h2 (by omega)
      cases c with
      | none => exact ⟨h1, h2⟩
      | some n =>
        unfold rok at k
        rw [if_neg e] at k
        dsimp only at k ⊢
        by_cases d : 48 ≤ n ∧ n ≤ 57
        · rw [if_pos d] at k ⊢
          unfold dOk at k
          simp only [Bool.and_eq_true, decide_eq_true_eq] at k
          refine ⟨h1, fun _ => ⟨h3.1, fun i hi => ?_, fun i hi v hv => ?_⟩⟩
          · unfold rdig va_up
            have hi' : i < R.1 := hi
            dsimp only
            rw [if_neg (by omega)]; exact h3.2.1 i hi'
          · unfold rdig va_up at hv
            dsimp only at hv
            by_cases f : i = R.1
            · rw [if_pos f] at hv; cases hv; subst f; exact k.2
            · rw [if_neg f] at hv; exact h3.2.2 i hi v hv
        · rw [if_neg d] at k ⊢
          unfold sOk at k
          simp only [Bool.and_eq_true, decide_eq_true_eq] at k
          refine ⟨by show R.1 + 1 ≤ 3; omega, fun hl => ⟨h3.1, fun i hi => ?_, fun i hi v hv => ?_⟩⟩
          · have hi' : i < R.1 + 1 := hi
            have hl' : R.1 + 1 < 3 := hl
            unfold rbeg va_up; dsimp only
            rw [if_pos hl']
            rw [if_neg (by omega)]
            by_cases f : i = R.1
            · rw [f]; exact k.1
            · exact h3.2.1 i (by omega)
          · have hi' : i ≤ R.1 + 1 := hi
            have hl' : R.1 + 1 < 3 := hl
            unfold rbeg va_up at hv; dsimp only at hv
            rw [if_pos hl'] at hv
            by_cases f : i = R.1 + 1
            · rw [if_pos f] at hv; cases hv
            · rw [if_neg f] at hv; exact h3.2.2 i (by omega) v hv
  · rw [if_neg k]; exact h
theorem invR_run {n : Nat} {C : Nat → Nat} {R : Rd} (h : invR R) : ∀ i, invR (rrun n C R i)
  | 0 => h
  | i + 1 => invR_nx (invR_run h i) _
theorem rerr_le (n : Nat) (C : Nat → Nat) (R : Rd) : ∀ d, rerr n C R d ≤ n
  | 0 => Nat.le_refl _
  | d + 1 => by
    unfold rerr
    split
    · exact rerr_le n C R d
    · omega
theorem rerr_all {n : Nat} {C : Nat → Nat} {R : Rd} : ∀ d, d ≤ n → n ≤ rerr n C R d → ∀ i, n - d ≤ i → i < n → rok (rrun n C R i) (cAt n C i) = true
  | 0, _, _ => fun i h1 h2 => absurd h1 (by omega)
  | d + 1, hd, h => fun i h1 h2 => by
    unfold rerr at h
    by_cases k : rok (rrun n C R (n - (d + 1))) (cAt n C (n - (d + 1))) = true
    · rw [if_pos k] at h
      by_cases e : i = n - (d + 1)
      · rw [e]; exact k
      · exact rerr_all d (by omega) h i (by omega) h2
    · rw [if_neg k] at h; omega
/-- the codes are a whole script -/
def whl (n : Nat) (C : Nat → Nat) (R : Rd) : Prop := n ≤ rerr n C R n ∧ (rrun n C R n).1 = 2 ∧ (rrun n C R n).2.2 2 ≠ none
/-- a cue is read to its end -/
abbrev cEnd (n : Nat) (C : Nat → Nat) (j : Nat) : Prop := j = n ∨ cAt n C j = some 59
theorem whl_at {n : Nat} {C : Nat → Nat} {R : Rd} (hw : whl n C R) {j : Nat} (hj : j ≤ n) (hc : cEnd n C j) : (rrun n C R j).1 = 2 ∧ (rrun n C R j).2.2 2 ≠ none := by
  rcases hc with rfl | hc
  · exact hw.2
  · have hjn : j < n := by
      unfold cAt at hc
      by_cases e : j < n
      · exact e
      · rw [if_neg e] at hc; cases hc
    have k := rerr_all n (Nat.le_refl _) hw.1 j (by omega) hjn
    rw [hc] at k
    unfold rok at k
    by_cases e : (rrun n C R j).1 = 3
    · rw [if_pos e] at k; exact absurd k (by decide)
    · rw [if_neg e] at k
      dsimp only at k
      rw [if_neg (by decide)] at k
      unfold sOk at k
      simp only [Bool.and_eq_true, decide_eq_true_eq, Option.some.injEq] at k
      have hs : (rrun n C R j).1 = 2 := by
        have := k.2
        generalize (rrun n C R j).1 = q at this e
        match q with
        | 0 => exact absurd this (by decide)
        | 1 => exact absurd this (by decide)
        | 2 => rfl
        | q + 3 => simp [sgn] at this
      exact ⟨hs, by rw [hs] at k; exact k.1⟩
theorem whl_num {n : Nat} {C : Nat → Nat} {R : Rd} (hi : invR R) (hw : whl n C R) {j : Nat} (hj : j ≤ n) (hc : cEnd n C j) :
    ((rrun n C R j).2.1 = nI 119 ∨ (rrun n C R j).2.1 = nI 110 ∨ (rrun n C R j).2.1 = nI 78) ∧ ∃ s9 l9 d9 : Nat, (rrun n C R j).2.2 0 = some s9 ∧ (rrun n C R j).2.2 1 = some l9 ∧ (rrun n C R j).2.2 2 = some d9 ∧ s9 ≤ 99 ∧ 1 ≤ l9 ∧ l9 ≤ 20 ∧ d9 ≤ 30 := by
  have h1 := whl_at hw hj hc
  have h2 := (invR_run (n := n) (C := C) hi j).2 (by omega)
  refine ⟨h2.1, ?_⟩
  have k0 := h2.2.1 0 (by omega)
  have k1 := h2.2.1 1 (by omega)
  have k2 := h1.2
  cases e0 : (rrun n C R j).2.2 0 with
  | none => exact absurd e0 k0
  | some s9 =>
    cases e1 : (rrun n C R j).2.2 1 with
    | none => exact absurd e1 k1
    | some l9 =>
      cases e2 : (rrun n C R j).2.2 2 with
      | none => exact absurd e2 k2
      | some d9 =>
        have b0 := h2.2.2 0 (by omega) _ e0
        have b1 := h2.2.2 1 (by omega) _ e1
        have b2 := h2.2.2 2 (by omega) _ e2
        have q1 : cHi 0 = 99 := rfl
        have q2 : cLo 1 = 1 := rfl
        have q3 : cHi 1 = 20 := rfl
        have q4 : cHi 2 = 30 := rfl
        exact ⟨s9, l9, d9, rfl, rfl, rfl, by omega, by omega, by omega, by omega⟩
/-- the number read, or 0 -/
def rnm (R : Rd) (i : Nat) : Nat := (R.2.2 i).getD 0
/-- no room for the cue read -/
abbrev rfull (P : Pl) (R : Rd) : Prop := if R.2.1 = nI 119 then 10 ≤ P.w else 12 ≤ P.n
/-- the play with the cue read -/
def radd (P : Pl) (R : Rd) : Pl := if R.2.1 = nI 119 then (P.w + 1, addV P.W P.w (rnm R 0) (rnm R 1) (rnm R 2) 0, P.n, P.N, P.S) else (P.w, P.W, P.n + 1, addV P.N P.n (rnm R 0) (rnm R 1) (rnm R 2) (if R.2.1 = nI 78 then 1 else 0), P.S)
/-- the cues read from the place n + 1 - d on: the play, and how many -/
def rgo (n : Nat) (C : Nat → Nat) (R : Rd) : Nat → Pl → Nat → Pl × Nat
  | 0, P, c => (P, c)
  | d + 1, P, c => if cEnd n C (n - d) then (if rfull P (rrun n C R (n - d)) then (P, c) else rgo n C R d (radd P (rrun n C R (n - d))) (c + 1)) else rgo n C R d P c
theorem rgo_full {n : Nat} {C : Nat → Nat} {R : Rd} {j : Nat} {P : Pl} {c : Nat} (hj : j ≤ n) (hc : cEnd n C j) (hf : rfull P (rrun n C R j)) : rgo n C R (n + 1 - j) P c = (P, c) := by
  rw [show n + 1 - j = (n - j) + 1 by omega, rgo, show n - (n - j) = j by omega, if_pos hc, if_pos hf]
theorem rgo_add {n : Nat} {C : Nat → Nat} {R : Rd} {j : Nat} {P : Pl} {c : Nat} (hj : j ≤ n) (hc : cEnd n C j) (hf : ¬ rfull P (rrun n C R j)) : rgo n C R (n + 1 - j) P c = rgo n C R (n + 1 - (j + 1)) (radd P (rrun n C R j)) (c + 1) := by
  rw [show n + 1 - j = (n - j) + 1 by omega, rgo, show n - (n - j) = j by omega, if_pos hc, if_neg hf, show n + 1 - (j + 1) = n - j by omega]
theorem rgo_pass {n : Nat} {C : Nat → Nat} {R : Rd} {j : Nat} {P : Pl} {c : Nat} (hj : j ≤ n) (hc : ¬ cEnd n C j) : rgo n C R (n + 1 - j) P c = rgo n C R (n + 1 - (j + 1)) P c := by
  rw [show n + 1 - j = (n - j) + 1 by omega, rgo, show n - (n - j) = j by omega, if_neg hc, show n + 1 - (j + 1) = n - j by omega]
theorem rgo_R0 {n : Nat} {C : Nat → Nat} {R : Rd} (hr : okR R) (hw : whl n C (rst R)) : ∀ d P c, d ≤ n + 1 → rgo n C (rst R) d P c = rgo n C R0 d P c
  | 0, P, c, _ => rfl
  | d + 1, P, c, hd => by
    unfold rgo
    by_cases hc : cEnd n C (n - d)
    · rw [if_pos hc, if_pos hc]
      have h1 := whl_at hw (Nat.sub_le n d) hc
      have hs := (rsim_run (n := n) (C := C) (rsim_rst R) (okR_rst hr) (n - d)).1
      obtain ⟨e1, e2⟩ := hs
      have e3 := e2 (by omega)
      have e4 : ∀ i, i < 3 → rnm (rrun n C (rst R) (n - d)) i = rnm (rrun n C R0 (n - d)) i := fun i hi => by unfold rnm; rw [e3.2 i (by omega)]
      have ef : rfull P (rrun n C (rst R) (n - d)) = rfull P (rrun n C R0 (n - d)) := by unfold rfull; rw [e3.1]
      have ea : radd P (rrun n C (rst R) (n - d)) = radd P (rrun n C R0 (n - d)) := by unfold radd; rw [e3.1, e4 0 (by omega), e4 1 (by omega), e4 2 (by omega)]
      by_cases f : rfull P (rrun n C (rst R) (n - d))
      · rw [if_pos f, if_pos (ef ▸ f)]
      · rw [if_neg f, if_neg (ef ▸ f), ea]; exact rgo_R0 hr hw d _ _ (by omega)
    · rw [if_neg hc, if_neg hc]; exact rgo_R0 hr hw d _ _ (by omega)
theorem whl_R0 {n : Nat} {C : Nat → Nat} {R : Rd} (hr : okR R) : whl n C (rst R) ↔ whl n C R0 := by
  unfold whl
  rw [rerr_R0 hr]
  have hs := (rsim_run (n := n) (C := C) (rsim_rst R) (okR_rst hr) n).1
  obtain ⟨e1, e2⟩ := hs
  rw [← e1]
  constructor
  · rintro ⟨a, c, d⟩; exact ⟨a, c, by rw [← (e2 (by omega)).2 2 (by omega)]; exact d⟩
  · rintro ⟨a, c, d⟩; exact ⟨a, c, by rw [(e2 (by omega)).2 2 (by omega)]; exact d⟩
theorem rgo_cnt {n : Nat} {C : Nat → Nat} {R : Rd} : ∀ d P c, (rgo n C R d P c).2 ≤ c + d
  | 0, P, c => Nat.le_refl _
  | d + 1, P, c => by
    unfold rgo
    split
    · split
      · show c ≤ _; omega
      · have := rgo_cnt (n := n) (C := C) (R := R) d (radd P (rrun n C R (n - d))) (c + 1); omega
    · have := rgo_cnt (n := n) (C := C) (R := R) d P c; omega

