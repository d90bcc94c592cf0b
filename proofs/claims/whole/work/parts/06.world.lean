-- PURE: what a play sounds like, in small numbers
/-- the cue i of V sounds in t -/
abbrev snd (V : Nat → Nat → Nat) (i t : Nat) : Prop := V i 0 ≤ t ∧ t < V i 0 + V i 1
/-- a mask of the numbers below n with p -/
def mk (p : Nat → Prop) [DecidablePred p] : Nat → Nat
  | 0 => 0
  | n + 1 => if p n then mk p n ||| 2 ^ n else mk p n
theorem mk_bit (p : Nat → Prop) [DecidablePred p] : ∀ n i, (mk p n).testBit i = decide (i < n ∧ p i)
  | 0, i => by simp [mk]
  | n + 1, i => by
    have ih := mk_bit p n i
    unfold mk
    by_cases h : p n
    · rw [if_pos h, Nat.testBit_or, ih, Nat.testBit_two_pow]
      by_cases hi : n = i
      · subst hi; simp [h]
      · have e : (i < n + 1 ∧ p i) ↔ (i < n ∧ p i) := ⟨fun q => ⟨by omega, q.2⟩, fun q => ⟨by omega, q.2⟩⟩
        simp [hi, e]
    · rw [if_neg h, ih]
      have e : (i < n + 1 ∧ p i) ↔ (i < n ∧ p i) := by
        constructor
        · intro q
          refine ⟨?_, q.2⟩
          by_cases hi : i = n
          · subst hi; exact absurd q.2 h
          · omega
        · intro q; exact ⟨by omega, q.2⟩
      simp [e]
theorem mk_lt (p : Nat → Prop) [DecidablePred p] : ∀ n, mk p n < 2 ^ n
  | 0 => by simp [mk]
  | n + 1 => by
    have ih := mk_lt p n
    unfold mk
    have h1 : 2 ^ n < 2 ^ (n + 1) := by rw [Nat.pow_succ]; have := Nat.two_pow_pos n; omega
    by_cases h : p n
    · rw [if_pos h]; exact Nat.or_lt_two_pow (Nat.lt_trans ih h1) h1
    · rw [if_neg h]; exact Nat.lt_trans ih h1
theorem mk_eq0 (p : Nat → Prop) [DecidablePred p] (n : Nat) : mk p n = 0 ↔ ∀ i, i < n → ¬ p i := by
  constructor
  · intro h i hi hp
    have := mk_bit p n i
    rw [h] at this
    simp [hi, hp] at this
  · intro h
    refine Nat.eq_of_testBit_eq (fun i => ?_)
    rw [mk_bit]
    simp only [Nat.zero_testBit, decide_eq_false_iff_not]
    exact fun q => h i q.1 q.2
theorem mk_congr {p q : Nat → Prop} [DecidablePred p] [DecidablePred q] {n : Nat} (h : ∀ i, i < n → (p i ↔ q i)) : mk p n = mk q n := by
  refine Nat.eq_of_testBit_eq (fun i => ?_)
  rw [mk_bit, mk_bit]
  by_cases hi : i < n
  · simp [hi, h i hi]
  · simp [hi]
/-- the words, or noises, that sound in t -/
abbrev wmk (V : Nat → Nat → Nat) (n t : Nat) : Nat := mk (fun i => snd V i t) n
/-- how many below n -/
def ct (p : Nat → Prop) [DecidablePred p] : Nat → Nat
  | 0 => 0
  | n + 1 => if p n then ct p n + 1 else ct p n
theorem ct_le (p : Nat → Prop) [DecidablePred p] : ∀ n, ct p n ≤ n
  | 0 => Nat.le_refl 0
  | n + 1 => by have := ct_le p n; unfold ct; split <;> omega
theorem ct_congr {p q : Nat → Prop} [DecidablePred p] [DecidablePred q] : ∀ {n : Nat}, (∀ i, i < n → (p i ↔ q i)) → ct p n = ct q n
  | 0, _ => rfl
  | n + 1, h => by
    have ih := ct_congr (n := n) (fun i hi => h i (by omega))
    unfold ct
    by_cases hp : p n
    · rw [if_pos hp, if_pos ((h n (by omega)).mp hp), ih]
    · rw [if_neg hp, if_neg (fun q => hp ((h n (by omega)).mpr q)), ih]
/-- a sum below n -/
def sm (f : Nat → Nat) : Nat → Nat
  | 0 => 0
  | n + 1 => sm f n + f n
theorem sm_congr {f g : Nat → Nat} : ∀ {n : Nat}, (∀ i, i < n → f i = g i) → sm f n = sm g n
  | 0, _ => rfl
  | n + 1, h => by rw [sm, sm, sm_congr (fun i hi => h i (by omega)), h n (by omega)]
theorem sm_le {f : Nat → Nat} {c : Nat} : ∀ {n : Nat}, (∀ i, i < n → f i ≤ c) → sm f n ≤ n * c
  | 0, _ => by simp [sm]
  | n + 1, h => by
    have := sm_le (n := n) (fun i hi => h i (by omega))
    have := h n (by omega)
    rw [sm, Nat.succ_mul]; omega
-- PLAYS: number of words, words, number of noises, noises, settings
abbrev Pl : Type := Nat × (Nat → Nat → Nat) × Nat × (Nat → Nat → Nat) × (Nat → Nat)
abbrev Pl.w (P : Pl) : Nat := P.1
abbrev Pl.W (P : Pl) : Nat → Nat → Nat := P.2.1
abbrev Pl.n (P : Pl) : Nat := P.2.2.1
abbrev Pl.N (P : Pl) : Nat → Nat → Nat := P.2.2.2.1
abbrev Pl.S (P : Pl) : Nat → Nat := P.2.2.2.2
def okW (n : Nat) (V : Nat → Nat → Nat) : Prop := ∀ i, i < n → V i 0 ≤ 99 ∧ 1 ≤ V i 1 ∧ V i 1 ≤ 20 ∧ V i 2 ≤ 30 ∧ V i 3 ≤ 1
def okS (S : Nat → Nat) : Prop := S 0 ≤ 20 ∧ 1 ≤ S 1 ∧ S 1 ≤ 20 ∧ S 2 ≤ 5 ∧ S 3 ≤ 10 ∧ S 4 ≤ 10
def okP (P : Pl) : Prop := P.w ≤ 10 ∧ P.n ≤ 12 ∧ okW P.w P.W ∧ okW P.n P.N ∧ okS P.S
/-- the ducking of a second -/
def dk (P : Pl) : Nat → Nat
  | 0 => if wmk P.W P.w 0 = 0 then 0 else P.S 0
  | t + 1 => if wmk P.W P.w (t + 1) = 0 then dk P t - P.S 1 else P.S 0
theorem dk_le (P : Pl) : ∀ t, dk P t ≤ P.S 0
  | 0 => by unfold dk; split <;> omega
  | t + 1 => by have := dk_le P t; unfold dk; split <;> omega
/-- the strength of a noise in a second -/
def stg (P : Pl) (i t : Nat) : Nat := if P.N i 3 = 1 then P.N i 2 else P.N i 2 - dk P t
theorem stg_le (P : Pl) (i t : Nat) : stg P i t ≤ P.N i 2 := by unfold stg; split <;> omega
/-- the greatest strength, how many above 0, the first with the greatest: of the noises below n -/
def gst (P : Pl) (t : Nat) : Nat → Nat
  | 0 => 0
  | n + 1 => if snd P.N n t then max (gst P t n) (stg P n t) else gst P t n
def gct (P : Pl) (t : Nat) : Nat → Nat := ct (fun i => snd P.N i t ∧ 0 < stg P i t)
def gfi (P : Pl) (t : Nat) : Nat → Int32
  | 0 => -1
  | n + 1 => if snd P.N n t ∧ gst P t n < stg P n t then nI n else gfi P t n
theorem gst_le {P : Pl} (hP : okW P.n P.N) (t : Nat) : ∀ n, n ≤ P.n → gst P t n ≤ 30
  | 0, _ => by simp [gst]
  | n + 1, h => by
    have ih := gst_le hP t n (by omega)
    have h1 := hP n (by omega)
    have h2 := stg_le P n t
    unfold gst; split <;> omega
/-- the level of a greatest strength and a number of strengths -/
def lvl (P : Pl) (g c : Nat) : Nat := if 0 < c then g + P.S 2 * (c - 1) else 0
/-- the noises and the other words below n, for the cover of the word i -/
def cgr (P : Pl) (i t : Nat) : Nat → Nat
  | 0 => gst P t P.n
  | n + 1 => if n ≠ i ∧ snd P.W n t then max (cgr P i t n) (P.W n 2) else cgr P i t n
def cct (P : Pl) (i t : Nat) : Nat → Nat
  | 0 => gct P t P.n
  | n + 1 => if n ≠ i ∧ snd P.W n t then cct P i t n + 1 else cct P i t n
def cov (P : Pl) (i t : Nat) : Nat := lvl P (cgr P i t P.w) (cct P i t P.w)
/-- the word i is masked in t -/
def msk (P : Pl) (i t : Nat) : Prop := snd P.W i t ∧ P.W i 2 < cov P i t + P.S 3
/-- the words that are masked in t -/
def mmk (P : Pl) (t : Nat) : Nat := mk (fun i => snd P.W i t ∧ P.W i 2 < cov P i t + P.S 3) P.w
theorem cgr_le {P : Pl} (h : okP P) (i t : Nat) : ∀ n, n ≤ P.w → cgr P i t n ≤ 30
  | 0, _ => gst_le h.2.2.2.1 t _ (Nat.le_refl _)
  | n + 1, hn => by
    have ih := cgr_le h i t n (by omega)
    have h1 := h.2.2.1 n (by omega)
    unfold cgr; split <;> omega
theorem cct_le {P : Pl} (h : okP P) (i t : Nat) : ∀ n, n ≤ P.w → cct P i t n ≤ 12 + n
  | 0, _ => by have := ct_le (fun i => snd P.N i t ∧ 0 < stg P i t) P.n; have := h.2.1; unfold cct gct; omega
  | n + 1, hn => by
    have ih := cct_le h i t n (by omega)
    unfold cct; split <;> omega
theorem lvl_le {P : Pl} (h : okP P) {g c : Nat} (hg : g ≤ 30) (hc : c ≤ 22) : lvl P g c ≤ 140 := by
  have h1 := h.2.2.2.2.2.2.2.1
  have h2 : P.S 2 * (c - 1) ≤ 5 * 22 := Nat.mul_le_mul h1 (by omega)
  unfold lvl; split <;> omega
theorem cov_le {P : Pl} (h : okP P) (i t : Nat) : cov P i t ≤ 140 := by
  have h1 := cgr_le h i t P.w (Nat.le_refl _)
  have h2 := cct_le h i t P.w (Nat.le_refl _)
  have h3 := h.1
  exact lvl_le h h1 (by omega)
/-- in how many seconds the word i is masked, all masked seconds, the words understood -/
def mse (P : Pl) (i : Nat) : Nat := ct (fun t => (mmk P t).testBit i = true) 120
/-- how many bits -/
def pop (x : Nat) : Nat := ct (fun i => x.testBit i = true) 32
def ams (P : Pl) : Nat := sm (fun t => pop (mmk P t)) 120
def und (P : Pl) : Nat := mk (fun i => mse P i ≤ P.S 4) P.w
-- WHAT LIES IN THE WORLD: cues at k (row of numbers at k + 1), a play at k (words k + 1, noises k + 3, settings k + 5), a mix at k (seven rows behind it)
def isCues (dA : Nat → Nat) (b : Nat) (w : Wd) (k lim n : Nat) (V : Nat → Nat → Nat) : Prop := w k = some (.inr (1, [.int (nI lim), .ref (b + (k + 1)), .int (nI n)])) ∧ n ≤ lim ∧ lim ≤ 12 ∧ okW n V ∧ ∃ f : Nat → Nat, w (k + 1) = some (eN dA 48 f) ∧ ∀ i, i < n → ∀ j, j < 4 → f (i * 4 + j) = V i j
theorem isCues.fr {dA : Nat → Nat} {b : Nat} {w w1 : Wd} {k lim n : Nat} {V : Nat → Nat → Nat} (h : isCues dA b w k lim n V) (h0 : w1 k = w k) (h1 : w1 (k + 1) = w (k + 1)) : isCues dA b w1 k lim n V := by
  obtain ⟨a1, a2, a3, a4, f, a5, a6⟩ := h
  exact ⟨h0.trans a1, a2, a3, a4, f, h1.trans a5, a6⟩
theorem isCues.obj {dA : Nat → Nat} {b : Nat} {w : Wd} {k lim n : Nat} {V : Nat → Nat → Nat} (h : isCues dA b w k lim n V) : w k = some (.inr (1, [.int (nI lim), .ref (b + (k + 1)), .int (nI n)])) := h.1
def isPlay (dA : Nat → Nat) (b : Nat) (w : Wd) (k : Nat) (P : Pl) : Prop := w k = some (.inr (4, [.ref (b + (k + 1)), .ref (b + (k + 3)), .ref (b + (k + 5))])) ∧ isCues dA b w (k + 1) 10 P.w P.W ∧ isCues dA b w (k + 3) 12 P.n P.N ∧ okS P.S ∧ w (k + 5) = some (eN dA 5 P.S)
theorem isPlay.fr {dA : Nat → Nat} {b : Nat} {w w1 : Wd} {k : Nat} {P : Pl} (h : isPlay dA b w k P) (h0 : ∀ id, k ≤ id → id < k + 6 → w1 id = w id) : isPlay dA b w1 k P := by
  obtain ⟨a1, a2, a3, a4, a5⟩ := h
  exact ⟨(h0 _ (by omega) (by omega)).trans a1, a2.fr (h0 _ (by omega) (by omega)) (h0 _ (by omega) (by omega)), a3.fr (h0 _ (by omega) (by omega)) (h0 _ (by omega) (by omega)), a4, (h0 _ (by omega) (by omega)).trans a5⟩
theorem isPlay.ok {dA : Nat → Nat} {b : Nat} {w : Wd} {k : Nat} {P : Pl} (h : isPlay dA b w k P) : okP P := ⟨h.2.1.2.1, h.2.2.1.2.1, h.2.1.2.2.2.1, h.2.2.1.2.2.2.1, h.2.2.2.1⟩
/-- a mix over the play at q, which lies right behind it (k + 1 to k + 6), its rows at k + 7 to k + 13 -/
abbrev mixO (b k q : Nat) : va_E := .inr (3, [.ref (b + q), .ref (b + (k + 7)), .ref (b + (k + 8)), .ref (b + (k + 9)), .ref (b + (k + 10)), .ref (b + (k + 11)), .ref (b + (k + 12)), .ref (b + (k + 13))])
/-- a mix that tells the play P -/
def isMix (dA : Nat → Nat) (b : Nat) (w : Wd) (k q : Nat) (P : Pl) : Prop := w k = some (mixO b k q) ∧ w (k + 7) = some (eN dA 120 (wmk P.W P.w)) ∧ w (k + 8) = some (eN dA 120 (wmk P.N P.n)) ∧ w (k + 9) = some (eN dA 120 (dk P)) ∧ w (k + 10) = some (eI dA 120 (fun t => gfi P t P.n)) ∧ w (k + 11) = some (eN dA 120 (fun t => gst P t P.n)) ∧ w (k + 12) = some (eN dA 120 (fun t => gct P t P.n)) ∧ w (k + 13) = some (eN dA 120 (mmk P))
/-- a mix that tells anything -/
def anyMix (dA : Nat → Nat) (b : Nat) (w : Wd) (k q : Nat) : Prop := w k = some (mixO b k q) ∧ ∃ (f1 f2 f3 f5 f6 f7 : Nat → Nat) (f4 : Nat → Int32), w (k + 7) = some (eN dA 120 f1) ∧ w (k + 8) = some (eN dA 120 f2) ∧ w (k + 9) = some (eN dA 120 f3) ∧ w (k + 10) = some (eI dA 120 f4) ∧ w (k + 11) = some (eN dA 120 f5) ∧ w (k + 12) = some (eN dA 120 f6) ∧ w (k + 13) = some (eN dA 120 f7)
theorem isMix.any {dA : Nat → Nat} {b : Nat} {w : Wd} {k q : Nat} {P : Pl} (h : isMix dA b w k q P) : anyMix dA b w k q := by
  obtain ⟨h0, h1, h2, h3, h4, h5, h6, h7⟩ := h
  exact ⟨h0, _, _, _, _, _, _, _, h1, h2, h3, h4, h5, h6, h7⟩
theorem isMix.fr {dA : Nat → Nat} {b : Nat} {w w1 : Wd} {k q : Nat} {P : Pl} (h : isMix dA b w k q P) (f : ∀ id, k ≤ id → (id = k ∨ (k + 7 ≤ id ∧ id < k + 14)) → w1 id = w id) : isMix dA b w1 k q P := by
  obtain ⟨h0, h1, h2, h3, h4, h5, h6, h7⟩ := h
  exact ⟨(f _ (by omega) (by omega)).trans h0, (f _ (by omega) (by omega)).trans h1, (f _ (by omega) (by omega)).trans h2, (f _ (by omega) (by omega)).trans h3, (f _ (by omega) (by omega)).trans h4, (f _ (by omega) (by omega)).trans h5, (f _ (by omega) (by omega)).trans h6, (f _ (by omega) (by omega)).trans h7⟩
theorem anyMix.fr {dA : Nat → Nat} {b : Nat} {w w1 : Wd} {k q : Nat} (h : anyMix dA b w k q) (f : ∀ id, k ≤ id → (id = k ∨ (k + 7 ≤ id ∧ id < k + 14)) → w1 id = w id) : anyMix dA b w1 k q := by
  obtain ⟨h0, f1, f2, f3, f5, f6, f7, f4, h1, h2, h3, h4, h5, h6, h7⟩ := h
  exact ⟨(f _ (by omega) (by omega)).trans h0, f1, f2, f3, f5, f6, f7, f4, (f _ (by omega) (by omega)).trans h1, (f _ (by omega) (by omega)).trans h2, (f _ (by omega) (by omega)).trans h3, (f _ (by omega) (by omega)).trans h4, (f _ (by omega) (by omega)).trans h5, (f _ (by omega) (by omega)).trans h6, (f _ (by omega) (by omega)).trans h7⟩
theorem isPlay.obj {dA : Nat → Nat} {b : Nat} {w : Wd} {k : Nat} {P : Pl} (h : isPlay dA b w k P) : w k = some (.inr (4, [.ref (b + (k + 1)), .ref (b + (k + 3)), .ref (b + (k + 5))])) := h.1
