section LB
variable {p : Program} {l : Launch} {e : Env} {R : Room} {s : State} {m : MethodId} {args : Array Value} {below : List Frame} {meth : Method} {c : Code} {H : Heap} {locs : List Loc} {cells slots mc ms : Nat} {Q : State → Prop}
variable {cc : ByteArray} {pc : Nat} {ls : Array Slot} {rest st0 : List Value} {D : va_G} {dA : Nat → Nat} {b : Nat} {w : Wd} {a : Array Value} {post : Nat → Wd → Prop}
/-- a call of a wrapper: it throws nothing -/
theorem q_XE1 (hr : vx_Run p l e R s m args below meth c H locs cells slots mc ms (F0 m pc ls st0) rest (QE D b post a) (XW D b (fun _ _ => False)) (Fb b)) (hS : va_S (Fb b) s.heap H locs)
    (kk : ∀ (r : Nat) (w' : Wd) (H1 : Heap) (locs1 : List Loc), post r w' → WP D b w' H1 → va_S (Fb b) s.heap H1 locs1 → W p l e R s m args below meth c H1 locs1 (cells + mc) (slots + ms) Q (F0 m (pc + 3) ls (.int (nI r) :: rest))) : W p l e R s m args below meth c H locs cells slots Q (F0 m pc ls st0) := by
  intro T hT X
  rcases hr T hT X with ⟨v', st₀, t, T', L, h0, X', hL, e1, e2, ⟨r, hv, ⟨w', hp, hb⟩, hz, hk⟩, st⟩ | ⟨q, st₀, t, T', L, E, ce, h0, X', hL, e1, e2, ⟨⟨w', hp, hb⟩, hF⟩, hce, hcv, hcl, st⟩
  · cases hv
    rw [h0] at hz hk
    obtain ⟨t2, a1, b1⟩ := kk r w' T'.heap (locs ++ L) hp (by rw [e1]; exact hb) ⟨Nat.le_trans hS.1 (by rw [e1]; exact hz), fun q h1 h2 => by rw [e1, hk q (Nat.lt_of_lt_of_le h1 hS.1) h2]; exact hS.2.1 q h1 h2, fun q hq => by
        rcases List.mem_append.mp hq with h | h
        · exact hS.2.2 q h
        · exact hL q h⟩ T' rfl X'
    exact ⟨t2, st t2 a1, b1⟩
  · exact hp.elim
/-- the script's number -/
theorem q_sld (hx : p.tables.exec = Jvm.exec) (hb : c.code = cc) {b0 L : Nat} {xs : Nat → Int32} (hX : va_X b0 L xs s s.heap) (hbl : b0 < s.heap.size) (hb0 : b0 < b) (hS : va_S (Fb b) s.heap H locs) {j : Nat} {x : Int32} (hv : xs j = x) (hj : j < L) (hL : L ≤ 2560) (hdg : decode cc pc = .ok (.iaload, 1))
    (kk : W p l e R s m args below meth c H locs cells slots Q (F0 m (pc + 1) ls (.int x :: rest))) : W p l e R s m args below meth c H locs cells slots Q (F0 m pc ls (.int (nI j) :: .ref b0 :: rest)) := by
  have e9 := nI_clamp (n := j) (by omega)
  refine va_sld hx hb hX hbl (Nat.not_le.mpr hb0) hS (vp_in_nI hj (by omega)) hdg ?_
  rw [e9, hv]; exact kk
end LB
theorem lg_cmp_self (x : Int64) : lg_cmp x x = 0 := by
  unfold lg_cmp
  rw [if_neg (Int64.lt_irrefl (a := x))]
  first | rfl | (rw [if_neg (Int64.lt_irrefl (a := x))]; done) | (rw [if_neg (Int64.lt_irrefl (a := x))]; rfl) | (rw [if_pos rfl]; done) | simp
theorem isMod.obj {dA : Nat → Nat} {b : Nat} {w : Wd} {A : Sy} {tt : Int32} (h : isMod dA b w A tt) : ∃ fs : List Value, w 36 = some (.inr (7, fs)) := by
  obtain ⟨pl, lt, dn, F, G, GS, Zt, D0, M0, TD, h0, -⟩ := h
  exact ⟨_, h0⟩
theorem c_thr (l : Launch) {D : va_G} {dA : Nat → Nat} {b : Nat} {w : Wd} {A : Sy} {tt : Int32} (h : isMod dA b w A tt) : Met l yX7_thrown wsX7_thrown ({ frames := 0, cells := 0, slots := 0, locals := 0 } : Room) (PC D dA b w [.ref (b + 36)]) (QR (some (.int tt))) 0 0 Fno := by
  obtain ⟨pl, lt, dn, F, G, GS, Zt, D0, M0, TD, h0, -⟩ := h
  exact c_X7_thrown l (D := D) h0
theorem sys_ok {dA : Nat → Nat} {b : Nat} {w : Wd} {lo : Nat} {A : Sy} (h : isSys dA b w lo A) : okP A.1 := h.2.1.ok
/-- what holds all the way in the law -/
def LWF (p : Program) (l : Launch) (s : State) (m : MethodId) (args : Array Value) (c : Code) (b0 L : Nat) (xs : Nat → Int32) (D : va_G) (dA : Nat → Nat) (b : Nat) : Prop :=
  l.stackTraces = false ∧ p.tables.exec = Jvm.exec ∧ c.code = cL_law ∧ c.maxLocals = 9 ∧ s.vm.findClass RL = some m.cls ∧ (∀ w ∈ lw_tbl, w.before args s = true) ∧ va_X b0 L xs s s.heap ∧ b0 < s.heap.size ∧ b0 < b ∧ GX D dA b s ∧ L ≤ 2560
/-- the world between two calls -/
def LWV (D : va_G) (dA : Nat → Nat) (b : Nat) (s : State) (w : Wd) (H : Heap) (locs : List Loc) (lo : Nat) (A : Sy) : Prop :=
  isSys dA b w lo A ∧ (∃ tt : Int32, isMod dA b w A tt) ∧ (∃ O9 : Nat → Int64, w 45 = some (eL dA 1 O9)) ∧ WP D b w H ∧ va_S (Fb b) s.heap H locs
abbrev LWL (b b0 : Nat) (ls : Array Slot) (x : Int32) : Prop := lv_has ls 9 [(0, .ref b0), (1, .ref (b + 0)), (2, .ref (b + 36)), (3, .ref (b + 45)), (4, .int x)]
