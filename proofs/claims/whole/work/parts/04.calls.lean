section QC
variable {p : Program} {l : Launch} {e : Env} {R : Room} {s : State} {m : MethodId} {args : Array Value} {below : List Frame} {meth : Method} {c : Code} {H : Heap} {locs : List Loc} {cells slots : Nat} {Q : State → Prop}
variable {cc : ByteArray} {pc : Nat} {ls : Array Slot} {rest st0 : List Value} {D : va_G} {dA : Nat → Nat} {b : Nat} {w : Wd} {k : Nat}
variable {mc ms : Nat} {a : Array Value} {v : Value} {post : Wd → Prop}
theorem q_R1 (hr : va_Run p l e R s m args below meth c H locs cells slots 0 0 (F0 m pc ls st0) rest (QR (some v) a) Fno) (kk : W p l e R s m args below meth c H locs cells slots Q (F0 m (pc + 3) ls (v :: rest))) : W p l e R s m args below meth c H locs cells slots Q (F0 m pc ls st0) := by
  intro T hT X
  obtain ⟨v', st₀, t, T', L, h0, X', hL, e1, e2, ⟨hv, hh⟩, st⟩ := hr T hT X
  cases hv
  obtain ⟨t2, a1, b1⟩ := kk T' (by rw [e1, hh, h0]) (Stand.forget X' (fun q h => (hL q h).elim))
  exact ⟨t2, st t2 a1, b1⟩
theorem q_R0 (hr : va_Run p l e R s m args below meth c H locs cells slots 0 0 (F0 m pc ls st0) rest (QR none a) Fno) (kk : W p l e R s m args below meth c H locs cells slots Q (F0 m (pc + 3) ls rest)) : W p l e R s m args below meth c H locs cells slots Q (F0 m pc ls st0) := by
  intro T hT X
  obtain ⟨v', st₀, t, T', L, h0, X', hL, e1, e2, ⟨hv, hh⟩, st⟩ := hr T hT X
  cases hv
  obtain ⟨t2, a1, b1⟩ := kk T' (by rw [e1, hh, h0]) (Stand.forget X' (fun q h => (hL q h).elim))
  exact ⟨t2, st t2 a1, b1⟩
theorem q_call {v : Option Value} {z : Nat} (hr : va_Run p l e R s m args below meth c H locs cells slots mc ms (F0 m pc ls st0) rest (QZ D b v z post a) (Fb b)) (hS : va_S (Fb b) s.heap H locs)
    (kk : ∀ (w' : Wd) (H1 : Heap) (locs1 : List Loc), post w' → WP D b w' H1 → va_S (Fb b) s.heap H1 locs1 → H1.size = b + z → W p l e R s m args below meth c H1 locs1 (cells + mc) (slots + ms) Q (F0 m (pc + 3) ls (v.toList ++ rest))) : W p l e R s m args below meth c H locs cells slots Q (F0 m pc ls st0) := by
  intro T hT X
  obtain ⟨v', st₀, t, T', L, h0, X', hL, e1, e2, ⟨hv, ⟨w', hp, hb, hz9⟩, hz, hk⟩, st⟩ := hr T hT X
  cases hv
  rw [h0] at hz hk
  obtain ⟨t2, a1, b1⟩ := kk w' T'.heap (locs ++ L) hp (by rw [e1]; exact hb) ⟨Nat.le_trans hS.1 (by rw [e1]; exact hz), fun q h1 h2 => by rw [e1, hk q (Nat.lt_of_lt_of_le h1 hS.1) h2]; exact hS.2.1 q h1 h2, fun q hq => by
      rcases List.mem_append.mp hq with h | h
      · exact hS.2.2 q h
      · exact hL q h⟩ (by rw [e1]; exact hz9) T' rfl X'
  exact ⟨t2, st t2 a1, b1⟩
theorem q_W (v : Option Value) (hr : va_Run p l e R s m args below meth c H locs cells slots mc ms (F0 m pc ls st0) rest (QW D b v post a) (Fb b)) (hS : va_S (Fb b) s.heap H locs)
    (kk : ∀ (w' : Wd) (H1 : Heap) (locs1 : List Loc), post w' → WP D b w' H1 → va_S (Fb b) s.heap H1 locs1 → H.size ≤ H1.size → W p l e R s m args below meth c H1 locs1 (cells + mc) (slots + ms) Q (F0 m (pc + 3) ls (v.toList ++ rest))) : W p l e R s m args below meth c H locs cells slots Q (F0 m pc ls st0) := by
  intro T hT X
  obtain ⟨v', st₀, t, T', L, h0, X', hL, e1, e2, ⟨hv, ⟨w', hp, hb⟩, hz, hk⟩, st⟩ := hr T hT X
  cases hv
  rw [h0] at hz hk
  obtain ⟨t2, a1, b1⟩ := kk w' T'.heap (locs ++ L) hp (by rw [e1]; exact hb) ⟨Nat.le_trans hS.1 (by rw [e1]; exact hz), fun q h1 h2 => by rw [e1, hk q (Nat.lt_of_lt_of_le h1 hS.1) h2]; exact hS.2.1 q h1 h2, fun q hq => by
      rcases List.mem_append.mp hq with h | h
      · exact hS.2.2 q h
      · exact hL q h⟩ (by rw [e1]; exact hz) T' rfl X'
  exact ⟨t2, st t2 a1, b1⟩
theorem q_W1 (hr : va_Run p l e R s m args below meth c H locs cells slots mc ms (F0 m pc ls st0) rest (QW D b (some v) post a) (Fb b)) (hS : va_S (Fb b) s.heap H locs)
    (kk : ∀ (w' : Wd) (H1 : Heap) (locs1 : List Loc), post w' → WP D b w' H1 → va_S (Fb b) s.heap H1 locs1 → W p l e R s m args below meth c H1 locs1 (cells + mc) (slots + ms) Q (F0 m (pc + 3) ls (v :: rest))) : W p l e R s m args below meth c H locs cells slots Q (F0 m pc ls st0) := q_W (some v) hr hS (fun w' H1 locs1 h1 h2 h3 _ => kk w' H1 locs1 h1 h2 h3)
theorem q_W0 (hr : va_Run p l e R s m args below meth c H locs cells slots mc ms (F0 m pc ls st0) rest (QW D b none post a) (Fb b)) (hS : va_S (Fb b) s.heap H locs)
    (kk : ∀ (w' : Wd) (H1 : Heap) (locs1 : List Loc), post w' → WP D b w' H1 → va_S (Fb b) s.heap H1 locs1 → W p l e R s m args below meth c H1 locs1 (cells + mc) (slots + ms) Q (F0 m (pc + 3) ls rest)) : W p l e R s m args below meth c H locs cells slots Q (F0 m pc ls st0) := q_W none hr hS (fun w' H1 locs1 h1 h2 h3 _ => kk w' H1 locs1 h1 h2 h3)
-- the runs of the calls
variable {y : MethodName} {bytes : ByteArray} {maxL nL n index ci : Nat} {ret : Option FieldType} {ws : List Cond} {rm : Room} {Qc : Array Value → State → Outcome → State → Prop} {free : Addr → Prop} {Ts : List Cond} {own C host : String} {As : List Value} {T : u_T} {N : Nat} {fs : List Value}
theorem q_recv (hG : GX D dA b s) (hW : WP D b w H) (hk : w k = some (.inr (ci, fs))) (hc : vwCl[ci]? = some (C, T, N)) : ∃ cellB : Cell, H[b + k]? = some cellB ∧ cellB.vm.isStatics = false ∧ s.vm.findClass C = some cellB.cls := va_recv hG.1 (hW.one hk) (ci := ci) (q0 := 0) hc rfl
theorem q_preV (hG : GX D dA b s) (hW : WP D b w H) (hS : va_S (Fb b) s.heap H locs) (hk : w k = some (.inr (ci, fs))) (hc : vwCl[ci]? = some (C, T, N)) : PreV s H C (b + k) (PC D dA b w (.ref (b + k) :: As)) As :=
  ⟨PC.blind, q_recv hG hW hk hc, fun U hU hWu => ⟨rfl, hG.go hS hU hWu, by rw [hU]; exact hW⟩⟩
theorem q_preS (hG : GX D dA b s) (hW : WP D b w H) (hS : va_S (Fb b) s.heap H locs) : PreS s H (PC D dA b w As) As :=
  ⟨PC.blind, fun U hU hWu => ⟨rfl, hG.go hS hU hWu, by rw [hU]; exact hW⟩⟩
theorem q_preI {z : Nat} (hG : GX D dA b s) (hW : WP D b w H) (hS : va_S (Fb b) s.heap H locs) (hz : H.size = b + z) : PreS s H (PZ D dA b w z As) As :=
  ⟨PZ.blind, fun U hU hWu => ⟨rfl, hG.go hS hU hWu, by rw [hU]; exact hW, by rw [hU]; exact hz⟩⟩
-- the ends
theorem q_ri {x y : Int32} (hx : p.tables.exec = Jvm.exec) (hb : c.code = cc) (hr : meth.sig.returnType = some .int) (hlocks : meth.locks = false) (hdg : decode cc pc = .ok (.ireturn, 1)) (h : x = y) : W p l e R s m args below meth c s.heap [] 0 0 (MQ below (QR (some (.int y))) args s 0 0 Fno) (F0 m pc ls [.int x]) := by
  subst h
  exact W.iret hx hb hr (fun t ht _ => ⟨rfl, ht⟩) (fun q h => by cases h) hdg hlocks
theorem q_rz {x y : Int32} (hx : p.tables.exec = Jvm.exec) (hb : c.code = cc) (hr : meth.sig.returnType = some .boolean) (hlocks : meth.locks = false) (hdg : decode cc pc = .ok (.ireturn, 1)) (h : x = y) (hn : narrow .boolean (.int y) = .int y) : W p l e R s m args below meth c s.heap [] 0 0 (MQ below (QR (some (.int y))) args s 0 0 Fno) (F0 m pc ls [.int x]) := by
  subst h
  exact W.zret hx hb hr hn (fun t ht _ => ⟨rfl, ht⟩) (fun q h => by cases h) hdg hlocks
theorem q_rv (hx : p.tables.exec = Jvm.exec) (hb : c.code = cc) (hr : meth.sig.returnType = none) (hlocks : meth.locks = false) (hdg : decode cc pc = .ok (.return_, 1)) : W p l e R s m args below meth c s.heap [] 0 0 (MQ below (QR none) args s 0 0 Fno) (F0 m pc ls []) :=
  W.vret hx hb hr (fun t ht _ => ⟨rfl, ht⟩) (fun q h => by cases h) hdg hlocks
theorem q_ra {x y : Nat} {C : String} (hx : p.tables.exec = Jvm.exec) (hb : c.code = cc) (hr : meth.sig.returnType = some (.object C)) (hlocks : meth.locks = false) (hdg : decode cc pc = .ok (.areturn, 1)) (h : x = y) : W p l e R s m args below meth c s.heap [] 0 0 (MQ below (QR (some (.ref y))) args s 0 0 Fno) (F0 m pc ls [.ref x]) := by
  subst h
  exact W.aret hx hb hr (Or.inl ⟨_, rfl⟩) (Or.inr ⟨_, rfl⟩) (fun t ht _ => ⟨rfl, ht⟩) (fun q h => by cases h) hdg hlocks
theorem q_end {v : Option Value} {t : State} (hS : va_S (Fb b) s.heap H locs) (hW : WP D b w H) (hp : post w) (ht : t.heap = H) : QW D b v post args s (.returned v) t :=
  ⟨rfl, ⟨w, hp, by rw [ht]; exact hW⟩, hS.F ht⟩
theorem q_wi {x y : Int32} (hx : p.tables.exec = Jvm.exec) (hb : c.code = cc) (hr : meth.sig.returnType = some .int) (hlocks : meth.locks = false) (hW : WP D b w H) (hS : va_S (Fb b) s.heap H locs) (hdg : decode cc pc = .ok (.ireturn, 1)) (h : x = y) (hp : post w) (hc : cells ≤ mc) (hs : slots ≤ ms) : W p l e R s m args below meth c H locs cells slots (MQ below (QW D b (some (.int y)) post) args s mc ms (Fb b)) (F0 m pc ls [.int x]) := by
  subst h
  refine W.widen hc hs ?_
  exact W.iret hx hb hr (fun t ht _ => q_end hS hW hp ht) hS.2.2 hdg hlocks
theorem q_wz {x y : Int32} (hx : p.tables.exec = Jvm.exec) (hb : c.code = cc) (hr : meth.sig.returnType = some .boolean) (hlocks : meth.locks = false) (hW : WP D b w H) (hS : va_S (Fb b) s.heap H locs) (hdg : decode cc pc = .ok (.ireturn, 1)) (h : x = y) (hn : narrow .boolean (.int y) = .int y) (hp : post w) (hc : cells ≤ mc) (hs : slots ≤ ms) : W p l e R s m args below meth c H locs cells slots (MQ below (QW D b (some (.int y)) post) args s mc ms (Fb b)) (F0 m pc ls [.int x]) := by
  subst h
  refine W.widen hc hs ?_
  exact W.zret hx hb hr hn (fun t ht _ => q_end hS hW hp ht) hS.2.2 hdg hlocks
theorem q_wv (hx : p.tables.exec = Jvm.exec) (hb : c.code = cc) (hr : meth.sig.returnType = none) (hlocks : meth.locks = false) (hW : WP D b w H) (hS : va_S (Fb b) s.heap H locs) (hdg : decode cc pc = .ok (.return_, 1)) (hp : post w) (hc : cells ≤ mc) (hs : slots ≤ ms) : W p l e R s m args below meth c H locs cells slots (MQ below (QW D b none post) args s mc ms (Fb b)) (F0 m pc ls []) := by
  refine W.widen hc hs ?_
  exact W.vret hx hb hr (fun t ht _ => q_end hS hW hp ht) hS.2.2 hdg hlocks
theorem q_zv {z : Nat} (hx : p.tables.exec = Jvm.exec) (hb : c.code = cc) (hr : meth.sig.returnType = none) (hlocks : meth.locks = false) (hW : WP D b w H) (hS : va_S (Fb b) s.heap H locs) (hz : H.size = b + z) (hdg : decode cc pc = .ok (.return_, 1)) (hp : post w) (hc : cells ≤ mc) (hs : slots ≤ ms) : W p l e R s m args below meth c H locs cells slots (MQ below (QZ D b none z post) args s mc ms (Fb b)) (F0 m pc ls []) := by
  refine W.widen hc hs ?_
  exact W.vret hx hb hr (fun t ht _ => ⟨rfl, ⟨w, hp, by rw [ht]; exact hW, by rw [ht]; exact hz⟩, hS.F ht⟩) hS.2.2 hdg hlocks
-- branches over small numbers
theorem q_nlt {i j : Nat} {A B : Prop} (hi : i < 2 ^ 31) (hj : j < 2 ^ 31) (f : i < j → A) (g : ¬ i < j → B) : (nI i < nI j → A) ∧ (¬ nI i < nI j → B) := ⟨fun h => f ((nI_ltI hi hj).mp h), fun h => g (fun q => h ((nI_ltI hi hj).mpr q))⟩
theorem q_nle {i j : Nat} {A B : Prop} (hi : i < 2 ^ 31) (hj : j < 2 ^ 31) (f : i ≤ j → A) (g : ¬ i ≤ j → B) : (nI i ≤ nI j → A) ∧ (¬ nI i ≤ nI j → B) := ⟨fun h => f ((nI_leI hi hj).mp h), fun h => g (fun q => h ((nI_leI hi hj).mpr q))⟩
theorem q_neq {i j : Nat} {A B : Prop} (hi : i < 2 ^ 31) (hj : j < 2 ^ 31) (f : i = j → A) (g : ¬ i = j → B) : (nI i = nI j → A) ∧ (¬ nI i = nI j → B) := ⟨fun h => f ((nI_eq hi hj).mp h), fun h => g (fun q => h ((nI_eq hi hj).mpr q))⟩
theorem q_p0 {P A B : Prop} [Decidable P] (f : ¬ P → A) (g : P → B) : ((if P then (1 : Int32) else 0) = 0 → A) ∧ (¬ (if P then (1 : Int32) else 0) = 0 → B) := ⟨fun h => f (fun q => by rw [if_pos q] at h; exact absurd h (by decide)), fun h => g (Decidable.byContradiction fun q => h (by rw [if_neg q]))⟩
theorem q_bn (P : Prop) [Decidable P] : narrow .boolean (.int (if P then 1 else 0)) = .int (if P then 1 else 0) := by by_cases h : P <;> simp [h] <;> rfl
theorem nI_eq0 {i : Nat} (hi : i < 2 ^ 31) : nI i = 0 ↔ i = 0 := by
  have h := nI_eq (a := i) (b := 0) hi (by decide)
  rwa [nI_0] at h
theorem nI_le0 {i : Nat} (hi : i < 2 ^ 31) : nI i ≤ 0 ↔ i ≤ 0 := by
  have h := nI_leI (a := i) (b := 0) hi (by decide)
  rwa [nI_0] at h
theorem nI_lt0 {i : Nat} (hi : i < 2 ^ 31) : nI i < 0 ↔ i < 0 := by
  have h := nI_ltI (a := i) (b := 0) hi (by decide)
  rwa [nI_0] at h
theorem nI_0lt {i : Nat} (hi : i < 2 ^ 31) : 0 < nI i ↔ 0 < i := by
  have h := nI_ltI (a := 0) (b := i) (by decide) hi
  rwa [nI_0] at h
theorem nI_0le {i : Nat} (hi : i < 2 ^ 31) : 0 ≤ nI i ↔ 0 ≤ i := by
  have h := nI_leI (a := 0) (b := i) (by decide) hi
  rwa [nI_0] at h
theorem pI_eq0 {P : Prop} [Decidable P] : (if P then (1 : Int32) else 0) = 0 ↔ ¬ P := by by_cases h : P <;> simp [h]
theorem nI_sub {i j : Nat} (h : j ≤ i) : nI i - nI j = nI (i - j) := pk_sub h
theorem nI_mul (i j : Nat) : nI i * nI j = nI (i * j) := pk_mul i j
end QC
theorem Met.post {l : Launch} {y : MethodName} {ws : List Cond} {rm : Room} {Pc : Array Value → State → Prop} {Qc Qc' : Array Value → State → Outcome → State → Prop} {mc ms : Nat} {free : Addr → Prop} (h : Met l y ws rm Pc Qc mc ms free) (hq : ∀ (a : Array Value) (st : State) (o : Outcome) (t : State), Qc a st o t → Qc' a st o t) : Met l y ws rm Pc Qc' mc ms free := by
  intro p e ha hc hk s m args below hf happ hpre hk2
  obtain ⟨n, o, h1, h2, h3, h4, h5⟩ := h p e ha hc hk s m args below hf happ hpre hk2
  exact ⟨n, o, h1, h2, h3, hq _ _ _ _ h4, h5⟩
theorem QW.mono {D : va_G} {b : Nat} {v : Option Value} {post post' : Wd → Prop} (h : ∀ w, post w → post' w) : ∀ (a : Array Value) (st : State) (o : Outcome) (t : State), QW D b v post a st o t → QW D b v post' a st o t := fun _ _ _ _ ⟨h1, ⟨w, h2, h3⟩, h4⟩ => ⟨h1, ⟨w, h w h2, h3⟩, h4⟩
