-- METHODS THAT THROW
abbrev IAE : String := "java/lang/IllegalArgumentException"
abbrev ISE : String := "java/lang/IllegalStateException"
abbrev IOE : String := "java/lang/IndexOutOfBoundsException"
abbrev upX : List String := ["java/lang/RuntimeException", "java/lang/Exception"]
/-- the end by a throw: the class, and what holds of the map then -/
def XW (D : va_G) (b : Nat) (pX : String → Wd → Prop) : String → State → State → Prop := fun E s t => (∃ w' : Wd, pX E w' ∧ WP D b w' t.heap) ∧ va_F (Fb b) s t
def atsA : List Cond := vx_atS RX6 97 IAE upX
def atsS : List Cond := vx_atS RX6 135 ISE upX
def atsO : List Cond := vx_atS RX6 210 IOE upX
/-- the words of a throw that are not good -/
def ngL (cls : String) : List Cond := [.castable cls cls, .declares ⟨"java/lang/RuntimeException", "<init>", "(Ljava/lang/String;)V"⟩, .declares ⟨"java/lang/Exception", "<init>", "(Ljava/lang/String;)V"⟩, .declares ⟨"java/lang/Throwable", "<init>", "(Ljava/lang/String;)V"⟩]
theorem ngA : ∀ w ∈ (vx_atS RX6 97 IAE upX).filter (fun w => !goodWord w), w ∈ ngL IAE := by decide +kernel
theorem ngS : ∀ w ∈ (vx_atS RX6 135 ISE upX).filter (fun w => !goodWord w), w ∈ ngL ISE := by decide +kernel
theorem ngO : ∀ w ∈ (vx_atS RX6 210 IOE upX).filter (fun w => !goodWord w), w ∈ ngL IOE := by decide +kernel
theorem otA : ∀ w ∈ Cond.classLink RX6 93 IAE :: Cond.initialized IAE :: vx_atS RX6 97 IAE upX, vx_ot w = true := by decide +kernel
theorem otS : ∀ w ∈ Cond.classLink RX6 131 ISE :: Cond.initialized ISE :: vx_atS RX6 135 ISE upX, vx_ot w = true := by decide +kernel
theorem otO : ∀ w ∈ Cond.classLink RX6 206 IOE :: Cond.initialized IOE :: vx_atS RX6 210 IOE upX, vx_ot w = true := by decide +kernel
section QT
variable {p : Program} {l : Launch} {e : Env} {R : Room} {s : State} {m : MethodId} {args : Array Value} {below : List Frame} {meth : Method} {c : Code} {H : Heap} {locs : List Loc} {cells slots : Nat} {Q : State → Prop}
variable {cc : ByteArray} {pc : Nat} {ls : Array Slot} {rest st0 : List Value} {D : va_G} {dA : Nat → Nat} {b : Nat} {w : Wd} {k : Nat}
variable {mc ms : Nat} {a : Array Value} {v : Value} {post : Wd → Prop} {pX pX1 : String → Wd → Prop} {Qc : Array Value → State → Outcome → State → Prop}
theorem q_ofX {y : MethodName} {ws ws' : List Cond} {rm : Room} {maxL : Nat} {ret : Option FieldType} {av : List Value} (hy : plainName y.cls = true) (hw : ws = Cond.code y cc maxL ret :: ws') (hL : Nat.ble (lg_sl av).length maxL = true)
    (body : ∀ (p : Program) (e : Env) (s : State) (m : MethodId) (args : Array Value) (below : List Frame) (meth : Method) (c : Code) (ls : Array Slot), p.tables.exec = Jvm.exec → c.code = cc → meth.sig.returnType = ret → c.maxLocals = maxL → (∀ w ∈ ws, w.before args s = true) → s.vm.findClass y.cls = some m.cls → meth.locks = false → (∀ x ∈ c.exceptionTable.toList, False) → GX D dA b s → WP D b w s.heap → va_S (Fb b) s.heap s.heap [] → lv_has ls maxL (lv_args 0 av) →
      W p l e rm s m args below meth c s.heap [] 0 0 (vx_MQ below Qc (XW D b pX) args s mc ms (Fb b)) (F0 m 0 ls [])) : vx_Met l y ws rm (PC D dA b w av) Qc (XW D b pX) mc ms (Fb b) := by
  refine vx_ofW (cc := cc) (maxL := maxL) (ret := ret) hy hw ?_
  intro p e s m args below meth c s₁ B hml ht hv
  obtain ⟨rfl, hG, hW⟩ := hv
  have hl := lv_entry av (n := maxL) (Nat.le_of_ble_eq_true hL)
  rw [lg_entry_eq]
  exact body p e s m _ below meth c _ B.exec B.bytes B.returns hml (atoms_spec (ws := ws) B.pre) (findClass_of_methodNamed B.named) B.notSynchronized ht hG hW va_S.rf hl
/-- a call that may throw -/
theorem q_X (v : Option Value) (hr : vx_Run p l e R s m args below meth c H locs cells slots mc ms (F0 m pc ls st0) rest (QW D b v post a) (XW D b pX) (Fb b)) (hS : va_S (Fb b) s.heap H locs)
    (kx : ∀ (E : String) (w' : Wd) (H1 : Heap) (locs1 : List Loc) (q : Addr) (ce : Cell), pX E w' → WP D b w' H1 → va_S (Fb b) s.heap H1 locs1 → H1[q]? = some ce → ce.vm = .none → s.vm.findClass E = some ce.cls → vx_W p l e R s m args below meth c H1 locs1 (cells + mc) (slots + ms) Q (F0 m pc ls rest) q)
    (kk : ∀ (w' : Wd) (H1 : Heap) (locs1 : List Loc), post w' → WP D b w' H1 → va_S (Fb b) s.heap H1 locs1 → W p l e R s m args below meth c H1 locs1 (cells + mc) (slots + ms) Q (F0 m (pc + 3) ls (v.toList ++ rest))) : W p l e R s m args below meth c H locs cells slots Q (F0 m pc ls st0) := by
  intro T hT X
  have sk : ∀ {st₀ t T' : State} {L : List Loc}, st₀.heap = H → T'.heap = t.heap → (∀ q ∈ L, Fb b q.base) → va_F (Fb b) st₀ t → va_S (Fb b) s.heap T'.heap (locs ++ L) := by
    intro st₀ t T' L h0 e1 hL hF
    obtain ⟨hz, hk⟩ := hF
    rw [h0] at hz hk
    exact ⟨Nat.le_trans hS.1 (by rw [e1]; exact hz), fun q h1 h2 => by rw [e1, hk q (Nat.lt_of_lt_of_le h1 hS.1) h2]; exact hS.2.1 q h1 h2, fun q hq => by
      rcases List.mem_append.mp hq with h | h
      · exact hS.2.2 q h
      · exact hL q h⟩
  rcases hr T hT X with ⟨v', st₀, t, T', L, h0, X', hL, e1, e2, ⟨hv, ⟨w', hp, hb⟩, hF⟩, st⟩ | ⟨q, st₀, t, T', L, E, ce, h0, X', hL, e1, e2, ⟨⟨w', hp, hb⟩, hF⟩, hce, hcv, hcl, st⟩
  · cases hv
    obtain ⟨t2, a1, b1⟩ := kk w' T'.heap (locs ++ L) hp (by rw [e1]; exact hb) (sk h0 e1 hL hF) T' rfl X'
    exact ⟨t2, st t2 a1, b1⟩
  · obtain ⟨t2, a1, b1⟩ := kx E w' T'.heap (locs ++ L) q ce hp (by rw [e1]; exact hb) (sk h0 e1 hL hF) (by rw [e1]; exact hce) hcv hcl T' rfl X'
    exact ⟨t2, Steps.trans st a1, b1⟩
theorem q_X1 {v : Value} (hr : vx_Run p l e R s m args below meth c H locs cells slots mc ms (F0 m pc ls st0) rest (QW D b (some v) post a) (XW D b pX) (Fb b)) (hS : va_S (Fb b) s.heap H locs)
    (kx : ∀ (E : String) (w' : Wd) (H1 : Heap) (locs1 : List Loc) (q : Addr) (ce : Cell), pX E w' → WP D b w' H1 → va_S (Fb b) s.heap H1 locs1 → H1[q]? = some ce → ce.vm = .none → s.vm.findClass E = some ce.cls → vx_W p l e R s m args below meth c H1 locs1 (cells + mc) (slots + ms) Q (F0 m pc ls rest) q)
    (kk : ∀ (w' : Wd) (H1 : Heap) (locs1 : List Loc), post w' → WP D b w' H1 → va_S (Fb b) s.heap H1 locs1 → W p l e R s m args below meth c H1 locs1 (cells + mc) (slots + ms) Q (F0 m (pc + 3) ls (v :: rest))) : W p l e R s m args below meth c H locs cells slots Q (F0 m pc ls st0) := q_X (some v) hr hS kx kk
theorem q_X0 (hr : vx_Run p l e R s m args below meth c H locs cells slots mc ms (F0 m pc ls st0) rest (QW D b none post a) (XW D b pX) (Fb b)) (hS : va_S (Fb b) s.heap H locs)
    (kx : ∀ (E : String) (w' : Wd) (H1 : Heap) (locs1 : List Loc) (q : Addr) (ce : Cell), pX E w' → WP D b w' H1 → va_S (Fb b) s.heap H1 locs1 → H1[q]? = some ce → ce.vm = .none → s.vm.findClass E = some ce.cls → vx_W p l e R s m args below meth c H1 locs1 (cells + mc) (slots + ms) Q (F0 m pc ls rest) q)
    (kk : ∀ (w' : Wd) (H1 : Heap) (locs1 : List Loc), post w' → WP D b w' H1 → va_S (Fb b) s.heap H1 locs1 → W p l e R s m args below meth c H1 locs1 (cells + mc) (slots + ms) Q (F0 m (pc + 3) ls rest)) : W p l e R s m args below meth c H locs cells slots Q (F0 m pc ls st0) := q_X none hr hS kx kk
/-- what a callee threw goes on to the caller -/
theorem q_prop {E : String} {q : Addr} {ce : Cell} (ht : ∀ x ∈ c.exceptionTable.toList, False) (hlocks : meth.locks = false) (hW : WP D b w H) (hS : va_S (Fb b) s.heap H locs) (hce : H[q]? = some ce) (hcv : ce.vm = .none) (hcl : s.vm.findClass E = some ce.cls) (hp : pX E w) (hc : cells ≤ mc) (hs : slots ≤ ms) :
    vx_W p l e R s m args below meth c H locs cells slots (vx_MQ below Qc (XW D b pX) args s mc ms (Fb b)) (F0 m pc ls rest) q :=
  vx_out (fun x hx => (ht x hx).elim) hlocks hce hcv hcl (fun t h _ => ⟨⟨w, hp, by rw [h]; exact hW⟩, hS.F h⟩) hS.2.2 hc hs
theorem q_kept {t : State} (hS : va_S (Fb b) s.heap H locs) (h1 : H.size ≤ t.heap.size) (h2 : ∀ q : Nat, q < H.size → t.heap[q]? = H[q]?) : va_F (Fb b) s t :=
  ⟨Nat.le_trans hS.1 h1, fun q h3 h4 => by rw [h2 q (Nat.lt_of_lt_of_le h3 hS.1)]; exact hS.2.1 q h3 h4⟩
variable {own cls text : String} {ik is ic : Nat}
/-- new X(text); throw -/
theorem q_thrS (hx : p.tables.exec = Jvm.exec) (hb : c.code = cc) (hl0 : l.stackTraces = false) (hml : ls.size = c.maxLocals) (ht : ∀ x ∈ c.exceptionTable.toList, False) (hlocks : meth.locks = false) (hown : s.vm.findClass own = some m.cls) (hG : GX D dA b s) (hW : WP D b w H) (hS : va_S (Fb b) s.heap H locs)
    (hcls : Bundle.fit cls = true) (hk : (Cond.classLink own ik cls).before args s = true) (hini : (Cond.initialized cls).before args s = true) (i j : Nat) (hi : sxT[i]? = some (own, is, text)) (hj : nestW[j]? = some (Cond.castable cls cls))
    (hng : ∀ w ∈ (vx_atS own ic cls upX).filter (fun w => !goodWord w), w ∈ ngL cls) (hgood : ∀ w ∈ Cond.classLink own ik cls :: Cond.initialized cls :: vx_atS own ic cls upX, vx_ot w = true) (hat : ∀ w ∈ (vx_atS own ic cls upX).filter goodWord, w.before args s = true)
    (d0 : decode cc pc = .ok (.new ik, 3)) (d3 : decode cc (pc + 3) = .ok (.dup, 1)) (d4 : decode cc (pc + 4) = .ok (.ldc is, 2)) (d6 : decode cc (pc + 6) = .ok (.invokespecial ic, 3)) (d9 : decode cc (pc + 9) = .ok (.athrow, 1))
    (hRf : 5 < R.frames) (hRl : (rest.map fun v => v.category).sum + 82 ≤ R.locals) (hRc : cells + 1 ≤ R.cells) (hRs : slots + 6 ≤ R.slots) (hc : cells + 1 ≤ mc) (hs : slots + 6 ≤ ms) (hp : pX cls w) :
    W p l e R s m args below meth c H locs cells slots (vx_MQ below Qc (XW D b pX) args s mc ms (Fb b)) (F0 m pc ls rest) :=
  vx_throwS hx hb hl0 hown hcls (by decide +kernel) hk hini (hG.2.2.2.1 i _ hi) (vx_hat hat hng (vx_c (va_Nw.use rfl (hG.nest j hj)) (vx_c (va_Nw.use rfl (hG.nest 3 rfl)) (vx_c (va_Nw.use rfl (hG.nest 4 rfl)) (vx_c (va_Nw.use rfl (hG.nest 5 rfl)) vx_n))))) hgood hG.2.2.2.2.1 hG.2.2.2.2.2.1 hS hml d0 d3 d4 d6 d9 (fun x hx => (ht x hx).elim) hRf hRl hRc hRs hlocks
    (fun t _ h1 h2 => ⟨⟨w, hp, hW.kept h2⟩, q_kept hS h1 h2⟩) hS.2.2 hc hs
theorem q_thrSW (hx : p.tables.exec = Jvm.exec) (hb : c.code = cc) (hl0 : l.stackTraces = false) (hml : ls.size = c.maxLocals) (ht : ∀ x ∈ c.exceptionTable.toList, False) (hlocks : meth.locks = false) (hown : s.vm.findClass own = some m.cls) (hG : GX D dA b s) (hW : WP D b w H) (hS : va_S (Fb b) s.heap H locs)
    (hcls : Bundle.fit cls = true) (hk : (Cond.classLink own ik cls).before args s = true) (hini : (Cond.initialized cls).before args s = true) (i j : Nat) (hi : sxT[i]? = some (own, is, text)) (hj : nestW[j]? = some (Cond.castable cls cls))
    (hng : ∀ w ∈ (vx_atS own ic cls upX).filter (fun w => !goodWord w), w ∈ ngL cls) (hgood : ∀ w ∈ Cond.classLink own ik cls :: Cond.initialized cls :: vx_atS own ic cls upX, vx_ot w = true) (hat : ∀ w ∈ (vx_atS own ic cls upX).filter goodWord, w.before args s = true)
    (d0 : decode cc pc = .ok (.new ik, 3)) (d3 : decode cc (pc + 3) = .ok (.dup, 1)) (d4 : decode cc (pc + 4) = .ok (.ldc_w is, 3)) (d7 : decode cc (pc + 7) = .ok (.invokespecial ic, 3)) (d10 : decode cc (pc + 10) = .ok (.athrow, 1))
    (hRf : 5 < R.frames) (hRl : (rest.map fun v => v.category).sum + 82 ≤ R.locals) (hRc : cells + 1 ≤ R.cells) (hRs : slots + 6 ≤ R.slots) (hc : cells + 1 ≤ mc) (hs : slots + 6 ≤ ms) (hp : pX cls w) :
    W p l e R s m args below meth c H locs cells slots (vx_MQ below Qc (XW D b pX) args s mc ms (Fb b)) (F0 m pc ls rest) :=
  vx_throwSW hx hb hl0 hown hcls (by decide +kernel) hk hini (hG.2.2.2.1 i _ hi) (vx_hat hat hng (vx_c (va_Nw.use rfl (hG.nest j hj)) (vx_c (va_Nw.use rfl (hG.nest 3 rfl)) (vx_c (va_Nw.use rfl (hG.nest 4 rfl)) (vx_c (va_Nw.use rfl (hG.nest 5 rfl)) vx_n))))) hgood hG.2.2.2.2.1 hG.2.2.2.2.2.1 hS hml d0 d3 d4 d7 d10 (fun x hx => (ht x hx).elim) hRf hRl hRc hRs hlocks
    (fun t _ h1 h2 => ⟨⟨w, hp, hW.kept h2⟩, q_kept hS h1 h2⟩) hS.2.2 hc hs
end QT
