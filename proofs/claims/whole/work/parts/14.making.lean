section QN
variable {p : Program} {l : Launch} {e : Env} {R : Room} {s : State} {m : MethodId} {args : Array Value} {below : List Frame} {meth : Method} {c : Code} {H : Heap} {locs : List Loc} {cells slots : Nat} {Q : State → Prop}
variable {cc : ByteArray} {pc : Nat} {ls : Array Slot} {rest st0 : List Value} {D : va_G} {dA : Nat → Nat} {b : Nat} {w : Wd} {z : Nat}
theorem va_S.grow {A : Nat → Prop} {H0 H H1 : Heap} {locs : List Loc} (hS : va_S A H0 H locs) (z1 : H1.size = H.size + 1) (o1 : ∀ q : Nat, q < H.size → H1[q]? = H[q]?) : va_S A H0 H1 locs :=
  ⟨Nat.le_trans hS.1 (by omega), fun x h1 h2 => (o1 x (Nat.lt_of_lt_of_le h1 hS.1)).trans (hS.2.1 x h1 h2), hS.2.2⟩
theorem q_new {own C : String} {T : u_T} {N ci index : Nat} {Ts : List Cond} (hx : p.tables.exec = Jvm.exec) (hb : c.code = cc) (hts : ∀ w ∈ Ts, w.before args s = true) (hin : ∀ w ∈ u_ws C T N, w ∈ Ts) {ty : Nat → FieldType} (hty : ∀ k, k < N → parseFieldDescriptor (T k).2.2.1 = some (ty k)) (hown : s.vm.findClass own = some m.cls) (hcl : (Cond.classLink own index C).before args s = true) (hinst : (Cond.instantiable C N).before args s = true) (hini : (Cond.initialized C).before args s = true)
    (hG : GX D dA b s) (hW : WP D b w H) (hS : va_S (Fb b) s.heap H locs) (hz : H.size = b + z) (hc : vwCl[ci]? = some (C, T, N)) {fs : List Value} (hfs : ∀ j, j < N → defaultValue (ty j) = vp_V fs j) (hcells : cells + 1 ≤ R.cells) (hslots : slots + N ≤ R.slots) (hdg : decode cc pc = .ok (.new index, 3))
    (kk : ∀ (H1 : Heap), WP D b (va_up w z (some (.inr (ci, fs)))) H1 → va_S (Fb b) s.heap H1 locs → H1.size = b + (z + 1) → W p l e R s m args below meth c H1 locs (cells + 1) (slots + N) Q (F0 m (pc + 3) ls (.ref (b + z) :: rest))) : W p l e R s m args below meth c H locs cells slots Q (F0 m pc ls rest) := by
  have hKn := hG.1.1 ci _ hc
  refine W.newcK hx hb hown hcl hinst hini rfl hdg hcells hslots hKn.2.1 hz fun H1 kC hkC e1 z1 o1 => ?_
  rw [← hz] at o1
  exact kk H1 (hW.grow hz.symm ⟨_, hc, (u_born ty hts hin hKn hkC e1 hty).to hfs⟩ o1) (hS.grow (by omega) o1) (by omega)
theorem q_newI {n : Nat} (hx : p.tables.exec = Jvm.exec) (hb : c.code = cc) (harr : (Cond.arrayClass .int).before args s = true) (hG : GX D dA b s) (hW : WP D b w H) (hS : va_S (Fb b) s.heap H locs) (hz : H.size = b + z) (hn : n < 2 ^ 20) (hcells : cells + 1 ≤ R.cells) (hslots : slots + n ≤ R.slots) (hdg : decode cc pc = .ok (.newarray .int, 2))
    (kk : ∀ (H1 : Heap), WP D b (va_up w z (some (eN dA n (fun _ => 0)))) H1 → va_S (Fb b) s.heap H1 locs → H1.size = b + (z + 1) → W p l e R s m args below meth c H1 locs (cells + 1) (slots + n) Q (F0 m (pc + 2) ls (.ref (b + z) :: rest))) : W p l e R s m args below meth c H locs cells slots Q (F0 m pc ls (.int (nI n) :: rest)) := by
  have e9 := nI_clamp (n := n) (by omega)
  refine va_newaK (atype := .int) (N := n) hx hb harr rfl hdg rfl (nI_pos (by omega)) e9 (by show n * 4 ≤ _; omega) hcells hslots hz fun H1 cA e1 z1 o1 hAr hNm => ?_
  have hcA : cA = dA 0 := Option.some.inj (hNm.symm.trans (hG.1.2 0 _ rfl).2)
  subst hcA
  rw [← hz] at o1
  exact kk H1 (hW.grow hz.symm (by show H1[b + z]? = some (vp_cell _ _); rw [e1, vp_cell_i]; rfl) o1) (hS.grow (by omega) o1) (by omega)
theorem q_newZ {n : Nat} (hx : p.tables.exec = Jvm.exec) (hb : c.code = cc) (harr : (Cond.arrayClass .boolean).before args s = true) (hG : GX D dA b s) (hW : WP D b w H) (hS : va_S (Fb b) s.heap H locs) (hz : H.size = b + z) (hn : n < 2 ^ 20) (hcells : cells + 1 ≤ R.cells) (hslots : slots + n ≤ R.slots) (hdg : decode cc pc = .ok (.newarray .boolean, 2))
    (kk : ∀ (H1 : Heap), WP D b (va_up w z (some (eZ dA n (fun _ => 0)))) H1 → va_S (Fb b) s.heap H1 locs → H1.size = b + (z + 1) → W p l e R s m args below meth c H1 locs (cells + 1) (slots + n) Q (F0 m (pc + 2) ls (.ref (b + z) :: rest))) : W p l e R s m args below meth c H locs cells slots Q (F0 m pc ls (.int (nI n) :: rest)) := by
  have e9 := nI_clamp (n := n) (by omega)
  refine va_newaK (atype := .boolean) (N := n) hx hb harr rfl hdg rfl (nI_pos (by omega)) e9 (by show n * 1 ≤ _; omega) hcells hslots hz fun H1 cA e1 z1 o1 hAr hNm => ?_
  have hcA : cA = dA 2 := Option.some.inj (hNm.symm.trans (hG.1.2 2 _ rfl).2)
  subst hcA
  rw [← hz] at o1
  exact kk H1 (hW.grow hz.symm (by show H1[b + z]? = some (vp_cell _ _); rw [e1, vp_cell_i]; rfl) o1) (hS.grow (by omega) o1) (by omega)
theorem q_newL {n : Nat} (hx : p.tables.exec = Jvm.exec) (hb : c.code = cc) (harr : (Cond.arrayClass .long).before args s = true) (hG : GX D dA b s) (hW : WP D b w H) (hS : va_S (Fb b) s.heap H locs) (hz : H.size = b + z) (hn : n < 2 ^ 20) (hcells : cells + 1 ≤ R.cells) (hslots : slots + n ≤ R.slots) (hdg : decode cc pc = .ok (.newarray .long, 2))
    (kk : ∀ (H1 : Heap), WP D b (va_up w z (some (eL dA n (fun _ => 0)))) H1 → va_S (Fb b) s.heap H1 locs → H1.size = b + (z + 1) → W p l e R s m args below meth c H1 locs (cells + 1) (slots + n) Q (F0 m (pc + 2) ls (.ref (b + z) :: rest))) : W p l e R s m args below meth c H locs cells slots Q (F0 m pc ls (.int (nI n) :: rest)) := by
  have e9 := nI_clamp (n := n) (by omega)
  refine va_newaK (atype := .long) (N := n) hx hb harr rfl hdg rfl (nI_pos (by omega)) e9 (by show n * 8 ≤ _; omega) hcells hslots hz fun H1 cA e1 z1 o1 hAr hNm => ?_
  have hcA : cA = dA 1 := Option.some.inj (hNm.symm.trans (hG.1.2 1 _ rfl).2)
  subst hcA
  rw [← hz] at o1
  exact kk H1 (hW.grow hz.symm (by show H1[b + z]? = some (vp_cell _ _); rw [e1, vp_cell_l]; rfl) o1) (hS.grow (by omega) o1) (by omega)
theorem q_newQ {n : Nat} {own : String} {index : Nat} (hx : p.tables.exec = Jvm.exec) (hb : c.code = cc) (hown : s.vm.findClass own = some m.cls) (hcl : (Cond.classLink own index "FoleyMixer$Play").before args s = true) (hG : GX D dA b s) (hW : WP D b w H) (hS : va_S (Fb b) s.heap H locs) (hz : H.size = b + z) (hn : n < 2 ^ 20) (hcells : cells + 1 ≤ R.cells) (hslots : slots + n ≤ R.slots) (hdg : decode cc pc = .ok (.anewarray index, 3))
    (kk : ∀ (H1 : Heap), WP D b (va_up w z (some (eQ dA n (fun _ => none)))) H1 → va_S (Fb b) s.heap H1 locs → H1.size = b + (z + 1) → W p l e R s m args below meth c H1 locs (cells + 1) (slots + n) Q (F0 m (pc + 3) ls (.ref (b + z) :: rest))) : W p l e R s m args below meth c H locs cells slots Q (F0 m pc ls (.int (nI n) :: rest)) := by
  have e9 := nI_clamp (n := n) (by omega)
  refine W.anew hx hb hown hcl (va_AO.use hG.2.2.2.2.2.2.2.2) rfl hdg rfl (nI_pos (by omega)) (by rw [e9]; omega) hcells (by rw [e9]; exact hslots) fun cA kA comp f1 f2 f3 f4 => ?_
  rw [e9]
  obtain ⟨kA', comp', g1, g2, g3, g4⟩ := (hG.1.2 3 _ rfl).2
  have hcA : cA = dA 3 := Option.some.inj (f1.symm.trans g4)
  subst hcA
  generalize hH1 : H.push ({ cls := dA 3, slots := Array.replicate n .null, vm := .none } : Cell) = H1
  have z1 : H1.size = H.size + 1 := by rw [← hH1, Array.size_push]
  have e1 : H1[H.size]? = some (arrV (dA 3) n (fun _ => .null)) := by rw [← hH1, Array.getElem?_push_size, ← arrV_new]
  have o1 : ∀ q : Nat, q < H.size → H1[q]? = H[q]? := fun q hq => by rw [← hH1, Array.getElem?_push, if_neg (Nat.ne_of_lt hq)]
  rw [hz] at e1 ⊢
  exact kk H1 (hW.grow hz.symm (by show H1[b + z]? = some (vp_cell _ _); rw [e1, vp_cell_q]; rfl) o1) (hS.grow z1 o1) (by omega)
theorem q_clone {own nm : String} {index i N : Nat} {L : List Nat} (hx : p.tables.exec = Jvm.exec) (hb : c.code = cc) (hml : c.maxLocals = ls.size) (hown : s.vm.findClass own = some m.cls)
    (hlink : (Cond.methodLink own index ⟨"[I", "clone", "()Ljava/lang/Object;"⟩).before args s = true) (hsame : (Cond.sameMethod "[I" "java/lang/Object" "clone" "()Ljava/lang/Object;").before args s = true)
    (hnat : (Cond.native ⟨"java/lang/Object", "clone", "()Ljava/lang/Object;"⟩).before args s = true) (hinst : (Cond.instanceMethod ⟨"java/lang/Object", "clone", "()Ljava/lang/Object;"⟩).before args s = true)
    (hsel : (Cond.selects "[I" ⟨"[I", "clone", "()Ljava/lang/Object;"⟩ ⟨"java/lang/Object", "clone", "()Ljava/lang/Object;"⟩).before args s = true) (hcl : va_Nw (.castable "[I" "java/lang/Cloneable") s)
    (hG : GX D dA b s) (hW : WP D b w H) (hS : va_S (Fb b) s.heap H locs) (hz : H.size = b + z) (hq : stT[i]? = some (nm, L)) (hL : L.length = N)
    (hframes : 1 ≤ R.frames) (hlocals : (rest.map fun v => v.category).sum + 14 ≤ R.locals) (hcells : cells + 1 ≤ R.cells) (hslots : slots + N ≤ R.slots) (hdg : decode cc pc = .ok (.invokevirtual index, 3))
    (kk : ∀ (H1 : Heap), WP D b (va_up w z (some (eN dA N (fun j => L.getD j 0)))) H1 → va_S (Fb b) s.heap H1 locs → H1.size = b + (z + 1) → W p l e R s m args below meth c H1 locs (cells + 1) (slots + N) Q (F0 m (pc + 3) ls (.ref (b + z) :: rest))) : W p l e R s m args below meth c H locs cells slots Q (F0 m pc ls (.ref (dA (10 + i)) :: rest)) := by
  obtain ⟨g1, ⟨g2, gE⟩, g3⟩ := hG.2.2.1 i _ hq
  have gq : H[dA (10 + i)]? = s.heap[dA (10 + i)]? := hS.2.1 _ g3.lt (Nat.not_le.mpr g2)
  obtain ⟨cell, a1, a2, a3⟩ := gE.kept gq
  obtain ⟨cell2, b1, b2, b3, b4, b5, b6⟩ := g3.kept gq
  cases Option.some.inj (a1.symm.trans b1)
  have a4 : cell.slots.size = N := a3.trans hL
  have b7 : ∀ j : Nat, j < N → cell.slots[j]? = some (.int (nI (L.getD j 0))) := fun j hj => b6 j (by rw [← hL] at hj; exact hj)
  obtain ⟨hob, kS, hkS, compS, hkindS⟩ := id b2
  have hcA : cell.cls = dA 0 := Option.some.inj (a2.symm.trans (va_nm_int (hG.1.2 0 _ rfl).2))
  obtain ⟨c0, t0, f1, f2, f3⟩ := Cond.castable_spec (va_Nw.use (A := args) rfl hcl)
  cases Option.some.inj (a2.symm.trans f1)
  intro T hT X
  have hcellT : T.heap[dA (10 + i)]? = some cell := by rw [hT]; exact a1
  obtain ⟨-, kA, hkA, comp, hkind⟩ := State.isArrayOf_alike X.warmed.alike b2
  obtain ⟨vm', X', st⟩ := X.cloneArray hx hown hlink hsame hnat hinst hsel (a := dA (10 + i)) (cell := cell) hcellT hob b3 a2 f2 f3
    (fun j v hv => by
      have hj : j < N := by
        have h9 := (Array.getElem?_eq_some_iff.mp hv).1
        omega
      have e9 := Option.some.inj ((b7 j hj).symm.trans hv)
      have hk' : T.vm.classes[cell.cls]? = some kA := hkA
      rw [← e9]
      simp [State.fitsSlot, State.slotType?, hk', hkind, fits])
    (g := F0 m pc ls (.ref (dA (10 + i)) :: rest)) rfl (by rw [hml]) rfl (by rw [hb]; exact hdg) hframes (by show 2 * 0 + _ + 14 ≤ _; omega) hcells (by rw [a4]; exact hslots) (hloader := Vm.clonesLoader_of_array hkS hkindS)
  have hsl : cell.slots = (arrV (dA 0) N (fun j => .int (nI (L.getD j 0)))).slots := by
    apply Array.ext_getElem?
    intro j
    by_cases hj : j < N
    · rw [b7 j hj, arrV_read _ _ hj]
    · rw [Array.getElem?_eq_none (by omega), Array.getElem?_eq_none (by rw [arrV_size]; omega)]
  have hce : ({ cls := cell.cls, slots := cell.slots } : Cell) = arrV (dA 0) N (fun j => .int (nI (L.getD j 0))) := by
    rw [hcA, hsl]; rfl
  rw [a4, hce] at X'
  rw [hce] at st
  generalize hH1 : H.push (arrV (dA 0) N (fun j => .int (nI (L.getD j 0)))) = H1
  have z1 : H1.size = H.size + 1 := by rw [← hH1, Array.size_push]
  have e1 : H1[H.size]? = some (arrV (dA 0) N (fun j => .int (nI (L.getD j 0)))) := by rw [← hH1, Array.getElem?_push_size]
  have o1 : ∀ q : Nat, q < H.size → H1[q]? = H[q]? := fun q hq => by rw [← hH1, Array.getElem?_push, if_neg (Nat.ne_of_lt hq)]
  obtain ⟨t, b8, b9⟩ := kk H1 (hW.grow hz.symm (by show H1[b + z]? = some (vp_cell _ _); rw [← hz, e1, vp_cell_i]) o1) (hS.grow z1 o1) (by omega) ((T.setVm vm').pushCell (arrV (dA 0) N (fun j => .int (nI (L.getD j 0))))) (by rw [← hH1, ← hT]; rfl) X'
  refine ⟨t, st t ?_, b9⟩
  rw [hT, hz]
  exact b8
theorem q_castI {n : Nat} {f : Nat → Int32} {k : Nat} {own : String} {index : Nat} (hx : p.tables.exec = Jvm.exec) (hb : c.code = cc) (hown : s.vm.findClass own = some m.cls) (hlink : (Cond.classLink own index "[I").before args s = true) (hG : GX D dA b s) (hW : WP D b w H) (hk : w k = some (eI dA n f)) (hdg : decode cc pc = .ok (.checkcast index, 3))
    (kk : W p l e R s m args below meth c H locs cells slots Q (F0 m (pc + 3) ls (.ref (b + k) :: rest))) : W p l e R s m args below meth c H locs cells slots Q (F0 m pc ls (.ref (b + k) :: rest)) :=
  va_castA hx hb hown hlink (hW.one hk) 0 rfl (va_nm_int (hG.1.2 0 _ rfl).2) hdg kk
end QN
section QV
variable {p : Program} {l : Launch} {e : Env} {R : Room} {s : State} {m : MethodId} {args : Array Value} {below : List Frame} {meth : Method} {c : Code} {H : Heap} {locs : List Loc} {cells slots : Nat} {Q : State → Prop}
variable {cc : ByteArray} {pc : Nat} {ls : Array Slot} {rest st0 : List Value} {D : va_G} {dA : Nat → Nat} {b : Nat} {w : Wd} {k : Nat}
theorem q_topv {v v' : Value} (h : v = v') (kk : W p l e R s m args below meth c H locs cells slots Q (F0 m pc ls (v' :: rest))) : W p l e R s m args below meth c H locs cells slots Q (F0 m pc ls (v :: rest)) := by
  rw [h]; exact kk
theorem q_alenq {n : Nat} {f : Nat → Option Nat} (hx : p.tables.exec = Jvm.exec) (hb : c.code = cc) (hG : GX D dA b s) (hW : WP D b w H) (hk : w k = some (eQ dA n f)) (hdg : decode cc pc = .ok (.arraylength, 1))
    (kk : W p l e R s m args below meth c H locs cells slots Q (F0 m (pc + 1) ls (.int (nI n) :: rest))) : W p l e R s m args below meth c H locs cells slots Q (F0 m pc ls (.ref (b + k) :: rest)) :=
  va_alen hx hb hG.1 (hW.one hk) 0 3 rfl rfl rfl hdg kk
end QV
