-- WHAT HOLDS AT THE LAW'S START
set_option maxRecDepth 20000 in
theorem nest_in : ∀ w ∈ nestW, w ∈ lw_tbl := by
  have hp : nestW = [507, 583, 639, 509, 511, 513, 125, 131, 137, 152, 162, 163, 165, 166, 176, 178, 180, 182, 184, 188, 208, 224, 237, 280, 284, 292, 296, 304, 307, 319, 330, 331, 343, 353, 357, 361, 369, 373, 382, 387, 391, 395, 398, 403, 407, 408, 412, 420, 421, 426, 427, 434, 439, 440, 447, 448, 461, 473, 481, 482, 577, 597, 605, 606, 607, 633, 653, 667, 688, 697, 702, 710, 719, 720, 721, 725, 726, 742, 747, 759, 779, 780, 784, 785, 789, 797, 801, 805, 817, 828, 832, 847, 855, 860, 159].filterMap (fun i => lw_tbl[i]?) := by decide +kernel
  intro w hw
  rw [hp] at hw
  obtain ⟨i, -, hi⟩ := List.mem_filterMap.mp hw
  exact List.mem_of_getElem? hi
theorem nest_tab : ∀ w ∈ nestW, w.onTables = true := by decide +kernel
theorem arr_at {args : Array Value} {s : State} {ty : FieldType} (h : (Cond.arrayClass ty).before args s = true) : ∃ cA : ClassId, ArrOfT s cA ty ∧ s.vm.findClass ("[" ++ ty.toString) = some cA := by
  obtain ⟨cA, kA, comp, h1, h2, h3⟩ := Cond.arrayClass_spec h
  exact ⟨cA, fun n z => ⟨(fun k h => by cases h), kA, h2, comp, h3⟩, h1⟩
theorem EX.of {args : Array Value} {s : State} {tm : Term} {t N : Nat} (hN : N < 2 ^ 31) (ht : tm.eval args s none [] s = some (.ref t)) (hex : (Cond.exactly tm "[I").before args s = true) (hlen : (Term.length tm).eval args s none [] s = some (.int (Int32.ofNat N))) : EX t N s s.heap := by
  obtain ⟨a, c, cell, k, q1, q2, q3, q4, q5, q6, -⟩ := Cond.exactly_spec (args := args) (first := s) (o := none) (s := s) (idx := []) (t := tm) (cls := "[I") hex
  cases ht.symm.trans q1
  refine ⟨cell, q3, by rw [q6]; exact q2, ?_⟩
  obtain ⟨a2, cell2, r1, r2, -⟩ := Term.length_spec hlen
  cases ht.symm.trans r1
  obtain ⟨r3, -⟩ := State.arrayAt?_spec r2
  cases Option.some.inj (q3.symm.trans r3)
  simp only [Term.eval, Option.bind_eq_bind, ht, r2, Option.bind_some] at hlen
  split at hlen
  · rename_i h9
    have h8 : nI cell.slots.size = nI N := by injection hlen with h7; injection h7
    exact (nI_eq h9 hN).mp h8
  · cases hlen
theorem AR.ofT {t N : Nat} {f : Nat → Int32} {A : Nat → Prop} {U : State} {H : Heap} (h : va_T .int t N (fun j => .int (f j)) A U H) : AR t N f U H := by
  obtain ⟨cell, h1, h2, h3, h4, h5, h6, h7⟩ := h
  exact ⟨cell, h1, h2, h3, h4, h5, h6⟩
set_option maxRecDepth 20000 in
theorem st_0 {args : Array Value} {s : State} (hs : ∀ c ∈ flatC (Jvm.Cond.and given_1 narrow_1), c.before args s = true) : ∃ t : Nat, (Term.static "FoleyMixer" "LEAST_OF_CUE" "[I").eval args s none [] s = some (.ref t) ∧ va_T .int t 3 (fun j => .int (nI (([0, 1, 1] : List Nat).getD j 0))) (fun q => s.heap.size ≤ q) s s.heap := by
  refine va_Tof (by decide) (hs (Cond.arrayOf (Term.static "FoleyMixer" "LEAST_OF_CUE" "[I") .int) (by decide +kernel)) (va_eqt (hs (Cond.eq (.length (Term.static "FoleyMixer" "LEAST_OF_CUE" "[I")) (.int 3)) (by decide +kernel))) (fun j hj => ?_) (fun a h => Nat.not_le.mpr h)
  rcases (show j = 0 ∨ j = 1 ∨ j = 2 by omega) with rfl | rfl | rfl
  · exact va_eqt (hs (Cond.eq (.elem (Term.static "FoleyMixer" "LEAST_OF_CUE" "[I") (.int 0)) (.int 0)) (by decide +kernel))
  · exact va_eqt (hs (Cond.eq (.elem (Term.static "FoleyMixer" "LEAST_OF_CUE" "[I") (.int 1)) (.int 1)) (by decide +kernel))
  · exact va_eqt (hs (Cond.eq (.elem (Term.static "FoleyMixer" "LEAST_OF_CUE" "[I") (.int 2)) (.int 1)) (by decide +kernel))
set_option maxRecDepth 20000 in
theorem stx_0 {args : Array Value} {s : State} {t : Nat} (hs : ∀ c ∈ flatC (Jvm.Cond.and given_1 narrow_1), c.before args s = true) (ht : (Term.static "FoleyMixer" "LEAST_OF_CUE" "[I").eval args s none [] s = some (.ref t)) : EX t 3 s s.heap :=
  EX.of (by decide) ht (hs (Cond.exactly (Term.static "FoleyMixer" "LEAST_OF_CUE" "[I") "[I") (by decide +kernel)) (va_eqt (hs (Cond.eq (.length (Term.static "FoleyMixer" "LEAST_OF_CUE" "[I")) (.int 3)) (by decide +kernel)))
set_option maxRecDepth 20000 in
theorem st_1 {args : Array Value} {s : State} (hs : ∀ c ∈ flatC (Jvm.Cond.and given_1 narrow_1), c.before args s = true) : ∃ t : Nat, (Term.static "FoleyMixer" "MOST_OF_CUE" "[I").eval args s none [] s = some (.ref t) ∧ va_T .int t 3 (fun j => .int (nI (([99, 20, 30] : List Nat).getD j 0))) (fun q => s.heap.size ≤ q) s s.heap := by
  refine va_Tof (by decide) (hs (Cond.arrayOf (Term.static "FoleyMixer" "MOST_OF_CUE" "[I") .int) (by decide +kernel)) (va_eqt (hs (Cond.eq (.length (Term.static "FoleyMixer" "MOST_OF_CUE" "[I")) (.int 3)) (by decide +kernel))) (fun j hj => ?_) (fun a h => Nat.not_le.mpr h)
  rcases (show j = 0 ∨ j = 1 ∨ j = 2 by omega) with rfl | rfl | rfl
  · exact va_eqt (hs (Cond.eq (.elem (Term.static "FoleyMixer" "MOST_OF_CUE" "[I") (.int 0)) (.int 99)) (by decide +kernel))
  · exact va_eqt (hs (Cond.eq (.elem (Term.static "FoleyMixer" "MOST_OF_CUE" "[I") (.int 1)) (.int 20)) (by decide +kernel))
  · exact va_eqt (hs (Cond.eq (.elem (Term.static "FoleyMixer" "MOST_OF_CUE" "[I") (.int 2)) (.int 30)) (by decide +kernel))
set_option maxRecDepth 20000 in
theorem stx_1 {args : Array Value} {s : State} {t : Nat} (hs : ∀ c ∈ flatC (Jvm.Cond.and given_1 narrow_1), c.before args s = true) (ht : (Term.static "FoleyMixer" "MOST_OF_CUE" "[I").eval args s none [] s = some (.ref t)) : EX t 3 s s.heap :=
  EX.of (by decide) ht (hs (Cond.exactly (Term.static "FoleyMixer" "MOST_OF_CUE" "[I") "[I") (by decide +kernel)) (va_eqt (hs (Cond.eq (.length (Term.static "FoleyMixer" "MOST_OF_CUE" "[I")) (.int 3)) (by decide +kernel)))
set_option maxRecDepth 20000 in
theorem st_2 {args : Array Value} {s : State} (hs : ∀ c ∈ flatC (Jvm.Cond.and given_1 narrow_1), c.before args s = true) : ∃ t : Nat, (Term.static "FoleyMixer" "FIRST_SETTINGS" "[I").eval args s none [] s = some (.ref t) ∧ va_T .int t 5 (fun j => .int (nI (([6, 2, 1, 2, 0] : List Nat).getD j 0))) (fun q => s.heap.size ≤ q) s s.heap := by
  refine va_Tof (by decide) (hs (Cond.arrayOf (Term.static "FoleyMixer" "FIRST_SETTINGS" "[I") .int) (by decide +kernel)) (va_eqt (hs (Cond.eq (.length (Term.static "FoleyMixer" "FIRST_SETTINGS" "[I")) (.int 5)) (by decide +kernel))) (fun j hj => ?_) (fun a h => Nat.not_le.mpr h)
  rcases (show j = 0 ∨ j = 1 ∨ j = 2 ∨ j = 3 ∨ j = 4 by omega) with rfl | rfl | rfl | rfl | rfl
  · exact va_eqt (hs (Cond.eq (.elem (Term.static "FoleyMixer" "FIRST_SETTINGS" "[I") (.int 0)) (.int 6)) (by decide +kernel))
  · exact va_eqt (hs (Cond.eq (.elem (Term.static "FoleyMixer" "FIRST_SETTINGS" "[I") (.int 1)) (.int 2)) (by decide +kernel))
  · exact va_eqt (hs (Cond.eq (.elem (Term.static "FoleyMixer" "FIRST_SETTINGS" "[I") (.int 2)) (.int 1)) (by decide +kernel))
  · exact va_eqt (hs (Cond.eq (.elem (Term.static "FoleyMixer" "FIRST_SETTINGS" "[I") (.int 3)) (.int 2)) (by decide +kernel))
  · exact va_eqt (hs (Cond.eq (.elem (Term.static "FoleyMixer" "FIRST_SETTINGS" "[I") (.int 4)) (.int 0)) (by decide +kernel))
set_option maxRecDepth 20000 in
theorem stx_2 {args : Array Value} {s : State} {t : Nat} (hs : ∀ c ∈ flatC (Jvm.Cond.and given_1 narrow_1), c.before args s = true) (ht : (Term.static "FoleyMixer" "FIRST_SETTINGS" "[I").eval args s none [] s = some (.ref t)) : EX t 5 s s.heap :=
  EX.of (by decide) ht (hs (Cond.exactly (Term.static "FoleyMixer" "FIRST_SETTINGS" "[I") "[I") (by decide +kernel)) (va_eqt (hs (Cond.eq (.length (Term.static "FoleyMixer" "FIRST_SETTINGS" "[I")) (.int 5)) (by decide +kernel)))
set_option maxRecDepth 20000 in
theorem st_3 {args : Array Value} {s : State} (hs : ∀ c ∈ flatC (Jvm.Cond.and given_1 narrow_1), c.before args s = true) : ∃ t : Nat, (Term.static "FoleyMixer" "LEAST_SETTINGS" "[I").eval args s none [] s = some (.ref t) ∧ va_T .int t 5 (fun j => .int (nI (([0, 1, 0, 0, 0] : List Nat).getD j 0))) (fun q => s.heap.size ≤ q) s s.heap := by
  refine va_Tof (by decide) (hs (Cond.arrayOf (Term.static "FoleyMixer" "LEAST_SETTINGS" "[I") .int) (by decide +kernel)) (va_eqt (hs (Cond.eq (.length (Term.static "FoleyMixer" "LEAST_SETTINGS" "[I")) (.int 5)) (by decide +kernel))) (fun j hj => ?_) (fun a h => Nat.not_le.mpr h)
  rcases (show j = 0 ∨ j = 1 ∨ j = 2 ∨ j = 3 ∨ j = 4 by omega) with rfl | rfl | rfl | rfl | rfl
  · exact va_eqt (hs (Cond.eq (.elem (Term.static "FoleyMixer" "LEAST_SETTINGS" "[I") (.int 0)) (.int 0)) (by decide +kernel))
  · exact va_eqt (hs (Cond.eq (.elem (Term.static "FoleyMixer" "LEAST_SETTINGS" "[I") (.int 1)) (.int 1)) (by decide +kernel))
  · exact va_eqt (hs (Cond.eq (.elem (Term.static "FoleyMixer" "LEAST_SETTINGS" "[I") (.int 2)) (.int 0)) (by decide +kernel))
  · exact va_eqt (hs (Cond.eq (.elem (Term.static "FoleyMixer" "LEAST_SETTINGS" "[I") (.int 3)) (.int 0)) (by decide +kernel))
  · exact va_eqt (hs (Cond.eq (.elem (Term.static "FoleyMixer" "LEAST_SETTINGS" "[I") (.int 4)) (.int 0)) (by decide +kernel))
set_option maxRecDepth 20000 in
theorem stx_3 {args : Array Value} {s : State} {t : Nat} (hs : ∀ c ∈ flatC (Jvm.Cond.and given_1 narrow_1), c.before args s = true) (ht : (Term.static "FoleyMixer" "LEAST_SETTINGS" "[I").eval args s none [] s = some (.ref t)) : EX t 5 s s.heap :=
  EX.of (by decide) ht (hs (Cond.exactly (Term.static "FoleyMixer" "LEAST_SETTINGS" "[I") "[I") (by decide +kernel)) (va_eqt (hs (Cond.eq (.length (Term.static "FoleyMixer" "LEAST_SETTINGS" "[I")) (.int 5)) (by decide +kernel)))
set_option maxRecDepth 20000 in
theorem st_4 {args : Array Value} {s : State} (hs : ∀ c ∈ flatC (Jvm.Cond.and given_1 narrow_1), c.before args s = true) : ∃ t : Nat, (Term.static "FoleyMixer" "MOST_SETTINGS" "[I").eval args s none [] s = some (.ref t) ∧ va_T .int t 5 (fun j => .int (nI (([20, 20, 5, 10, 10] : List Nat).getD j 0))) (fun q => s.heap.size ≤ q) s s.heap := by
  refine va_Tof (by decide) (hs (Cond.arrayOf (Term.static "FoleyMixer" "MOST_SETTINGS" "[I") .int) (by decide +kernel)) (va_eqt (hs (Cond.eq (.length (Term.static "FoleyMixer" "MOST_SETTINGS" "[I")) (.int 5)) (by decide +kernel))) (fun j hj => ?_) (fun a h => Nat.not_le.mpr h)
  rcases (show j = 0 ∨ j = 1 ∨ j = 2 ∨ j = 3 ∨ j = 4 by omega) with rfl | rfl | rfl | rfl | rfl
  · exact va_eqt (hs (Cond.eq (.elem (Term.static "FoleyMixer" "MOST_SETTINGS" "[I") (.int 0)) (.int 20)) (by decide +kernel))
  · exact va_eqt (hs (Cond.eq (.elem (Term.static "FoleyMixer" "MOST_SETTINGS" "[I") (.int 1)) (.int 20)) (by decide +kernel))
  · exact va_eqt (hs (Cond.eq (.elem (Term.static "FoleyMixer" "MOST_SETTINGS" "[I") (.int 2)) (.int 5)) (by decide +kernel))
  · exact va_eqt (hs (Cond.eq (.elem (Term.static "FoleyMixer" "MOST_SETTINGS" "[I") (.int 3)) (.int 10)) (by decide +kernel))
  · exact va_eqt (hs (Cond.eq (.elem (Term.static "FoleyMixer" "MOST_SETTINGS" "[I") (.int 4)) (.int 10)) (by decide +kernel))
set_option maxRecDepth 20000 in
theorem stx_4 {args : Array Value} {s : State} {t : Nat} (hs : ∀ c ∈ flatC (Jvm.Cond.and given_1 narrow_1), c.before args s = true) (ht : (Term.static "FoleyMixer" "MOST_SETTINGS" "[I").eval args s none [] s = some (.ref t)) : EX t 5 s s.heap :=
  EX.of (by decide) ht (hs (Cond.exactly (Term.static "FoleyMixer" "MOST_SETTINGS" "[I") "[I") (by decide +kernel)) (va_eqt (hs (Cond.eq (.length (Term.static "FoleyMixer" "MOST_SETTINGS" "[I")) (.int 5)) (by decide +kernel)))
set_option maxRecDepth 20000 in
theorem st_5 {args : Array Value} {s : State} (hs : ∀ c ∈ flatC (Jvm.Cond.and given_1 narrow_1), c.before args s = true) : ∃ t : Nat, (Term.static "FoleyMixer" "SIGN_BEHIND" "[I").eval args s none [] s = some (.ref t) ∧ va_T .int t 3 (fun j => .int (nI (([43, 64, 59] : List Nat).getD j 0))) (fun q => s.heap.size ≤ q) s s.heap := by
  refine va_Tof (by decide) (hs (Cond.arrayOf (Term.static "FoleyMixer" "SIGN_BEHIND" "[I") .int) (by decide +kernel)) (va_eqt (hs (Cond.eq (.length (Term.static "FoleyMixer" "SIGN_BEHIND" "[I")) (.int 3)) (by decide +kernel))) (fun j hj => ?_) (fun a h => Nat.not_le.mpr h)
  rcases (show j = 0 ∨ j = 1 ∨ j = 2 by omega) with rfl | rfl | rfl
  · exact va_eqt (hs (Cond.eq (.elem (Term.static "FoleyMixer" "SIGN_BEHIND" "[I") (.int 0)) (.int 43)) (by decide +kernel))
  · exact va_eqt (hs (Cond.eq (.elem (Term.static "FoleyMixer" "SIGN_BEHIND" "[I") (.int 1)) (.int 64)) (by decide +kernel))
  · exact va_eqt (hs (Cond.eq (.elem (Term.static "FoleyMixer" "SIGN_BEHIND" "[I") (.int 2)) (.int 59)) (by decide +kernel))
set_option maxRecDepth 20000 in
theorem stx_5 {args : Array Value} {s : State} {t : Nat} (hs : ∀ c ∈ flatC (Jvm.Cond.and given_1 narrow_1), c.before args s = true) (ht : (Term.static "FoleyMixer" "SIGN_BEHIND" "[I").eval args s none [] s = some (.ref t)) : EX t 3 s s.heap :=
  EX.of (by decide) ht (hs (Cond.exactly (Term.static "FoleyMixer" "SIGN_BEHIND" "[I") "[I") (by decide +kernel)) (va_eqt (hs (Cond.eq (.length (Term.static "FoleyMixer" "SIGN_BEHIND" "[I")) (.int 3)) (by decide +kernel)))
set_option maxHeartbeats 1000000 in
set_option maxRecDepth 20000 in
theorem gx_start {args : Array Value} {s : State} (hts : ∀ w ∈ lw_tbl, w.before args s = true) (hN : (Jvm.Cond.and given_1 narrow_1).before args s = true) : ∃ (D : va_G) (dA : Nat → Nat), GX D dA s.heap.size s := by
  have hs := flat_of_before _ hN
  obtain ⟨cX0, iSX0, hKnX0⟩ := u_known (C := RX0) (T := TX0) (N := 3) (n := 3) hts inX0 (hts (.instantiable RX0 3) (List.mem_of_getElem? (i := 236) (by decide +kernel)))
  obtain ⟨cX1, iSX1, hKnX1⟩ := u_known (C := RX1) (T := TX1) (N := 3) (n := 3) hts inX1 (hts (.instantiable RX1 3) (List.mem_of_getElem? (i := 136) (by decide +kernel)))
  obtain ⟨cX2, iSX2, hKnX2⟩ := u_known (C := RX2) (T := TX2) (N := 2) (n := 2) hts inX2 (hts (.instantiable RX2 2) (List.mem_of_getElem? (i := 207) (by decide +kernel)))
  obtain ⟨cX3, iSX3, hKnX3⟩ := u_known (C := RX3) (T := TX3) (N := 8) (n := 8) hts inX3 (hts (.instantiable RX3 8) (List.mem_of_getElem? (i := 124) (by decide +kernel)))
  obtain ⟨cX4, iSX4, hKnX4⟩ := u_known (C := RX4) (T := TX4) (N := 3) (n := 3) hts inX4 (hts (.instantiable RX4 3) (List.mem_of_getElem? (i := 130) (by decide +kernel)))
  obtain ⟨cX5, iSX5, hKnX5⟩ := u_known (C := RX5) (T := TX5) (N := 2) (n := 2) hts inX5 (hts (.instantiable RX5 2) (List.mem_of_getElem? (i := 223) (by decide +kernel)))
  obtain ⟨cX6, iSX6, hKnX6⟩ := u_known (C := RX6) (T := TX6) (N := 8) (n := 8) hts inX6 (hts (.instantiable RX6 8) (List.mem_of_getElem? (i := 116) (by decide +kernel)))
  obtain ⟨cX7, iSX7, hKnX7⟩ := u_known (C := RX7) (T := TX7) (N := 14) (n := 14) hts inX7 (hts (.instantiable RX7 14) (List.mem_of_getElem? (i := 890) (by decide +kernel)))
  obtain ⟨cA0, hA0, hF0⟩ := arr_at (hts (.arrayClass .int) (List.mem_of_getElem? (i := 151) (by decide +kernel)))
  obtain ⟨cA1, hA1, hF1⟩ := arr_at (hts (.arrayClass .long) (List.mem_of_getElem? (i := 1198) (by decide +kernel)))
  obtain ⟨cA2, hA2, hF2⟩ := arr_at (hts (.arrayClass .boolean) (List.mem_of_getElem? (i := 938) (by decide +kernel)))
  have hov := (hts (.arrayOver (.object "FoleyMixer$Play")) (List.mem_of_getElem? (i := 213) (by decide +kernel)))
  obtain ⟨cQ, cA3, kQ, q1, q2, q3, q4, q5⟩ := Cond.arrayOver_spec hov
  obtain ⟨t0, ht0, hT0⟩ := st_0 hs
  obtain ⟨t1, ht1, hT1⟩ := st_1 hs
  obtain ⟨t2, ht2, hT2⟩ := st_2 hs
  obtain ⟨t3, ht3, hT3⟩ := st_3 hs
  obtain ⟨t4, ht4, hT4⟩ := st_4 hs
  obtain ⟨t5, ht5, hT5⟩ := st_5 hs
  have hx0 := (hts (.stringRef "FoleyMixer" 271 "an argument is out of range") (List.mem_of_getElem? (i := 546) (by decide +kernel)))
  obtain ⟨-, -, -, a0, -, -, -, -, -, he0⟩ := Cond.stringRef_spec hKnX6.2.1 hx0
  have hx1 := (hts (.stringRef "FoleyMixer" 285 "there is no room for one more") (List.mem_of_getElem? (i := 590) (by decide +kernel)))
  obtain ⟨-, -, -, a1, -, -, -, -, -, he1⟩ := Cond.stringRef_spec hKnX6.2.1 hx1
  have hx2 := (hts (.stringRef "FoleyMixer" 276 "no such word or noise") (List.mem_of_getElem? (i := 646) (by decide +kernel)))
  obtain ⟨-, -, -, a2, -, -, -, -, -, he2⟩ := Cond.stringRef_spec hKnX6.2.1 hx2
  have hx3 := (hts (.stringRef "FoleyMixer" 95 "by is out of range") (List.mem_of_getElem? (i := 665) (by decide +kernel)))
  obtain ⟨-, -, -, a3, -, -, -, -, -, he3⟩ := Cond.stringRef_spec hKnX6.2.1 hx3
  have hx4 := (hts (.stringRef "FoleyMixer" 108 "the start would be out of range") (List.mem_of_getElem? (i := 666) (by decide +kernel)))
  obtain ⟨-, -, -, a4, -, -, -, -, -, he4⟩ := Cond.stringRef_spec hKnX6.2.1 hx4
  have hx5 := (hts (.stringRef "FoleyMixer" 113 "loud is out of range") (List.mem_of_getElem? (i := 675) (by decide +kernel)))
  obtain ⟨-, -, -, a5, -, -, -, -, -, he5⟩ := Cond.stringRef_spec hKnX6.2.1 hx5
  have hx6 := (hts (.stringRef "FoleyMixer" 278 "no such setting") (List.mem_of_getElem? (i := 686) (by decide +kernel)))
  obtain ⟨-, -, -, a6, -, -, -, -, -, he6⟩ := Cond.stringRef_spec hKnX6.2.1 hx6
  have hx7 := (hts (.stringRef "FoleyMixer" 280 "value is out of range") (List.mem_of_getElem? (i := 687) (by decide +kernel)))
  obtain ⟨-, -, -, a7, -, -, -, -, -, he7⟩ := Cond.stringRef_spec hKnX6.2.1 hx7
  have hx8 := (hts (.stringRef "FoleyMixer" 125 "code is out of range") (List.mem_of_getElem? (i := 696) (by decide +kernel)))
  obtain ⟨-, -, -, a8, -, -, -, -, -, he8⟩ := Cond.stringRef_spec hKnX6.2.1 hx8
  have hx9 := (hts (.stringRef "FoleyMixer" 133 "the buffer is full") (List.mem_of_getElem? (i := 701) (by decide +kernel)))
  obtain ⟨-, -, -, a9, -, -, -, -, -, he9⟩ := Cond.stringRef_spec hKnX6.2.1 hx9
  have hx10 := (hts (.stringRef "FoleyMixer" 150 "the buffer is not a complete script text") (List.mem_of_getElem? (i := 714) (by decide +kernel)))
  obtain ⟨-, -, -, a10, -, -, -, -, -, he10⟩ := Cond.stringRef_spec hKnX6.2.1 hx10
  have hx11 := (hts (.stringRef "FoleyMixer" 159 "index is negative") (List.mem_of_getElem? (i := 734) (by decide +kernel)))
  obtain ⟨-, -, -, a11, -, -, -, -, -, he11⟩ := Cond.stringRef_spec hKnX6.2.1 hx11
  have hx12 := (hts (.stringRef "FoleyMixer" 165 "no state is saved") (List.mem_of_getElem? (i := 746) (by decide +kernel)))
  obtain ⟨-, -, -, a12, -, -, -, -, -, he12⟩ := Cond.stringRef_spec hKnX6.2.1 hx12
  have hx13 := (hts (.stringRef "FoleyMixer" 170 "no such slot") (List.mem_of_getElem? (i := 758) (by decide +kernel)))
  obtain ⟨-, -, -, a13, -, -, -, -, -, he13⟩ := Cond.stringRef_spec hKnX6.2.1 hx13
  have hx14 := (hts (.stringRef "FoleyMixer" 176 "the slot is empty") (List.mem_of_getElem? (i := 767) (by decide +kernel)))
  obtain ⟨-, -, -, a14, -, -, -, -, -, he14⟩ := Cond.stringRef_spec hKnX6.2.1 hx14
  have hx15 := (hts (.stringRef "FoleyMixer" 282 "there is no such thing to tell") (List.mem_of_getElem? (i := 778) (by decide +kernel)))
  obtain ⟨-, -, -, a15, -, -, -, -, -, he15⟩ := Cond.stringRef_spec hKnX6.2.1 hx15
  have hx16 := (hts (.stringRef "FoleyMixer" 208 "no such second") (List.mem_of_getElem? (i := 816) (by decide +kernel)))
  obtain ⟨-, -, -, a16, -, -, -, -, -, he16⟩ := Cond.stringRef_spec hKnX6.2.1 hx16
  refine ⟨(fun k => [cX0, cX1, cX2, cX3, cX4, cX5, cX6, cX7].getD k 0, fun k => [iSX0, iSX1, iSX2, iSX3, iSX4, iSX5, iSX6, iSX7].getD k (fun _ => 0)), fun k => if k < 10 then [cA0, cA1, cA2, cA3].getD k 0 else if k < 20 then [t0, t1, t2, t3, t4, t5].getD (k - 10) 0 else [a0, a1, a2, a3, a4, a5, a6, a7, a8, a9, a10, a11, a12, a13, a14, a15, a16].getD (k - 20) 0, ⟨fun k q hq => ?_, fun k q hq => ?_⟩, fun w hw => va_tabs (nest_tab w hw) rfl (hts w (nest_in w hw)), fun i q hq => ?_, fun i q hq => ?_, ?_, ?_, ?_, ?_, ?_⟩
  · match k, hq with
    | 0, hq => cases hq; exact hKnX0
    | 1, hq => cases hq; exact hKnX1
    | 2, hq => cases hq; exact hKnX2
    | 3, hq => cases hq; exact hKnX3
    | 4, hq => cases hq; exact hKnX4
    | 5, hq => cases hq; exact hKnX5
    | 6, hq => cases hq; exact hKnX6
    | 7, hq => cases hq; exact hKnX7
    | k + 8, hq => cases hq
  · match k, hq with
    | 0, hq => cases hq; exact ⟨hA0, hF0⟩
    | 1, hq => cases hq; exact ⟨hA1, hF1⟩
    | 2, hq => cases hq; exact ⟨hA2, hF2⟩
    | 3, hq => cases hq; exact ⟨fun n z => ⟨(fun k h => by cases h), kQ, q3, cQ, q4⟩, kQ, cQ, q3, q4, q1, q5⟩
    | k + 4, hq => cases hq
  · match i, hq with
    | 0, hq => cases hq; exact ⟨va_Zref (hts (.laysStatic "FoleyMixer" "LEAST_OF_CUE" "[I") (List.mem_of_getElem? (i := 335) (by decide +kernel))) (hts (.initialized "FoleyMixer") (List.mem_of_getElem? (i := 99) (by decide +kernel))) ht0 (fun a h => Nat.not_le.mpr h), ⟨Nat.not_le.mp hT0.choose_spec.2.2.2.2.2.2, stx_0 hs ht0⟩, AR.ofT hT0⟩
    | 1, hq => cases hq; exact ⟨va_Zref (hts (.laysStatic "FoleyMixer" "MOST_OF_CUE" "[I") (List.mem_of_getElem? (i := 338) (by decide +kernel))) (hts (.initialized "FoleyMixer") (List.mem_of_getElem? (i := 99) (by decide +kernel))) ht1 (fun a h => Nat.not_le.mpr h), ⟨Nat.not_le.mp hT1.choose_spec.2.2.2.2.2.2, stx_1 hs ht1⟩, AR.ofT hT1⟩
    | 2, hq => cases hq; exact ⟨va_Zref (hts (.laysStatic "FoleyMixer" "FIRST_SETTINGS" "[I") (List.mem_of_getElem? (i := 153) (by decide +kernel))) (hts (.initialized "FoleyMixer") (List.mem_of_getElem? (i := 99) (by decide +kernel))) ht2 (fun a h => Nat.not_le.mpr h), ⟨Nat.not_le.mp hT2.choose_spec.2.2.2.2.2.2, stx_2 hs ht2⟩, AR.ofT hT2⟩
    | 3, hq => cases hq; exact ⟨va_Zref (hts (.laysStatic "FoleyMixer" "LEAST_SETTINGS" "[I") (List.mem_of_getElem? (i := 400) (by decide +kernel))) (hts (.initialized "FoleyMixer") (List.mem_of_getElem? (i := 99) (by decide +kernel))) ht3 (fun a h => Nat.not_le.mpr h), ⟨Nat.not_le.mp hT3.choose_spec.2.2.2.2.2.2, stx_3 hs ht3⟩, AR.ofT hT3⟩
    | 4, hq => cases hq; exact ⟨va_Zref (hts (.laysStatic "FoleyMixer" "MOST_SETTINGS" "[I") (List.mem_of_getElem? (i := 402) (by decide +kernel))) (hts (.initialized "FoleyMixer") (List.mem_of_getElem? (i := 99) (by decide +kernel))) ht4 (fun a h => Nat.not_le.mpr h), ⟨Nat.not_le.mp hT4.choose_spec.2.2.2.2.2.2, stx_4 hs ht4⟩, AR.ofT hT4⟩
    | 5, hq => cases hq; exact ⟨va_Zref (hts (.laysStatic "FoleyMixer" "SIGN_BEHIND" "[I") (List.mem_of_getElem? (i := 344) (by decide +kernel))) (hts (.initialized "FoleyMixer") (List.mem_of_getElem? (i := 99) (by decide +kernel))) ht5 (fun a h => Nat.not_le.mpr h), ⟨Nat.not_le.mp hT5.choose_spec.2.2.2.2.2.2, stx_5 hs ht5⟩, AR.ofT hT5⟩
    | k + 6, hq => cases hq
  · match i, hq with
    | 0, hq => cases hq; exact vk_R.of hx0 he0
    | 1, hq => cases hq; exact vk_R.of hx1 he1
    | 2, hq => cases hq; exact vk_R.of hx2 he2
    | 3, hq => cases hq; exact vk_R.of hx3 he3
    | 4, hq => cases hq; exact vk_R.of hx4 he4
    | 5, hq => cases hq; exact vk_R.of hx5 he5
    | 6, hq => cases hq; exact vk_R.of hx6 he6
    | 7, hq => cases hq; exact vk_R.of hx7 he7
    | 8, hq => cases hq; exact vk_R.of hx8 he8
    | 9, hq => cases hq; exact vk_R.of hx9 he9
    | 10, hq => cases hq; exact vk_R.of hx10 he10
    | 11, hq => cases hq; exact vk_R.of hx11 he11
    | 12, hq => cases hq; exact vk_R.of hx12 he12
    | 13, hq => cases hq; exact vk_R.of hx13 he13
    | 14, hq => cases hq; exact vk_R.of hx14 he14
    | 15, hq => cases hq; exact vk_R.of hx15 he15
    | 16, hq => cases hq; exact vk_R.of hx16 he16
    | k + 17, hq => cases hq
  · exact vx_Zqof (hts (.laysStatic "java/lang/Throwable" "UNASSIGNED_STACK" "[Ljava/lang/StackTraceElement;") (List.mem_of_getElem? (i := 532) (by decide +kernel))) (hts (.initialized "java/lang/Throwable") (List.mem_of_getElem? (i := 107) (by decide +kernel))) (hs (Cond.isRef (.static Bundle.tN "UNASSIGNED_STACK" Bundle.steD)) (by decide +kernel)) (fun a h => Nat.not_le.mpr h)
  · exact vx_Zqof (hts (.laysStatic "java/lang/Throwable" "SUPPRESSED_SENTINEL" "Ljava/util/List;") (List.mem_of_getElem? (i := 534) (by decide +kernel))) (hts (.initialized "java/lang/Throwable") (List.mem_of_getElem? (i := 107) (by decide +kernel))) (hs (Cond.isRef (.static Bundle.tN "SUPPRESSED_SENTINEL" Bundle.listD)) (by decide +kernel)) (fun a h => Nat.not_le.mpr h)
  · exact va_Nc.of (hs (Cond.not (.castable "java/lang/IllegalStateException" "java/lang/IllegalArgumentException")) (by decide +kernel))
  · exact va_Nc.of (hs (Cond.not (.castable "java/lang/IllegalArgumentException" "java/lang/IndexOutOfBoundsException")) (by decide +kernel))
  · exact va_AO.of hov
