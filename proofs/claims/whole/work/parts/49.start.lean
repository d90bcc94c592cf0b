-- WHAT HOLDS AT THE LAW'S START
set_option maxRecDepth 20000 in
theorem nest_in : ∀ w ∈ nestW, w ∈ lw_tbl := by
  have hp : nestW = [498, 574, 630, 500, 502, 504, 125, 131, 146, 148, 152, 153, 155, 156, 167, 173, 175, 177, 179, 183, 203, 218, 231, 274, 278, 286, 290, 298, 301, 313, 324, 325, 337, 347, 351, 355, 363, 367, 376, 381, 385, 389, 394, 398, 399, 403, 411, 412, 417, 418, 425, 430, 431, 438, 439, 452, 464, 472, 473, 568, 588, 596, 597, 598, 624, 644, 658, 679, 688, 693, 701, 710, 711, 712, 716, 717, 733, 738, 769, 770, 774, 775, 779, 787, 791, 795, 807, 818, 822, 837, 845, 850].filterMap (fun i => lw_tbl[i]?) := by decide +kernel
  intro w hw
  rw [hp] at hw
  obtain ⟨i, -, hi⟩ := List.mem_filterMap.mp hw
  exact List.mem_of_getElem? hi
theorem nest_tab : ∀ w ∈ nestW, w.onTables = true := by decide +kernel
theorem arr_at {args : Array Value} {s : State} {ty : FieldType} (h : (Cond.arrayClass ty).before args s = true) : ∃ cA : ClassId, ArrOfT s cA ty ∧ s.vm.findClass ("[" ++ ty.toString) = some cA := by
  obtain ⟨cA, kA, comp, h1, h2, h3⟩ := Cond.arrayClass_spec h
  exact ⟨cA, fun n z => ⟨(fun k h => by cases h), kA, h2, comp, h3⟩, h1⟩
theorem AR.ofT {t N : Nat} {f : Nat → Int32} {A : Nat → Prop} {U : State} {H : Heap} (h : va_T .int t N (fun j => .int (f j)) A U H) : AR t N f U H := by
  obtain ⟨cell, h1, h2, h3, h4, h5, h6, h7⟩ := h
  exact ⟨cell, h1, h2, h3, h4, h5, h6⟩
set_option maxRecDepth 20000 in
theorem st_0 {args : Array Value} {s : State} (hs : ∀ c ∈ flatC (Jvm.Cond.and given_1 narrow_1), c.before args s = true) : ∃ t : Nat, (Term.static "FoleyMixer" "LEAST_OF_CUE" "[I").eval args s none [] s = some (.ref t) ∧ va_T .int t 3 (fun j => .int (nI (([0, 1, 1] : List Nat).getD j 0))) (fun q => s.heap.size ≤ q) s s.heap := by
  refine va_Tof (by decide) (hs (Cond.arrayOf (Term.static "FoleyMixer" "LEAST_OF_CUE" "[I") .int) (by decide +kernel)) (va_eqt (hs (Cond.eq (.length (Term.static "FoleyMixer" "LEAST_OF_CUE" "[I")) (.int 3)) (by decide +kernel))) (fun j hj => ?_) (fun a h => Nat.not_le.mpr h)
  rcases (show j = 0 ∨ j = 1 ∨ j = 2 by omega) with rfl | rfl | rfl
  · exact va_eqt (hs (Cond.eq (.elem (Term.static "FoleyMixer" "LEAST_OF_CUE" "[I") (.int 0)) (.int 0)) (by decide +kernel))
  · exact va_eqt (hs (Cond.eq (.elem (Term.static "FoleyMixer" "LEAST_OF_CUE" "[I") (.int 1)) (.int 1)) (by decide +kernel))
  · exact va_eqt (hs (Cond.eq (.elem (Term.static "FoleyMixer" "LEAST_OF_CUE" "[I") (.int 2)) (.int 1)) (by decide +kernel))
set_option maxRecDepth 20000 in
theorem st_1 {args : Array Value} {s : State} (hs : ∀ c ∈ flatC (Jvm.Cond.and given_1 narrow_1), c.before args s = true) : ∃ t : Nat, (Term.static "FoleyMixer" "MOST_OF_CUE" "[I").eval args s none [] s = some (.ref t) ∧ va_T .int t 3 (fun j => .int (nI (([99, 20, 30] : List Nat).getD j 0))) (fun q => s.heap.size ≤ q) s s.heap := by
  refine va_Tof (by decide) (hs (Cond.arrayOf (Term.static "FoleyMixer" "MOST_OF_CUE" "[I") .int) (by decide +kernel)) (va_eqt (hs (Cond.eq (.length (Term.static "FoleyMixer" "MOST_OF_CUE" "[I")) (.int 3)) (by decide +kernel))) (fun j hj => ?_) (fun a h => Nat.not_le.mpr h)
  rcases (show j = 0 ∨ j = 1 ∨ j = 2 by omega) with rfl | rfl | rfl
  · exact va_eqt (hs (Cond.eq (.elem (Term.static "FoleyMixer" "MOST_OF_CUE" "[I") (.int 0)) (.int 99)) (by decide +kernel))
  · exact va_eqt (hs (Cond.eq (.elem (Term.static "FoleyMixer" "MOST_OF_CUE" "[I") (.int 1)) (.int 20)) (by decide +kernel))
  · exact va_eqt (hs (Cond.eq (.elem (Term.static "FoleyMixer" "MOST_OF_CUE" "[I") (.int 2)) (.int 30)) (by decide +kernel))
set_option maxRecDepth 20000 in
theorem st_2 {args : Array Value} {s : State} (hs : ∀ c ∈ flatC (Jvm.Cond.and given_1 narrow_1), c.before args s = true) : ∃ t : Nat, (Term.static "FoleyMixer" "FIRST_SETTINGS" "[I").eval args s none [] s = some (.ref t) ∧ va_T .int t 5 (fun j => .int (nI (([6, 2, 1, 2, 0] : List Nat).getD j 0))) (fun q => s.heap.size ≤ q) s s.heap := by
  refine va_Tof (by decide) (hs (Cond.arrayOf (Term.static "FoleyMixer" "FIRST_SETTINGS" "[I") .int) (by decide +kernel)) (va_eqt (hs (Cond.eq (.length (Term.static "FoleyMixer" "FIRST_SETTINGS" "[I")) (.int 5)) (by decide +kernel))) (fun j hj => ?_) (fun a h => Nat.not_le.mpr h)
  rcases (show j = 0 ∨ j = 1 ∨ j = 2 ∨ j = 3 ∨ j = 4 by omega) with rfl | rfl | rfl | rfl | rfl
  · exact va_eqt (hs (Cond.eq (.elem (Term.static "FoleyMixer" "FIRST_SETTINGS" "[I") (.int 0)) (.int 6)) (by decide +kernel))
  · exact va_eqt (hs (Cond.eq (.elem (Term.static "FoleyMixer" "FIRST_SETTINGS" "[I") (.int 1)) (.int 2)) (by decide +kernel))
  · exact va_eqt (hs (Cond.eq (.elem (Term.static "FoleyMixer" "FIRST_SETTINGS" "[I") (.int 2)) (.int 1)) (by decide +kernel))
  · exact va_eqt (hs (Cond.eq (.elem (Term.static "FoleyMixer" "FIRST_SETTINGS" "[I") (.int 3)) (.int 2)) (by decide +kernel))
  · exact va_eqt (hs (Cond.eq (.elem (Term.static "FoleyMixer" "FIRST_SETTINGS" "[I") (.int 4)) (.int 0)) (by decide +kernel))
set_option maxRecDepth 20000 in
theorem st_3 {args : Array Value} {s : State} (hs : ∀ c ∈ flatC (Jvm.Cond.and given_1 narrow_1), c.before args s = true) : ∃ t : Nat, (Term.static "FoleyMixer" "LEAST_SETTINGS" "[I").eval args s none [] s = some (.ref t) ∧ va_T .int t 5 (fun j => .int (nI (([0, 1, 0, 0, 0] : List Nat).getD j 0))) (fun q => s.heap.size ≤ q) s s.heap := by
  refine va_Tof (by decide) (hs (Cond.arrayOf (Term.static "FoleyMixer" "LEAST_SETTINGS" "[I") .int) (by decide +kernel)) (va_eqt (hs (Cond.eq (.length (Term.static "FoleyMixer" "LEAST_SETTINGS" "[I")) (.int 5)) (by decide +kernel))) (fun j hj => ?_) (fun a h => Nat.not_le.mpr h)
  rcases (show j = 0 ∨ j = 1 ∨ j = 2 ∨ j = 3 ∨ j = 4 by omega) with rfl | rfl | rfl | rfl | rfl
  · exact va_eqt (hs (Cond.eq (.elem (Term.static "FoleyMixer" "LEAST_SETTINGS" "[I") (.int 0)) (.int 0)) (by decide +kernel))
  · exact va_eqt (hs (Cond.eq (.elem (Term.static "FoleyMixer" "LEAST_SETTINGS" "[I") (.int 1)) (.int 1)) (by decide +kernel))
  · exact va_eqt (hs (Cond.eq (.elem (Term.static "FoleyMixer" "LEAST_SETTINGS" "[I") (.int 2)) (.int 0)) (by decide +kernel))
  · exact va_eqt (hs (Cond.eq (.elem (Term.static "FoleyMixer" "LEAST_SETTINGS" "[I") (.int 3)) (.int 0)) (by decide +kernel))
  · exact va_eqt (hs (Cond.eq (.elem (Term.static "FoleyMixer" "LEAST_SETTINGS" "[I") (.int 4)) (.int 0)) (by decide +kernel))
set_option maxRecDepth 20000 in
theorem st_4 {args : Array Value} {s : State} (hs : ∀ c ∈ flatC (Jvm.Cond.and given_1 narrow_1), c.before args s = true) : ∃ t : Nat, (Term.static "FoleyMixer" "MOST_SETTINGS" "[I").eval args s none [] s = some (.ref t) ∧ va_T .int t 5 (fun j => .int (nI (([20, 20, 5, 10, 10] : List Nat).getD j 0))) (fun q => s.heap.size ≤ q) s s.heap := by
  refine va_Tof (by decide) (hs (Cond.arrayOf (Term.static "FoleyMixer" "MOST_SETTINGS" "[I") .int) (by decide +kernel)) (va_eqt (hs (Cond.eq (.length (Term.static "FoleyMixer" "MOST_SETTINGS" "[I")) (.int 5)) (by decide +kernel))) (fun j hj => ?_) (fun a h => Nat.not_le.mpr h)
  rcases (show j = 0 ∨ j = 1 ∨ j = 2 ∨ j = 3 ∨ j = 4 by omega) with rfl | rfl | rfl | rfl | rfl
  · exact va_eqt (hs (Cond.eq (.elem (Term.static "FoleyMixer" "MOST_SETTINGS" "[I") (.int 0)) (.int 20)) (by decide +kernel))
  · exact va_eqt (hs (Cond.eq (.elem (Term.static "FoleyMixer" "MOST_SETTINGS" "[I") (.int 1)) (.int 20)) (by decide +kernel))
  · exact va_eqt (hs (Cond.eq (.elem (Term.static "FoleyMixer" "MOST_SETTINGS" "[I") (.int 2)) (.int 5)) (by decide +kernel))
  · exact va_eqt (hs (Cond.eq (.elem (Term.static "FoleyMixer" "MOST_SETTINGS" "[I") (.int 3)) (.int 10)) (by decide +kernel))
  · exact va_eqt (hs (Cond.eq (.elem (Term.static "FoleyMixer" "MOST_SETTINGS" "[I") (.int 4)) (.int 10)) (by decide +kernel))
set_option maxRecDepth 20000 in
theorem st_5 {args : Array Value} {s : State} (hs : ∀ c ∈ flatC (Jvm.Cond.and given_1 narrow_1), c.before args s = true) : ∃ t : Nat, (Term.static "FoleyMixer" "SIGN_BEHIND" "[I").eval args s none [] s = some (.ref t) ∧ va_T .int t 3 (fun j => .int (nI (([43, 64, 59] : List Nat).getD j 0))) (fun q => s.heap.size ≤ q) s s.heap := by
  refine va_Tof (by decide) (hs (Cond.arrayOf (Term.static "FoleyMixer" "SIGN_BEHIND" "[I") .int) (by decide +kernel)) (va_eqt (hs (Cond.eq (.length (Term.static "FoleyMixer" "SIGN_BEHIND" "[I")) (.int 3)) (by decide +kernel))) (fun j hj => ?_) (fun a h => Nat.not_le.mpr h)
  rcases (show j = 0 ∨ j = 1 ∨ j = 2 by omega) with rfl | rfl | rfl
  · exact va_eqt (hs (Cond.eq (.elem (Term.static "FoleyMixer" "SIGN_BEHIND" "[I") (.int 0)) (.int 43)) (by decide +kernel))
  · exact va_eqt (hs (Cond.eq (.elem (Term.static "FoleyMixer" "SIGN_BEHIND" "[I") (.int 1)) (.int 64)) (by decide +kernel))
  · exact va_eqt (hs (Cond.eq (.elem (Term.static "FoleyMixer" "SIGN_BEHIND" "[I") (.int 2)) (.int 59)) (by decide +kernel))
set_option maxHeartbeats 1000000 in
set_option maxRecDepth 20000 in
theorem gx_start {args : Array Value} {s : State} (hts : ∀ w ∈ lw_tbl, w.before args s = true) (hN : (Jvm.Cond.and given_1 narrow_1).before args s = true) : ∃ (D : va_G) (dA : Nat → Nat), GX D dA s.heap.size s := by
  have hs := flat_of_before _ hN
  obtain ⟨cX0, iSX0, hKnX0⟩ := u_known (C := RX0) (T := TX0) (N := 3) (n := 3) hts inX0 (hts (.instantiable RX0 3) (List.mem_of_getElem? (i := 230) (by decide +kernel)))
  obtain ⟨cX1, iSX1, hKnX1⟩ := u_known (C := RX1) (T := TX1) (N := 3) (n := 3) hts inX1 (hts (.instantiable RX1 3) (List.mem_of_getElem? (i := 130) (by decide +kernel)))
  obtain ⟨cX2, iSX2, hKnX2⟩ := u_known (C := RX2) (T := TX2) (N := 2) (n := 2) hts inX2 (hts (.instantiable RX2 2) (List.mem_of_getElem? (i := 202) (by decide +kernel)))
  obtain ⟨cX3, iSX3, hKnX3⟩ := u_known (C := RX3) (T := TX3) (N := 8) (n := 8) hts inX3 (hts (.instantiable RX3 8) (List.mem_of_getElem? (i := 166) (by decide +kernel)))
  obtain ⟨cX4, iSX4, hKnX4⟩ := u_known (C := RX4) (T := TX4) (N := 3) (n := 3) hts inX4 (hts (.instantiable RX4 3) (List.mem_of_getElem? (i := 124) (by decide +kernel)))
  obtain ⟨cX5, iSX5, hKnX5⟩ := u_known (C := RX5) (T := TX5) (N := 2) (n := 2) hts inX5 (hts (.instantiable RX5 2) (List.mem_of_getElem? (i := 217) (by decide +kernel)))
  obtain ⟨cX6, iSX6, hKnX6⟩ := u_known (C := RX6) (T := TX6) (N := 8) (n := 8) hts inX6 (hts (.instantiable RX6 8) (List.mem_of_getElem? (i := 116) (by decide +kernel)))
  obtain ⟨cX7, iSX7, hKnX7⟩ := u_known (C := RX7) (T := TX7) (N := 14) (n := 14) hts inX7 (hts (.instantiable RX7 14) (List.mem_of_getElem? (i := 880) (by decide +kernel)))
  obtain ⟨cA0, hA0, hF0⟩ := arr_at (hts (.arrayClass .int) (List.mem_of_getElem? (i := 145) (by decide +kernel)))
  obtain ⟨cA1, hA1, hF1⟩ := arr_at (hts (.arrayClass .long) (List.mem_of_getElem? (i := 1188) (by decide +kernel)))
  obtain ⟨cA2, hA2, hF2⟩ := arr_at (hts (.arrayClass .boolean) (List.mem_of_getElem? (i := 928) (by decide +kernel)))
  have hov := (hts (.arrayOver (.object "FoleyMixer$Play")) (List.mem_of_getElem? (i := 208) (by decide +kernel)))
  obtain ⟨cQ, cA3, kQ, q1, q2, q3, q4, q5⟩ := Cond.arrayOver_spec hov
  obtain ⟨t0, ht0, hT0⟩ := st_0 hs
  obtain ⟨t1, ht1, hT1⟩ := st_1 hs
  obtain ⟨t2, ht2, hT2⟩ := st_2 hs
  obtain ⟨t3, ht3, hT3⟩ := st_3 hs
  obtain ⟨t4, ht4, hT4⟩ := st_4 hs
  obtain ⟨t5, ht5, hT5⟩ := st_5 hs
  have hx0 := (hts (.stringRef "FoleyMixer" 269 "an argument is out of range") (List.mem_of_getElem? (i := 537) (by decide +kernel)))
  obtain ⟨-, -, -, a0, -, -, -, -, -, he0⟩ := Cond.stringRef_spec hKnX6.2.1 hx0
  have hx1 := (hts (.stringRef "FoleyMixer" 283 "there is no room for one more") (List.mem_of_getElem? (i := 581) (by decide +kernel)))
  obtain ⟨-, -, -, a1, -, -, -, -, -, he1⟩ := Cond.stringRef_spec hKnX6.2.1 hx1
  have hx2 := (hts (.stringRef "FoleyMixer" 274 "no such word or noise") (List.mem_of_getElem? (i := 637) (by decide +kernel)))
  obtain ⟨-, -, -, a2, -, -, -, -, -, he2⟩ := Cond.stringRef_spec hKnX6.2.1 hx2
  have hx3 := (hts (.stringRef "FoleyMixer" 94 "by is out of range") (List.mem_of_getElem? (i := 656) (by decide +kernel)))
  obtain ⟨-, -, -, a3, -, -, -, -, -, he3⟩ := Cond.stringRef_spec hKnX6.2.1 hx3
  have hx4 := (hts (.stringRef "FoleyMixer" 107 "the start would be out of range") (List.mem_of_getElem? (i := 657) (by decide +kernel)))
  obtain ⟨-, -, -, a4, -, -, -, -, -, he4⟩ := Cond.stringRef_spec hKnX6.2.1 hx4
  have hx5 := (hts (.stringRef "FoleyMixer" 112 "loud is out of range") (List.mem_of_getElem? (i := 666) (by decide +kernel)))
  obtain ⟨-, -, -, a5, -, -, -, -, -, he5⟩ := Cond.stringRef_spec hKnX6.2.1 hx5
  have hx6 := (hts (.stringRef "FoleyMixer" 276 "no such setting") (List.mem_of_getElem? (i := 677) (by decide +kernel)))
  obtain ⟨-, -, -, a6, -, -, -, -, -, he6⟩ := Cond.stringRef_spec hKnX6.2.1 hx6
  have hx7 := (hts (.stringRef "FoleyMixer" 278 "value is out of range") (List.mem_of_getElem? (i := 678) (by decide +kernel)))
  obtain ⟨-, -, -, a7, -, -, -, -, -, he7⟩ := Cond.stringRef_spec hKnX6.2.1 hx7
  have hx8 := (hts (.stringRef "FoleyMixer" 124 "code is out of range") (List.mem_of_getElem? (i := 687) (by decide +kernel)))
  obtain ⟨-, -, -, a8, -, -, -, -, -, he8⟩ := Cond.stringRef_spec hKnX6.2.1 hx8
  have hx9 := (hts (.stringRef "FoleyMixer" 132 "the buffer is full") (List.mem_of_getElem? (i := 692) (by decide +kernel)))
  obtain ⟨-, -, -, a9, -, -, -, -, -, he9⟩ := Cond.stringRef_spec hKnX6.2.1 hx9
  have hx10 := (hts (.stringRef "FoleyMixer" 149 "the buffer is not a complete script text") (List.mem_of_getElem? (i := 705) (by decide +kernel)))
  obtain ⟨-, -, -, a10, -, -, -, -, -, he10⟩ := Cond.stringRef_spec hKnX6.2.1 hx10
  have hx11 := (hts (.stringRef "FoleyMixer" 158 "index is negative") (List.mem_of_getElem? (i := 725) (by decide +kernel)))
  obtain ⟨-, -, -, a11, -, -, -, -, -, he11⟩ := Cond.stringRef_spec hKnX6.2.1 hx11
  have hx12 := (hts (.stringRef "FoleyMixer" 164 "no state is saved") (List.mem_of_getElem? (i := 737) (by decide +kernel)))
  obtain ⟨-, -, -, a12, -, -, -, -, -, he12⟩ := Cond.stringRef_spec hKnX6.2.1 hx12
  have hx13 := (hts (.stringRef "FoleyMixer" 169 "no such slot") (List.mem_of_getElem? (i := 749) (by decide +kernel)))
  obtain ⟨-, -, -, a13, -, -, -, -, -, he13⟩ := Cond.stringRef_spec hKnX6.2.1 hx13
  have hx14 := (hts (.stringRef "FoleyMixer" 174 "the slot is empty") (List.mem_of_getElem? (i := 757) (by decide +kernel)))
  obtain ⟨-, -, -, a14, -, -, -, -, -, he14⟩ := Cond.stringRef_spec hKnX6.2.1 hx14
  have hx15 := (hts (.stringRef "FoleyMixer" 280 "there is no such thing to tell") (List.mem_of_getElem? (i := 768) (by decide +kernel)))
  obtain ⟨-, -, -, a15, -, -, -, -, -, he15⟩ := Cond.stringRef_spec hKnX6.2.1 hx15
  have hx16 := (hts (.stringRef "FoleyMixer" 206 "no such second") (List.mem_of_getElem? (i := 806) (by decide +kernel)))
  obtain ⟨-, -, -, a16, -, -, -, -, -, he16⟩ := Cond.stringRef_spec hKnX6.2.1 hx16
  refine ⟨(fun k => [cX0, cX1, cX2, cX3, cX4, cX5, cX6, cX7].getD k 0, fun k => [iSX0, iSX1, iSX2, iSX3, iSX4, iSX5, iSX6, iSX7].getD k (fun _ => 0)), fun k => if k < 10 then [cA0, cA1, cA2, cA3].getD k 0 else if k < 20 then [t0, t1, t2, t3, t4, t5].getD (k - 10) 0 else [a0, a1, a2, a3, a4, a5, a6, a7, a8, a9, a10, a11, a12, a13, a14, a15, a16].getD (k - 20) 0, ⟨fun k q hq => ?_, fun k q hq => ?_⟩, fun w hw => va_tabs (nest_tab w hw) rfl (hts w (nest_in w hw)), fun i q hq => ?_, fun i q hq => ?_, ?_, ?_, ?_, ?_, ?_⟩
  · match k, hq with
    | 0, hq => cases hq; exact hKnX0
    | 1, hq => cases hq; exact hKnX1
    | 2, hq => cases hq; exact hKnX2
    | 3, hq => cases hq; exact hKnX3
    | 4, hq => cases hq; exact hKnX4
    | 5, hq => cases hq; exact hKnX5
    | 6, hq => cases hq; exact hKnX6
    | 7, hq => cases hq; exact hKnX7
    | k + 8, hq => cases hq
  · match k, hq with
    | 0, hq => cases hq; exact ⟨hA0, hF0⟩
    | 1, hq => cases hq; exact ⟨hA1, hF1⟩
    | 2, hq => cases hq; exact ⟨hA2, hF2⟩
    | 3, hq => cases hq; exact ⟨fun n z => ⟨(fun k h => by cases h), kQ, q3, cQ, q4⟩, kQ, cQ, q3, q4, q1, q5⟩
    | k + 4, hq => cases hq
  · match i, hq with
    | 0, hq => cases hq; exact ⟨va_Zref (hts (.laysStatic "FoleyMixer" "LEAST_OF_CUE" "[I") (List.mem_of_getElem? (i := 329) (by decide +kernel))) (hts (.initialized "FoleyMixer") (List.mem_of_getElem? (i := 99) (by decide +kernel))) ht0 (fun a h => Nat.not_le.mpr h), Nat.not_le.mp hT0.choose_spec.2.2.2.2.2.2, AR.ofT hT0⟩
    | 1, hq => cases hq; exact ⟨va_Zref (hts (.laysStatic "FoleyMixer" "MOST_OF_CUE" "[I") (List.mem_of_getElem? (i := 332) (by decide +kernel))) (hts (.initialized "FoleyMixer") (List.mem_of_getElem? (i := 99) (by decide +kernel))) ht1 (fun a h => Nat.not_le.mpr h), Nat.not_le.mp hT1.choose_spec.2.2.2.2.2.2, AR.ofT hT1⟩
    | 2, hq => cases hq; exact ⟨va_Zref (hts (.laysStatic "FoleyMixer" "FIRST_SETTINGS" "[I") (List.mem_of_getElem? (i := 147) (by decide +kernel))) (hts (.initialized "FoleyMixer") (List.mem_of_getElem? (i := 99) (by decide +kernel))) ht2 (fun a h => Nat.not_le.mpr h), Nat.not_le.mp hT2.choose_spec.2.2.2.2.2.2, AR.ofT hT2⟩
    | 3, hq => cases hq; exact ⟨va_Zref (hts (.laysStatic "FoleyMixer" "LEAST_SETTINGS" "[I") (List.mem_of_getElem? (i := 391) (by decide +kernel))) (hts (.initialized "FoleyMixer") (List.mem_of_getElem? (i := 99) (by decide +kernel))) ht3 (fun a h => Nat.not_le.mpr h), Nat.not_le.mp hT3.choose_spec.2.2.2.2.2.2, AR.ofT hT3⟩
    | 4, hq => cases hq; exact ⟨va_Zref (hts (.laysStatic "FoleyMixer" "MOST_SETTINGS" "[I") (List.mem_of_getElem? (i := 393) (by decide +kernel))) (hts (.initialized "FoleyMixer") (List.mem_of_getElem? (i := 99) (by decide +kernel))) ht4 (fun a h => Nat.not_le.mpr h), Nat.not_le.mp hT4.choose_spec.2.2.2.2.2.2, AR.ofT hT4⟩
    | 5, hq => cases hq; exact ⟨va_Zref (hts (.laysStatic "FoleyMixer" "SIGN_BEHIND" "[I") (List.mem_of_getElem? (i := 338) (by decide +kernel))) (hts (.initialized "FoleyMixer") (List.mem_of_getElem? (i := 99) (by decide +kernel))) ht5 (fun a h => Nat.not_le.mpr h), Nat.not_le.mp hT5.choose_spec.2.2.2.2.2.2, AR.ofT hT5⟩
    | k + 6, hq => cases hq
  · match i, hq with
    | 0, hq => cases hq; exact vk_R.of hx0 he0
    | 1, hq => cases hq; exact vk_R.of hx1 he1
    | 2, hq => cases hq; exact vk_R.of hx2 he2
    | 3, hq => cases hq; exact vk_R.of hx3 he3
    | 4, hq => cases hq; exact vk_R.of hx4 he4
    | 5, hq => cases hq; exact vk_R.of hx5 he5
    | 6, hq => cases hq; exact vk_R.of hx6 he6
    | 7, hq => cases hq; exact vk_R.of hx7 he7
    | 8, hq => cases hq; exact vk_R.of hx8 he8
    | 9, hq => cases hq; exact vk_R.of hx9 he9
    | 10, hq => cases hq; exact vk_R.of hx10 he10
    | 11, hq => cases hq; exact vk_R.of hx11 he11
    | 12, hq => cases hq; exact vk_R.of hx12 he12
    | 13, hq => cases hq; exact vk_R.of hx13 he13
    | 14, hq => cases hq; exact vk_R.of hx14 he14
    | 15, hq => cases hq; exact vk_R.of hx15 he15
    | 16, hq => cases hq; exact vk_R.of hx16 he16
    | k + 17, hq => cases hq
  · exact vx_Zqof (hts (.laysStatic "java/lang/Throwable" "UNASSIGNED_STACK" "[Ljava/lang/StackTraceElement;") (List.mem_of_getElem? (i := 523) (by decide +kernel))) (hts (.initialized "java/lang/Throwable") (List.mem_of_getElem? (i := 107) (by decide +kernel))) (hs (Cond.isRef (.static Bundle.tN "UNASSIGNED_STACK" Bundle.steD)) (by decide +kernel)) (fun a h => Nat.not_le.mpr h)
  · exact vx_Zqof (hts (.laysStatic "java/lang/Throwable" "SUPPRESSED_SENTINEL" "Ljava/util/List;") (List.mem_of_getElem? (i := 525) (by decide +kernel))) (hts (.initialized "java/lang/Throwable") (List.mem_of_getElem? (i := 107) (by decide +kernel))) (hs (Cond.isRef (.static Bundle.tN "SUPPRESSED_SENTINEL" Bundle.listD)) (by decide +kernel)) (fun a h => Nat.not_le.mpr h)
  · exact va_Nc.of (hs (Cond.not (.castable "java/lang/IllegalStateException" "java/lang/IllegalArgumentException")) (by decide +kernel))
  · exact va_Nc.of (hs (Cond.not (.castable "java/lang/IllegalArgumentException" "java/lang/IndexOutOfBoundsException")) (by decide +kernel))
  · exact va_AO.of hov
