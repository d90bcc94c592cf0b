-- THE WORLD: a partial map from ids to cells; the cell of id k lies at the address b + k. Descriptor: D (classes, slots), dA (array classes at 0 to 3, static arrays' addresses at 10 + i, text constants' addresses at 20 + i), b (the first address of ours)
abbrev Wd : Type := Nat → Option va_E
def WP (D : va_G) (b : Nat) (w : Wd) (H : Heap) : Prop := ∀ (k : Nat) (e : va_E), w k = some e → va_at D vwCl (b + k, e) H
theorem WP.one {D : va_G} {b : Nat} {w : Wd} {H : Heap} (h : WP D b w H) {k : Nat} {e : va_E} (hk : w k = some e) : va_P D vwCl [(b + k, e)] H := by
  intro i q hq
  match i, hq with
  | 0, hq => cases hq; exact h k e hk
  | i + 1, hq => simp at hq
theorem WP.lt {D : va_G} {b : Nat} {w : Wd} {H : Heap} (h : WP D b w H) {k : Nat} {e : va_E} (hk : w k = some e) : b + k < H.size := (h k e hk).lt
theorem WP.fresh {D : va_G} {b : Nat} {w : Wd} {H : Heap} (h : WP D b w H) {k : Nat} (hk : H.size ≤ b + k) : w k = none := by
  cases hw : w k with
  | none => rfl
  | some e => exact absurd (h.lt hw) (Nat.not_lt.mpr hk)
theorem WP.set {D : va_G} {b : Nat} {w : Wd} {H H1 : Heap} (h : WP D b w H) {k : Nat} {e : va_E} (he : va_at D vwCl (b + k, e) H1) (oq : ∀ q : Nat, q ≠ b + k → H1[q]? = H[q]?) : WP D b (va_up w k (some e)) H1 := by
  intro i x hx
  by_cases hi : i = k
  · subst hi
    simp only [va_up, if_pos] at hx
    cases hx
    exact he
  · simp only [va_up, if_neg hi] at hx
    exact (h i x hx).kept (oq _ (by show b + i ≠ b + k; omega))
theorem WP.grow {D : va_G} {b : Nat} {w : Wd} {H H1 : Heap} (h : WP D b w H) {k : Nat} {e : va_E} (hk : b + k = H.size) (he : va_at D vwCl (b + k, e) H1) (oq : ∀ q : Nat, q < H.size → H1[q]? = H[q]?) : WP D b (va_up w k (some e)) H1 := by
  intro i x hx
  by_cases hi : i = k
  · subst hi
    simp only [va_up, if_pos] at hx
    cases hx
    exact he
  · simp only [va_up, if_neg hi] at hx
    exact (h i x hx).kept (oq _ (h.lt hx))
theorem WP.kept {D : va_G} {b : Nat} {w : Wd} {H H1 : Heap} (h : WP D b w H) (oq : ∀ q : Nat, q < H.size → H1[q]? = H[q]?) : WP D b w H1 := fun k e hk => (h k e hk).kept (oq _ (h.lt hk))
theorem WP.less {D : va_G} {b : Nat} {w w1 : Wd} {H : Heap} (h : WP D b w H) (hw : ∀ k e, w1 k = some e → w k = some e) : WP D b w1 H := fun k e hk => h k e (hw k e hk)
theorem up_eq {w : Wd} {k : Nat} {e : Option va_E} : va_up w k e k = e := by simp [va_up]
theorem up_ne {w : Wd} {k j : Nat} {e : Option va_E} (h : j ≠ k) : va_up w k e j = w j := by simp [va_up, h]
-- what an array of ints at an address holds, by its first N places (own arrays, static arrays)
def AR (t N : Nat) (f : Nat → Int32) (U : State) (H : Heap) : Prop := ∃ cell : Cell, H[t]? = some cell ∧ U.isArrayOf cell .int ∧ cell.vm ≠ .unknown ∧ N ≤ cell.slots.size ∧ cell.slots.size.toInt32 = Int32.ofNat N ∧ ∀ j : Nat, j < N → cell.slots[j]? = some (.int (f j))
abbrev TY (dA : Nat → Nat) : List (ClassId × FieldType) := [(dA 0, .int), (dA 1, .long), (dA 2, .boolean), (dA 3, .object "FoleyMixer$Play")]
abbrev eI (dA : Nat → Nat) (n : Nat) (f : Nat → Int32) : va_E := .inl (dA 0, (n, .inl f))
abbrev eN (dA : Nat → Nat) (n : Nat) (f : Nat → Nat) : va_E := .inl (dA 0, (n, .inl (fun j => nI (f j))))
abbrev eL (dA : Nat → Nat) (n : Nat) (f : Nat → Int64) : va_E := .inl (dA 1, (n, .inr (.inl f)))
abbrev eZ (dA : Nat → Nat) (n : Nat) (f : Nat → Int32) : va_E := .inl (dA 2, (n, .inl f))
abbrev eQ (dA : Nat → Nat) (n : Nat) (f : Nat → Option Nat) : va_E := .inl (dA 3, (n, .inr (.inr (.inr (.inr f)))))
def nestW : List Cond := [.castable "java/lang/IllegalArgumentException" "java/lang/IllegalArgumentException", .castable "java/lang/IllegalStateException" "java/lang/IllegalStateException", .castable "java/lang/IndexOutOfBoundsException" "java/lang/IndexOutOfBoundsException", .declares ⟨"java/lang/RuntimeException", "<init>", "(Ljava/lang/String;)V"⟩, .declares ⟨"java/lang/Exception", "<init>", "(Ljava/lang/String;)V"⟩, .declares ⟨"java/lang/Throwable", "<init>", "(Ljava/lang/String;)V"⟩, .methodLinkNest RX6 9 yX3_init RX6, .methodLinkNest RX3 11 yX4_init RX6, .methodLinkNest RX4 11 yX1_init RX6, .fieldLinkNest RX4 23 "FoleyMixer" "FIRST_SETTINGS" "[I" RX6, .fieldLinkNest RX3 40 "FoleyMixer$Play" "words" "LFoleyMixer$Cues;" RX6, .fieldLinkNest RX6 60 "FoleyMixer$Play" "words" "LFoleyMixer$Cues;" RX6, .fieldLinkNest RX3 49 "FoleyMixer$Play" "noises" "LFoleyMixer$Cues;" RX6, .fieldLinkNest RX6 68 "FoleyMixer$Play" "noises" "LFoleyMixer$Cues;" RX6, .fieldLinkNest RX6 19 "FoleyMixer$Mix" "play" "LFoleyMixer$Play;" RX6, .fieldLinkNest RX6 219 "FoleyMixer$Mix" "words" "[I" RX6, .fieldLinkNest RX6 221 "FoleyMixer$Mix" "noises" "[I" RX6, .fieldLinkNest RX6 211 "FoleyMixer$Mix" "ducking" "[I" RX6, .fieldLinkNest RX6 229 "FoleyMixer$Mix" "strongest" "[I" RX6, .fieldLinkNest RX6 226 "FoleyMixer$Mix" "masked" "[I" RX6, .methodLinkNest RX6 31 yX2_init RX6, .methodLinkNest RX6 44 yX5_init RX6, .methodLinkNest RX6 51 yX0_init RX6, .methodLinkNest RX6 139 yX5_size RX6, .methodLinkNest RX6 140 yX5_clear RX6, .methodLinkNest RX6 143 yX5_errorFor RX6, .methodLinkNest RX5 23 yX0_restart RX6, .methodLinkNest RX5 19 yX6_entry RX6, .methodLinkNest RX5 32 yX0_take RX6, .methodLinkNest RX0 44 yX6_put RX6, .methodLinkNest RX0 22 yX6_entry RX6, .methodLinkNest RX0 48 yX6_fitsCue RX6, .fieldLinkNest RX0 52 "FoleyMixer" "SIGN_BEHIND" "[I" RX6, .methodLinkNest RX6 71 yX4_cuesOf RX6, .methodLinkNest RX6 89 yX1_size RX6, .methodLinkNest RX6 301 yX1_isHard RX6, .methodLinkNest RX6 304 yX5_addCue RX6, .methodLinkNest RX5 36 yX1_numberOf RX6, .fieldLinkNest RX5 49 "FoleyMixer" "SIGN_BEHIND" "[I" RX6, .methodLinkNest RX6 173 yX4_copyFrom RX6, .methodLinkNest RX4 39 yX1_copyFrom RX6, .methodLinkNest RX1 46 yX6_copyRow RX6, .methodLinkNest RX4 43 yX6_copyRow RX6, .methodLinkNest RX6 123 yX4_change RX6, .methodLinkNest RX4 35 yX6_put RX6, .methodLinkNest RX6 181 yX3_refresh RX6, .methodLinkNest RX3 43 yX1_markSounding RX6, .methodLinkNest RX1 42 yX6_entry RX6, .methodLinkNest RX1 30 yX6_put RX6, .methodLinkNest RX3 61 yX6_entry RX6, .methodLinkNest RX3 65 yX4_settingOf RX6, .methodLinkNest RX3 75 yX6_put RX6, .methodLinkNest RX3 86 yX1_size RX6, .methodLinkNest RX3 90 yX6_hasBit RX6, .methodLinkNest RX3 79 yX1_numberOf RX6, .methodLinkNest RX3 82 yX1_isHard RX6, .methodLinkNest RX6 238 yX3_understood RX6, .methodLinkNest RX6 259 yX1_all RX6, .methodLinkNest RX6 100 yX1_numberOf RX6, .methodLinkNest RX6 241 yX3_maskedSeconds RX6, .methodLinkNest RX6 284 yX1_isFull RX6, .methodLinkNest RX6 79 yX2_push RX6, .methodLinkNest RX2 24 yX4_init RX6, .methodLinkNest RX2 25 yX4_copyFrom RX6, .methodLinkNest RX6 287 yX1_add RX6, .methodLinkNest RX6 273 yX1_has RX6, .methodLinkNest RX6 83 yX1_drop RX6, .methodLinkNest RX6 110 yX1_change RX6, .methodLinkNest RX6 119 yX4_settingOf RX6, .methodLinkNest RX6 127 yX5_isFull RX6, .methodLinkNest RX6 136 yX5_add RX6, .methodLinkNest RX6 147 yX0_isComplete RX6, .methodLinkNest RX6 290 yX0_restart RX6, .methodLinkNest RX6 161 yX5_codeAt RX6, .methodLinkNest RX6 293 yX0_kind RX6, .methodLinkNest RX6 296 yX0_numberOf RX6, .methodLinkNest RX6 298 yX0_take RX6, .methodLinkNest RX6 164 yX2_size RX6, .methodLinkNest RX6 167 yX2_popInto RX6, .methodLinkNest RX6 172 yX4_init RX6, .methodLinkNest RX6 184 yX3_maskedSecondsOf RX6, .methodLinkNest RX6 187 yX3_firstMaskedOf RX6, .methodLinkNest RX6 190 yX3_isUnderstood RX6, .methodLinkNest RX6 194 yX3_greatestCoverOf RX6, .methodLinkNest RX3 114 yX1_endOf RX6, .methodLinkNest RX6 197 yX3_strengthSumOf RX6, .methodLinkNest RX6 200 yX3_maskingSecondsOf RX6, .methodLinkNest RX6 203 yX3_duckedSecondsOf RX6, .methodLinkNest RX6 223 yX3_noiseLevel RX6, .methodLinkNest RX6 232 yX1_loudnessByCue RX6, .methodLinkNest RX6 235 yX1_loudnessAt RX6, .methodLinkNest RX6 244 yX3_lastSound RX6, .methodLinkNest RX6 247 yX3_silentSeconds RX6, .methodLinkNest RX6 250 yX3_greatestMasker RX6, .castable "[I" "java/lang/Cloneable"]
def stT : List (String × List Nat) := [("LEAST_OF_CUE", [0, 1, 1]), ("MOST_OF_CUE", [99, 20, 30]), ("FIRST_SETTINGS", [6, 2, 1, 2, 0]), ("LEAST_SETTINGS", [0, 1, 0, 0, 0]), ("MOST_SETTINGS", [20, 20, 5, 10, 10]), ("SIGN_BEHIND", [43, 64, 59])]
def sxT : List (String × Nat × String) := [("FoleyMixer", 271, "an argument is out of range"), ("FoleyMixer", 285, "there is no room for one more"), ("FoleyMixer", 276, "no such word or noise"), ("FoleyMixer", 95, "by is out of range"), ("FoleyMixer", 108, "the start would be out of range"), ("FoleyMixer", 113, "loud is out of range"), ("FoleyMixer", 278, "no such setting"), ("FoleyMixer", 280, "value is out of range"), ("FoleyMixer", 125, "code is out of range"), ("FoleyMixer", 133, "the buffer is full"), ("FoleyMixer", 150, "the buffer is not a complete script text"), ("FoleyMixer", 159, "index is negative"), ("FoleyMixer", 165, "no state is saved"), ("FoleyMixer", 170, "no such slot"), ("FoleyMixer", 176, "the slot is empty"), ("FoleyMixer", 282, "there is no such thing to tell"), ("FoleyMixer", 208, "no such second")]
theorem AR.moved {t N : Nat} {f : Nat → Int32} {u U : State} {H : Heap} (hvm : u.vm.Alike U.vm) (h : AR t N f u H) : AR t N f U H := by
  obtain ⟨cell, h1, h2, h3⟩ := h
  exact ⟨cell, h1, State.isArrayOf_alike hvm h2, h3⟩
theorem AR.kept {t N : Nat} {f : Nat → Int32} {U : State} {H H1 : Heap} (h : AR t N f U H) (hq : H1[t]? = H[t]?) : AR t N f U H1 := by
  obtain ⟨cell, h1, h2⟩ := h
  exact ⟨cell, by rw [hq]; exact h1, h2⟩
theorem AR.lt {t N : Nat} {f : Nat → Int32} {U : State} {H : Heap} (h : AR t N f U H) : t < H.size := by
  obtain ⟨cell, h1, h2⟩ := h
  exact (Array.getElem?_eq_some_iff.mp h1).1
theorem AR.of {D : va_G} {dA : Nat → Nat} {t N : Nat} {f : Nat → Int32} {U : State} {H : Heap} (hK : va_K D vwCl (TY dA) U) (hN : N < 2 ^ 31) (h : H[t]? = some (vp_cell (dA 0) (N, .inl f))) : AR t N f U H := by
  refine ⟨_, h, (hK.2 0 _ rfl).1 N (fun j => .int (f j)), (fun q => by cases q), ?_, ?_, fun j hj => ?_⟩
  · show N ≤ (arrV _ _ _).slots.size
    rw [arrV_size]; exact Nat.le_refl _
  · show (arrV _ _ _).slots.size.toInt32 = _
    rw [arrV_size]
  · show (arrV _ _ _).slots[j]? = _
    rw [arrV_read _ _ hj]
/-- an array whose class is just int[], of just N places (static arrays: so that they can be cloned) -/
def EX (t N : Nat) (U : State) (H : Heap) : Prop := ∃ cell : Cell, H[t]? = some cell ∧ U.vm.findClass "[I" = some cell.cls ∧ cell.slots.size = N
theorem EX.moved {t N : Nat} {u U : State} {H : Heap} (hvm : u.vm.Alike U.vm) (h : EX t N u H) : EX t N U H := by
  obtain ⟨cell, h1, h2, h3⟩ := h
  exact ⟨cell, h1, by rw [hvm.findClass]; exact h2, h3⟩
theorem EX.kept {t N : Nat} {U : State} {H H1 : Heap} (h : EX t N U H) (hq : H1[t]? = H[t]?) : EX t N U H1 := by
  obtain ⟨cell, h1, h2⟩ := h
  exact ⟨cell, by rw [hq]; exact h1, h2⟩
/-- what holds of the machine and of what lies ahead of b, at each method's start -/
def GX (D : va_G) (dA : Nat → Nat) (b : Nat) (U : State) : Prop :=
  va_K D vwCl (TY dA) U ∧ (∀ w ∈ nestW, va_Nw w U) ∧
  (∀ (i : Nat) (q : String × List Nat), stT[i]? = some q → va_Z "FoleyMixer" q.1 "[I" (.ref (dA (10 + i))) (fun q => b ≤ q) U U.heap ∧ (dA (10 + i) < b ∧ EX (dA (10 + i)) q.2.length U U.heap) ∧ AR (dA (10 + i)) q.2.length (fun j => nI (q.2.getD j 0)) U U.heap) ∧
  (∀ (i : Nat) (q : String × Nat × String), sxT[i]? = some q → vk_R q.1 q.2.1 q.2.2 (dA (20 + i)) U) ∧
  vx_Zq Bundle.tN "UNASSIGNED_STACK" Bundle.steD (fun q => b ≤ q) U U.heap ∧ vx_Zq Bundle.tN "SUPPRESSED_SENTINEL" Bundle.listD (fun q => b ≤ q) U U.heap ∧ va_Nc "java/lang/IllegalStateException" "java/lang/IllegalArgumentException" U ∧ va_Nc "java/lang/IllegalArgumentException" "java/lang/IndexOutOfBoundsException" U ∧ va_AO "FoleyMixer$Play" U
def nestB : Cond → Bool
  | .fieldLinkNest _ _ _ _ _ _ => true
  | .methodLinkNest _ _ _ _ => true
  | .castable _ _ => true
  | .declares _ => true
  | _ => false
theorem nestW_ok : ∀ w ∈ nestW, nestB w = true := by decide +kernel
theorem nest_warm {w : Cond} (hw : nestB w = true) {s U : State} (hW : s.WarmedH U.vm) (h : va_Nw w s) : va_Nw w U := by
  cases w with
  | fieldLinkNest a i c n d g => exact va_Nw.warmF hW h
  | methodLinkNest a i x g => exact va_Nw.warmM hW h
  | castable c t => exact va_Nw.warmC hW h
  | declares x => exact va_tabs rfl (rfl : (s.setVm U.vm).vm = U.vm) (by rw [Jvm.Cond.declares_setVm hW.alike]; exact h)
  | _ => cases hw
theorem GX.go {D : va_G} {dA : Nat → Nat} {b : Nat} {s U : State} {H : Heap} {locs : List Loc} (h : GX D dA b s) (hS : va_S (fun q => b ≤ q) s.heap H locs) (hU : U.heap = H) (hW : s.WarmedH U.vm) : GX D dA b U := by
  obtain ⟨hK, hN, hT, hX, h5, h6, h7, h8, h9⟩ := h
  have hv := hW.alike
  subst hU
  refine ⟨va_K.moved hv hK, fun w hw => nest_warm (nestW_ok w hw) hW (hN w hw), fun i q hq => ?_, fun i q hq => vk_R.warm hW (hX i q hq), vx_Zq.moved hv (h5.kept hS.2.1), vx_Zq.moved hv (h6.kept hS.2.1), va_Nc.moved hv h7, va_Nc.moved hv h8, va_AO.moved hv h9⟩
  obtain ⟨g1, g2, g3⟩ := hT i q hq
  exact ⟨va_Z.moved hv (g1.kept hS.2.1), ⟨g2.1, (g2.2.moved hv).kept (hS.2.1 _ g3.lt (Nat.not_le.mpr g2.1))⟩, (g3.moved hv).kept (hS.2.1 _ g3.lt (Nat.not_le.mpr g2.1))⟩
theorem GX.nest {D : va_G} {dA : Nat → Nat} {b : Nat} {s : State} (h : GX D dA b s) (i : Nat) {w : Cond} (hi : nestW[i]? = some w) : va_Nw w s := h.2.1 w (List.mem_of_getElem? hi)
/-- a method's start -/
def PC (D : va_G) (dA : Nat → Nat) (b : Nat) (w : Wd) (av : List Value) : Array Value → State → Prop := va_Pc av (fun U => GX D dA b U ∧ WP D b w U.heap)
theorem PC.blind {D : va_G} {dA : Nat → Nat} {b : Nat} {w : Wd} {av : List Value} : FrameBlind (PC D dA b w av) := fun a U g mk q => ⟨q.1, q.2.1.go (U := U.calling g mk a) va_S.rf rfl (State.WarmedH.refl U), q.2.2⟩
/-- a constructor's start: nothing lies behind what is counted -/
def PZ (D : va_G) (dA : Nat → Nat) (b : Nat) (w : Wd) (z : Nat) (av : List Value) : Array Value → State → Prop := va_Pc av (fun U => GX D dA b U ∧ WP D b w U.heap ∧ U.heap.size = b + z)
theorem PZ.blind {D : va_G} {dA : Nat → Nat} {b : Nat} {w : Wd} {z : Nat} {av : List Value} : FrameBlind (PZ D dA b w z av) := fun a U g mk q => ⟨q.1, q.2.1.go (U := U.calling g mk a) va_S.rf rfl (State.WarmedH.refl U), q.2.2⟩
/-- the ends: read only; read and write -/
def QR (v : Option Value) : Array Value → State → Outcome → State → Prop := fun _ st oc t => oc = .returned v ∧ t.heap = st.heap
def QW (D : va_G) (b : Nat) (v : Option Value) (post : Wd → Prop) : Array Value → State → Outcome → State → Prop := fun _ st oc t => oc = .returned v ∧ (∃ w' : Wd, post w' ∧ WP D b w' t.heap) ∧ va_F (fun q => b ≤ q) st t
def QZ (D : va_G) (b : Nat) (v : Option Value) (z : Nat) (post : Wd → Prop) : Array Value → State → Outcome → State → Prop := fun _ st oc t => oc = .returned v ∧ (∃ w' : Wd, post w' ∧ WP D b w' t.heap ∧ t.heap.size = b + z) ∧ va_F (fun q => b ≤ q) st t
abbrev Fno : Addr → Prop := fun _ => False
abbrev Fb (b : Nat) : Addr → Prop := fun q => b ≤ q
section QX
variable {p : Program} {l : Launch} {e : Env} {R : Room} {s : State} {m : MethodId} {args : Array Value} {below : List Frame} {meth : Method} {c : Code} {H : Heap} {locs : List Loc} {cells slots : Nat} {Q : State → Prop}
variable {cc : ByteArray} {pc : Nat} {ls : Array Slot} {rest st0 : List Value} {D : va_G} {dA : Nat → Nat} {b : Nat} {w : Wd} {k : Nat}
-- the body of a method, from its start
theorem q_of {y : MethodName} {ws ws' : List Cond} {rm : Room} {Qc : Array Value → State → Outcome → State → Prop} {mc ms : Nat} {free : Addr → Prop} {cc : ByteArray} {maxL : Nat} {ret : Option FieldType} {av : List Value} (hy : plainName y.cls = true) (hw : ws = Cond.code y cc maxL ret :: ws') (hL : Nat.ble (lg_sl av).length maxL = true)
    (body : ∀ (p : Program) (e : Env) (s : State) (m : MethodId) (args : Array Value) (below : List Frame) (meth : Method) (c : Code) (ls : Array Slot), p.tables.exec = Jvm.exec → c.code = cc → meth.sig.returnType = ret → c.maxLocals = maxL → (∀ w ∈ ws, w.before args s = true) → s.vm.findClass y.cls = some m.cls → meth.locks = false → GX D dA b s → WP D b w s.heap → va_S (Fb b) s.heap s.heap [] → lv_has ls maxL (lv_args 0 av) →
      W p l e rm s m args below meth c s.heap [] 0 0 (MQ below Qc args s mc ms free) (F0 m 0 ls [])) : Met l y ws rm (PC D dA b w av) Qc mc ms free := by
  refine Met.ofW (cc := cc) (maxL := maxL) (ret := ret) hy hw ?_
  intro p e s m args below meth c s₁ B hml hv
  obtain ⟨rfl, hG, hW⟩ := hv
  have hl := lv_entry av (n := maxL) (Nat.le_of_ble_eq_true hL)
  rw [lg_entry_eq]
  exact body p e s m _ below meth c _ B.exec B.bytes B.returns hml (atoms_spec (ws := ws) B.pre) (findClass_of_methodNamed B.named) B.notSynchronized hG hW va_S.rf hl
theorem q_ofZ {y : MethodName} {ws ws' : List Cond} {rm : Room} {Qc : Array Value → State → Outcome → State → Prop} {mc ms z : Nat} {free : Addr → Prop} {cc : ByteArray} {maxL : Nat} {ret : Option FieldType} {av : List Value} (hy : plainName y.cls = true) (hw : ws = Cond.code y cc maxL ret :: ws') (hL : Nat.ble (lg_sl av).length maxL = true)
    (body : ∀ (p : Program) (e : Env) (s : State) (m : MethodId) (args : Array Value) (below : List Frame) (meth : Method) (c : Code) (ls : Array Slot), p.tables.exec = Jvm.exec → c.code = cc → meth.sig.returnType = ret → c.maxLocals = maxL → (∀ w ∈ ws, w.before args s = true) → s.vm.findClass y.cls = some m.cls → meth.locks = false → meth.name = y.name → GX D dA b s → WP D b w s.heap → va_S (Fb b) s.heap s.heap [] → s.heap.size = b + z → lv_has ls maxL (lv_args 0 av) →
      W p l e rm s m args below meth c s.heap [] 0 0 (MQ below Qc args s mc ms free) (F0 m 0 ls [])) : Met l y ws rm (PZ D dA b w z av) Qc mc ms free := by
  refine Met.ofW (cc := cc) (maxL := maxL) (ret := ret) hy hw ?_
  intro p e s m args below meth c s₁ B hml hv
  obtain ⟨rfl, hG, hW, hz⟩ := hv
  have hl := lv_entry av (n := maxL) (Nat.le_of_ble_eq_true hL)
  rw [lg_entry_eq]
  exact body p e s m _ below meth c _ B.exec B.bytes B.returns hml (atoms_spec (ws := ws) B.pre) (findClass_of_methodNamed B.named) B.notSynchronized (name_of_methodNamed B.named B.method).1 hG hW va_S.rf hz hl
-- the top of the stack said otherwise
theorem q_top {x y : Int32} (h : x = y) (kk : W p l e R s m args below meth c H locs cells slots Q (F0 m pc ls (.int y :: rest))) : W p l e R s m args below meth c H locs cells slots Q (F0 m pc ls (.int x :: rest)) := by
  rw [h]; exact kk
-- fields
theorem q_get {own ref C : String} {T : u_T} {N ci index : Nat} {Ts : List Cond} (hx : p.tables.exec = Jvm.exec) (hb : c.code = cc) (hts : ∀ w ∈ Ts, w.before args s = true) (hin : ∀ w ∈ u_ws C T N, w ∈ Ts) (hown : s.vm.findClass own = some m.cls) (hG : GX D dA b s) (hW : WP D b w H) {fs : List Value} (hk : w k = some (.inr (ci, fs))) (hc : vwCl[ci]? = some (C, T, N)) (j : Nat) (hj : j < N) (hlink : (Cond.fieldLink own index ref (T j).2.1 (T j).2.2.1).before args s = true) (hr : ref = (T j).1) {v : Value} (hv : fs[j]? = some v) (hdg : decode cc pc = .ok (.getfield index, 3))
    (kk : W p l e R s m args below meth c H locs cells slots Q (F0 m (pc + 3) ls (v :: rest))) : W p l e R s m args below meth c H locs cells slots Q (F0 m pc ls (.ref (b + k) :: rest)) := by
  subst hr
  exact va_get hx hb hts hin hown hG.1 (hW.one hk) 0 rfl hc j hj hlink (fun _ h => h) hv hdg kk
theorem q_getN {own ref C host : String} {T : u_T} {N ci index : Nat} {Ts : List Cond} (hx : p.tables.exec = Jvm.exec) (hb : c.code = cc) (hts : ∀ w ∈ Ts, w.before args s = true) (hin : ∀ w ∈ u_ws C T N, w ∈ Ts) (hown : s.vm.findClass own = some m.cls) (hG : GX D dA b s) (hW : WP D b w H) {fs : List Value} (hk : w k = some (.inr (ci, fs))) (hc : vwCl[ci]? = some (C, T, N)) (j : Nat) (hj : j < N) (hlink : va_Nw (Cond.fieldLinkNest own index ref (T j).2.1 (T j).2.2.1 host) s) (hr : ref = (T j).1) {v : Value} (hv : fs[j]? = some v) (hdg : decode cc pc = .ok (.getfield index, 3))
    (kk : W p l e R s m args below meth c H locs cells slots Q (F0 m (pc + 3) ls (v :: rest))) : W p l e R s m args below meth c H locs cells slots Q (F0 m pc ls (.ref (b + k) :: rest)) := by
  subst hr
  exact va_getN hx hb hts hin hown hG.1 (hW.one hk) 0 rfl hc j hj (va_Nw.use rfl hlink) (fun _ h => h) hv hdg kk
theorem q_put {own ref C : String} {T : u_T} {N ci index : Nat} {Ts : List Cond} (hx : p.tables.exec = Jvm.exec) (hb : c.code = cc) (hts : ∀ w ∈ Ts, w.before args s = true) (hin : ∀ w ∈ u_ws C T N, w ∈ Ts) {ty0 : Nat → FieldType} (hty : ∀ k, k < N → parseFieldDescriptor (T k).2.2.1 = some (ty0 k)) (hnm : ∀ a, a < N → ∀ b, b < N → a ≠ b → (T a).2.1 ≠ (T b).2.1) (hown : s.vm.findClass own = some m.cls) (hG : GX D dA b s) (hW : WP D b w H) (hS : va_S (Fb b) s.heap H locs) {fs : List Value} (hk : w k = some (.inr (ci, fs))) (hc : vwCl[ci]? = some (C, T, N)) (j : Nat) (hj : j < N) (hlink : (Cond.fieldLink own index ref (T j).2.1 (T j).2.2.1).before args s = true) (hr : ref = (T j).1) (hfin : (T j).2.2.2 = false) {v : Value} (hn : narrow (ty0 j) v = v) (hfit : fits (ty0 j) v = true) (hlen : j < fs.length) (hdg : decode cc pc = .ok (.putfield index, 3))
    (kk : ∀ (H1 : Heap) (locs1 : List Loc), WP D b (va_up w k (some (.inr (ci, fs.set j v)))) H1 → va_S (Fb b) s.heap H1 locs1 → H1.size = H.size → W p l e R s m args below meth c H1 locs1 cells slots Q (F0 m (pc + 3) ls rest)) : W p l e R s m args below meth c H locs cells slots Q (F0 m pc ls (v :: .ref (b + k) :: rest)) := by
  subst hr
  have hap := va_apart (own := own) hts hin ty0 hty hnm hG.1 hc
  obtain ⟨r, h1, cell, q1, q2, q3, q4⟩ := hW k _ hk
  have hr : r = (C, T, N) := Option.some.inj (h1.symm.trans hc)
  subst hr
  obtain ⟨hSl, hfc, kC, hkC, hkind⟩ := hG.1.1 ci _ hc
  obtain ⟨cf, kf, fi, f, hi, hsl⟩ := hSl j hj
  have hlay := hts _ (hin _ (u_in_lay hj))
  unfold u_lay at hlay
  rw [if_neg (by rw [hfin]; decide)] at hlay
  have hst := (u_facts hfc hkC (u_lays hts hin hj) hi).1
  have h6 := u_store hfc hkC hkind hlay hi (hty j hj) hn hfit
  refine W.putK hx hb (f := f) ⟨hown, hlink, ⟨_, _, _, hi⟩, hst⟩ (by rw [q2]; exact h6) q1 q3 (by rw [hsl]; exact k2_hasslot (q4 j hj)) rfl rfl hdg fun H' e1 e2 e3 => ?_
  rw [hsl] at e1 ⊢
  exact kk H' _ (hW.set ⟨_, hc, t_OB.to (V := updV (vp_V fs) j v) ⟨_, e1, q2, q3, t_set q4 hap hj v⟩ (fun i _ => vp_updV_set hlen v i)⟩ e3) (hS.put e2 e3 (Nat.le_add_right _ _)) e2
theorem q_putF {own ref C : String} {T : u_T} {N ci index : Nat} {Ts : List Cond} (hx : p.tables.exec = Jvm.exec) (hb : c.code = cc) (hts : ∀ w ∈ Ts, w.before args s = true) (hin : ∀ w ∈ u_ws C T N, w ∈ Ts) {ty0 : Nat → FieldType} (hty : ∀ k, k < N → parseFieldDescriptor (T k).2.2.1 = some (ty0 k)) (hnm : ∀ a, a < N → ∀ b, b < N → a ≠ b → (T a).2.1 ≠ (T b).2.1) (hown : s.vm.findClass own = some m.cls) (hG : GX D dA b s) (hW : WP D b w H) (hS : va_S (Fb b) s.heap H locs) {fs : List Value} (hk : w k = some (.inr (ci, fs))) (hc : vwCl[ci]? = some (C, T, N)) (j : Nat) (hj : j < N) (hlink : (Cond.fieldLink own index ref (T j).2.1 (T j).2.2.1).before args s = true) (hr : ref = (T j).1) (hfin : (T j).2.2.2 = true) (hin2 : meth.name = "<init>") (hdecl : (T j).1 = own) {v : Value} (hn : narrow (ty0 j) v = v) (hfit : fits (ty0 j) v = true) (hlen : j < fs.length) (hdg : decode cc pc = .ok (.putfield index, 3))
    (kk : ∀ (H1 : Heap) (locs1 : List Loc), WP D b (va_up w k (some (.inr (ci, fs.set j v)))) H1 → va_S (Fb b) s.heap H1 locs1 → H1.size = H.size → W p l e R s m args below meth c H1 locs1 cells slots Q (F0 m (pc + 3) ls rest)) : W p l e R s m args below meth c H locs cells slots Q (F0 m pc ls (v :: .ref (b + k) :: rest)) := by
  subst hr
  have hap := va_apart (own := own) hts hin ty0 hty hnm hG.1 hc
  obtain ⟨r, h1, cell, q1, q2, q3, q4⟩ := hW k _ hk
  have hr : r = (C, T, N) := Option.some.inj (h1.symm.trans hc)
  subst hr
  obtain ⟨hSl, hfc, kC, hkC, hkind⟩ := hG.1.1 ci _ hc
  obtain ⟨cf, kf, fi, f, hi, hsl⟩ := hSl j hj
  have hlay := hts _ (hin _ (u_in_lay hj))
  unfold u_lay at hlay
  rw [if_pos hfin] at hlay
  have hst := (u_facts hfc hkC (u_lays hts hin hj) hi).1
  have hcf : m.cls = cf := by
    obtain ⟨_, _, c', _, _, _, -, -, hf', -, -, -, hown2, -⟩ := Cond.laysFinal_spec hlay
    have e1 : c' = cf := by have := hi.symm.trans hf'; simp at this; exact this.1.symm
    rw [hdecl] at hown2
    rw [← e1]; exact Option.some.inj (hown.symm.trans hown2)
  have h6 := u_fits hfc hkC hkind (Or.inr hlay) hi (hty j hj) hn hfit
  refine W.putFinK hx hb hown hlink hi hst hcf hin2 (by rw [q2]; exact h6) q1 q3 (by rw [hsl]; exact k2_hasslot (q4 j hj)) rfl rfl hdg fun H' e1 e2 e3 => ?_
  rw [hsl] at e1 ⊢
  exact kk H' _ (hW.set ⟨_, hc, t_OB.to (V := updV (vp_V fs) j v) ⟨_, e1, q2, q3, t_set q4 hap hj v⟩ (fun i _ => vp_updV_set hlen v i)⟩ e3) (hS.put e2 e3 (Nat.le_add_right _ _)) e2
-- arrays
theorem q_ald {t N : Nat} {f : Nat → Int32} (hx : p.tables.exec = Jvm.exec) (hb : c.code = cc) (hA : AR t N f s H) {i : Nat} (hi : i < N) (hN : N < 2 ^ 31) (hdg : decode cc pc = .ok (.iaload, 1))
    (kk : W p l e R s m args below meth c H locs cells slots Q (F0 m (pc + 1) ls (.int (f i) :: rest))) : W p l e R s m args below meth c H locs cells slots Q (F0 m pc ls (.int (nI i) :: .ref t :: rest)) := by
  obtain ⟨cell, h1, h2, h3, h4, h5, h6⟩ := hA
  have e := nI_clamp (n := i) (by omega)
  refine W.iald (v := .int (f i)) hx hb h1 h2 h3 ?_ ?_ rfl rfl hdg kk
  · rw [e]; exact fun q => q.elim (nI_pos (by omega)) (fun q => by omega)
  · rw [e]; exact h6 i hi
theorem q_alen {t N : Nat} {f : Nat → Int32} (hx : p.tables.exec = Jvm.exec) (hb : c.code = cc) (hA : AR t N f s H) (hdg : decode cc pc = .ok (.arraylength, 1))
    (kk : W p l e R s m args below meth c H locs cells slots Q (F0 m (pc + 1) ls (.int (nI N) :: rest))) : W p l e R s m args below meth c H locs cells slots Q (F0 m pc ls (.ref t :: rest)) := by
  obtain ⟨cell, h1, h2, h3, h4, h5, h6⟩ := hA
  exact W.alen (n := nI N) hx hb h1 h2 h5 rfl rfl hdg kk
theorem WP.ar {n : Nat} {f : Nat → Int32} (hW : WP D b w H) (hG : GX D dA b s) (hk : w k = some (eI dA n f)) (hn : n < 2 ^ 31) : AR (b + k) n f s H := AR.of hG.1 hn (hW k _ hk)
theorem q_iald {n : Nat} {f : Nat → Int32} (hx : p.tables.exec = Jvm.exec) (hb : c.code = cc) (hG : GX D dA b s) (hW : WP D b w H) (hk : w k = some (eI dA n f)) {i : Nat} (hi : i < n) (hn : n < 2 ^ 31) (hdg : decode cc pc = .ok (.iaload, 1))
    (kk : W p l e R s m args below meth c H locs cells slots Q (F0 m (pc + 1) ls (.int (f i) :: rest))) : W p l e R s m args below meth c H locs cells slots Q (F0 m pc ls (.int (nI i) :: .ref (b + k) :: rest)) := q_ald hx hb (hW.ar hG hk hn) hi hn hdg kk
theorem q_zald {n : Nat} {f : Nat → Int32} (hx : p.tables.exec = Jvm.exec) (hb : c.code = cc) (hG : GX D dA b s) (hW : WP D b w H) (hk : w k = some (eZ dA n f)) {i : Nat} (hi : i < n) (hn : n < 2 ^ 31) (hdg : decode cc pc = .ok (.baload, 1))
    (kk : W p l e R s m args below meth c H locs cells slots Q (F0 m (pc + 1) ls (.int (f i) :: rest))) : W p l e R s m args below meth c H locs cells slots Q (F0 m pc ls (.int (nI i) :: .ref (b + k) :: rest)) := by
  have e9 := nI_clamp (n := i) (by omega)
  refine va_zald hx hb hG.1 (hW.one hk) 0 2 rfl rfl (vp_in_nI hi hn) hdg ?_
  rw [e9]; exact kk
theorem q_iast {n : Nat} {f : Nat → Int32} (hx : p.tables.exec = Jvm.exec) (hb : c.code = cc) (hG : GX D dA b s) (hW : WP D b w H) (hS : va_S (Fb b) s.heap H locs) (hk : w k = some (eI dA n f)) {i : Nat} {x : Int32} (hi : i < n) (hn : n < 2 ^ 31) (hdg : decode cc pc = .ok (.iastore, 1))
    (kk : ∀ (H1 : Heap) (locs1 : List Loc), WP D b (va_up w k (some (eI dA n (va_up f i x)))) H1 → va_S (Fb b) s.heap H1 locs1 → H1.size = H.size → W p l e R s m args below meth c H1 locs1 cells slots Q (F0 m (pc + 1) ls rest)) : W p l e R s m args below meth c H locs cells slots Q (F0 m pc ls (.int x :: .int (nI i) :: .ref (b + k) :: rest)) := by
  have e9 := nI_clamp (n := i) (by omega)
  refine W.iast hx hb (hW k _ hk) ((hG.1.2 0 _ rfl).1 n (fun j => .int (f j))) (fun q => by cases q) (by show ¬ (_ < 0 ∨ (arrV _ _ _).slots.size ≤ _); rw [arrV_size]; exact vp_in_nI hi hn) rfl rfl hdg fun H1 e z oq => ?_
  refine kk H1 _ (hW.set ?_ oq) (hS.put z oq (Nat.le_add_right _ _)) z
  show H1[b + k]? = some (vp_cell _ _)
  rw [e, vp_cell_i, vp_cell_i, arrV_store]
  congr 2
  funext q
  rw [e9]
  by_cases hq : q = i
  · subst hq
    simp [updV, va_up]
  · simp [updV, va_up, hq]
theorem q_nast {n : Nat} {f : Nat → Nat} (hx : p.tables.exec = Jvm.exec) (hb : c.code = cc) (hG : GX D dA b s) (hW : WP D b w H) (hS : va_S (Fb b) s.heap H locs) (hk : w k = some (eN dA n f)) {i x : Nat} (hi : i < n) (hn : n < 2 ^ 31) (hdg : decode cc pc = .ok (.iastore, 1))
    (kk : ∀ (H1 : Heap) (locs1 : List Loc), WP D b (va_up w k (some (eN dA n (va_up f i x)))) H1 → va_S (Fb b) s.heap H1 locs1 → H1.size = H.size → W p l e R s m args below meth c H1 locs1 cells slots Q (F0 m (pc + 1) ls rest)) : W p l e R s m args below meth c H locs cells slots Q (F0 m pc ls (.int (nI x) :: .int (nI i) :: .ref (b + k) :: rest)) := by
  refine q_iast hx hb hG hW hS hk hi hn hdg fun H1 locs1 h1 h2 h3 => ?_
  have e : va_up (fun j => nI (f j)) i (nI x) = fun j => nI (va_up f i x j) := by
    funext j; unfold va_up; by_cases h : j = i <;> simp [h]
  rw [e] at h1
  exact kk H1 locs1 h1 h2 h3
theorem q_zast {n : Nat} {f : Nat → Int32} (hx : p.tables.exec = Jvm.exec) (hb : c.code = cc) (hG : GX D dA b s) (hW : WP D b w H) (hS : va_S (Fb b) s.heap H locs) (hk : w k = some (eZ dA n f)) {i : Nat} {x : Int32} (hx1 : vp_nar .boolean x = x) (hi : i < n) (hn : n < 2 ^ 31) (hdg : decode cc pc = .ok (.bastore, 1))
    (kk : ∀ (H1 : Heap) (locs1 : List Loc), WP D b (va_up w k (some (eZ dA n (va_up f i x)))) H1 → va_S (Fb b) s.heap H1 locs1 → H1.size = H.size → W p l e R s m args below meth c H1 locs1 cells slots Q (F0 m (pc + 1) ls rest)) : W p l e R s m args below meth c H locs cells slots Q (F0 m pc ls (.int x :: .int (nI i) :: .ref (b + k) :: rest)) := by
  have e9 := nI_clamp (n := i) (by omega)
  refine W.zast hx hb (hW k _ hk) ((hG.1.2 2 _ rfl).1 n (fun j => .int (f j))) (fun q => by cases q) (by show ¬ (_ < 0 ∨ (arrV _ _ _).slots.size ≤ _); rw [arrV_size]; exact vp_in_nI hi hn) rfl rfl hdg fun H1 e z oq => ?_
  refine kk H1 _ (hW.set ?_ oq) (hS.put z oq (Nat.le_add_right _ _)) z
  show H1[b + k]? = some (vp_cell _ _)
  rw [e, vp_cell_i, vp_cell_i, arrV_store]
  congr 2
  funext q
  rw [e9]
  by_cases hq : q = i
  · subst hq
    have h7 : narrow .boolean (.int x) = .int x := by
      unfold vp_nar at hx1
      revert hx1
      cases h8 : narrow .boolean (.int x) <;> simp_all [narrow]
    simp [updV, va_up, h7]
  · simp [updV, va_up, hq]
theorem q_last {n : Nat} {f : Nat → Int64} (hx : p.tables.exec = Jvm.exec) (hb : c.code = cc) (hG : GX D dA b s) (hW : WP D b w H) (hS : va_S (Fb b) s.heap H locs) (hk : w k = some (eL dA n f)) {i : Nat} {x : Int64} (hi : i < n) (hn : n < 2 ^ 31) (hdg : decode cc pc = .ok (.lastore, 1))
    (kk : ∀ (H1 : Heap) (locs1 : List Loc), WP D b (va_up w k (some (eL dA n (va_up f i x)))) H1 → va_S (Fb b) s.heap H1 locs1 → H1.size = H.size → W p l e R s m args below meth c H1 locs1 cells slots Q (F0 m (pc + 1) ls rest)) : W p l e R s m args below meth c H locs cells slots Q (F0 m pc ls (.long x :: .int (nI i) :: .ref (b + k) :: rest)) := by
  have e9 := nI_clamp (n := i) (by omega)
  refine W.last hx hb (hW k _ hk) ((hG.1.2 1 _ rfl).1 n (fun j => .long (f j))) (fun q => by cases q) (by show ¬ (_ < 0 ∨ (arrV _ _ _).slots.size ≤ _); rw [arrV_size]; exact vp_in_nI hi hn) rfl rfl hdg fun H1 e z oq => ?_
  refine kk H1 _ (hW.set ?_ oq) (hS.put z oq (Nat.le_add_right _ _)) z
  show H1[b + k]? = some (vp_cell _ _)
  rw [e, vp_cell_l, vp_cell_l, arrV_store]
  congr 2
  funext q
  rw [e9]
  by_cases hq : q = i
  · subst hq
    simp [updV, va_up]
  · simp [updV, va_up, hq]
theorem q_lald {n : Nat} {f : Nat → Int64} (hx : p.tables.exec = Jvm.exec) (hb : c.code = cc) (hG : GX D dA b s) (hW : WP D b w H) (hk : w k = some (eL dA n f)) {i : Nat} (hi : i < n) (hn : n < 2 ^ 31) (hdg : decode cc pc = .ok (.laload, 1))
    (kk : W p l e R s m args below meth c H locs cells slots Q (F0 m (pc + 1) ls (.long (f i) :: rest))) : W p l e R s m args below meth c H locs cells slots Q (F0 m pc ls (.int (nI i) :: .ref (b + k) :: rest)) := by
  have e9 := nI_clamp (n := i) (by omega)
  refine va_lald hx hb hG.1 (hW.one hk) 0 1 rfl rfl (vp_in_nI hi hn) hdg ?_
  rw [e9]; exact kk
theorem q_aldq {n : Nat} {f : Nat → Option Nat} (hx : p.tables.exec = Jvm.exec) (hb : c.code = cc) (hG : GX D dA b s) (hW : WP D b w H) (hk : w k = some (eQ dA n f)) {i : Nat} (hi : i < n) (hn : n < 2 ^ 31) (hdg : decode cc pc = .ok (.aaload, 1))
    (kk : W p l e R s m args below meth c H locs cells slots Q (F0 m (pc + 1) ls (va_rf (f i) :: rest))) : W p l e R s m args below meth c H locs cells slots Q (F0 m pc ls (.int (nI i) :: .ref (b + k) :: rest)) := by
  have e9 := nI_clamp (n := i) (by omega)
  refine va_aldq hx hb hG.1 (hW.one hk) 0 3 rfl rfl (vp_in_nI hi hn) hdg ?_
  rw [e9]; exact kk
theorem q_astq {n : Nat} {f : Nat → Option Nat} (hx : p.tables.exec = Jvm.exec) (hb : c.code = cc) (hG : GX D dA b s) (hW : WP D b w H) (hS : va_S (Fb b) s.heap H locs) (hk : w k = some (eQ dA n f)) {i v : Nat} {vs : List Value} (hv : w v = some (.inr (4, vs))) (hi : i < n) (hn : n < 2 ^ 31) (hdg : decode cc pc = .ok (.aastore, 1))
    (kk : ∀ (H1 : Heap) (locs1 : List Loc), WP D b (va_up w k (some (eQ dA n (va_up f i (some (b + v)))))) H1 → va_S (Fb b) s.heap H1 locs1 → H1.size = H.size → W p l e R s m args below meth c H1 locs1 cells slots Q (F0 m (pc + 1) ls rest)) : W p l e R s m args below meth c H locs cells slots Q (F0 m pc ls (.ref (b + v) :: .int (nI i) :: .ref (b + k) :: rest)) := by
  have e9 := nI_clamp (n := i) (by omega)
  have hin : vp_in (nI i) n := vp_in_nI hi hn
  have h0 : ¬ nI i < 0 := fun q => hin (Or.inl q)
  obtain ⟨r', hr', cellV, g1, g2, g3, -⟩ := hW v _ hv
  have hcls := (hG.1.1 4 (RX4, TX4, 3) rfl).2
  obtain ⟨kA, comp, k1, k2, k3, -⟩ := (hG.1.2 3 _ rfl).2
  have hcomp : comp = D.1 4 := Option.some.inj (k3.symm.trans hcls.1)
  subst hcomp
  obtain ⟨kC, hkC, -⟩ := hcls.2
  refine W.aast hx hb (hW k _ hk) (fun q h => by cases h) (fun h => by cases h) k1 k2 rfl hkC ⟨h0, by show _ < (arrV _ _ _).slots.size; rw [arrV_size, e9]; exact hi⟩ g1 (fun q h => by rw [g3] at h; cases h) (by rw [g2]; exact hkC) (by rw [g2]; exact va_assign hcls) rfl rfl hdg fun H1 e z oq => ?_
  refine kk H1 _ (hW.set ?_ oq) (hS.put z oq (Nat.le_add_right _ _)) z
  show H1[b + k]? = some (vp_cell _ _)
  rw [e, vp_cell_q, vp_cell_q, arrV_store]
  congr 2
  funext q
  rw [e9]
  by_cases hq : q = i
  · subst hq
    simp [updV, va_up, va_rf]
  · simp [updV, va_up, hq]
end QX
