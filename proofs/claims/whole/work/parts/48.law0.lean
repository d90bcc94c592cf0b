set_option maxHeartbeats 1000000 in
set_option maxRecDepth 100000 in
/-- case 0: word -/
theorem law_0 {p : Program} {l : Launch} {e : Env} {s : State} {m : MethodId} {args : Array Value} {below : List Frame} {meth : Method} {c : Code} {Q : State → Prop} {b0 L : Nat} {xs : Nat → Int32} {D : va_G} {dA : Nat → Nat} {b : Nat} (F9 : LWF p l s m args c b0 L xs D dA b) {w : Wd} {lo : Nat} {A : Sy} {H : Heap} {locs : List Loc} (V : LWV D dA b s w H locs lo A) {cells slots : Nat} (hcc : cells ≤ 600000) (hss : slots ≤ 7000000) {i : Nat} (hi : i + 5 ≤ L) {ls : Array Slot} (hl : LWL b b0 ls (nI i))
    (K : ∀ (w1 : Wd) (H1 : Heap) (locs1 : List Loc) (A1 : Sy) (ls1 : Array Slot), LWV D dA b s w1 H1 locs1 lo A1 → LWL b b0 ls1 (nI i) → W p l e room_1 s m args below meth c H1 locs1 (cells + 7) (slots + 116) Q (F0 m 1597 ls1 [])) : W p l e room_1 s m args below meth c H locs cells slots Q (F0 m 152 ls []) := by
  obtain ⟨hl0, hx, hb, hml, hown, hts, hX, hbl, hb0, hG, hL⟩ := F9
  obtain ⟨hs, ⟨tt, hm⟩, ⟨O9, h45⟩, hW, hS⟩ := V
  obtain ⟨P, ⟨n, Hs⟩, SL, nc, C⟩ := A
  have hlo : 46 ≤ lo := hs.2.2.2.2.2.2.1
  have hP := sys_ok hs
  change okP P at hP
  have hl : lv_has ls 9 [(0, .ref b0), (1, .ref (b + 0)), (2, .ref (b + 36)), (3, .ref (b + 45)), (4, .int (nI i))] := hl
  obtain ⟨x, hx9⟩ : ∃ q : Int32, xs (i + 1) = q := ⟨_, rfl⟩
  obtain ⟨y, hy9⟩ : ∃ q : Int32, xs (i + 2) = q := ⟨_, rfl⟩
  obtain ⟨z, hz9⟩ : ∃ q : Int32, xs (i + 3) = q := ⟨_, rfl⟩
  refine lv_aload_n hx hb dL_law_152 rfl (lv_at hl 1 rfl) ?_
  refine lv_aload_n hx hb dL_law_153 rfl (lv_at hl 0 rfl) ?_
  refine lv_iload hx hb dL_law_154 (lv_at hl 4 rfl) ?_
  refine lv_iconst (v := nI 1) hx hb dL_law_156 (by decide) ?_
  refine lv_iadd hx hb dL_law_157 ?_
  refine q_top (y := nI (i + 1)) (nI_add _ _) ?_
  refine q_sld hx hb hX hbl hb0 hS hx9 (by omega) hL dL_law_158 ?_
  refine lv_aload_n hx hb dL_law_159 rfl (lv_at hl 0 rfl) ?_
  refine lv_iload hx hb dL_law_160 (lv_at hl 4 rfl) ?_
  refine lv_iconst (v := nI 2) hx hb dL_law_162 (by decide) ?_
  refine lv_iadd hx hb dL_law_163 ?_
  refine q_top (y := nI (i + 2)) (nI_add _ _) ?_
  refine q_sld hx hb hX hbl hb0 hS hy9 (by omega) hL dL_law_164 ?_
  refine lv_aload_n hx hb dL_law_165 rfl (lv_at hl 0 rfl) ?_
  refine lv_iload hx hb dL_law_166 (lv_at hl 4 rfl) ?_
  refine lv_iconst (v := nI 3) hx hb dL_law_168 (by decide) ?_
  refine lv_iadd hx hb dL_law_169 ?_
  refine q_top (y := nI (i + 3)) (nI_add _ _) ?_
  refine q_sld hx hb hX hbl hb0 hS hz9 (by omega) hL dL_law_170 ?_
  refine lv_aload_n hx hb dL_law_171 rfl (lv_at hl 3 rfl) ?_
  refine q_XE1 (vx_runSX (As := [.ref (b + 0), .int (x), .int (y), .int (z), .ref (b + 45)]) (rest := []) ⟨hx, hb, hml, hown, hts⟩ (c_L_word l hl0 hs h45 (x) (y) (z)) (vx_cwSW 5 hts lg_L_word rfl rfl rfl (by decide +kernel) ⟨Nat.le_of_ble_eq_true rfl, Nat.le_of_ble_eq_true rfl⟩) (q_preS hG hW hS) rfl rfl hl.1 rfl (lv_room (Nat.le_of_ble_eq_true rfl)) dL_law_172 ⟨by show _ ≤ 601024; omega, by show _ ≤ 7293034; omega⟩) hS (fun r172 w_172 H locs hp172 hW hS => ?_)
  obtain ⟨hor, hf5⟩ := hp172
  replace hm := hm.fr hf5
  clear hs h45
  rcases hor with ⟨hr9, hc, hs, h45⟩ | ⟨hr9, hc, hs, h45⟩ | ⟨hr9, hc, hs, h45⟩
  · skip
    subst hr9
    refine lv_istore (lv' := [(5, .int (nI 0)), (0, .ref (b0)), (1, .ref (b + 0)), (2, .ref (b + 36)), (3, .ref (b + 45)), (4, .int (nI i))]) hx hb dL_law_175 hl (by decide) rfl (fun ls hl => ?_)
    refine lv_aload_n hx hb dL_law_177 rfl (lv_at hl 3 rfl) ?_
    refine lv_aload_n hx hb dL_law_178 rfl (lv_at hl 1 rfl) ?_
    refine lv_iload hx hb dL_law_179 (lv_at hl 5 rfl) ?_
    refine lv_iconst (v := nI 1) hx hb dL_law_181 (by decide) ?_
    refine lv_iadd hx hb dL_law_182 ?_
    refine q_top (y := nI (i + 1)) (nI_add _ _) ?_
    refine q_sld hx hb hX hbl hb0 hS hx9 (by omega) hL dL_law_183 ?_
    refine lv_aload_n hx hb dL_law_184 rfl (lv_at hl 1 rfl) ?_
    refine lv_iload hx hb dL_law_185 (lv_at hl 5 rfl) ?_
    refine lv_iconst (v := nI 2) hx hb dL_law_187 (by decide) ?_
    refine lv_iadd hx hb dL_law_188 ?_
    refine q_top (y := nI (i + 2)) (nI_add _ _) ?_
    refine q_sld hx hb hX hbl hb0 hS hy9 (by omega) hL dL_law_189 ?_
    refine lv_aload_n hx hb dL_law_190 rfl (lv_at hl 1 rfl) ?_
    refine lv_iload hx hb dL_law_191 (lv_at hl 5 rfl) ?_
    refine lv_iconst (v := nI 3) hx hb dL_law_193 (by decide) ?_
    refine lv_iadd hx hb dL_law_194 ?_
    refine q_top (y := nI (i + 3)) (nI_add _ _) ?_
    refine q_sld hx hb hX hbl hb0 hS hz9 (by omega) hL dL_law_195 ?_
    obtain ⟨fs196, ho36⟩ := hm.obj
    refine q_W1 (va_runV (As := [.int (x), .int (y), .int (z)]) (rest := []) ⟨hx, hb, hml, hown, hts⟩ (c_X7_word l hm (x) (y) (z)) (cwV 3 hts lg_X7_word rfl rfl rfl (by decide +kernel) ⟨Nat.le_of_ble_eq_true rfl, Nat.le_of_ble_eq_true rfl⟩) (q_preV hG hW hS ho36 rfl) rfl rfl hl.1 rfl (lv_room (Nat.le_of_ble_eq_true rfl)) dL_law_196 ⟨by show _ ≤ 601024; omega, by show _ ≤ 7293034; omega⟩) hS (fun w_196 H locs hp196 hW hS => ?_)
    obtain ⟨hd, hfm⟩ := hp196
    replace hs := hs.mod hfm
    replace h45 := (hfm 45 (by omega)).trans h45
    clear hm
    rcases hd with ⟨hc2, hm⟩ | ⟨hc2, hm⟩ | ⟨hc2, hm⟩
    · skip
      refine q_topv (v' := .int (nI P.w)) (congrArg Value.int (if_pos hc2)) ?_
      refine lv_istore (lv' := [(6, .int (nI P.w)), (5, .int (nI 0)), (0, .ref (b0)), (1, .ref (b + 0)), (2, .ref (b + 36)), (3, .ref (b + 45)), (4, .int (nI i))]) hx hb dL_law_199 hl (by decide) rfl (fun ls hl => ?_)
      refine lv_aload_n hx hb dL_law_201 rfl (lv_at hl 4 rfl) ?_
      obtain ⟨fs202, ho36⟩ := hm.obj
      refine q_R1 (va_runV (As := []) (rest := []) ⟨hx, hb, hml, hown, hts⟩ (c_thr l hm) (cwV 0 hts lg_X7_thrown rfl rfl rfl (by decide +kernel) ⟨Nat.le_of_ble_eq_true rfl, Nat.le_of_ble_eq_true rfl⟩) (q_preV hG hW hS ho36 rfl) rfl rfl hl.1 rfl (lv_room (Nat.le_of_ble_eq_true rfl)) dL_law_202 ⟨by show _ ≤ 601024; omega, by show _ ≤ 7293034; omega⟩) ?_
      refine lv_iload hx hb dL_law_205 (lv_at hl 1 rfl) ?_
      refine lv_icmp_eq (tgt := 212) hx hb dL_law_207 (by decide) (fun c_207 => ?_) (fun c_207 => ?_)
      · skip
        have c_207 : 0 = 0 := (nI_eq (a := 0) (b := 0) (by omega) (by omega)).mp c_207
        refine lv_iload hx hb dL_law_212 (lv_at hl 1 rfl) ?_
        refine lv_if_ne (tgt := 229) hx hb dL_law_214 (by decide) (fun c_214 => ?_) (fun c_214 => ?_)
        · skip
          have c_214 : ¬ (0 = 0) := fun h__ => c_214 ((nI_eq0 (i := 0) (by omega)).mpr h__)
          exact absurd c_214 (by omega)
        · skip
          have c_214 : 0 = 0 := (nI_eq0 (i := 0) (by omega)).mp c_214
          refine lv_aload_n hx hb dL_law_217 rfl (lv_at hl 5 rfl) ?_
          refine lv_iconst (v := nI 0) hx hb dL_law_218 (by decide) ?_
          refine q_lald hx hb hG hW h45 (by decide) (by decide) dL_law_219 ?_
          refine q_topv (v' := .long ((nI P.w).toInt64)) (by rw [va_up_self]) ?_
          refine lv_iload hx hb dL_law_220 (lv_at hl 0 rfl) ?_
          refine lv_i2l hx hb dL_law_222 rfl ?_
          refine W.lcmp hx hb dL_law_223 ?_
          refine q_topv (v' := .int (nI 0)) (congrArg Value.int (lg_cmp_self _)) ?_
          refine lv_if_eq (tgt := 229) hx hb dL_law_224 (by decide) (fun c_224 => ?_) (fun c_224 => ?_)
          · skip
            have c_224 : 0 = 0 := (nI_eq0 (i := 0) (by omega)).mp c_224
            refine lv_goto (tgt := 1597) hx hb dL_law_229 (by decide) ?_
            exact W.widen (by omega) (by omega) (K _ _ _ _ _ ⟨hs, ⟨_, hm⟩, ⟨_, h45⟩, hW, hS⟩ (lv_sub hl [2, 3, 4, 5, 6] rfl))
          · skip
            have c_224 : ¬ (0 = 0) := fun h__ => c_224 ((nI_eq0 (i := 0) (by omega)).mpr h__)
            exact absurd c_224 (by omega)
      · skip
        have c_207 : ¬ (0 = 0) := fun h__ => c_207 ((nI_eq (a := 0) (b := 0) (by omega) (by omega)).mpr h__)
        exact absurd c_207 (by omega)
    · skip
      first | exact absurd hc hc2 | exact absurd hc2 hc | exact absurd hc.1 hc2 | exact absurd hc2.1 hc | exact absurd hc.2 hc2.2 | exact absurd hc2.2 hc.2 | (exact absurd hc.2 (by omega)) | (exact absurd hc (by omega)) | (exact absurd hc2.2 (by omega))
    · skip
      first | exact absurd hc hc2 | exact absurd hc2 hc | exact absurd hc.1 hc2 | exact absurd hc2.1 hc | exact absurd hc.2 hc2.2 | exact absurd hc2.2 hc.2 | (exact absurd hc.2 (by omega)) | (exact absurd hc (by omega)) | (exact absurd hc2.2 (by omega))
  · skip
    subst hr9
    refine lv_istore (lv' := [(5, .int (nI 1)), (0, .ref (b0)), (1, .ref (b + 0)), (2, .ref (b + 36)), (3, .ref (b + 45)), (4, .int (nI i))]) hx hb dL_law_175 hl (by decide) rfl (fun ls hl => ?_)
    refine lv_aload_n hx hb dL_law_177 rfl (lv_at hl 3 rfl) ?_
    refine lv_aload_n hx hb dL_law_178 rfl (lv_at hl 1 rfl) ?_
    refine lv_iload hx hb dL_law_179 (lv_at hl 5 rfl) ?_
    refine lv_iconst (v := nI 1) hx hb dL_law_181 (by decide) ?_
    refine lv_iadd hx hb dL_law_182 ?_
    refine q_top (y := nI (i + 1)) (nI_add _ _) ?_
    refine q_sld hx hb hX hbl hb0 hS hx9 (by omega) hL dL_law_183 ?_
    refine lv_aload_n hx hb dL_law_184 rfl (lv_at hl 1 rfl) ?_
    refine lv_iload hx hb dL_law_185 (lv_at hl 5 rfl) ?_
    refine lv_iconst (v := nI 2) hx hb dL_law_187 (by decide) ?_
    refine lv_iadd hx hb dL_law_188 ?_
    refine q_top (y := nI (i + 2)) (nI_add _ _) ?_
    refine q_sld hx hb hX hbl hb0 hS hy9 (by omega) hL dL_law_189 ?_
    refine lv_aload_n hx hb dL_law_190 rfl (lv_at hl 1 rfl) ?_
    refine lv_iload hx hb dL_law_191 (lv_at hl 5 rfl) ?_
    refine lv_iconst (v := nI 3) hx hb dL_law_193 (by decide) ?_
    refine lv_iadd hx hb dL_law_194 ?_
    refine q_top (y := nI (i + 3)) (nI_add _ _) ?_
    refine q_sld hx hb hX hbl hb0 hS hz9 (by omega) hL dL_law_195 ?_
    obtain ⟨fs196, ho36⟩ := hm.obj
    refine q_W1 (va_runV (As := [.int (x), .int (y), .int (z)]) (rest := []) ⟨hx, hb, hml, hown, hts⟩ (c_X7_word l hm (x) (y) (z)) (cwV 3 hts lg_X7_word rfl rfl rfl (by decide +kernel) ⟨Nat.le_of_ble_eq_true rfl, Nat.le_of_ble_eq_true rfl⟩) (q_preV hG hW hS ho36 rfl) rfl rfl hl.1 rfl (lv_room (Nat.le_of_ble_eq_true rfl)) dL_law_196 ⟨by show _ ≤ 601024; omega, by show _ ≤ 7293034; omega⟩) hS (fun w_196 H locs hp196 hW hS => ?_)
    obtain ⟨hd, hfm⟩ := hp196
    replace hs := hs.mod hfm
    replace h45 := (hfm 45 (by omega)).trans h45
    clear hm
    rcases hd with ⟨hc2, hm⟩ | ⟨hc2, hm⟩ | ⟨hc2, hm⟩
    · skip
      first | exact absurd hc hc2 | exact absurd hc2 hc | exact absurd hc.1 hc2 | exact absurd hc2.1 hc | exact absurd hc.2 hc2.2 | exact absurd hc2.2 hc.2 | (exact absurd hc.2 (by omega)) | (exact absurd hc (by omega)) | (exact absurd hc2.2 (by omega))
    · skip
      refine q_topv (v' := .int (nI 0)) (congrArg Value.int (if_neg (fun q9 => by first | exact hc2 q9 | exact hc2 q9.1 | exact absurd q9.2 (by omega) | exact hc2.2 q9.2 | exact q9.2 hc2.2 | omega))) ?_
      refine lv_istore (lv' := [(6, .int (nI 0)), (5, .int (nI 1)), (0, .ref (b0)), (1, .ref (b + 0)), (2, .ref (b + 36)), (3, .ref (b + 45)), (4, .int (nI i))]) hx hb dL_law_199 hl (by decide) rfl (fun ls hl => ?_)
      refine lv_aload_n hx hb dL_law_201 rfl (lv_at hl 4 rfl) ?_
      obtain ⟨fs202, ho36⟩ := hm.obj
      refine q_R1 (va_runV (As := []) (rest := []) ⟨hx, hb, hml, hown, hts⟩ (c_thr l hm) (cwV 0 hts lg_X7_thrown rfl rfl rfl (by decide +kernel) ⟨Nat.le_of_ble_eq_true rfl, Nat.le_of_ble_eq_true rfl⟩) (q_preV hG hW hS ho36 rfl) rfl rfl hl.1 rfl (lv_room (Nat.le_of_ble_eq_true rfl)) dL_law_202 ⟨by show _ ≤ 601024; omega, by show _ ≤ 7293034; omega⟩) ?_
      refine lv_iload hx hb dL_law_205 (lv_at hl 1 rfl) ?_
      refine lv_icmp_eq (tgt := 212) hx hb dL_law_207 (by decide) (fun c_207 => ?_) (fun c_207 => ?_)
      · skip
        have c_207 : 1 = 1 := (nI_eq (a := 1) (b := 1) (by omega) (by omega)).mp c_207
        refine lv_iload hx hb dL_law_212 (lv_at hl 1 rfl) ?_
        refine lv_if_ne (tgt := 229) hx hb dL_law_214 (by decide) (fun c_214 => ?_) (fun c_214 => ?_)
        · skip
          have c_214 : ¬ (1 = 0) := fun h__ => c_214 ((nI_eq0 (i := 1) (by omega)).mpr h__)
          refine lv_goto (tgt := 1597) hx hb dL_law_229 (by decide) ?_
          exact W.widen (by omega) (by omega) (K _ _ _ _ _ ⟨hs, ⟨_, hm⟩, ⟨_, h45⟩, hW, hS⟩ (lv_sub hl [2, 3, 4, 5, 6] rfl))
        · skip
          have c_214 : 1 = 0 := (nI_eq0 (i := 1) (by omega)).mp c_214
          exact absurd c_214 (by omega)
      · skip
        have c_207 : ¬ (1 = 1) := fun h__ => c_207 ((nI_eq (a := 1) (b := 1) (by omega) (by omega)).mpr h__)
        exact absurd c_207 (by omega)
    · skip
      first | exact absurd hc hc2 | exact absurd hc2 hc | exact absurd hc.1 hc2 | exact absurd hc2.1 hc | exact absurd hc.2 hc2.2 | exact absurd hc2.2 hc.2 | (exact absurd hc.2 (by omega)) | (exact absurd hc (by omega)) | (exact absurd hc2.2 (by omega))
  · skip
    subst hr9
    refine lv_istore (lv' := [(5, .int (nI 2)), (0, .ref (b0)), (1, .ref (b + 0)), (2, .ref (b + 36)), (3, .ref (b + 45)), (4, .int (nI i))]) hx hb dL_law_175 hl (by decide) rfl (fun ls hl => ?_)
    refine lv_aload_n hx hb dL_law_177 rfl (lv_at hl 3 rfl) ?_
    refine lv_aload_n hx hb dL_law_178 rfl (lv_at hl 1 rfl) ?_
    refine lv_iload hx hb dL_law_179 (lv_at hl 5 rfl) ?_
    refine lv_iconst (v := nI 1) hx hb dL_law_181 (by decide) ?_
    refine lv_iadd hx hb dL_law_182 ?_
    refine q_top (y := nI (i + 1)) (nI_add _ _) ?_
    refine q_sld hx hb hX hbl hb0 hS hx9 (by omega) hL dL_law_183 ?_
    refine lv_aload_n hx hb dL_law_184 rfl (lv_at hl 1 rfl) ?_
    refine lv_iload hx hb dL_law_185 (lv_at hl 5 rfl) ?_
    refine lv_iconst (v := nI 2) hx hb dL_law_187 (by decide) ?_
    refine lv_iadd hx hb dL_law_188 ?_
    refine q_top (y := nI (i + 2)) (nI_add _ _) ?_
    refine q_sld hx hb hX hbl hb0 hS hy9 (by omega) hL dL_law_189 ?_
    refine lv_aload_n hx hb dL_law_190 rfl (lv_at hl 1 rfl) ?_
    refine lv_iload hx hb dL_law_191 (lv_at hl 5 rfl) ?_
    refine lv_iconst (v := nI 3) hx hb dL_law_193 (by decide) ?_
    refine lv_iadd hx hb dL_law_194 ?_
    refine q_top (y := nI (i + 3)) (nI_add _ _) ?_
    refine q_sld hx hb hX hbl hb0 hS hz9 (by omega) hL dL_law_195 ?_
    obtain ⟨fs196, ho36⟩ := hm.obj
    refine q_W1 (va_runV (As := [.int (x), .int (y), .int (z)]) (rest := []) ⟨hx, hb, hml, hown, hts⟩ (c_X7_word l hm (x) (y) (z)) (cwV 3 hts lg_X7_word rfl rfl rfl (by decide +kernel) ⟨Nat.le_of_ble_eq_true rfl, Nat.le_of_ble_eq_true rfl⟩) (q_preV hG hW hS ho36 rfl) rfl rfl hl.1 rfl (lv_room (Nat.le_of_ble_eq_true rfl)) dL_law_196 ⟨by show _ ≤ 601024; omega, by show _ ≤ 7293034; omega⟩) hS (fun w_196 H locs hp196 hW hS => ?_)
    obtain ⟨hd, hfm⟩ := hp196
    replace hs := hs.mod hfm
    replace h45 := (hfm 45 (by omega)).trans h45
    clear hm
    rcases hd with ⟨hc2, hm⟩ | ⟨hc2, hm⟩ | ⟨hc2, hm⟩
    · skip
      first | exact absurd hc hc2 | exact absurd hc2 hc | exact absurd hc.1 hc2 | exact absurd hc2.1 hc | exact absurd hc.2 hc2.2 | exact absurd hc2.2 hc.2 | (exact absurd hc.2 (by omega)) | (exact absurd hc (by omega)) | (exact absurd hc2.2 (by omega))
    · skip
      first | exact absurd hc hc2 | exact absurd hc2 hc | exact absurd hc.1 hc2 | exact absurd hc2.1 hc | exact absurd hc.2 hc2.2 | exact absurd hc2.2 hc.2 | (exact absurd hc.2 (by omega)) | (exact absurd hc (by omega)) | (exact absurd hc2.2 (by omega))
    · skip
      refine q_topv (v' := .int (nI 0)) (congrArg Value.int (if_neg (fun q9 => by first | exact hc2 q9 | exact hc2 q9.1 | exact absurd q9.2 (by omega) | exact hc2.2 q9.2 | exact q9.2 hc2.2 | omega))) ?_
      refine lv_istore (lv' := [(6, .int (nI 0)), (5, .int (nI 2)), (0, .ref (b0)), (1, .ref (b + 0)), (2, .ref (b + 36)), (3, .ref (b + 45)), (4, .int (nI i))]) hx hb dL_law_199 hl (by decide) rfl (fun ls hl => ?_)
      refine lv_aload_n hx hb dL_law_201 rfl (lv_at hl 4 rfl) ?_
      obtain ⟨fs202, ho36⟩ := hm.obj
      refine q_R1 (va_runV (As := []) (rest := []) ⟨hx, hb, hml, hown, hts⟩ (c_thr l hm) (cwV 0 hts lg_X7_thrown rfl rfl rfl (by decide +kernel) ⟨Nat.le_of_ble_eq_true rfl, Nat.le_of_ble_eq_true rfl⟩) (q_preV hG hW hS ho36 rfl) rfl rfl hl.1 rfl (lv_room (Nat.le_of_ble_eq_true rfl)) dL_law_202 ⟨by show _ ≤ 601024; omega, by show _ ≤ 7293034; omega⟩) ?_
      refine lv_iload hx hb dL_law_205 (lv_at hl 1 rfl) ?_
      refine lv_icmp_eq (tgt := 212) hx hb dL_law_207 (by decide) (fun c_207 => ?_) (fun c_207 => ?_)
      · skip
        have c_207 : 2 = 2 := (nI_eq (a := 2) (b := 2) (by omega) (by omega)).mp c_207
        refine lv_iload hx hb dL_law_212 (lv_at hl 1 rfl) ?_
        refine lv_if_ne (tgt := 229) hx hb dL_law_214 (by decide) (fun c_214 => ?_) (fun c_214 => ?_)
        · skip
          have c_214 : ¬ (2 = 0) := fun h__ => c_214 ((nI_eq0 (i := 2) (by omega)).mpr h__)
          refine lv_goto (tgt := 1597) hx hb dL_law_229 (by decide) ?_
          exact W.widen (by omega) (by omega) (K _ _ _ _ _ ⟨hs, ⟨_, hm⟩, ⟨_, h45⟩, hW, hS⟩ (lv_sub hl [2, 3, 4, 5, 6] rfl))
        · skip
          have c_214 : 2 = 0 := (nI_eq0 (i := 2) (by omega)).mp c_214
          exact absurd c_214 (by omega)
      · skip
        have c_207 : ¬ (2 = 2) := fun h__ => c_207 ((nI_eq (a := 2) (b := 2) (by omega) (by omega)).mpr h__)
        exact absurd c_207 (by omega)

set_option maxHeartbeats 1000000 in
set_option maxRecDepth 100000 in
/-- case 1: noise -/
theorem law_1 {p : Program} {l : Launch} {e : Env} {s : State} {m : MethodId} {args : Array Value} {below : List Frame} {meth : Method} {c : Code} {Q : State → Prop} {b0 L : Nat} {xs : Nat → Int32} {D : va_G} {dA : Nat → Nat} {b : Nat} (F9 : LWF p l s m args c b0 L xs D dA b) {w : Wd} {lo : Nat} {A : Sy} {H : Heap} {locs : List Loc} (V : LWV D dA b s w H locs lo A) {cells slots : Nat} (hcc : cells ≤ 600000) (hss : slots ≤ 7000000) {i : Nat} (hi : i + 5 ≤ L) {ls : Array Slot} (hl : LWL b b0 ls (nI i))
    (K : ∀ (w1 : Wd) (H1 : Heap) (locs1 : List Loc) (A1 : Sy) (ls1 : Array Slot), LWV D dA b s w1 H1 locs1 lo A1 → LWL b b0 ls1 (nI i) → W p l e room_1 s m args below meth c H1 locs1 (cells + 7) (slots + 116) Q (F0 m 1597 ls1 [])) : W p l e room_1 s m args below meth c H locs cells slots Q (F0 m 232 ls []) := by
  obtain ⟨hl0, hx, hb, hml, hown, hts, hX, hbl, hb0, hG, hL⟩ := F9
  obtain ⟨hs, ⟨tt, hm⟩, ⟨O9, h45⟩, hW, hS⟩ := V
  obtain ⟨P, ⟨n, Hs⟩, SL, nc, C⟩ := A
  have hlo : 46 ≤ lo := hs.2.2.2.2.2.2.1
  have hP := sys_ok hs
  change okP P at hP
  have hl : lv_has ls 9 [(0, .ref b0), (1, .ref (b + 0)), (2, .ref (b + 36)), (3, .ref (b + 45)), (4, .int (nI i))] := hl
  obtain ⟨x, hx9⟩ : ∃ q : Int32, xs (i + 1) = q := ⟨_, rfl⟩
  obtain ⟨y, hy9⟩ : ∃ q : Int32, xs (i + 2) = q := ⟨_, rfl⟩
  obtain ⟨z, hz9⟩ : ∃ q : Int32, xs (i + 3) = q := ⟨_, rfl⟩
  obtain ⟨u9, hu99⟩ : ∃ q : Int32, xs (i + 4) = q := ⟨_, rfl⟩
  refine lv_aload_n hx hb dL_law_232 rfl (lv_at hl 1 rfl) ?_
  refine lv_aload_n hx hb dL_law_233 rfl (lv_at hl 0 rfl) ?_
  refine lv_iload hx hb dL_law_234 (lv_at hl 4 rfl) ?_
  refine lv_iconst (v := nI 1) hx hb dL_law_236 (by decide) ?_
  refine lv_iadd hx hb dL_law_237 ?_
  refine q_top (y := nI (i + 1)) (nI_add _ _) ?_
  refine q_sld hx hb hX hbl hb0 hS hx9 (by omega) hL dL_law_238 ?_
  refine lv_aload_n hx hb dL_law_239 rfl (lv_at hl 0 rfl) ?_
  refine lv_iload hx hb dL_law_240 (lv_at hl 4 rfl) ?_
  refine lv_iconst (v := nI 2) hx hb dL_law_242 (by decide) ?_
  refine lv_iadd hx hb dL_law_243 ?_
  refine q_top (y := nI (i + 2)) (nI_add _ _) ?_
  refine q_sld hx hb hX hbl hb0 hS hy9 (by omega) hL dL_law_244 ?_
  refine lv_aload_n hx hb dL_law_245 rfl (lv_at hl 0 rfl) ?_
  refine lv_iload hx hb dL_law_246 (lv_at hl 4 rfl) ?_
  refine lv_iconst (v := nI 3) hx hb dL_law_248 (by decide) ?_
  refine lv_iadd hx hb dL_law_249 ?_
  refine q_top (y := nI (i + 3)) (nI_add _ _) ?_
  refine q_sld hx hb hX hbl hb0 hS hz9 (by omega) hL dL_law_250 ?_
  refine lv_aload_n hx hb dL_law_251 rfl (lv_at hl 0 rfl) ?_
  refine lv_iload hx hb dL_law_252 (lv_at hl 4 rfl) ?_
  refine lv_iconst (v := nI 4) hx hb dL_law_254 (by decide) ?_
  refine lv_iadd hx hb dL_law_255 ?_
  refine q_top (y := nI (i + 4)) (nI_add _ _) ?_
  refine q_sld hx hb hX hbl hb0 hS hu99 (by omega) hL dL_law_256 ?_
  refine lv_if_eq (tgt := 264) hx hb dL_law_257 (by decide) (fun c_257 => ?_) (fun c_257 => ?_)
  · skip
    refine lv_iconst (v := nI 0) hx hb dL_law_264 (by decide) ?_
    refine lv_aload_n hx hb dL_law_265 rfl (lv_at hl 3 rfl) ?_
    refine q_XE1 (vx_runSX (As := [.ref (b + 0), .int (x), .int (y), .int (z), .int (nI 0), .ref (b + 45)]) (rest := []) ⟨hx, hb, hml, hown, hts⟩ (c_L_noise l hl0 hs h45 (x) (y) (z) (0) (by omega)) (vx_cwSW 6 hts lg_L_noise rfl rfl rfl (by decide +kernel) ⟨Nat.le_of_ble_eq_true rfl, Nat.le_of_ble_eq_true rfl⟩) (q_preS hG hW hS) rfl rfl hl.1 rfl (lv_room (Nat.le_of_ble_eq_true rfl)) dL_law_266 ⟨by show _ ≤ 601024; omega, by show _ ≤ 7293034; omega⟩) hS (fun r266 w_266 H locs hp266 hW hS => ?_)
    obtain ⟨hor, hf5⟩ := hp266
    replace hm := hm.fr hf5
    clear hs h45
    rcases hor with ⟨hr9, hc, hs, h45⟩ | ⟨hr9, hc, hs, h45⟩ | ⟨hr9, hc, hs, h45⟩
    · skip
      subst hr9
      refine lv_istore (lv' := [(5, .int (nI 0)), (0, .ref (b0)), (1, .ref (b + 0)), (2, .ref (b + 36)), (3, .ref (b + 45)), (4, .int (nI i))]) hx hb dL_law_269 hl (by decide) rfl (fun ls hl => ?_)
      refine lv_aload_n hx hb dL_law_271 rfl (lv_at hl 3 rfl) ?_
      refine lv_aload_n hx hb dL_law_272 rfl (lv_at hl 1 rfl) ?_
      refine lv_iload hx hb dL_law_273 (lv_at hl 5 rfl) ?_
      refine lv_iconst (v := nI 1) hx hb dL_law_275 (by decide) ?_
      refine lv_iadd hx hb dL_law_276 ?_
      refine q_top (y := nI (i + 1)) (nI_add _ _) ?_
      refine q_sld hx hb hX hbl hb0 hS hx9 (by omega) hL dL_law_277 ?_
      refine lv_aload_n hx hb dL_law_278 rfl (lv_at hl 1 rfl) ?_
      refine lv_iload hx hb dL_law_279 (lv_at hl 5 rfl) ?_
      refine lv_iconst (v := nI 2) hx hb dL_law_281 (by decide) ?_
      refine lv_iadd hx hb dL_law_282 ?_
      refine q_top (y := nI (i + 2)) (nI_add _ _) ?_
      refine q_sld hx hb hX hbl hb0 hS hy9 (by omega) hL dL_law_283 ?_
      refine lv_aload_n hx hb dL_law_284 rfl (lv_at hl 1 rfl) ?_
      refine lv_iload hx hb dL_law_285 (lv_at hl 5 rfl) ?_
      refine lv_iconst (v := nI 3) hx hb dL_law_287 (by decide) ?_
      refine lv_iadd hx hb dL_law_288 ?_
      refine q_top (y := nI (i + 3)) (nI_add _ _) ?_
      refine q_sld hx hb hX hbl hb0 hS hz9 (by omega) hL dL_law_289 ?_
      refine lv_aload_n hx hb dL_law_290 rfl (lv_at hl 1 rfl) ?_
      refine lv_iload hx hb dL_law_291 (lv_at hl 5 rfl) ?_
      refine lv_iconst (v := nI 4) hx hb dL_law_293 (by decide) ?_
      refine lv_iadd hx hb dL_law_294 ?_
      refine q_top (y := nI (i + 4)) (nI_add _ _) ?_
      refine q_sld hx hb hX hbl hb0 hS hu99 (by omega) hL dL_law_295 ?_
      refine lv_if_eq (tgt := 303) hx hb dL_law_296 (by decide) (fun c_296 => ?_) (fun c_296 => ?_)
      · skip
        refine lv_iconst (v := nI 0) hx hb dL_law_303 (by decide) ?_
        obtain ⟨fs304, ho36⟩ := hm.obj
        refine q_W1 (va_runV (As := [.int (x), .int (y), .int (z), .int (nI 0)]) (rest := []) ⟨hx, hb, hml, hown, hts⟩ (c_X7_noise l hm (x) (y) (z) (0) (by omega)) (cwV 4 hts lg_X7_noise rfl rfl rfl (by decide +kernel) ⟨Nat.le_of_ble_eq_true rfl, Nat.le_of_ble_eq_true rfl⟩) (q_preV hG hW hS ho36 rfl) rfl rfl hl.1 rfl (lv_room (Nat.le_of_ble_eq_true rfl)) dL_law_304 ⟨by show _ ≤ 601024; omega, by show _ ≤ 7293034; omega⟩) hS (fun w_304 H locs hp304 hW hS => ?_)
        obtain ⟨hd, hfm⟩ := hp304
        replace hs := hs.mod hfm
        replace h45 := (hfm 45 (by omega)).trans h45
        clear hm
        rcases hd with ⟨hc2, hm⟩ | ⟨hc2, hm⟩ | ⟨hc2, hm⟩
        · skip
          refine q_topv (v' := .int (nI P.n)) (congrArg Value.int (if_pos hc2)) ?_
          refine lv_istore (lv' := [(6, .int (nI P.n)), (5, .int (nI 0)), (0, .ref (b0)), (1, .ref (b + 0)), (2, .ref (b + 36)), (3, .ref (b + 45)), (4, .int (nI i))]) hx hb dL_law_307 hl (by decide) rfl (fun ls hl => ?_)
          refine lv_aload_n hx hb dL_law_309 rfl (lv_at hl 4 rfl) ?_
          obtain ⟨fs310, ho36⟩ := hm.obj
          refine q_R1 (va_runV (As := []) (rest := []) ⟨hx, hb, hml, hown, hts⟩ (c_thr l hm) (cwV 0 hts lg_X7_thrown rfl rfl rfl (by decide +kernel) ⟨Nat.le_of_ble_eq_true rfl, Nat.le_of_ble_eq_true rfl⟩) (q_preV hG hW hS ho36 rfl) rfl rfl hl.1 rfl (lv_room (Nat.le_of_ble_eq_true rfl)) dL_law_310 ⟨by show _ ≤ 601024; omega, by show _ ≤ 7293034; omega⟩) ?_
          refine lv_iload hx hb dL_law_313 (lv_at hl 1 rfl) ?_
          refine lv_icmp_eq (tgt := 320) hx hb dL_law_315 (by decide) (fun c_315 => ?_) (fun c_315 => ?_)
          · skip
            have c_315 : 0 = 0 := (nI_eq (a := 0) (b := 0) (by omega) (by omega)).mp c_315
            refine lv_iload hx hb dL_law_320 (lv_at hl 1 rfl) ?_
            refine lv_if_ne (tgt := 337) hx hb dL_law_322 (by decide) (fun c_322 => ?_) (fun c_322 => ?_)
            · skip
              have c_322 : ¬ (0 = 0) := fun h__ => c_322 ((nI_eq0 (i := 0) (by omega)).mpr h__)
              exact absurd c_322 (by omega)
            · skip
              have c_322 : 0 = 0 := (nI_eq0 (i := 0) (by omega)).mp c_322
              refine lv_aload_n hx hb dL_law_325 rfl (lv_at hl 5 rfl) ?_
              refine lv_iconst (v := nI 0) hx hb dL_law_326 (by decide) ?_
              refine q_lald hx hb hG hW h45 (by decide) (by decide) dL_law_327 ?_
              refine q_topv (v' := .long ((nI P.n).toInt64)) (by rw [va_up_self]) ?_
              refine lv_iload hx hb dL_law_328 (lv_at hl 0 rfl) ?_
              refine lv_i2l hx hb dL_law_330 rfl ?_
              refine W.lcmp hx hb dL_law_331 ?_
              refine q_topv (v' := .int (nI 0)) (congrArg Value.int (lg_cmp_self _)) ?_
              refine lv_if_eq (tgt := 337) hx hb dL_law_332 (by decide) (fun c_332 => ?_) (fun c_332 => ?_)
              · skip
                have c_332 : 0 = 0 := (nI_eq0 (i := 0) (by omega)).mp c_332
                refine lv_goto (tgt := 1597) hx hb dL_law_337 (by decide) ?_
                exact W.widen (by omega) (by omega) (K _ _ _ _ _ ⟨hs, ⟨_, hm⟩, ⟨_, h45⟩, hW, hS⟩ (lv_sub hl [2, 3, 4, 5, 6] rfl))
              · skip
                have c_332 : ¬ (0 = 0) := fun h__ => c_332 ((nI_eq0 (i := 0) (by omega)).mpr h__)
                exact absurd c_332 (by omega)
          · skip
            have c_315 : ¬ (0 = 0) := fun h__ => c_315 ((nI_eq (a := 0) (b := 0) (by omega) (by omega)).mpr h__)
            exact absurd c_315 (by omega)
        · skip
          first | exact absurd hc hc2 | exact absurd hc2 hc | exact absurd hc.1 hc2 | exact absurd hc2.1 hc | exact absurd hc.2 hc2.2 | exact absurd hc2.2 hc.2 | (exact absurd hc.2 (by omega)) | (exact absurd hc (by omega)) | (exact absurd hc2.2 (by omega))
        · skip
          first | exact absurd hc hc2 | exact absurd hc2 hc | exact absurd hc.1 hc2 | exact absurd hc2.1 hc | exact absurd hc.2 hc2.2 | exact absurd hc2.2 hc.2 | (exact absurd hc.2 (by omega)) | (exact absurd hc (by omega)) | (exact absurd hc2.2 (by omega))
      · skip
        exact absurd c_257 c_296
    · skip
      subst hr9
      refine lv_istore (lv' := [(5, .int (nI 1)), (0, .ref (b0)), (1, .ref (b + 0)), (2, .ref (b + 36)), (3, .ref (b + 45)), (4, .int (nI i))]) hx hb dL_law_269 hl (by decide) rfl (fun ls hl => ?_)
      refine lv_aload_n hx hb dL_law_271 rfl (lv_at hl 3 rfl) ?_
      refine lv_aload_n hx hb dL_law_272 rfl (lv_at hl 1 rfl) ?_
      refine lv_iload hx hb dL_law_273 (lv_at hl 5 rfl) ?_
      refine lv_iconst (v := nI 1) hx hb dL_law_275 (by decide) ?_
      refine lv_iadd hx hb dL_law_276 ?_
      refine q_top (y := nI (i + 1)) (nI_add _ _) ?_
      refine q_sld hx hb hX hbl hb0 hS hx9 (by omega) hL dL_law_277 ?_
      refine lv_aload_n hx hb dL_law_278 rfl (lv_at hl 1 rfl) ?_
      refine lv_iload hx hb dL_law_279 (lv_at hl 5 rfl) ?_
      refine lv_iconst (v := nI 2) hx hb dL_law_281 (by decide) ?_
      refine lv_iadd hx hb dL_law_282 ?_
      refine q_top (y := nI (i + 2)) (nI_add _ _) ?_
      refine q_sld hx hb hX hbl hb0 hS hy9 (by omega) hL dL_law_283 ?_
      refine lv_aload_n hx hb dL_law_284 rfl (lv_at hl 1 rfl) ?_
      refine lv_iload hx hb dL_law_285 (lv_at hl 5 rfl) ?_
      refine lv_iconst (v := nI 3) hx hb dL_law_287 (by decide) ?_
      refine lv_iadd hx hb dL_law_288 ?_
      refine q_top (y := nI (i + 3)) (nI_add _ _) ?_
      refine q_sld hx hb hX hbl hb0 hS hz9 (by omega) hL dL_law_289 ?_
      refine lv_aload_n hx hb dL_law_290 rfl (lv_at hl 1 rfl) ?_
      refine lv_iload hx hb dL_law_291 (lv_at hl 5 rfl) ?_
      refine lv_iconst (v := nI 4) hx hb dL_law_293 (by decide) ?_
      refine lv_iadd hx hb dL_law_294 ?_
      refine q_top (y := nI (i + 4)) (nI_add _ _) ?_
      refine q_sld hx hb hX hbl hb0 hS hu99 (by omega) hL dL_law_295 ?_
      refine lv_if_eq (tgt := 303) hx hb dL_law_296 (by decide) (fun c_296 => ?_) (fun c_296 => ?_)
      · skip
        refine lv_iconst (v := nI 0) hx hb dL_law_303 (by decide) ?_
        obtain ⟨fs304, ho36⟩ := hm.obj
        refine q_W1 (va_runV (As := [.int (x), .int (y), .int (z), .int (nI 0)]) (rest := []) ⟨hx, hb, hml, hown, hts⟩ (c_X7_noise l hm (x) (y) (z) (0) (by omega)) (cwV 4 hts lg_X7_noise rfl rfl rfl (by decide +kernel) ⟨Nat.le_of_ble_eq_true rfl, Nat.le_of_ble_eq_true rfl⟩) (q_preV hG hW hS ho36 rfl) rfl rfl hl.1 rfl (lv_room (Nat.le_of_ble_eq_true rfl)) dL_law_304 ⟨by show _ ≤ 601024; omega, by show _ ≤ 7293034; omega⟩) hS (fun w_304 H locs hp304 hW hS => ?_)
        obtain ⟨hd, hfm⟩ := hp304
        replace hs := hs.mod hfm
        replace h45 := (hfm 45 (by omega)).trans h45
        clear hm
        rcases hd with ⟨hc2, hm⟩ | ⟨hc2, hm⟩ | ⟨hc2, hm⟩
        · skip
          first | exact absurd hc hc2 | exact absurd hc2 hc | exact absurd hc.1 hc2 | exact absurd hc2.1 hc | exact absurd hc.2 hc2.2 | exact absurd hc2.2 hc.2 | (exact absurd hc.2 (by omega)) | (exact absurd hc (by omega)) | (exact absurd hc2.2 (by omega))
        · skip
          refine q_topv (v' := .int (nI 0)) (congrArg Value.int (if_neg (fun q9 => by first | exact hc2 q9 | exact hc2 q9.1 | exact absurd q9.2 (by omega) | exact hc2.2 q9.2 | exact q9.2 hc2.2 | omega))) ?_
          refine lv_istore (lv' := [(6, .int (nI 0)), (5, .int (nI 1)), (0, .ref (b0)), (1, .ref (b + 0)), (2, .ref (b + 36)), (3, .ref (b + 45)), (4, .int (nI i))]) hx hb dL_law_307 hl (by decide) rfl (fun ls hl => ?_)
          refine lv_aload_n hx hb dL_law_309 rfl (lv_at hl 4 rfl) ?_
          obtain ⟨fs310, ho36⟩ := hm.obj
          refine q_R1 (va_runV (As := []) (rest := []) ⟨hx, hb, hml, hown, hts⟩ (c_thr l hm) (cwV 0 hts lg_X7_thrown rfl rfl rfl (by decide +kernel) ⟨Nat.le_of_ble_eq_true rfl, Nat.le_of_ble_eq_true rfl⟩) (q_preV hG hW hS ho36 rfl) rfl rfl hl.1 rfl (lv_room (Nat.le_of_ble_eq_true rfl)) dL_law_310 ⟨by show _ ≤ 601024; omega, by show _ ≤ 7293034; omega⟩) ?_
          refine lv_iload hx hb dL_law_313 (lv_at hl 1 rfl) ?_
          refine lv_icmp_eq (tgt := 320) hx hb dL_law_315 (by decide) (fun c_315 => ?_) (fun c_315 => ?_)
          · skip
            have c_315 : 1 = 1 := (nI_eq (a := 1) (b := 1) (by omega) (by omega)).mp c_315
            refine lv_iload hx hb dL_law_320 (lv_at hl 1 rfl) ?_
            refine lv_if_ne (tgt := 337) hx hb dL_law_322 (by decide) (fun c_322 => ?_) (fun c_322 => ?_)
            · skip
              have c_322 : ¬ (1 = 0) := fun h__ => c_322 ((nI_eq0 (i := 1) (by omega)).mpr h__)
              refine lv_goto (tgt := 1597) hx hb dL_law_337 (by decide) ?_
              exact W.widen (by omega) (by omega) (K _ _ _ _ _ ⟨hs, ⟨_, hm⟩, ⟨_, h45⟩, hW, hS⟩ (lv_sub hl [2, 3, 4, 5, 6] rfl))
            · skip
              have c_322 : 1 = 0 := (nI_eq0 (i := 1) (by omega)).mp c_322
              exact absurd c_322 (by omega)
          · skip
            have c_315 : ¬ (1 = 1) := fun h__ => c_315 ((nI_eq (a := 1) (b := 1) (by omega) (by omega)).mpr h__)
            exact absurd c_315 (by omega)
        · skip
          first | exact absurd hc hc2 | exact absurd hc2 hc | exact absurd hc.1 hc2 | exact absurd hc2.1 hc | exact absurd hc.2 hc2.2 | exact absurd hc2.2 hc.2 | (exact absurd hc.2 (by omega)) | (exact absurd hc (by omega)) | (exact absurd hc2.2 (by omega))
      · skip
        exact absurd c_257 c_296
    · skip
      subst hr9
      refine lv_istore (lv' := [(5, .int (nI 2)), (0, .ref (b0)), (1, .ref (b + 0)), (2, .ref (b + 36)), (3, .ref (b + 45)), (4, .int (nI i))]) hx hb dL_law_269 hl (by decide) rfl (fun ls hl => ?_)
      refine lv_aload_n hx hb dL_law_271 rfl (lv_at hl 3 rfl) ?_
      refine lv_aload_n hx hb dL_law_272 rfl (lv_at hl 1 rfl) ?_
      refine lv_iload hx hb dL_law_273 (lv_at hl 5 rfl) ?_
      refine lv_iconst (v := nI 1) hx hb dL_law_275 (by decide) ?_
      refine lv_iadd hx hb dL_law_276 ?_
      refine q_top (y := nI (i + 1)) (nI_add _ _) ?_
      refine q_sld hx hb hX hbl hb0 hS hx9 (by omega) hL dL_law_277 ?_
      refine lv_aload_n hx hb dL_law_278 rfl (lv_at hl 1 rfl) ?_
      refine lv_iload hx hb dL_law_279 (lv_at hl 5 rfl) ?_
      refine lv_iconst (v := nI 2) hx hb dL_law_281 (by decide) ?_
      refine lv_iadd hx hb dL_law_282 ?_
      refine q_top (y := nI (i + 2)) (nI_add _ _) ?_
      refine q_sld hx hb hX hbl hb0 hS hy9 (by omega) hL dL_law_283 ?_
      refine lv_aload_n hx hb dL_law_284 rfl (lv_at hl 1 rfl) ?_
      refine lv_iload hx hb dL_law_285 (lv_at hl 5 rfl) ?_
      refine lv_iconst (v := nI 3) hx hb dL_law_287 (by decide) ?_
      refine lv_iadd hx hb dL_law_288 ?_
      refine q_top (y := nI (i + 3)) (nI_add _ _) ?_
      refine q_sld hx hb hX hbl hb0 hS hz9 (by omega) hL dL_law_289 ?_
      refine lv_aload_n hx hb dL_law_290 rfl (lv_at hl 1 rfl) ?_
      refine lv_iload hx hb dL_law_291 (lv_at hl 5 rfl) ?_
      refine lv_iconst (v := nI 4) hx hb dL_law_293 (by decide) ?_
      refine lv_iadd hx hb dL_law_294 ?_
      refine q_top (y := nI (i + 4)) (nI_add _ _) ?_
      refine q_sld hx hb hX hbl hb0 hS hu99 (by omega) hL dL_law_295 ?_
      refine lv_if_eq (tgt := 303) hx hb dL_law_296 (by decide) (fun c_296 => ?_) (fun c_296 => ?_)
      · skip
        refine lv_iconst (v := nI 0) hx hb dL_law_303 (by decide) ?_
        obtain ⟨fs304, ho36⟩ := hm.obj
        refine q_W1 (va_runV (As := [.int (x), .int (y), .int (z), .int (nI 0)]) (rest := []) ⟨hx, hb, hml, hown, hts⟩ (c_X7_noise l hm (x) (y) (z) (0) (by omega)) (cwV 4 hts lg_X7_noise rfl rfl rfl (by decide +kernel) ⟨Nat.le_of_ble_eq_true rfl, Nat.le_of_ble_eq_true rfl⟩) (q_preV hG hW hS ho36 rfl) rfl rfl hl.1 rfl (lv_room (Nat.le_of_ble_eq_true rfl)) dL_law_304 ⟨by show _ ≤ 601024; omega, by show _ ≤ 7293034; omega⟩) hS (fun w_304 H locs hp304 hW hS => ?_)
        obtain ⟨hd, hfm⟩ := hp304
        replace hs := hs.mod hfm
        replace h45 := (hfm 45 (by omega)).trans h45
        clear hm
        rcases hd with ⟨hc2, hm⟩ | ⟨hc2, hm⟩ | ⟨hc2, hm⟩
        · skip
          first | exact absurd hc hc2 | exact absurd hc2 hc | exact absurd hc.1 hc2 | exact absurd hc2.1 hc | exact absurd hc.2 hc2.2 | exact absurd hc2.2 hc.2 | (exact absurd hc.2 (by omega)) | (exact absurd hc (by omega)) | (exact absurd hc2.2 (by omega))
        · skip
          first | exact absurd hc hc2 | exact absurd hc2 hc | exact absurd hc.1 hc2 | exact absurd hc2.1 hc | exact absurd hc.2 hc2.2 | exact absurd hc2.2 hc.2 | (exact absurd hc.2 (by omega)) | (exact absurd hc (by omega)) | (exact absurd hc2.2 (by omega))
        · skip
          refine q_topv (v' := .int (nI 0)) (congrArg Value.int (if_neg (fun q9 => by first | exact hc2 q9 | exact hc2 q9.1 | exact absurd q9.2 (by omega) | exact hc2.2 q9.2 | exact q9.2 hc2.2 | omega))) ?_
          refine lv_istore (lv' := [(6, .int (nI 0)), (5, .int (nI 2)), (0, .ref (b0)), (1, .ref (b + 0)), (2, .ref (b + 36)), (3, .ref (b + 45)), (4, .int (nI i))]) hx hb dL_law_307 hl (by decide) rfl (fun ls hl => ?_)
          refine lv_aload_n hx hb dL_law_309 rfl (lv_at hl 4 rfl) ?_
          obtain ⟨fs310, ho36⟩ := hm.obj
          refine q_R1 (va_runV (As := []) (rest := []) ⟨hx, hb, hml, hown, hts⟩ (c_thr l hm) (cwV 0 hts lg_X7_thrown rfl rfl rfl (by decide +kernel) ⟨Nat.le_of_ble_eq_true rfl, Nat.le_of_ble_eq_true rfl⟩) (q_preV hG hW hS ho36 rfl) rfl rfl hl.1 rfl (lv_room (Nat.le_of_ble_eq_true rfl)) dL_law_310 ⟨by show _ ≤ 601024; omega, by show _ ≤ 7293034; omega⟩) ?_
          refine lv_iload hx hb dL_law_313 (lv_at hl 1 rfl) ?_
          refine lv_icmp_eq (tgt := 320) hx hb dL_law_315 (by decide) (fun c_315 => ?_) (fun c_315 => ?_)
          · skip
            have c_315 : 2 = 2 := (nI_eq (a := 2) (b := 2) (by omega) (by omega)).mp c_315
            refine lv_iload hx hb dL_law_320 (lv_at hl 1 rfl) ?_
            refine lv_if_ne (tgt := 337) hx hb dL_law_322 (by decide) (fun c_322 => ?_) (fun c_322 => ?_)
            · skip
              have c_322 : ¬ (2 = 0) := fun h__ => c_322 ((nI_eq0 (i := 2) (by omega)).mpr h__)
              refine lv_goto (tgt := 1597) hx hb dL_law_337 (by decide) ?_
              exact W.widen (by omega) (by omega) (K _ _ _ _ _ ⟨hs, ⟨_, hm⟩, ⟨_, h45⟩, hW, hS⟩ (lv_sub hl [2, 3, 4, 5, 6] rfl))
            · skip
              have c_322 : 2 = 0 := (nI_eq0 (i := 2) (by omega)).mp c_322
              exact absurd c_322 (by omega)
          · skip
            have c_315 : ¬ (2 = 2) := fun h__ => c_315 ((nI_eq (a := 2) (b := 2) (by omega) (by omega)).mpr h__)
            exact absurd c_315 (by omega)
      · skip
        exact absurd c_257 c_296
  · skip
    refine lv_iconst (v := nI 1) hx hb dL_law_260 (by decide) ?_
    refine lv_goto (tgt := 265) hx hb dL_law_261 (by decide) ?_
    refine lv_aload_n hx hb dL_law_265 rfl (lv_at hl 3 rfl) ?_
    refine q_XE1 (vx_runSX (As := [.ref (b + 0), .int (x), .int (y), .int (z), .int (nI 1), .ref (b + 45)]) (rest := []) ⟨hx, hb, hml, hown, hts⟩ (c_L_noise l hl0 hs h45 (x) (y) (z) (1) (by omega)) (vx_cwSW 6 hts lg_L_noise rfl rfl rfl (by decide +kernel) ⟨Nat.le_of_ble_eq_true rfl, Nat.le_of_ble_eq_true rfl⟩) (q_preS hG hW hS) rfl rfl hl.1 rfl (lv_room (Nat.le_of_ble_eq_true rfl)) dL_law_266 ⟨by show _ ≤ 601024; omega, by show _ ≤ 7293034; omega⟩) hS (fun r266 w_266 H locs hp266 hW hS => ?_)
    obtain ⟨hor, hf5⟩ := hp266
    replace hm := hm.fr hf5
    clear hs h45
    rcases hor with ⟨hr9, hc, hs, h45⟩ | ⟨hr9, hc, hs, h45⟩ | ⟨hr9, hc, hs, h45⟩
    · skip
      subst hr9
      refine lv_istore (lv' := [(5, .int (nI 0)), (0, .ref (b0)), (1, .ref (b + 0)), (2, .ref (b + 36)), (3, .ref (b + 45)), (4, .int (nI i))]) hx hb dL_law_269 hl (by decide) rfl (fun ls hl => ?_)
      refine lv_aload_n hx hb dL_law_271 rfl (lv_at hl 3 rfl) ?_
      refine lv_aload_n hx hb dL_law_272 rfl (lv_at hl 1 rfl) ?_
      refine lv_iload hx hb dL_law_273 (lv_at hl 5 rfl) ?_
      refine lv_iconst (v := nI 1) hx hb dL_law_275 (by decide) ?_
      refine lv_iadd hx hb dL_law_276 ?_
      refine q_top (y := nI (i + 1)) (nI_add _ _) ?_
      refine q_sld hx hb hX hbl hb0 hS hx9 (by omega) hL dL_law_277 ?_
      refine lv_aload_n hx hb dL_law_278 rfl (lv_at hl 1 rfl) ?_
      refine lv_iload hx hb dL_law_279 (lv_at hl 5 rfl) ?_
      refine lv_iconst (v := nI 2) hx hb dL_law_281 (by decide) ?_
      refine lv_iadd hx hb dL_law_282 ?_
      refine q_top (y := nI (i + 2)) (nI_add _ _) ?_
      refine q_sld hx hb hX hbl hb0 hS hy9 (by omega) hL dL_law_283 ?_
      refine lv_aload_n hx hb dL_law_284 rfl (lv_at hl 1 rfl) ?_
      refine lv_iload hx hb dL_law_285 (lv_at hl 5 rfl) ?_
      refine lv_iconst (v := nI 3) hx hb dL_law_287 (by decide) ?_
      refine lv_iadd hx hb dL_law_288 ?_
      refine q_top (y := nI (i + 3)) (nI_add _ _) ?_
      refine q_sld hx hb hX hbl hb0 hS hz9 (by omega) hL dL_law_289 ?_
      refine lv_aload_n hx hb dL_law_290 rfl (lv_at hl 1 rfl) ?_
      refine lv_iload hx hb dL_law_291 (lv_at hl 5 rfl) ?_
      refine lv_iconst (v := nI 4) hx hb dL_law_293 (by decide) ?_
      refine lv_iadd hx hb dL_law_294 ?_
      refine q_top (y := nI (i + 4)) (nI_add _ _) ?_
      refine q_sld hx hb hX hbl hb0 hS hu99 (by omega) hL dL_law_295 ?_
      refine lv_if_eq (tgt := 303) hx hb dL_law_296 (by decide) (fun c_296 => ?_) (fun c_296 => ?_)
      · skip
        exact absurd c_296 c_257
      · skip
        refine lv_iconst (v := nI 1) hx hb dL_law_299 (by decide) ?_
        refine lv_goto (tgt := 304) hx hb dL_law_300 (by decide) ?_
        obtain ⟨fs304, ho36⟩ := hm.obj
        refine q_W1 (va_runV (As := [.int (x), .int (y), .int (z), .int (nI 1)]) (rest := []) ⟨hx, hb, hml, hown, hts⟩ (c_X7_noise l hm (x) (y) (z) (1) (by omega)) (cwV 4 hts lg_X7_noise rfl rfl rfl (by decide +kernel) ⟨Nat.le_of_ble_eq_true rfl, Nat.le_of_ble_eq_true rfl⟩) (q_preV hG hW hS ho36 rfl) rfl rfl hl.1 rfl (lv_room (Nat.le_of_ble_eq_true rfl)) dL_law_304 ⟨by show _ ≤ 601024; omega, by show _ ≤ 7293034; omega⟩) hS (fun w_304 H locs hp304 hW hS => ?_)
        obtain ⟨hd, hfm⟩ := hp304
        replace hs := hs.mod hfm
        replace h45 := (hfm 45 (by omega)).trans h45
        clear hm
        rcases hd with ⟨hc2, hm⟩ | ⟨hc2, hm⟩ | ⟨hc2, hm⟩
        · skip
          refine q_topv (v' := .int (nI P.n)) (congrArg Value.int (if_pos hc2)) ?_
          refine lv_istore (lv' := [(6, .int (nI P.n)), (5, .int (nI 0)), (0, .ref (b0)), (1, .ref (b + 0)), (2, .ref (b + 36)), (3, .ref (b + 45)), (4, .int (nI i))]) hx hb dL_law_307 hl (by decide) rfl (fun ls hl => ?_)
          refine lv_aload_n hx hb dL_law_309 rfl (lv_at hl 4 rfl) ?_
          obtain ⟨fs310, ho36⟩ := hm.obj
          refine q_R1 (va_runV (As := []) (rest := []) ⟨hx, hb, hml, hown, hts⟩ (c_thr l hm) (cwV 0 hts lg_X7_thrown rfl rfl rfl (by decide +kernel) ⟨Nat.le_of_ble_eq_true rfl, Nat.le_of_ble_eq_true rfl⟩) (q_preV hG hW hS ho36 rfl) rfl rfl hl.1 rfl (lv_room (Nat.le_of_ble_eq_true rfl)) dL_law_310 ⟨by show _ ≤ 601024; omega, by show _ ≤ 7293034; omega⟩) ?_
          refine lv_iload hx hb dL_law_313 (lv_at hl 1 rfl) ?_
          refine lv_icmp_eq (tgt := 320) hx hb dL_law_315 (by decide) (fun c_315 => ?_) (fun c_315 => ?_)
          · skip
            have c_315 : 0 = 0 := (nI_eq (a := 0) (b := 0) (by omega) (by omega)).mp c_315
            refine lv_iload hx hb dL_law_320 (lv_at hl 1 rfl) ?_
            refine lv_if_ne (tgt := 337) hx hb dL_law_322 (by decide) (fun c_322 => ?_) (fun c_322 => ?_)
            · skip
              have c_322 : ¬ (0 = 0) := fun h__ => c_322 ((nI_eq0 (i := 0) (by omega)).mpr h__)
              exact absurd c_322 (by omega)
            · skip
              have c_322 : 0 = 0 := (nI_eq0 (i := 0) (by omega)).mp c_322
              refine lv_aload_n hx hb dL_law_325 rfl (lv_at hl 5 rfl) ?_
              refine lv_iconst (v := nI 0) hx hb dL_law_326 (by decide) ?_
              refine q_lald hx hb hG hW h45 (by decide) (by decide) dL_law_327 ?_
              refine q_topv (v' := .long ((nI P.n).toInt64)) (by rw [va_up_self]) ?_
              refine lv_iload hx hb dL_law_328 (lv_at hl 0 rfl) ?_
              refine lv_i2l hx hb dL_law_330 rfl ?_
              refine W.lcmp hx hb dL_law_331 ?_
              refine q_topv (v' := .int (nI 0)) (congrArg Value.int (lg_cmp_self _)) ?_
              refine lv_if_eq (tgt := 337) hx hb dL_law_332 (by decide) (fun c_332 => ?_) (fun c_332 => ?_)
              · skip
                have c_332 : 0 = 0 := (nI_eq0 (i := 0) (by omega)).mp c_332
                refine lv_goto (tgt := 1597) hx hb dL_law_337 (by decide) ?_
                exact W.widen (by omega) (by omega) (K _ _ _ _ _ ⟨hs, ⟨_, hm⟩, ⟨_, h45⟩, hW, hS⟩ (lv_sub hl [2, 3, 4, 5, 6] rfl))
              · skip
                have c_332 : ¬ (0 = 0) := fun h__ => c_332 ((nI_eq0 (i := 0) (by omega)).mpr h__)
                exact absurd c_332 (by omega)
          · skip
            have c_315 : ¬ (0 = 0) := fun h__ => c_315 ((nI_eq (a := 0) (b := 0) (by omega) (by omega)).mpr h__)
            exact absurd c_315 (by omega)
        · skip
          first | exact absurd hc hc2 | exact absurd hc2 hc | exact absurd hc.1 hc2 | exact absurd hc2.1 hc | exact absurd hc.2 hc2.2 | exact absurd hc2.2 hc.2 | (exact absurd hc.2 (by omega)) | (exact absurd hc (by omega)) | (exact absurd hc2.2 (by omega))
        · skip
          first | exact absurd hc hc2 | exact absurd hc2 hc | exact absurd hc.1 hc2 | exact absurd hc2.1 hc | exact absurd hc.2 hc2.2 | exact absurd hc2.2 hc.2 | (exact absurd hc.2 (by omega)) | (exact absurd hc (by omega)) | (exact absurd hc2.2 (by omega))
    · skip
      subst hr9
      refine lv_istore (lv' := [(5, .int (nI 1)), (0, .ref (b0)), (1, .ref (b + 0)), (2, .ref (b + 36)), (3, .ref (b + 45)), (4, .int (nI i))]) hx hb dL_law_269 hl (by decide) rfl (fun ls hl => ?_)
      refine lv_aload_n hx hb dL_law_271 rfl (lv_at hl 3 rfl) ?_
      refine lv_aload_n hx hb dL_law_272 rfl (lv_at hl 1 rfl) ?_
      refine lv_iload hx hb dL_law_273 (lv_at hl 5 rfl) ?_
      refine lv_iconst (v := nI 1) hx hb dL_law_275 (by decide) ?_
      refine lv_iadd hx hb dL_law_276 ?_
      refine q_top (y := nI (i + 1)) (nI_add _ _) ?_
      refine q_sld hx hb hX hbl hb0 hS hx9 (by omega) hL dL_law_277 ?_
      refine lv_aload_n hx hb dL_law_278 rfl (lv_at hl 1 rfl) ?_
      refine lv_iload hx hb dL_law_279 (lv_at hl 5 rfl) ?_
      refine lv_iconst (v := nI 2) hx hb dL_law_281 (by decide) ?_
      refine lv_iadd hx hb dL_law_282 ?_
      refine q_top (y := nI (i + 2)) (nI_add _ _) ?_
      refine q_sld hx hb hX hbl hb0 hS hy9 (by omega) hL dL_law_283 ?_
      refine lv_aload_n hx hb dL_law_284 rfl (lv_at hl 1 rfl) ?_
      refine lv_iload hx hb dL_law_285 (lv_at hl 5 rfl) ?_
      refine lv_iconst (v := nI 3) hx hb dL_law_287 (by decide) ?_
      refine lv_iadd hx hb dL_law_288 ?_
      refine q_top (y := nI (i + 3)) (nI_add _ _) ?_
      refine q_sld hx hb hX hbl hb0 hS hz9 (by omega) hL dL_law_289 ?_
      refine lv_aload_n hx hb dL_law_290 rfl (lv_at hl 1 rfl) ?_
      refine lv_iload hx hb dL_law_291 (lv_at hl 5 rfl) ?_
      refine lv_iconst (v := nI 4) hx hb dL_law_293 (by decide) ?_
      refine lv_iadd hx hb dL_law_294 ?_
      refine q_top (y := nI (i + 4)) (nI_add _ _) ?_
      refine q_sld hx hb hX hbl hb0 hS hu99 (by omega) hL dL_law_295 ?_
      refine lv_if_eq (tgt := 303) hx hb dL_law_296 (by decide) (fun c_296 => ?_) (fun c_296 => ?_)
      · skip
        exact absurd c_296 c_257
      · skip
        refine lv_iconst (v := nI 1) hx hb dL_law_299 (by decide) ?_
        refine lv_goto (tgt := 304) hx hb dL_law_300 (by decide) ?_
        obtain ⟨fs304, ho36⟩ := hm.obj
        refine q_W1 (va_runV (As := [.int (x), .int (y), .int (z), .int (nI 1)]) (rest := []) ⟨hx, hb, hml, hown, hts⟩ (c_X7_noise l hm (x) (y) (z) (1) (by omega)) (cwV 4 hts lg_X7_noise rfl rfl rfl (by decide +kernel) ⟨Nat.le_of_ble_eq_true rfl, Nat.le_of_ble_eq_true rfl⟩) (q_preV hG hW hS ho36 rfl) rfl rfl hl.1 rfl (lv_room (Nat.le_of_ble_eq_true rfl)) dL_law_304 ⟨by show _ ≤ 601024; omega, by show _ ≤ 7293034; omega⟩) hS (fun w_304 H locs hp304 hW hS => ?_)
        obtain ⟨hd, hfm⟩ := hp304
        replace hs := hs.mod hfm
        replace h45 := (hfm 45 (by omega)).trans h45
        clear hm
        rcases hd with ⟨hc2, hm⟩ | ⟨hc2, hm⟩ | ⟨hc2, hm⟩
        · skip
          first | exact absurd hc hc2 | exact absurd hc2 hc | exact absurd hc.1 hc2 | exact absurd hc2.1 hc | exact absurd hc.2 hc2.2 | exact absurd hc2.2 hc.2 | (exact absurd hc.2 (by omega)) | (exact absurd hc (by omega)) | (exact absurd hc2.2 (by omega))
        · skip
          refine q_topv (v' := .int (nI 0)) (congrArg Value.int (if_neg (fun q9 => by first | exact hc2 q9 | exact hc2 q9.1 | exact absurd q9.2 (by omega) | exact hc2.2 q9.2 | exact q9.2 hc2.2 | omega))) ?_
          refine lv_istore (lv' := [(6, .int (nI 0)), (5, .int (nI 1)), (0, .ref (b0)), (1, .ref (b + 0)), (2, .ref (b + 36)), (3, .ref (b + 45)), (4, .int (nI i))]) hx hb dL_law_307 hl (by decide) rfl (fun ls hl => ?_)
          refine lv_aload_n hx hb dL_law_309 rfl (lv_at hl 4 rfl) ?_
          obtain ⟨fs310, ho36⟩ := hm.obj
          refine q_R1 (va_runV (As := []) (rest := []) ⟨hx, hb, hml, hown, hts⟩ (c_thr l hm) (cwV 0 hts lg_X7_thrown rfl rfl rfl (by decide +kernel) ⟨Nat.le_of_ble_eq_true rfl, Nat.le_of_ble_eq_true rfl⟩) (q_preV hG hW hS ho36 rfl) rfl rfl hl.1 rfl (lv_room (Nat.le_of_ble_eq_true rfl)) dL_law_310 ⟨by show _ ≤ 601024; omega, by show _ ≤ 7293034; omega⟩) ?_
          refine lv_iload hx hb dL_law_313 (lv_at hl 1 rfl) ?_
          refine lv_icmp_eq (tgt := 320) hx hb dL_law_315 (by decide) (fun c_315 => ?_) (fun c_315 => ?_)
          · skip
            have c_315 : 1 = 1 := (nI_eq (a := 1) (b := 1) (by omega) (by omega)).mp c_315
            refine lv_iload hx hb dL_law_320 (lv_at hl 1 rfl) ?_
            refine lv_if_ne (tgt := 337) hx hb dL_law_322 (by decide) (fun c_322 => ?_) (fun c_322 => ?_)
            · skip
              have c_322 : ¬ (1 = 0) := fun h__ => c_322 ((nI_eq0 (i := 1) (by omega)).mpr h__)
              refine lv_goto (tgt := 1597) hx hb dL_law_337 (by decide) ?_
              exact W.widen (by omega) (by omega) (K _ _ _ _ _ ⟨hs, ⟨_, hm⟩, ⟨_, h45⟩, hW, hS⟩ (lv_sub hl [2, 3, 4, 5, 6] rfl))
            · skip
              have c_322 : 1 = 0 := (nI_eq0 (i := 1) (by omega)).mp c_322
              exact absurd c_322 (by omega)
          · skip
            have c_315 : ¬ (1 = 1) := fun h__ => c_315 ((nI_eq (a := 1) (b := 1) (by omega) (by omega)).mpr h__)
            exact absurd c_315 (by omega)
        · skip
          first | exact absurd hc hc2 | exact absurd hc2 hc | exact absurd hc.1 hc2 | exact absurd hc2.1 hc | exact absurd hc.2 hc2.2 | exact absurd hc2.2 hc.2 | (exact absurd hc.2 (by omega)) | (exact absurd hc (by omega)) | (exact absurd hc2.2 (by omega))
    · skip
      subst hr9
      refine lv_istore (lv' := [(5, .int (nI 2)), (0, .ref (b0)), (1, .ref (b + 0)), (2, .ref (b + 36)), (3, .ref (b + 45)), (4, .int (nI i))]) hx hb dL_law_269 hl (by decide) rfl (fun ls hl => ?_)
      refine lv_aload_n hx hb dL_law_271 rfl (lv_at hl 3 rfl) ?_
      refine lv_aload_n hx hb dL_law_272 rfl (lv_at hl 1 rfl) ?_
      refine lv_iload hx hb dL_law_273 (lv_at hl 5 rfl) ?_
      refine lv_iconst (v := nI 1) hx hb dL_law_275 (by decide) ?_
      refine lv_iadd hx hb dL_law_276 ?_
      refine q_top (y := nI (i + 1)) (nI_add _ _) ?_
      refine q_sld hx hb hX hbl hb0 hS hx9 (by omega) hL dL_law_277 ?_
      refine lv_aload_n hx hb dL_law_278 rfl (lv_at hl 1 rfl) ?_
      refine lv_iload hx hb dL_law_279 (lv_at hl 5 rfl) ?_
      refine lv_iconst (v := nI 2) hx hb dL_law_281 (by decide) ?_
      refine lv_iadd hx hb dL_law_282 ?_
      refine q_top (y := nI (i + 2)) (nI_add _ _) ?_
      refine q_sld hx hb hX hbl hb0 hS hy9 (by omega) hL dL_law_283 ?_
      refine lv_aload_n hx hb dL_law_284 rfl (lv_at hl 1 rfl) ?_
      refine lv_iload hx hb dL_law_285 (lv_at hl 5 rfl) ?_
      refine lv_iconst (v := nI 3) hx hb dL_law_287 (by decide) ?_
      refine lv_iadd hx hb dL_law_288 ?_
      refine q_top (y := nI (i + 3)) (nI_add _ _) ?_
      refine q_sld hx hb hX hbl hb0 hS hz9 (by omega) hL dL_law_289 ?_
      refine lv_aload_n hx hb dL_law_290 rfl (lv_at hl 1 rfl) ?_
      refine lv_iload hx hb dL_law_291 (lv_at hl 5 rfl) ?_
      refine lv_iconst (v := nI 4) hx hb dL_law_293 (by decide) ?_
      refine lv_iadd hx hb dL_law_294 ?_
      refine q_top (y := nI (i + 4)) (nI_add _ _) ?_
      refine q_sld hx hb hX hbl hb0 hS hu99 (by omega) hL dL_law_295 ?_
      refine lv_if_eq (tgt := 303) hx hb dL_law_296 (by decide) (fun c_296 => ?_) (fun c_296 => ?_)
      · skip
        exact absurd c_296 c_257
      · skip
        refine lv_iconst (v := nI 1) hx hb dL_law_299 (by decide) ?_
        refine lv_goto (tgt := 304) hx hb dL_law_300 (by decide) ?_
        obtain ⟨fs304, ho36⟩ := hm.obj
        refine q_W1 (va_runV (As := [.int (x), .int (y), .int (z), .int (nI 1)]) (rest := []) ⟨hx, hb, hml, hown, hts⟩ (c_X7_noise l hm (x) (y) (z) (1) (by omega)) (cwV 4 hts lg_X7_noise rfl rfl rfl (by decide +kernel) ⟨Nat.le_of_ble_eq_true rfl, Nat.le_of_ble_eq_true rfl⟩) (q_preV hG hW hS ho36 rfl) rfl rfl hl.1 rfl (lv_room (Nat.le_of_ble_eq_true rfl)) dL_law_304 ⟨by show _ ≤ 601024; omega, by show _ ≤ 7293034; omega⟩) hS (fun w_304 H locs hp304 hW hS => ?_)
        obtain ⟨hd, hfm⟩ := hp304
        replace hs := hs.mod hfm
        replace h45 := (hfm 45 (by omega)).trans h45
        clear hm
        rcases hd with ⟨hc2, hm⟩ | ⟨hc2, hm⟩ | ⟨hc2, hm⟩
        · skip
          first | exact absurd hc hc2 | exact absurd hc2 hc | exact absurd hc.1 hc2 | exact absurd hc2.1 hc | exact absurd hc.2 hc2.2 | exact absurd hc2.2 hc.2 | (exact absurd hc.2 (by omega)) | (exact absurd hc (by omega)) | (exact absurd hc2.2 (by omega))
        · skip
          first | exact absurd hc hc2 | exact absurd hc2 hc | exact absurd hc.1 hc2 | exact absurd hc2.1 hc | exact absurd hc.2 hc2.2 | exact absurd hc2.2 hc.2 | (exact absurd hc.2 (by omega)) | (exact absurd hc (by omega)) | (exact absurd hc2.2 (by omega))
        · skip
          refine q_topv (v' := .int (nI 0)) (congrArg Value.int (if_neg (fun q9 => by first | exact hc2 q9 | exact hc2 q9.1 | exact absurd q9.2 (by omega) | exact hc2.2 q9.2 | exact q9.2 hc2.2 | omega))) ?_
          refine lv_istore (lv' := [(6, .int (nI 0)), (5, .int (nI 2)), (0, .ref (b0)), (1, .ref (b + 0)), (2, .ref (b + 36)), (3, .ref (b + 45)), (4, .int (nI i))]) hx hb dL_law_307 hl (by decide) rfl (fun ls hl => ?_)
          refine lv_aload_n hx hb dL_law_309 rfl (lv_at hl 4 rfl) ?_
          obtain ⟨fs310, ho36⟩ := hm.obj
          refine q_R1 (va_runV (As := []) (rest := []) ⟨hx, hb, hml, hown, hts⟩ (c_thr l hm) (cwV 0 hts lg_X7_thrown rfl rfl rfl (by decide +kernel) ⟨Nat.le_of_ble_eq_true rfl, Nat.le_of_ble_eq_true rfl⟩) (q_preV hG hW hS ho36 rfl) rfl rfl hl.1 rfl (lv_room (Nat.le_of_ble_eq_true rfl)) dL_law_310 ⟨by show _ ≤ 601024; omega, by show _ ≤ 7293034; omega⟩) ?_
          refine lv_iload hx hb dL_law_313 (lv_at hl 1 rfl) ?_
          refine lv_icmp_eq (tgt := 320) hx hb dL_law_315 (by decide) (fun c_315 => ?_) (fun c_315 => ?_)
          · skip
            have c_315 : 2 = 2 := (nI_eq (a := 2) (b := 2) (by omega) (by omega)).mp c_315
            refine lv_iload hx hb dL_law_320 (lv_at hl 1 rfl) ?_
            refine lv_if_ne (tgt := 337) hx hb dL_law_322 (by decide) (fun c_322 => ?_) (fun c_322 => ?_)
            · skip
              have c_322 : ¬ (2 = 0) := fun h__ => c_322 ((nI_eq0 (i := 2) (by omega)).mpr h__)
              refine lv_goto (tgt := 1597) hx hb dL_law_337 (by decide) ?_
              exact W.widen (by omega) (by omega) (K _ _ _ _ _ ⟨hs, ⟨_, hm⟩, ⟨_, h45⟩, hW, hS⟩ (lv_sub hl [2, 3, 4, 5, 6] rfl))
            · skip
              have c_322 : 2 = 0 := (nI_eq0 (i := 2) (by omega)).mp c_322
              exact absurd c_322 (by omega)
          · skip
            have c_315 : ¬ (2 = 2) := fun h__ => c_315 ((nI_eq (a := 2) (b := 2) (by omega) (by omega)).mpr h__)
            exact absurd c_315 (by omega)

set_option maxHeartbeats 1000000 in
set_option maxRecDepth 100000 in
/-- case 2: remove -/
theorem law_2 {p : Program} {l : Launch} {e : Env} {s : State} {m : MethodId} {args : Array Value} {below : List Frame} {meth : Method} {c : Code} {Q : State → Prop} {b0 L : Nat} {xs : Nat → Int32} {D : va_G} {dA : Nat → Nat} {b : Nat} (F9 : LWF p l s m args c b0 L xs D dA b) {w : Wd} {lo : Nat} {A : Sy} {H : Heap} {locs : List Loc} (V : LWV D dA b s w H locs lo A) {cells slots : Nat} (hcc : cells ≤ 600000) (hss : slots ≤ 7000000) {i : Nat} (hi : i + 5 ≤ L) {ls : Array Slot} (hl : LWL b b0 ls (nI i))
    (K : ∀ (w1 : Wd) (H1 : Heap) (locs1 : List Loc) (A1 : Sy) (ls1 : Array Slot), LWV D dA b s w1 H1 locs1 lo A1 → LWL b b0 ls1 (nI i) → W p l e room_1 s m args below meth c H1 locs1 (cells + 7) (slots + 116) Q (F0 m 1597 ls1 [])) : W p l e room_1 s m args below meth c H locs cells slots Q (F0 m 340 ls []) := by
  obtain ⟨hl0, hx, hb, hml, hown, hts, hX, hbl, hb0, hG, hL⟩ := F9
  obtain ⟨hs, ⟨tt, hm⟩, ⟨O9, h45⟩, hW, hS⟩ := V
  obtain ⟨P, ⟨n, Hs⟩, SL, nc, C⟩ := A
  have hlo : 46 ≤ lo := hs.2.2.2.2.2.2.1
  have hP := sys_ok hs
  change okP P at hP
  have hl : lv_has ls 9 [(0, .ref b0), (1, .ref (b + 0)), (2, .ref (b + 36)), (3, .ref (b + 45)), (4, .int (nI i))] := hl
  obtain ⟨f9, hf99⟩ : ∃ q : Int32, xs (i + 1) = q := ⟨_, rfl⟩
  obtain ⟨x, hx9⟩ : ∃ q : Int32, xs (i + 2) = q := ⟨_, rfl⟩
  refine lv_aload_n hx hb dL_law_340 rfl (lv_at hl 1 rfl) ?_
  refine lv_aload_n hx hb dL_law_341 rfl (lv_at hl 0 rfl) ?_
  refine lv_iload hx hb dL_law_342 (lv_at hl 4 rfl) ?_
  refine lv_iconst (v := nI 1) hx hb dL_law_344 (by decide) ?_
  refine lv_iadd hx hb dL_law_345 ?_
  refine q_top (y := nI (i + 1)) (nI_add _ _) ?_
  refine q_sld hx hb hX hbl hb0 hS hf99 (by omega) hL dL_law_346 ?_
  refine lv_if_eq (tgt := 354) hx hb dL_law_347 (by decide) (fun c_347 => ?_) (fun c_347 => ?_)
  · skip
    refine lv_iconst (v := nI 0) hx hb dL_law_354 (by decide) ?_
    refine lv_aload_n hx hb dL_law_355 rfl (lv_at hl 0 rfl) ?_
    refine lv_iload hx hb dL_law_356 (lv_at hl 4 rfl) ?_
    refine lv_iconst (v := nI 2) hx hb dL_law_358 (by decide) ?_
    refine lv_iadd hx hb dL_law_359 ?_
    refine q_top (y := nI (i + 2)) (nI_add _ _) ?_
    refine q_sld hx hb hX hbl hb0 hS hx9 (by omega) hL dL_law_360 ?_
    refine lv_aload_n hx hb dL_law_361 rfl (lv_at hl 3 rfl) ?_
    refine q_XE1 (vx_runSX (As := [.ref (b + 0), .int (nI 0), .int (x), .ref (b + 45)]) (rest := []) ⟨hx, hb, hml, hown, hts⟩ (c_L_remove_f l hl0 hs h45 (x)) (vx_cwSW 4 hts lg_L_remove rfl rfl rfl (by decide +kernel) ⟨Nat.le_of_ble_eq_true rfl, Nat.le_of_ble_eq_true rfl⟩) (q_preS hG hW hS) rfl rfl hl.1 rfl (lv_room (Nat.le_of_ble_eq_true rfl)) dL_law_362 ⟨by show _ ≤ 601024; omega, by show _ ≤ 7293034; omega⟩) hS (fun r362 w_362 H locs hp362 hW hS => ?_)
    obtain ⟨hor, hf5⟩ := hp362
    replace hm := hm.fr hf5
    clear hs h45
    rcases hor with ⟨hr9, hc, hs, h45⟩ | ⟨hr9, hc, hs, h45⟩
    · skip
      subst hr9
      refine lv_istore (lv' := [(5, .int (nI 0)), (0, .ref (b0)), (1, .ref (b + 0)), (2, .ref (b + 36)), (3, .ref (b + 45)), (4, .int (nI i))]) hx hb dL_law_365 hl (by decide) rfl (fun ls hl => ?_)
      refine lv_aload_n hx hb dL_law_367 rfl (lv_at hl 3 rfl) ?_
      refine lv_aload_n hx hb dL_law_368 rfl (lv_at hl 1 rfl) ?_
      refine lv_iload hx hb dL_law_369 (lv_at hl 5 rfl) ?_
      refine lv_iconst (v := nI 1) hx hb dL_law_371 (by decide) ?_
      refine lv_iadd hx hb dL_law_372 ?_
      refine q_top (y := nI (i + 1)) (nI_add _ _) ?_
      refine q_sld hx hb hX hbl hb0 hS hf99 (by omega) hL dL_law_373 ?_
      refine lv_if_eq (tgt := 381) hx hb dL_law_374 (by decide) (fun c_374 => ?_) (fun c_374 => ?_)
      · skip
        refine lv_iconst (v := nI 0) hx hb dL_law_381 (by decide) ?_
        refine lv_aload_n hx hb dL_law_382 rfl (lv_at hl 1 rfl) ?_
        refine lv_iload hx hb dL_law_383 (lv_at hl 5 rfl) ?_
        refine lv_iconst (v := nI 2) hx hb dL_law_385 (by decide) ?_
        refine lv_iadd hx hb dL_law_386 ?_
        refine q_top (y := nI (i + 2)) (nI_add _ _) ?_
        refine q_sld hx hb hX hbl hb0 hS hx9 (by omega) hL dL_law_387 ?_
        obtain ⟨fs388, ho36⟩ := hm.obj
        refine q_W1 (va_runV (As := [.int (nI 0), .int (x)]) (rest := []) ⟨hx, hb, hml, hown, hts⟩ (c_X7_remove_f l hm (x)) (cwV 2 hts lg_X7_remove rfl rfl rfl (by decide +kernel) ⟨Nat.le_of_ble_eq_true rfl, Nat.le_of_ble_eq_true rfl⟩) (q_preV hG hW hS ho36 rfl) rfl rfl hl.1 rfl (lv_room (Nat.le_of_ble_eq_true rfl)) dL_law_388 ⟨by show _ ≤ 601024; omega, by show _ ≤ 7293034; omega⟩) hS (fun w_388 H locs hp388 hW hS => ?_)
        obtain ⟨hd, hfm⟩ := hp388
        replace hs := hs.mod hfm
        replace h45 := (hfm 45 (by omega)).trans h45
        clear hm
        rcases hd with ⟨hc2, hm⟩ | ⟨hc2, hm⟩
        · skip
          refine q_topv (v' := .int (nI (P.n - 1))) (congrArg Value.int (if_pos hc2)) ?_
          refine lv_istore (lv' := [(6, .int (nI (P.n - 1))), (5, .int (nI 0)), (0, .ref (b0)), (1, .ref (b + 0)), (2, .ref (b + 36)), (3, .ref (b + 45)), (4, .int (nI i))]) hx hb dL_law_391 hl (by decide) rfl (fun ls hl => ?_)
          refine lv_aload_n hx hb dL_law_393 rfl (lv_at hl 4 rfl) ?_
          obtain ⟨fs394, ho36⟩ := hm.obj
          refine q_R1 (va_runV (As := []) (rest := []) ⟨hx, hb, hml, hown, hts⟩ (c_thr l hm) (cwV 0 hts lg_X7_thrown rfl rfl rfl (by decide +kernel) ⟨Nat.le_of_ble_eq_true rfl, Nat.le_of_ble_eq_true rfl⟩) (q_preV hG hW hS ho36 rfl) rfl rfl hl.1 rfl (lv_room (Nat.le_of_ble_eq_true rfl)) dL_law_394 ⟨by show _ ≤ 601024; omega, by show _ ≤ 7293034; omega⟩) ?_
          refine lv_iload hx hb dL_law_397 (lv_at hl 1 rfl) ?_
          refine lv_icmp_eq (tgt := 404) hx hb dL_law_399 (by decide) (fun c_399 => ?_) (fun c_399 => ?_)
          · skip
            have c_399 : 0 = 0 := (nI_eq (a := 0) (b := 0) (by omega) (by omega)).mp c_399
            refine lv_iload hx hb dL_law_404 (lv_at hl 1 rfl) ?_
            refine lv_if_ne (tgt := 421) hx hb dL_law_406 (by decide) (fun c_406 => ?_) (fun c_406 => ?_)
            · skip
              have c_406 : ¬ (0 = 0) := fun h__ => c_406 ((nI_eq0 (i := 0) (by omega)).mpr h__)
              exact absurd c_406 (by omega)
            · skip
              have c_406 : 0 = 0 := (nI_eq0 (i := 0) (by omega)).mp c_406
              refine lv_aload_n hx hb dL_law_409 rfl (lv_at hl 5 rfl) ?_
              refine lv_iconst (v := nI 0) hx hb dL_law_410 (by decide) ?_
              refine q_lald hx hb hG hW h45 (by decide) (by decide) dL_law_411 ?_
              refine q_topv (v' := .long ((nI (P.n - 1)).toInt64)) (by rw [va_up_self]) ?_
              refine lv_iload hx hb dL_law_412 (lv_at hl 0 rfl) ?_
              refine lv_i2l hx hb dL_law_414 rfl ?_
              refine W.lcmp hx hb dL_law_415 ?_
              refine q_topv (v' := .int (nI 0)) (congrArg Value.int (lg_cmp_self _)) ?_
              refine lv_if_eq (tgt := 421) hx hb dL_law_416 (by decide) (fun c_416 => ?_) (fun c_416 => ?_)
              · skip
                have c_416 : 0 = 0 := (nI_eq0 (i := 0) (by omega)).mp c_416
                refine lv_goto (tgt := 1597) hx hb dL_law_421 (by decide) ?_
                exact W.widen (by omega) (by omega) (K _ _ _ _ _ ⟨hs, ⟨_, hm⟩, ⟨_, h45⟩, hW, hS⟩ (lv_sub hl [2, 3, 4, 5, 6] rfl))
              · skip
                have c_416 : ¬ (0 = 0) := fun h__ => c_416 ((nI_eq0 (i := 0) (by omega)).mpr h__)
                exact absurd c_416 (by omega)
          · skip
            have c_399 : ¬ (0 = 0) := fun h__ => c_399 ((nI_eq (a := 0) (b := 0) (by omega) (by omega)).mpr h__)
            exact absurd c_399 (by omega)
        · skip
          first | exact absurd hc hc2 | exact absurd hc2 hc | exact absurd hc.1 hc2 | exact absurd hc2.1 hc | exact absurd hc.2 hc2.2 | exact absurd hc2.2 hc.2 | (exact absurd hc.2 (by omega)) | (exact absurd hc (by omega)) | (exact absurd hc2.2 (by omega))
      · skip
        exact absurd c_347 c_374
    · skip
      subst hr9
      refine lv_istore (lv' := [(5, .int (nI 1)), (0, .ref (b0)), (1, .ref (b + 0)), (2, .ref (b + 36)), (3, .ref (b + 45)), (4, .int (nI i))]) hx hb dL_law_365 hl (by decide) rfl (fun ls hl => ?_)
      refine lv_aload_n hx hb dL_law_367 rfl (lv_at hl 3 rfl) ?_
      refine lv_aload_n hx hb dL_law_368 rfl (lv_at hl 1 rfl) ?_
      refine lv_iload hx hb dL_law_369 (lv_at hl 5 rfl) ?_
      refine lv_iconst (v := nI 1) hx hb dL_law_371 (by decide) ?_
      refine lv_iadd hx hb dL_law_372 ?_
      refine q_top (y := nI (i + 1)) (nI_add _ _) ?_
      refine q_sld hx hb hX hbl hb0 hS hf99 (by omega) hL dL_law_373 ?_
      refine lv_if_eq (tgt := 381) hx hb dL_law_374 (by decide) (fun c_374 => ?_) (fun c_374 => ?_)
      · skip
        refine lv_iconst (v := nI 0) hx hb dL_law_381 (by decide) ?_
        refine lv_aload_n hx hb dL_law_382 rfl (lv_at hl 1 rfl) ?_
        refine lv_iload hx hb dL_law_383 (lv_at hl 5 rfl) ?_
        refine lv_iconst (v := nI 2) hx hb dL_law_385 (by decide) ?_
        refine lv_iadd hx hb dL_law_386 ?_
        refine q_top (y := nI (i + 2)) (nI_add _ _) ?_
        refine q_sld hx hb hX hbl hb0 hS hx9 (by omega) hL dL_law_387 ?_
        obtain ⟨fs388, ho36⟩ := hm.obj
        refine q_W1 (va_runV (As := [.int (nI 0), .int (x)]) (rest := []) ⟨hx, hb, hml, hown, hts⟩ (c_X7_remove_f l hm (x)) (cwV 2 hts lg_X7_remove rfl rfl rfl (by decide +kernel) ⟨Nat.le_of_ble_eq_true rfl, Nat.le_of_ble_eq_true rfl⟩) (q_preV hG hW hS ho36 rfl) rfl rfl hl.1 rfl (lv_room (Nat.le_of_ble_eq_true rfl)) dL_law_388 ⟨by show _ ≤ 601024; omega, by show _ ≤ 7293034; omega⟩) hS (fun w_388 H locs hp388 hW hS => ?_)
        obtain ⟨hd, hfm⟩ := hp388
        replace hs := hs.mod hfm
        replace h45 := (hfm 45 (by omega)).trans h45
        clear hm
        rcases hd with ⟨hc2, hm⟩ | ⟨hc2, hm⟩
        · skip
          first | exact absurd hc hc2 | exact absurd hc2 hc | exact absurd hc.1 hc2 | exact absurd hc2.1 hc | exact absurd hc.2 hc2.2 | exact absurd hc2.2 hc.2 | (exact absurd hc.2 (by omega)) | (exact absurd hc (by omega)) | (exact absurd hc2.2 (by omega))
        · skip
          refine q_topv (v' := .int (nI 0)) (congrArg Value.int (if_neg (fun q9 => by first | exact hc2 q9 | exact hc2 q9.1 | exact absurd q9.2 (by omega) | exact hc2.2 q9.2 | exact q9.2 hc2.2 | omega))) ?_
          refine lv_istore (lv' := [(6, .int (nI 0)), (5, .int (nI 1)), (0, .ref (b0)), (1, .ref (b + 0)), (2, .ref (b + 36)), (3, .ref (b + 45)), (4, .int (nI i))]) hx hb dL_law_391 hl (by decide) rfl (fun ls hl => ?_)
          refine lv_aload_n hx hb dL_law_393 rfl (lv_at hl 4 rfl) ?_
          obtain ⟨fs394, ho36⟩ := hm.obj
          refine q_R1 (va_runV (As := []) (rest := []) ⟨hx, hb, hml, hown, hts⟩ (c_thr l hm) (cwV 0 hts lg_X7_thrown rfl rfl rfl (by decide +kernel) ⟨Nat.le_of_ble_eq_true rfl, Nat.le_of_ble_eq_true rfl⟩) (q_preV hG hW hS ho36 rfl) rfl rfl hl.1 rfl (lv_room (Nat.le_of_ble_eq_true rfl)) dL_law_394 ⟨by show _ ≤ 601024; omega, by show _ ≤ 7293034; omega⟩) ?_
          refine lv_iload hx hb dL_law_397 (lv_at hl 1 rfl) ?_
          refine lv_icmp_eq (tgt := 404) hx hb dL_law_399 (by decide) (fun c_399 => ?_) (fun c_399 => ?_)
          · skip
            have c_399 : 1 = 1 := (nI_eq (a := 1) (b := 1) (by omega) (by omega)).mp c_399
            refine lv_iload hx hb dL_law_404 (lv_at hl 1 rfl) ?_
            refine lv_if_ne (tgt := 421) hx hb dL_law_406 (by decide) (fun c_406 => ?_) (fun c_406 => ?_)
            · skip
              have c_406 : ¬ (1 = 0) := fun h__ => c_406 ((nI_eq0 (i := 1) (by omega)).mpr h__)
              refine lv_goto (tgt := 1597) hx hb dL_law_421 (by decide) ?_
              exact W.widen (by omega) (by omega) (K _ _ _ _ _ ⟨hs, ⟨_, hm⟩, ⟨_, h45⟩, hW, hS⟩ (lv_sub hl [2, 3, 4, 5, 6] rfl))
            · skip
              have c_406 : 1 = 0 := (nI_eq0 (i := 1) (by omega)).mp c_406
              exact absurd c_406 (by omega)
          · skip
            have c_399 : ¬ (1 = 1) := fun h__ => c_399 ((nI_eq (a := 1) (b := 1) (by omega) (by omega)).mpr h__)
            exact absurd c_399 (by omega)
      · skip
        exact absurd c_347 c_374
  · skip
    refine lv_iconst (v := nI 1) hx hb dL_law_350 (by decide) ?_
    refine lv_goto (tgt := 355) hx hb dL_law_351 (by decide) ?_
    refine lv_aload_n hx hb dL_law_355 rfl (lv_at hl 0 rfl) ?_
    refine lv_iload hx hb dL_law_356 (lv_at hl 4 rfl) ?_
    refine lv_iconst (v := nI 2) hx hb dL_law_358 (by decide) ?_
    refine lv_iadd hx hb dL_law_359 ?_
    refine q_top (y := nI (i + 2)) (nI_add _ _) ?_
    refine q_sld hx hb hX hbl hb0 hS hx9 (by omega) hL dL_law_360 ?_
    refine lv_aload_n hx hb dL_law_361 rfl (lv_at hl 3 rfl) ?_
    refine q_XE1 (vx_runSX (As := [.ref (b + 0), .int (nI 1), .int (x), .ref (b + 45)]) (rest := []) ⟨hx, hb, hml, hown, hts⟩ (c_L_remove_t l hl0 hs h45 (x)) (vx_cwSW 4 hts lg_L_remove rfl rfl rfl (by decide +kernel) ⟨Nat.le_of_ble_eq_true rfl, Nat.le_of_ble_eq_true rfl⟩) (q_preS hG hW hS) rfl rfl hl.1 rfl (lv_room (Nat.le_of_ble_eq_true rfl)) dL_law_362 ⟨by show _ ≤ 601024; omega, by show _ ≤ 7293034; omega⟩) hS (fun r362 w_362 H locs hp362 hW hS => ?_)
    obtain ⟨hor, hf5⟩ := hp362
    replace hm := hm.fr hf5
    clear hs h45
    rcases hor with ⟨hr9, hc, hs, h45⟩ | ⟨hr9, hc, hs, h45⟩
    · skip
      subst hr9
      refine lv_istore (lv' := [(5, .int (nI 0)), (0, .ref (b0)), (1, .ref (b + 0)), (2, .ref (b + 36)), (3, .ref (b + 45)), (4, .int (nI i))]) hx hb dL_law_365 hl (by decide) rfl (fun ls hl => ?_)
      refine lv_aload_n hx hb dL_law_367 rfl (lv_at hl 3 rfl) ?_
      refine lv_aload_n hx hb dL_law_368 rfl (lv_at hl 1 rfl) ?_
      refine lv_iload hx hb dL_law_369 (lv_at hl 5 rfl) ?_
      refine lv_iconst (v := nI 1) hx hb dL_law_371 (by decide) ?_
      refine lv_iadd hx hb dL_law_372 ?_
      refine q_top (y := nI (i + 1)) (nI_add _ _) ?_
      refine q_sld hx hb hX hbl hb0 hS hf99 (by omega) hL dL_law_373 ?_
      refine lv_if_eq (tgt := 381) hx hb dL_law_374 (by decide) (fun c_374 => ?_) (fun c_374 => ?_)
      · skip
        exact absurd c_374 c_347
      · skip
        refine lv_iconst (v := nI 1) hx hb dL_law_377 (by decide) ?_
        refine lv_goto (tgt := 382) hx hb dL_law_378 (by decide) ?_
        refine lv_aload_n hx hb dL_law_382 rfl (lv_at hl 1 rfl) ?_
        refine lv_iload hx hb dL_law_383 (lv_at hl 5 rfl) ?_
        refine lv_iconst (v := nI 2) hx hb dL_law_385 (by decide) ?_
        refine lv_iadd hx hb dL_law_386 ?_
        refine q_top (y := nI (i + 2)) (nI_add _ _) ?_
        refine q_sld hx hb hX hbl hb0 hS hx9 (by omega) hL dL_law_387 ?_
        obtain ⟨fs388, ho36⟩ := hm.obj
        refine q_W1 (va_runV (As := [.int (nI 1), .int (x)]) (rest := []) ⟨hx, hb, hml, hown, hts⟩ (c_X7_remove_t l hm (x)) (cwV 2 hts lg_X7_remove rfl rfl rfl (by decide +kernel) ⟨Nat.le_of_ble_eq_true rfl, Nat.le_of_ble_eq_true rfl⟩) (q_preV hG hW hS ho36 rfl) rfl rfl hl.1 rfl (lv_room (Nat.le_of_ble_eq_true rfl)) dL_law_388 ⟨by show _ ≤ 601024; omega, by show _ ≤ 7293034; omega⟩) hS (fun w_388 H locs hp388 hW hS => ?_)
        obtain ⟨hd, hfm⟩ := hp388
        replace hs := hs.mod hfm
        replace h45 := (hfm 45 (by omega)).trans h45
        clear hm
        rcases hd with ⟨hc2, hm⟩ | ⟨hc2, hm⟩
        · skip
          refine q_topv (v' := .int (nI (P.w - 1))) (congrArg Value.int (if_pos hc2)) ?_
          refine lv_istore (lv' := [(6, .int (nI (P.w - 1))), (5, .int (nI 0)), (0, .ref (b0)), (1, .ref (b + 0)), (2, .ref (b + 36)), (3, .ref (b + 45)), (4, .int (nI i))]) hx hb dL_law_391 hl (by decide) rfl (fun ls hl => ?_)
          refine lv_aload_n hx hb dL_law_393 rfl (lv_at hl 4 rfl) ?_
          obtain ⟨fs394, ho36⟩ := hm.obj
          refine q_R1 (va_runV (As := []) (rest := []) ⟨hx, hb, hml, hown, hts⟩ (c_thr l hm) (cwV 0 hts lg_X7_thrown rfl rfl rfl (by decide +kernel) ⟨Nat.le_of_ble_eq_true rfl, Nat.le_of_ble_eq_true rfl⟩) (q_preV hG hW hS ho36 rfl) rfl rfl hl.1 rfl (lv_room (Nat.le_of_ble_eq_true rfl)) dL_law_394 ⟨by show _ ≤ 601024; omega, by show _ ≤ 7293034; omega⟩) ?_
          refine lv_iload hx hb dL_law_397 (lv_at hl 1 rfl) ?_
          refine lv_icmp_eq (tgt := 404) hx hb dL_law_399 (by decide) (fun c_399 => ?_) (fun c_399 => ?_)
          · skip
            have c_399 : 0 = 0 := (nI_eq (a := 0) (b := 0) (by omega) (by omega)).mp c_399
            refine lv_iload hx hb dL_law_404 (lv_at hl 1 rfl) ?_
            refine lv_if_ne (tgt := 421) hx hb dL_law_406 (by decide) (fun c_406 => ?_) (fun c_406 => ?_)
            · skip
              have c_406 : ¬ (0 = 0) := fun h__ => c_406 ((nI_eq0 (i := 0) (by omega)).mpr h__)
              exact absurd c_406 (by omega)
            · skip
              have c_406 : 0 = 0 := (nI_eq0 (i := 0) (by omega)).mp c_406
              refine lv_aload_n hx hb dL_law_409 rfl (lv_at hl 5 rfl) ?_
              refine lv_iconst (v := nI 0) hx hb dL_law_410 (by decide) ?_
              refine q_lald hx hb hG hW h45 (by decide) (by decide) dL_law_411 ?_
              refine q_topv (v' := .long ((nI (P.w - 1)).toInt64)) (by rw [va_up_self]) ?_
              refine lv_iload hx hb dL_law_412 (lv_at hl 0 rfl) ?_
              refine lv_i2l hx hb dL_law_414 rfl ?_
              refine W.lcmp hx hb dL_law_415 ?_
              refine q_topv (v' := .int (nI 0)) (congrArg Value.int (lg_cmp_self _)) ?_
              refine lv_if_eq (tgt := 421) hx hb dL_law_416 (by decide) (fun c_416 => ?_) (fun c_416 => ?_)
              · skip
                have c_416 : 0 = 0 := (nI_eq0 (i := 0) (by omega)).mp c_416
                refine lv_goto (tgt := 1597) hx hb dL_law_421 (by decide) ?_
                exact W.widen (by omega) (by omega) (K _ _ _ _ _ ⟨hs, ⟨_, hm⟩, ⟨_, h45⟩, hW, hS⟩ (lv_sub hl [2, 3, 4, 5, 6] rfl))
              · skip
                have c_416 : ¬ (0 = 0) := fun h__ => c_416 ((nI_eq0 (i := 0) (by omega)).mpr h__)
                exact absurd c_416 (by omega)
          · skip
            have c_399 : ¬ (0 = 0) := fun h__ => c_399 ((nI_eq (a := 0) (b := 0) (by omega) (by omega)).mpr h__)
            exact absurd c_399 (by omega)
        · skip
          first | exact absurd hc hc2 | exact absurd hc2 hc | exact absurd hc.1 hc2 | exact absurd hc2.1 hc | exact absurd hc.2 hc2.2 | exact absurd hc2.2 hc.2 | (exact absurd hc.2 (by omega)) | (exact absurd hc (by omega)) | (exact absurd hc2.2 (by omega))
    · skip
      subst hr9
      refine lv_istore (lv' := [(5, .int (nI 1)), (0, .ref (b0)), (1, .ref (b + 0)), (2, .ref (b + 36)), (3, .ref (b + 45)), (4, .int (nI i))]) hx hb dL_law_365 hl (by decide) rfl (fun ls hl => ?_)
      refine lv_aload_n hx hb dL_law_367 rfl (lv_at hl 3 rfl) ?_
      refine lv_aload_n hx hb dL_law_368 rfl (lv_at hl 1 rfl) ?_
      refine lv_iload hx hb dL_law_369 (lv_at hl 5 rfl) ?_
      refine lv_iconst (v := nI 1) hx hb dL_law_371 (by decide) ?_
      refine lv_iadd hx hb dL_law_372 ?_
      refine q_top (y := nI (i + 1)) (nI_add _ _) ?_
      refine q_sld hx hb hX hbl hb0 hS hf99 (by omega) hL dL_law_373 ?_
      refine lv_if_eq (tgt := 381) hx hb dL_law_374 (by decide) (fun c_374 => ?_) (fun c_374 => ?_)
      · skip
        exact absurd c_374 c_347
      · skip
        refine lv_iconst (v := nI 1) hx hb dL_law_377 (by decide) ?_
        refine lv_goto (tgt := 382) hx hb dL_law_378 (by decide) ?_
        refine lv_aload_n hx hb dL_law_382 rfl (lv_at hl 1 rfl) ?_
        refine lv_iload hx hb dL_law_383 (lv_at hl 5 rfl) ?_
        refine lv_iconst (v := nI 2) hx hb dL_law_385 (by decide) ?_
        refine lv_iadd hx hb dL_law_386 ?_
        refine q_top (y := nI (i + 2)) (nI_add _ _) ?_
        refine q_sld hx hb hX hbl hb0 hS hx9 (by omega) hL dL_law_387 ?_
        obtain ⟨fs388, ho36⟩ := hm.obj
        refine q_W1 (va_runV (As := [.int (nI 1), .int (x)]) (rest := []) ⟨hx, hb, hml, hown, hts⟩ (c_X7_remove_t l hm (x)) (cwV 2 hts lg_X7_remove rfl rfl rfl (by decide +kernel) ⟨Nat.le_of_ble_eq_true rfl, Nat.le_of_ble_eq_true rfl⟩) (q_preV hG hW hS ho36 rfl) rfl rfl hl.1 rfl (lv_room (Nat.le_of_ble_eq_true rfl)) dL_law_388 ⟨by show _ ≤ 601024; omega, by show _ ≤ 7293034; omega⟩) hS (fun w_388 H locs hp388 hW hS => ?_)
        obtain ⟨hd, hfm⟩ := hp388
        replace hs := hs.mod hfm
        replace h45 := (hfm 45 (by omega)).trans h45
        clear hm
        rcases hd with ⟨hc2, hm⟩ | ⟨hc2, hm⟩
        · skip
          first | exact absurd hc hc2 | exact absurd hc2 hc | exact absurd hc.1 hc2 | exact absurd hc2.1 hc | exact absurd hc.2 hc2.2 | exact absurd hc2.2 hc.2 | (exact absurd hc.2 (by omega)) | (exact absurd hc (by omega)) | (exact absurd hc2.2 (by omega))
        · skip
          refine q_topv (v' := .int (nI 0)) (congrArg Value.int (if_neg (fun q9 => by first | exact hc2 q9 | exact hc2 q9.1 | exact absurd q9.2 (by omega) | exact hc2.2 q9.2 | exact q9.2 hc2.2 | omega))) ?_
          refine lv_istore (lv' := [(6, .int (nI 0)), (5, .int (nI 1)), (0, .ref (b0)), (1, .ref (b + 0)), (2, .ref (b + 36)), (3, .ref (b + 45)), (4, .int (nI i))]) hx hb dL_law_391 hl (by decide) rfl (fun ls hl => ?_)
          refine lv_aload_n hx hb dL_law_393 rfl (lv_at hl 4 rfl) ?_
          obtain ⟨fs394, ho36⟩ := hm.obj
          refine q_R1 (va_runV (As := []) (rest := []) ⟨hx, hb, hml, hown, hts⟩ (c_thr l hm) (cwV 0 hts lg_X7_thrown rfl rfl rfl (by decide +kernel) ⟨Nat.le_of_ble_eq_true rfl, Nat.le_of_ble_eq_true rfl⟩) (q_preV hG hW hS ho36 rfl) rfl rfl hl.1 rfl (lv_room (Nat.le_of_ble_eq_true rfl)) dL_law_394 ⟨by show _ ≤ 601024; omega, by show _ ≤ 7293034; omega⟩) ?_
          refine lv_iload hx hb dL_law_397 (lv_at hl 1 rfl) ?_
          refine lv_icmp_eq (tgt := 404) hx hb dL_law_399 (by decide) (fun c_399 => ?_) (fun c_399 => ?_)
          · skip
            have c_399 : 1 = 1 := (nI_eq (a := 1) (b := 1) (by omega) (by omega)).mp c_399
            refine lv_iload hx hb dL_law_404 (lv_at hl 1 rfl) ?_
            refine lv_if_ne (tgt := 421) hx hb dL_law_406 (by decide) (fun c_406 => ?_) (fun c_406 => ?_)
            · skip
              have c_406 : ¬ (1 = 0) := fun h__ => c_406 ((nI_eq0 (i := 1) (by omega)).mpr h__)
              refine lv_goto (tgt := 1597) hx hb dL_law_421 (by decide) ?_
              exact W.widen (by omega) (by omega) (K _ _ _ _ _ ⟨hs, ⟨_, hm⟩, ⟨_, h45⟩, hW, hS⟩ (lv_sub hl [2, 3, 4, 5, 6] rfl))
            · skip
              have c_406 : 1 = 0 := (nI_eq0 (i := 1) (by omega)).mp c_406
              exact absurd c_406 (by omega)
          · skip
            have c_399 : ¬ (1 = 1) := fun h__ => c_399 ((nI_eq (a := 1) (b := 1) (by omega) (by omega)).mpr h__)
            exact absurd c_399 (by omega)

set_option maxHeartbeats 1000000 in
set_option maxRecDepth 100000 in
/-- case 3: shift -/
theorem law_3 {p : Program} {l : Launch} {e : Env} {s : State} {m : MethodId} {args : Array Value} {below : List Frame} {meth : Method} {c : Code} {Q : State → Prop} {b0 L : Nat} {xs : Nat → Int32} {D : va_G} {dA : Nat → Nat} {b : Nat} (F9 : LWF p l s m args c b0 L xs D dA b) {w : Wd} {lo : Nat} {A : Sy} {H : Heap} {locs : List Loc} (V : LWV D dA b s w H locs lo A) {cells slots : Nat} (hcc : cells ≤ 600000) (hss : slots ≤ 7000000) {i : Nat} (hi : i + 5 ≤ L) {ls : Array Slot} (hl : LWL b b0 ls (nI i))
    (K : ∀ (w1 : Wd) (H1 : Heap) (locs1 : List Loc) (A1 : Sy) (ls1 : Array Slot), LWV D dA b s w1 H1 locs1 lo A1 → LWL b b0 ls1 (nI i) → W p l e room_1 s m args below meth c H1 locs1 (cells + 7) (slots + 116) Q (F0 m 1597 ls1 [])) : W p l e room_1 s m args below meth c H locs cells slots Q (F0 m 424 ls []) := by
  obtain ⟨hl0, hx, hb, hml, hown, hts, hX, hbl, hb0, hG, hL⟩ := F9
  obtain ⟨hs, ⟨tt, hm⟩, ⟨O9, h45⟩, hW, hS⟩ := V
  obtain ⟨P, ⟨n, Hs⟩, SL, nc, C⟩ := A
  have hlo : 46 ≤ lo := hs.2.2.2.2.2.2.1
  have hP := sys_ok hs
  change okP P at hP
  have hl : lv_has ls 9 [(0, .ref b0), (1, .ref (b + 0)), (2, .ref (b + 36)), (3, .ref (b + 45)), (4, .int (nI i))] := hl
  obtain ⟨f9, hf99⟩ : ∃ q : Int32, xs (i + 1) = q := ⟨_, rfl⟩
  obtain ⟨x, hx9⟩ : ∃ q : Int32, xs (i + 2) = q := ⟨_, rfl⟩
  obtain ⟨y, hy9⟩ : ∃ q : Int32, xs (i + 3) = q := ⟨_, rfl⟩
  refine lv_aload_n hx hb dL_law_424 rfl (lv_at hl 1 rfl) ?_
  refine lv_aload_n hx hb dL_law_425 rfl (lv_at hl 0 rfl) ?_
  refine lv_iload hx hb dL_law_426 (lv_at hl 4 rfl) ?_
  refine lv_iconst (v := nI 1) hx hb dL_law_428 (by decide) ?_
  refine lv_iadd hx hb dL_law_429 ?_
  refine q_top (y := nI (i + 1)) (nI_add _ _) ?_
  refine q_sld hx hb hX hbl hb0 hS hf99 (by omega) hL dL_law_430 ?_
  refine lv_if_eq (tgt := 438) hx hb dL_law_431 (by decide) (fun c_431 => ?_) (fun c_431 => ?_)
  · skip
    refine lv_iconst (v := nI 0) hx hb dL_law_438 (by decide) ?_
    refine lv_aload_n hx hb dL_law_439 rfl (lv_at hl 0 rfl) ?_
    refine lv_iload hx hb dL_law_440 (lv_at hl 4 rfl) ?_
    refine lv_iconst (v := nI 2) hx hb dL_law_442 (by decide) ?_
    refine lv_iadd hx hb dL_law_443 ?_
    refine q_top (y := nI (i + 2)) (nI_add _ _) ?_
    refine q_sld hx hb hX hbl hb0 hS hx9 (by omega) hL dL_law_444 ?_
    refine lv_aload_n hx hb dL_law_445 rfl (lv_at hl 0 rfl) ?_
    refine lv_iload hx hb dL_law_446 (lv_at hl 4 rfl) ?_
    refine lv_iconst (v := nI 3) hx hb dL_law_448 (by decide) ?_
    refine lv_iadd hx hb dL_law_449 ?_
    refine q_top (y := nI (i + 3)) (nI_add _ _) ?_
    refine q_sld hx hb hX hbl hb0 hS hy9 (by omega) hL dL_law_450 ?_
    refine lv_aload_n hx hb dL_law_451 rfl (lv_at hl 3 rfl) ?_
    refine q_XE1 (vx_runSX (As := [.ref (b + 0), .int (nI 0), .int (x), .int (y), .ref (b + 45)]) (rest := []) ⟨hx, hb, hml, hown, hts⟩ (c_L_shift_f l hl0 hs h45 (x) (y)) (vx_cwSW 5 hts lg_L_shift rfl rfl rfl (by decide +kernel) ⟨Nat.le_of_ble_eq_true rfl, Nat.le_of_ble_eq_true rfl⟩) (q_preS hG hW hS) rfl rfl hl.1 rfl (lv_room (Nat.le_of_ble_eq_true rfl)) dL_law_452 ⟨by show _ ≤ 601024; omega, by show _ ≤ 7293034; omega⟩) hS (fun r452 w_452 H locs hp452 hW hS => ?_)
    obtain ⟨hor, hf5⟩ := hp452
    replace hm := hm.fr hf5
    clear hs h45
    rcases hor with ⟨hr9, hc, hs, h45⟩ | ⟨hr9, hc, hs, h45⟩ | ⟨hr9, hc, hs, h45⟩
    · skip
      subst hr9
      refine lv_istore (lv' := [(5, .int (nI 0)), (0, .ref (b0)), (1, .ref (b + 0)), (2, .ref (b + 36)), (3, .ref (b + 45)), (4, .int (nI i))]) hx hb dL_law_455 hl (by decide) rfl (fun ls hl => ?_)
      refine lv_aload_n hx hb dL_law_457 rfl (lv_at hl 3 rfl) ?_
      refine lv_aload_n hx hb dL_law_458 rfl (lv_at hl 1 rfl) ?_
      refine lv_iload hx hb dL_law_459 (lv_at hl 5 rfl) ?_
      refine lv_iconst (v := nI 1) hx hb dL_law_461 (by decide) ?_
      refine lv_iadd hx hb dL_law_462 ?_
      refine q_top (y := nI (i + 1)) (nI_add _ _) ?_
      refine q_sld hx hb hX hbl hb0 hS hf99 (by omega) hL dL_law_463 ?_
      refine lv_if_eq (tgt := 471) hx hb dL_law_464 (by decide) (fun c_464 => ?_) (fun c_464 => ?_)
      · skip
        refine lv_iconst (v := nI 0) hx hb dL_law_471 (by decide) ?_
        refine lv_aload_n hx hb dL_law_472 rfl (lv_at hl 1 rfl) ?_
        refine lv_iload hx hb dL_law_473 (lv_at hl 5 rfl) ?_
        refine lv_iconst (v := nI 2) hx hb dL_law_475 (by decide) ?_
        refine lv_iadd hx hb dL_law_476 ?_
        refine q_top (y := nI (i + 2)) (nI_add _ _) ?_
        refine q_sld hx hb hX hbl hb0 hS hx9 (by omega) hL dL_law_477 ?_
        refine lv_aload_n hx hb dL_law_478 rfl (lv_at hl 1 rfl) ?_
        refine lv_iload hx hb dL_law_479 (lv_at hl 5 rfl) ?_
        refine lv_iconst (v := nI 3) hx hb dL_law_481 (by decide) ?_
        refine lv_iadd hx hb dL_law_482 ?_
        refine q_top (y := nI (i + 3)) (nI_add _ _) ?_
        refine q_sld hx hb hX hbl hb0 hS hy9 (by omega) hL dL_law_483 ?_
        obtain ⟨fs484, ho36⟩ := hm.obj
        refine q_W1 (va_runV (As := [.int (nI 0), .int (x), .int (y)]) (rest := []) ⟨hx, hb, hml, hown, hts⟩ (c_X7_shift_f l hm (x) (y)) (cwV 3 hts lg_X7_shift rfl rfl rfl (by decide +kernel) ⟨Nat.le_of_ble_eq_true rfl, Nat.le_of_ble_eq_true rfl⟩) (q_preV hG hW hS ho36 rfl) rfl rfl hl.1 rfl (lv_room (Nat.le_of_ble_eq_true rfl)) dL_law_484 ⟨by show _ ≤ 601024; omega, by show _ ≤ 7293034; omega⟩) hS (fun w_484 H locs hp484 hW hS => ?_)
        obtain ⟨hd, hfm⟩ := hp484
        replace hs := hs.mod hfm
        replace h45 := (hfm 45 (by omega)).trans h45
        clear hm
        rcases hd with ⟨hc2, hm⟩ | ⟨hc2, hm⟩ | ⟨hc2, hm⟩
        · skip
          refine q_topv (v' := .int (nI (P.N (i32n x) 0) + y)) (congrArg Value.int (if_pos hc2)) ?_
          refine lv_istore (lv' := [(6, .int (nI (P.N (i32n x) 0) + y)), (5, .int (nI 0)), (0, .ref (b0)), (1, .ref (b + 0)), (2, .ref (b + 36)), (3, .ref (b + 45)), (4, .int (nI i))]) hx hb dL_law_487 hl (by decide) rfl (fun ls hl => ?_)
          refine lv_aload_n hx hb dL_law_489 rfl (lv_at hl 4 rfl) ?_
          obtain ⟨fs490, ho36⟩ := hm.obj
          refine q_R1 (va_runV (As := []) (rest := []) ⟨hx, hb, hml, hown, hts⟩ (c_thr l hm) (cwV 0 hts lg_X7_thrown rfl rfl rfl (by decide +kernel) ⟨Nat.le_of_ble_eq_true rfl, Nat.le_of_ble_eq_true rfl⟩) (q_preV hG hW hS ho36 rfl) rfl rfl hl.1 rfl (lv_room (Nat.le_of_ble_eq_true rfl)) dL_law_490 ⟨by show _ ≤ 601024; omega, by show _ ≤ 7293034; omega⟩) ?_
          refine lv_iload hx hb dL_law_493 (lv_at hl 1 rfl) ?_
          refine lv_icmp_eq (tgt := 500) hx hb dL_law_495 (by decide) (fun c_495 => ?_) (fun c_495 => ?_)
          · skip
            have c_495 : 0 = 0 := (nI_eq (a := 0) (b := 0) (by omega) (by omega)).mp c_495
            refine lv_iload hx hb dL_law_500 (lv_at hl 1 rfl) ?_
            refine lv_if_ne (tgt := 517) hx hb dL_law_502 (by decide) (fun c_502 => ?_) (fun c_502 => ?_)
            · skip
              have c_502 : ¬ (0 = 0) := fun h__ => c_502 ((nI_eq0 (i := 0) (by omega)).mpr h__)
              exact absurd c_502 (by omega)
            · skip
              have c_502 : 0 = 0 := (nI_eq0 (i := 0) (by omega)).mp c_502
              refine lv_aload_n hx hb dL_law_505 rfl (lv_at hl 5 rfl) ?_
              refine lv_iconst (v := nI 0) hx hb dL_law_506 (by decide) ?_
              refine q_lald hx hb hG hW h45 (by decide) (by decide) dL_law_507 ?_
              refine q_topv (v' := .long ((nI (P.N (i32n x) 0) + y).toInt64)) (by rw [va_up_self]) ?_
              refine lv_iload hx hb dL_law_508 (lv_at hl 0 rfl) ?_
              refine lv_i2l hx hb dL_law_510 rfl ?_
              refine W.lcmp hx hb dL_law_511 ?_
              refine q_topv (v' := .int (nI 0)) (congrArg Value.int (lg_cmp_self _)) ?_
              refine lv_if_eq (tgt := 517) hx hb dL_law_512 (by decide) (fun c_512 => ?_) (fun c_512 => ?_)
              · skip
                have c_512 : 0 = 0 := (nI_eq0 (i := 0) (by omega)).mp c_512
                refine lv_goto (tgt := 1597) hx hb dL_law_517 (by decide) ?_
                exact W.widen (by omega) (by omega) (K _ _ _ _ _ ⟨hs, ⟨_, hm⟩, ⟨_, h45⟩, hW, hS⟩ (lv_sub hl [2, 3, 4, 5, 6] rfl))
              · skip
                have c_512 : ¬ (0 = 0) := fun h__ => c_512 ((nI_eq0 (i := 0) (by omega)).mpr h__)
                exact absurd c_512 (by omega)
          · skip
            have c_495 : ¬ (0 = 0) := fun h__ => c_495 ((nI_eq (a := 0) (b := 0) (by omega) (by omega)).mpr h__)
            exact absurd c_495 (by omega)
        · skip
          first | exact absurd hc hc2 | exact absurd hc2 hc | exact absurd hc.1 hc2 | exact absurd hc2.1 hc | exact absurd hc.2 hc2.2 | exact absurd hc2.2 hc.2 | (exact absurd hc.2 (by omega)) | (exact absurd hc (by omega)) | (exact absurd hc2.2 (by omega))
        · skip
          first | exact absurd hc hc2 | exact absurd hc2 hc | exact absurd hc.1 hc2 | exact absurd hc2.1 hc | exact absurd hc.2 hc2.2 | exact absurd hc2.2 hc.2 | (exact absurd hc.2 (by omega)) | (exact absurd hc (by omega)) | (exact absurd hc2.2 (by omega))
      · skip
        exact absurd c_431 c_464
    · skip
      subst hr9
      refine lv_istore (lv' := [(5, .int (nI 1)), (0, .ref (b0)), (1, .ref (b + 0)), (2, .ref (b + 36)), (3, .ref (b + 45)), (4, .int (nI i))]) hx hb dL_law_455 hl (by decide) rfl (fun ls hl => ?_)
      refine lv_aload_n hx hb dL_law_457 rfl (lv_at hl 3 rfl) ?_
      refine lv_aload_n hx hb dL_law_458 rfl (lv_at hl 1 rfl) ?_
      refine lv_iload hx hb dL_law_459 (lv_at hl 5 rfl) ?_
      refine lv_iconst (v := nI 1) hx hb dL_law_461 (by decide) ?_
      refine lv_iadd hx hb dL_law_462 ?_
      refine q_top (y := nI (i + 1)) (nI_add _ _) ?_
      refine q_sld hx hb hX hbl hb0 hS hf99 (by omega) hL dL_law_463 ?_
      refine lv_if_eq (tgt := 471) hx hb dL_law_464 (by decide) (fun c_464 => ?_) (fun c_464 => ?_)
      · skip
        refine lv_iconst (v := nI 0) hx hb dL_law_471 (by decide) ?_
        refine lv_aload_n hx hb dL_law_472 rfl (lv_at hl 1 rfl) ?_
        refine lv_iload hx hb dL_law_473 (lv_at hl 5 rfl) ?_
        refine lv_iconst (v := nI 2) hx hb dL_law_475 (by decide) ?_
        refine lv_iadd hx hb dL_law_476 ?_
        refine q_top (y := nI (i + 2)) (nI_add _ _) ?_
        refine q_sld hx hb hX hbl hb0 hS hx9 (by omega) hL dL_law_477 ?_
        refine lv_aload_n hx hb dL_law_478 rfl (lv_at hl 1 rfl) ?_
        refine lv_iload hx hb dL_law_479 (lv_at hl 5 rfl) ?_
        refine lv_iconst (v := nI 3) hx hb dL_law_481 (by decide) ?_
        refine lv_iadd hx hb dL_law_482 ?_
        refine q_top (y := nI (i + 3)) (nI_add _ _) ?_
        refine q_sld hx hb hX hbl hb0 hS hy9 (by omega) hL dL_law_483 ?_
        obtain ⟨fs484, ho36⟩ := hm.obj
        refine q_W1 (va_runV (As := [.int (nI 0), .int (x), .int (y)]) (rest := []) ⟨hx, hb, hml, hown, hts⟩ (c_X7_shift_f l hm (x) (y)) (cwV 3 hts lg_X7_shift rfl rfl rfl (by decide +kernel) ⟨Nat.le_of_ble_eq_true rfl, Nat.le_of_ble_eq_true rfl⟩) (q_preV hG hW hS ho36 rfl) rfl rfl hl.1 rfl (lv_room (Nat.le_of_ble_eq_true rfl)) dL_law_484 ⟨by show _ ≤ 601024; omega, by show _ ≤ 7293034; omega⟩) hS (fun w_484 H locs hp484 hW hS => ?_)
        obtain ⟨hd, hfm⟩ := hp484
        replace hs := hs.mod hfm
        replace h45 := (hfm 45 (by omega)).trans h45
        clear hm
        rcases hd with ⟨hc2, hm⟩ | ⟨hc2, hm⟩ | ⟨hc2, hm⟩
        · skip
          first | exact absurd hc hc2 | exact absurd hc2 hc | exact absurd hc.1 hc2 | exact absurd hc2.1 hc | exact absurd hc.2 hc2.2 | exact absurd hc2.2 hc.2 | (exact absurd hc.2 (by omega)) | (exact absurd hc (by omega)) | (exact absurd hc2.2 (by omega))
        · skip
          refine q_topv (v' := .int (nI 0)) (congrArg Value.int (if_neg (fun q9 => by first | exact hc2 q9 | exact hc2 q9.1 | exact absurd q9.2 (by omega) | exact hc2.2 q9.2 | exact q9.2 hc2.2 | omega))) ?_
          refine lv_istore (lv' := [(6, .int (nI 0)), (5, .int (nI 1)), (0, .ref (b0)), (1, .ref (b + 0)), (2, .ref (b + 36)), (3, .ref (b + 45)), (4, .int (nI i))]) hx hb dL_law_487 hl (by decide) rfl (fun ls hl => ?_)
          refine lv_aload_n hx hb dL_law_489 rfl (lv_at hl 4 rfl) ?_
          obtain ⟨fs490, ho36⟩ := hm.obj
          refine q_R1 (va_runV (As := []) (rest := []) ⟨hx, hb, hml, hown, hts⟩ (c_thr l hm) (cwV 0 hts lg_X7_thrown rfl rfl rfl (by decide +kernel) ⟨Nat.le_of_ble_eq_true rfl, Nat.le_of_ble_eq_true rfl⟩) (q_preV hG hW hS ho36 rfl) rfl rfl hl.1 rfl (lv_room (Nat.le_of_ble_eq_true rfl)) dL_law_490 ⟨by show _ ≤ 601024; omega, by show _ ≤ 7293034; omega⟩) ?_
          refine lv_iload hx hb dL_law_493 (lv_at hl 1 rfl) ?_
          refine lv_icmp_eq (tgt := 500) hx hb dL_law_495 (by decide) (fun c_495 => ?_) (fun c_495 => ?_)
          · skip
            have c_495 : 1 = 1 := (nI_eq (a := 1) (b := 1) (by omega) (by omega)).mp c_495
            refine lv_iload hx hb dL_law_500 (lv_at hl 1 rfl) ?_
            refine lv_if_ne (tgt := 517) hx hb dL_law_502 (by decide) (fun c_502 => ?_) (fun c_502 => ?_)
            · skip
              have c_502 : ¬ (1 = 0) := fun h__ => c_502 ((nI_eq0 (i := 1) (by omega)).mpr h__)
              refine lv_goto (tgt := 1597) hx hb dL_law_517 (by decide) ?_
              exact W.widen (by omega) (by omega) (K _ _ _ _ _ ⟨hs, ⟨_, hm⟩, ⟨_, h45⟩, hW, hS⟩ (lv_sub hl [2, 3, 4, 5, 6] rfl))
            · skip
              have c_502 : 1 = 0 := (nI_eq0 (i := 1) (by omega)).mp c_502
              exact absurd c_502 (by omega)
          · skip
            have c_495 : ¬ (1 = 1) := fun h__ => c_495 ((nI_eq (a := 1) (b := 1) (by omega) (by omega)).mpr h__)
            exact absurd c_495 (by omega)
        · skip
          first | exact absurd hc hc2 | exact absurd hc2 hc | exact absurd hc.1 hc2 | exact absurd hc2.1 hc | exact absurd hc.2 hc2.2 | exact absurd hc2.2 hc.2 | (exact absurd hc.2 (by omega)) | (exact absurd hc (by omega)) | (exact absurd hc2.2 (by omega))
      · skip
        exact absurd c_431 c_464
    · skip
      subst hr9
      refine lv_istore (lv' := [(5, .int (nI 2)), (0, .ref (b0)), (1, .ref (b + 0)), (2, .ref (b + 36)), (3, .ref (b + 45)), (4, .int (nI i))]) hx hb dL_law_455 hl (by decide) rfl (fun ls hl => ?_)
      refine lv_aload_n hx hb dL_law_457 rfl (lv_at hl 3 rfl) ?_
      refine lv_aload_n hx hb dL_law_458 rfl (lv_at hl 1 rfl) ?_
      refine lv_iload hx hb dL_law_459 (lv_at hl 5 rfl) ?_
      refine lv_iconst (v := nI 1) hx hb dL_law_461 (by decide) ?_
      refine lv_iadd hx hb dL_law_462 ?_
      refine q_top (y := nI (i + 1)) (nI_add _ _) ?_
      refine q_sld hx hb hX hbl hb0 hS hf99 (by omega) hL dL_law_463 ?_
      refine lv_if_eq (tgt := 471) hx hb dL_law_464 (by decide) (fun c_464 => ?_) (fun c_464 => ?_)
      · skip
        refine lv_iconst (v := nI 0) hx hb dL_law_471 (by decide) ?_
        refine lv_aload_n hx hb dL_law_472 rfl (lv_at hl 1 rfl) ?_
        refine lv_iload hx hb dL_law_473 (lv_at hl 5 rfl) ?_
        refine lv_iconst (v := nI 2) hx hb dL_law_475 (by decide) ?_
        refine lv_iadd hx hb dL_law_476 ?_
        refine q_top (y := nI (i + 2)) (nI_add _ _) ?_
        refine q_sld hx hb hX hbl hb0 hS hx9 (by omega) hL dL_law_477 ?_
        refine lv_aload_n hx hb dL_law_478 rfl (lv_at hl 1 rfl) ?_
        refine lv_iload hx hb dL_law_479 (lv_at hl 5 rfl) ?_
        refine lv_iconst (v := nI 3) hx hb dL_law_481 (by decide) ?_
        refine lv_iadd hx hb dL_law_482 ?_
        refine q_top (y := nI (i + 3)) (nI_add _ _) ?_
        refine q_sld hx hb hX hbl hb0 hS hy9 (by omega) hL dL_law_483 ?_
        obtain ⟨fs484, ho36⟩ := hm.obj
        refine q_W1 (va_runV (As := [.int (nI 0), .int (x), .int (y)]) (rest := []) ⟨hx, hb, hml, hown, hts⟩ (c_X7_shift_f l hm (x) (y)) (cwV 3 hts lg_X7_shift rfl rfl rfl (by decide +kernel) ⟨Nat.le_of_ble_eq_true rfl, Nat.le_of_ble_eq_true rfl⟩) (q_preV hG hW hS ho36 rfl) rfl rfl hl.1 rfl (lv_room (Nat.le_of_ble_eq_true rfl)) dL_law_484 ⟨by show _ ≤ 601024; omega, by show _ ≤ 7293034; omega⟩) hS (fun w_484 H locs hp484 hW hS => ?_)
        obtain ⟨hd, hfm⟩ := hp484
        replace hs := hs.mod hfm
        replace h45 := (hfm 45 (by omega)).trans h45
        clear hm
        rcases hd with ⟨hc2, hm⟩ | ⟨hc2, hm⟩ | ⟨hc2, hm⟩
        · skip
          first | exact absurd hc hc2 | exact absurd hc2 hc | exact absurd hc.1 hc2 | exact absurd hc2.1 hc | exact absurd hc.2 hc2.2 | exact absurd hc2.2 hc.2 | (exact absurd hc.2 (by omega)) | (exact absurd hc (by omega)) | (exact absurd hc2.2 (by omega))
        · skip
          first | exact absurd hc hc2 | exact absurd hc2 hc | exact absurd hc.1 hc2 | exact absurd hc2.1 hc | exact absurd hc.2 hc2.2 | exact absurd hc2.2 hc.2 | (exact absurd hc.2 (by omega)) | (exact absurd hc (by omega)) | (exact absurd hc2.2 (by omega))
        · skip
          refine q_topv (v' := .int (nI 0)) (congrArg Value.int (if_neg (fun q9 => by first | exact hc2 q9 | exact hc2 q9.1 | exact absurd q9.2 (by omega) | exact hc2.2 q9.2 | exact q9.2 hc2.2 | omega))) ?_
          refine lv_istore (lv' := [(6, .int (nI 0)), (5, .int (nI 2)), (0, .ref (b0)), (1, .ref (b + 0)), (2, .ref (b + 36)), (3, .ref (b + 45)), (4, .int (nI i))]) hx hb dL_law_487 hl (by decide) rfl (fun ls hl => ?_)
          refine lv_aload_n hx hb dL_law_489 rfl (lv_at hl 4 rfl) ?_
          obtain ⟨fs490, ho36⟩ := hm.obj
          refine q_R1 (va_runV (As := []) (rest := []) ⟨hx, hb, hml, hown, hts⟩ (c_thr l hm) (cwV 0 hts lg_X7_thrown rfl rfl rfl (by decide +kernel) ⟨Nat.le_of_ble_eq_true rfl, Nat.le_of_ble_eq_true rfl⟩) (q_preV hG hW hS ho36 rfl) rfl rfl hl.1 rfl (lv_room (Nat.le_of_ble_eq_true rfl)) dL_law_490 ⟨by show _ ≤ 601024; omega, by show _ ≤ 7293034; omega⟩) ?_
          refine lv_iload hx hb dL_law_493 (lv_at hl 1 rfl) ?_
          refine lv_icmp_eq (tgt := 500) hx hb dL_law_495 (by decide) (fun c_495 => ?_) (fun c_495 => ?_)
          · skip
            have c_495 : 2 = 2 := (nI_eq (a := 2) (b := 2) (by omega) (by omega)).mp c_495
            refine lv_iload hx hb dL_law_500 (lv_at hl 1 rfl) ?_
            refine lv_if_ne (tgt := 517) hx hb dL_law_502 (by decide) (fun c_502 => ?_) (fun c_502 => ?_)
            · skip
              have c_502 : ¬ (2 = 0) := fun h__ => c_502 ((nI_eq0 (i := 2) (by omega)).mpr h__)
              refine lv_goto (tgt := 1597) hx hb dL_law_517 (by decide) ?_
              exact W.widen (by omega) (by omega) (K _ _ _ _ _ ⟨hs, ⟨_, hm⟩, ⟨_, h45⟩, hW, hS⟩ (lv_sub hl [2, 3, 4, 5, 6] rfl))
            · skip
              have c_502 : 2 = 0 := (nI_eq0 (i := 2) (by omega)).mp c_502
              exact absurd c_502 (by omega)
          · skip
            have c_495 : ¬ (2 = 2) := fun h__ => c_495 ((nI_eq (a := 2) (b := 2) (by omega) (by omega)).mpr h__)
            exact absurd c_495 (by omega)
      · skip
        exact absurd c_431 c_464
  · skip
    refine lv_iconst (v := nI 1) hx hb dL_law_434 (by decide) ?_
    refine lv_goto (tgt := 439) hx hb dL_law_435 (by decide) ?_
    refine lv_aload_n hx hb dL_law_439 rfl (lv_at hl 0 rfl) ?_
    refine lv_iload hx hb dL_law_440 (lv_at hl 4 rfl) ?_
    refine lv_iconst (v := nI 2) hx hb dL_law_442 (by decide) ?_
    refine lv_iadd hx hb dL_law_443 ?_
    refine q_top (y := nI (i + 2)) (nI_add _ _) ?_
    refine q_sld hx hb hX hbl hb0 hS hx9 (by omega) hL dL_law_444 ?_
    refine lv_aload_n hx hb dL_law_445 rfl (lv_at hl 0 rfl) ?_
    refine lv_iload hx hb dL_law_446 (lv_at hl 4 rfl) ?_
    refine lv_iconst (v := nI 3) hx hb dL_law_448 (by decide) ?_
    refine lv_iadd hx hb dL_law_449 ?_
    refine q_top (y := nI (i + 3)) (nI_add _ _) ?_
    refine q_sld hx hb hX hbl hb0 hS hy9 (by omega) hL dL_law_450 ?_
    refine lv_aload_n hx hb dL_law_451 rfl (lv_at hl 3 rfl) ?_
    refine q_XE1 (vx_runSX (As := [.ref (b + 0), .int (nI 1), .int (x), .int (y), .ref (b + 45)]) (rest := []) ⟨hx, hb, hml, hown, hts⟩ (c_L_shift_t l hl0 hs h45 (x) (y)) (vx_cwSW 5 hts lg_L_shift rfl rfl rfl (by decide +kernel) ⟨Nat.le_of_ble_eq_true rfl, Nat.le_of_ble_eq_true rfl⟩) (q_preS hG hW hS) rfl rfl hl.1 rfl (lv_room (Nat.le_of_ble_eq_true rfl)) dL_law_452 ⟨by show _ ≤ 601024; omega, by show _ ≤ 7293034; omega⟩) hS (fun r452 w_452 H locs hp452 hW hS => ?_)
    obtain ⟨hor, hf5⟩ := hp452
    replace hm := hm.fr hf5
    clear hs h45
    rcases hor with ⟨hr9, hc, hs, h45⟩ | ⟨hr9, hc, hs, h45⟩ | ⟨hr9, hc, hs, h45⟩
    · skip
      subst hr9
      refine lv_istore (lv' := [(5, .int (nI 0)), (0, .ref (b0)), (1, .ref (b + 0)), (2, .ref (b + 36)), (3, .ref (b + 45)), (4, .int (nI i))]) hx hb dL_law_455 hl (by decide) rfl (fun ls hl => ?_)
      refine lv_aload_n hx hb dL_law_457 rfl (lv_at hl 3 rfl) ?_
      refine lv_aload_n hx hb dL_law_458 rfl (lv_at hl 1 rfl) ?_
      refine lv_iload hx hb dL_law_459 (lv_at hl 5 rfl) ?_
      refine lv_iconst (v := nI 1) hx hb dL_law_461 (by decide) ?_
      refine lv_iadd hx hb dL_law_462 ?_
      refine q_top (y := nI (i + 1)) (nI_add _ _) ?_
      refine q_sld hx hb hX hbl hb0 hS hf99 (by omega) hL dL_law_463 ?_
      refine lv_if_eq (tgt := 471) hx hb dL_law_464 (by decide) (fun c_464 => ?_) (fun c_464 => ?_)
      · skip
        exact absurd c_464 c_431
      · skip
        refine lv_iconst (v := nI 1) hx hb dL_law_467 (by decide) ?_
        refine lv_goto (tgt := 472) hx hb dL_law_468 (by decide) ?_
        refine lv_aload_n hx hb dL_law_472 rfl (lv_at hl 1 rfl) ?_
        refine lv_iload hx hb dL_law_473 (lv_at hl 5 rfl) ?_
        refine lv_iconst (v := nI 2) hx hb dL_law_475 (by decide) ?_
        refine lv_iadd hx hb dL_law_476 ?_
        refine q_top (y := nI (i + 2)) (nI_add _ _) ?_
        refine q_sld hx hb hX hbl hb0 hS hx9 (by omega) hL dL_law_477 ?_
        refine lv_aload_n hx hb dL_law_478 rfl (lv_at hl 1 rfl) ?_
        refine lv_iload hx hb dL_law_479 (lv_at hl 5 rfl) ?_
        refine lv_iconst (v := nI 3) hx hb dL_law_481 (by decide) ?_
        refine lv_iadd hx hb dL_law_482 ?_
        refine q_top (y := nI (i + 3)) (nI_add _ _) ?_
        refine q_sld hx hb hX hbl hb0 hS hy9 (by omega) hL dL_law_483 ?_
        obtain ⟨fs484, ho36⟩ := hm.obj
        refine q_W1 (va_runV (As := [.int (nI 1), .int (x), .int (y)]) (rest := []) ⟨hx, hb, hml, hown, hts⟩ (c_X7_shift_t l hm (x) (y)) (cwV 3 hts lg_X7_shift rfl rfl rfl (by decide +kernel) ⟨Nat.le_of_ble_eq_true rfl, Nat.le_of_ble_eq_true rfl⟩) (q_preV hG hW hS ho36 rfl) rfl rfl hl.1 rfl (lv_room (Nat.le_of_ble_eq_true rfl)) dL_law_484 ⟨by show _ ≤ 601024; omega, by show _ ≤ 7293034; omega⟩) hS (fun w_484 H locs hp484 hW hS => ?_)
        obtain ⟨hd, hfm⟩ := hp484
        replace hs := hs.mod hfm
        replace h45 := (hfm 45 (by omega)).trans h45
        clear hm
        rcases hd with ⟨hc2, hm⟩ | ⟨hc2, hm⟩ | ⟨hc2, hm⟩
        · skip
          refine q_topv (v' := .int (nI (P.W (i32n x) 0) + y)) (congrArg Value.int (if_pos hc2)) ?_
          refine lv_istore (lv' := [(6, .int (nI (P.W (i32n x) 0) + y)), (5, .int (nI 0)), (0, .ref (b0)), (1, .ref (b + 0)), (2, .ref (b + 36)), (3, .ref (b + 45)), (4, .int (nI i))]) hx hb dL_law_487 hl (by decide) rfl (fun ls hl => ?_)
          refine lv_aload_n hx hb dL_law_489 rfl (lv_at hl 4 rfl) ?_
          obtain ⟨fs490, ho36⟩ := hm.obj
          refine q_R1 (va_runV (As := []) (rest := []) ⟨hx, hb, hml, hown, hts⟩ (c_thr l hm) (cwV 0 hts lg_X7_thrown rfl rfl rfl (by decide +kernel) ⟨Nat.le_of_ble_eq_true rfl, Nat.le_of_ble_eq_true rfl⟩) (q_preV hG hW hS ho36 rfl) rfl rfl hl.1 rfl (lv_room (Nat.le_of_ble_eq_true rfl)) dL_law_490 ⟨by show _ ≤ 601024; omega, by show _ ≤ 7293034; omega⟩) ?_
          refine lv_iload hx hb dL_law_493 (lv_at hl 1 rfl) ?_
          refine lv_icmp_eq (tgt := 500) hx hb dL_law_495 (by decide) (fun c_495 => ?_) (fun c_495 => ?_)
          · skip
            have c_495 : 0 = 0 := (nI_eq (a := 0) (b := 0) (by omega) (by omega)).mp c_495
            refine lv_iload hx hb dL_law_500 (lv_at hl 1 rfl) ?_
            refine lv_if_ne (tgt := 517) hx hb dL_law_502 (by decide) (fun c_502 => ?_) (fun c_502 => ?_)
            · skip
              have c_502 : ¬ (0 = 0) := fun h__ => c_502 ((nI_eq0 (i := 0) (by omega)).mpr h__)
              exact absurd c_502 (by omega)
            · skip
              have c_502 : 0 = 0 := (nI_eq0 (i := 0) (by omega)).mp c_502
              refine lv_aload_n hx hb dL_law_505 rfl (lv_at hl 5 rfl) ?_
              refine lv_iconst (v := nI 0) hx hb dL_law_506 (by decide) ?_
              refine q_lald hx hb hG hW h45 (by decide) (by decide) dL_law_507 ?_
              refine q_topv (v' := .long ((nI (P.W (i32n x) 0) + y).toInt64)) (by rw [va_up_self]) ?_
              refine lv_iload hx hb dL_law_508 (lv_at hl 0 rfl) ?_
              refine lv_i2l hx hb dL_law_510 rfl ?_
              refine W.lcmp hx hb dL_law_511 ?_
              refine q_topv (v' := .int (nI 0)) (congrArg Value.int (lg_cmp_self _)) ?_
              refine lv_if_eq (tgt := 517) hx hb dL_law_512 (by decide) (fun c_512 => ?_) (fun c_512 => ?_)
              · skip
                have c_512 : 0 = 0 := (nI_eq0 (i := 0) (by omega)).mp c_512
                refine lv_goto (tgt := 1597) hx hb dL_law_517 (by decide) ?_
                exact W.widen (by omega) (by omega) (K _ _ _ _ _ ⟨hs, ⟨_, hm⟩, ⟨_, h45⟩, hW, hS⟩ (lv_sub hl [2, 3, 4, 5, 6] rfl))
              · skip
                have c_512 : ¬ (0 = 0) := fun h__ => c_512 ((nI_eq0 (i := 0) (by omega)).mpr h__)
                exact absurd c_512 (by omega)
          · skip
            have c_495 : ¬ (0 = 0) := fun h__ => c_495 ((nI_eq (a := 0) (b := 0) (by omega) (by omega)).mpr h__)
            exact absurd c_495 (by omega)
        · skip
          first | exact absurd hc hc2 | exact absurd hc2 hc | exact absurd hc.1 hc2 | exact absurd hc2.1 hc | exact absurd hc.2 hc2.2 | exact absurd hc2.2 hc.2 | (exact absurd hc.2 (by omega)) | (exact absurd hc (by omega)) | (exact absurd hc2.2 (by omega))
        · skip
          first | exact absurd hc hc2 | exact absurd hc2 hc | exact absurd hc.1 hc2 | exact absurd hc2.1 hc | exact absurd hc.2 hc2.2 | exact absurd hc2.2 hc.2 | (exact absurd hc.2 (by omega)) | (exact absurd hc (by omega)) | (exact absurd hc2.2 (by omega))
    · skip
      subst hr9
      refine lv_istore (lv' := [(5, .int (nI 1)), (0, .ref (b0)), (1, .ref (b + 0)), (2, .ref (b + 36)), (3, .ref (b + 45)), (4, .int (nI i))]) hx hb dL_law_455 hl (by decide) rfl (fun ls hl => ?_)
      refine lv_aload_n hx hb dL_law_457 rfl (lv_at hl 3 rfl) ?_
      refine lv_aload_n hx hb dL_law_458 rfl (lv_at hl 1 rfl) ?_
      refine lv_iload hx hb dL_law_459 (lv_at hl 5 rfl) ?_
      refine lv_iconst (v := nI 1) hx hb dL_law_461 (by decide) ?_
      refine lv_iadd hx hb dL_law_462 ?_
      refine q_top (y := nI (i + 1)) (nI_add _ _) ?_
      refine q_sld hx hb hX hbl hb0 hS hf99 (by omega) hL dL_law_463 ?_
      refine lv_if_eq (tgt := 471) hx hb dL_law_464 (by decide) (fun c_464 => ?_) (fun c_464 => ?_)
      · skip
        exact absurd c_464 c_431
      · skip
        refine lv_iconst (v := nI 1) hx hb dL_law_467 (by decide) ?_
        refine lv_goto (tgt := 472) hx hb dL_law_468 (by decide) ?_
        refine lv_aload_n hx hb dL_law_472 rfl (lv_at hl 1 rfl) ?_
        refine lv_iload hx hb dL_law_473 (lv_at hl 5 rfl) ?_
        refine lv_iconst (v := nI 2) hx hb dL_law_475 (by decide) ?_
        refine lv_iadd hx hb dL_law_476 ?_
        refine q_top (y := nI (i + 2)) (nI_add _ _) ?_
        refine q_sld hx hb hX hbl hb0 hS hx9 (by omega) hL dL_law_477 ?_
        refine lv_aload_n hx hb dL_law_478 rfl (lv_at hl 1 rfl) ?_
        refine lv_iload hx hb dL_law_479 (lv_at hl 5 rfl) ?_
        refine lv_iconst (v := nI 3) hx hb dL_law_481 (by decide) ?_
        refine lv_iadd hx hb dL_law_482 ?_
        refine q_top (y := nI (i + 3)) (nI_add _ _) ?_
        refine q_sld hx hb hX hbl hb0 hS hy9 (by omega) hL dL_law_483 ?_
        obtain ⟨fs484, ho36⟩ := hm.obj
        refine q_W1 (va_runV (As := [.int (nI 1), .int (x), .int (y)]) (rest := []) ⟨hx, hb, hml, hown, hts⟩ (c_X7_shift_t l hm (x) (y)) (cwV 3 hts lg_X7_shift rfl rfl rfl (by decide +kernel) ⟨Nat.le_of_ble_eq_true rfl, Nat.le_of_ble_eq_true rfl⟩) (q_preV hG hW hS ho36 rfl) rfl rfl hl.1 rfl (lv_room (Nat.le_of_ble_eq_true rfl)) dL_law_484 ⟨by show _ ≤ 601024; omega, by show _ ≤ 7293034; omega⟩) hS (fun w_484 H locs hp484 hW hS => ?_)
        obtain ⟨hd, hfm⟩ := hp484
        replace hs := hs.mod hfm
        replace h45 := (hfm 45 (by omega)).trans h45
        clear hm
        rcases hd with ⟨hc2, hm⟩ | ⟨hc2, hm⟩ | ⟨hc2, hm⟩
        · skip
          first | exact absurd hc hc2 | exact absurd hc2 hc | exact absurd hc.1 hc2 | exact absurd hc2.1 hc | exact absurd hc.2 hc2.2 | exact absurd hc2.2 hc.2 | (exact absurd hc.2 (by omega)) | (exact absurd hc (by omega)) | (exact absurd hc2.2 (by omega))
        · skip
          refine q_topv (v' := .int (nI 0)) (congrArg Value.int (if_neg (fun q9 => by first | exact hc2 q9 | exact hc2 q9.1 | exact absurd q9.2 (by omega) | exact hc2.2 q9.2 | exact q9.2 hc2.2 | omega))) ?_
          refine lv_istore (lv' := [(6, .int (nI 0)), (5, .int (nI 1)), (0, .ref (b0)), (1, .ref (b + 0)), (2, .ref (b + 36)), (3, .ref (b + 45)), (4, .int (nI i))]) hx hb dL_law_487 hl (by decide) rfl (fun ls hl => ?_)
          refine lv_aload_n hx hb dL_law_489 rfl (lv_at hl 4 rfl) ?_
          obtain ⟨fs490, ho36⟩ := hm.obj
          refine q_R1 (va_runV (As := []) (rest := []) ⟨hx, hb, hml, hown, hts⟩ (c_thr l hm) (cwV 0 hts lg_X7_thrown rfl rfl rfl (by decide +kernel) ⟨Nat.le_of_ble_eq_true rfl, Nat.le_of_ble_eq_true rfl⟩) (q_preV hG hW hS ho36 rfl) rfl rfl hl.1 rfl (lv_room (Nat.le_of_ble_eq_true rfl)) dL_law_490 ⟨by show _ ≤ 601024; omega, by show _ ≤ 7293034; omega⟩) ?_
          refine lv_iload hx hb dL_law_493 (lv_at hl 1 rfl) ?_
          refine lv_icmp_eq (tgt := 500) hx hb dL_law_495 (by decide) (fun c_495 => ?_) (fun c_495 => ?_)
          · skip
            have c_495 : 1 = 1 := (nI_eq (a := 1) (b := 1) (by omega) (by omega)).mp c_495
            refine lv_iload hx hb dL_law_500 (lv_at hl 1 rfl) ?_
            refine lv_if_ne (tgt := 517) hx hb dL_law_502 (by decide) (fun c_502 => ?_) (fun c_502 => ?_)
            · skip
              have c_502 : ¬ (1 = 0) := fun h__ => c_502 ((nI_eq0 (i := 1) (by omega)).mpr h__)
              refine lv_goto (tgt := 1597) hx hb dL_law_517 (by decide) ?_
              exact W.widen (by omega) (by omega) (K _ _ _ _ _ ⟨hs, ⟨_, hm⟩, ⟨_, h45⟩, hW, hS⟩ (lv_sub hl [2, 3, 4, 5, 6] rfl))
            · skip
              have c_502 : 1 = 0 := (nI_eq0 (i := 1) (by omega)).mp c_502
              exact absurd c_502 (by omega)
          · skip
            have c_495 : ¬ (1 = 1) := fun h__ => c_495 ((nI_eq (a := 1) (b := 1) (by omega) (by omega)).mpr h__)
            exact absurd c_495 (by omega)
        · skip
          first | exact absurd hc hc2 | exact absurd hc2 hc | exact absurd hc.1 hc2 | exact absurd hc2.1 hc | exact absurd hc.2 hc2.2 | exact absurd hc2.2 hc.2 | (exact absurd hc.2 (by omega)) | (exact absurd hc (by omega)) | (exact absurd hc2.2 (by omega))
    · skip
      subst hr9
      refine lv_istore (lv' := [(5, .int (nI 2)), (0, .ref (b0)), (1, .ref (b + 0)), (2, .ref (b + 36)), (3, .ref (b + 45)), (4, .int (nI i))]) hx hb dL_law_455 hl (by decide) rfl (fun ls hl => ?_)
      refine lv_aload_n hx hb dL_law_457 rfl (lv_at hl 3 rfl) ?_
      refine lv_aload_n hx hb dL_law_458 rfl (lv_at hl 1 rfl) ?_
      refine lv_iload hx hb dL_law_459 (lv_at hl 5 rfl) ?_
      refine lv_iconst (v := nI 1) hx hb dL_law_461 (by decide) ?_
      refine lv_iadd hx hb dL_law_462 ?_
      refine q_top (y := nI (i + 1)) (nI_add _ _) ?_
      refine q_sld hx hb hX hbl hb0 hS hf99 (by omega) hL dL_law_463 ?_
      refine lv_if_eq (tgt := 471) hx hb dL_law_464 (by decide) (fun c_464 => ?_) (fun c_464 => ?_)
      · skip
        exact absurd c_464 c_431
      · skip
        refine lv_iconst (v := nI 1) hx hb dL_law_467 (by decide) ?_
        refine lv_goto (tgt := 472) hx hb dL_law_468 (by decide) ?_
        refine lv_aload_n hx hb dL_law_472 rfl (lv_at hl 1 rfl) ?_
        refine lv_iload hx hb dL_law_473 (lv_at hl 5 rfl) ?_
        refine lv_iconst (v := nI 2) hx hb dL_law_475 (by decide) ?_
        refine lv_iadd hx hb dL_law_476 ?_
        refine q_top (y := nI (i + 2)) (nI_add _ _) ?_
        refine q_sld hx hb hX hbl hb0 hS hx9 (by omega) hL dL_law_477 ?_
        refine lv_aload_n hx hb dL_law_478 rfl (lv_at hl 1 rfl) ?_
        refine lv_iload hx hb dL_law_479 (lv_at hl 5 rfl) ?_
        refine lv_iconst (v := nI 3) hx hb dL_law_481 (by decide) ?_
        refine lv_iadd hx hb dL_law_482 ?_
        refine q_top (y := nI (i + 3)) (nI_add _ _) ?_
        refine q_sld hx hb hX hbl hb0 hS hy9 (by omega) hL dL_law_483 ?_
        obtain ⟨fs484, ho36⟩ := hm.obj
        refine q_W1 (va_runV (As := [.int (nI 1), .int (x), .int (y)]) (rest := []) ⟨hx, hb, hml, hown, hts⟩ (c_X7_shift_t l hm (x) (y)) (cwV 3 hts lg_X7_shift rfl rfl rfl (by decide +kernel) ⟨Nat.le_of_ble_eq_true rfl, Nat.le_of_ble_eq_true rfl⟩) (q_preV hG hW hS ho36 rfl) rfl rfl hl.1 rfl (lv_room (Nat.le_of_ble_eq_true rfl)) dL_law_484 ⟨by show _ ≤ 601024; omega, by show _ ≤ 7293034; omega⟩) hS (fun w_484 H locs hp484 hW hS => ?_)
        obtain ⟨hd, hfm⟩ := hp484
        replace hs := hs.mod hfm
        replace h45 := (hfm 45 (by omega)).trans h45
        clear hm
        rcases hd with ⟨hc2, hm⟩ | ⟨hc2, hm⟩ | ⟨hc2, hm⟩
        · skip
          first | exact absurd hc hc2 | exact absurd hc2 hc | exact absurd hc.1 hc2 | exact absurd hc2.1 hc | exact absurd hc.2 hc2.2 | exact absurd hc2.2 hc.2 | (exact absurd hc.2 (by omega)) | (exact absurd hc (by omega)) | (exact absurd hc2.2 (by omega))
        · skip
          first | exact absurd hc hc2 | exact absurd hc2 hc | exact absurd hc.1 hc2 | exact absurd hc2.1 hc | exact absurd hc.2 hc2.2 | exact absurd hc2.2 hc.2 | (exact absurd hc.2 (by omega)) | (exact absurd hc (by omega)) | (exact absurd hc2.2 (by omega))
        · skip
          refine q_topv (v' := .int (nI 0)) (congrArg Value.int (if_neg (fun q9 => by first | exact hc2 q9 | exact hc2 q9.1 | exact absurd q9.2 (by omega) | exact hc2.2 q9.2 | exact q9.2 hc2.2 | omega))) ?_
          refine lv_istore (lv' := [(6, .int (nI 0)), (5, .int (nI 2)), (0, .ref (b0)), (1, .ref (b + 0)), (2, .ref (b + 36)), (3, .ref (b + 45)), (4, .int (nI i))]) hx hb dL_law_487 hl (by decide) rfl (fun ls hl => ?_)
          refine lv_aload_n hx hb dL_law_489 rfl (lv_at hl 4 rfl) ?_
          obtain ⟨fs490, ho36⟩ := hm.obj
          refine q_R1 (va_runV (As := []) (rest := []) ⟨hx, hb, hml, hown, hts⟩ (c_thr l hm) (cwV 0 hts lg_X7_thrown rfl rfl rfl (by decide +kernel) ⟨Nat.le_of_ble_eq_true rfl, Nat.le_of_ble_eq_true rfl⟩) (q_preV hG hW hS ho36 rfl) rfl rfl hl.1 rfl (lv_room (Nat.le_of_ble_eq_true rfl)) dL_law_490 ⟨by show _ ≤ 601024; omega, by show _ ≤ 7293034; omega⟩) ?_
          refine lv_iload hx hb dL_law_493 (lv_at hl 1 rfl) ?_
          refine lv_icmp_eq (tgt := 500) hx hb dL_law_495 (by decide) (fun c_495 => ?_) (fun c_495 => ?_)
          · skip
            have c_495 : 2 = 2 := (nI_eq (a := 2) (b := 2) (by omega) (by omega)).mp c_495
            refine lv_iload hx hb dL_law_500 (lv_at hl 1 rfl) ?_
            refine lv_if_ne (tgt := 517) hx hb dL_law_502 (by decide) (fun c_502 => ?_) (fun c_502 => ?_)
            · skip
              have c_502 : ¬ (2 = 0) := fun h__ => c_502 ((nI_eq0 (i := 2) (by omega)).mpr h__)
              refine lv_goto (tgt := 1597) hx hb dL_law_517 (by decide) ?_
              exact W.widen (by omega) (by omega) (K _ _ _ _ _ ⟨hs, ⟨_, hm⟩, ⟨_, h45⟩, hW, hS⟩ (lv_sub hl [2, 3, 4, 5, 6] rfl))
            · skip
              have c_502 : 2 = 0 := (nI_eq0 (i := 2) (by omega)).mp c_502
              exact absurd c_502 (by omega)
          · skip
            have c_495 : ¬ (2 = 2) := fun h__ => c_495 ((nI_eq (a := 2) (b := 2) (by omega) (by omega)).mpr h__)
            exact absurd c_495 (by omega)
