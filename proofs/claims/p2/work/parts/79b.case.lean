def tL_law_6 : List (Nat × Instr × Nat) := [(519, .aload_n 1, 1), (520, .aload_n 0, 1), (521, .iload 4, 2), (523, .iconst 1, 1), (524, .iadd, 1), (525, .iaload, 1), (526, .i2l, 1), (527, .bipush 32, 2), (529, .lshl, 1), (530, .aload_n 0, 1), (531, .iload 4, 2), (533, .iconst 2, 1), (534, .iadd, 1), (535, .iaload, 1), (536, .i2l, 1), (537, .ldc2_w 112, 3), (540, .land, 1), (541, .lor, 1), (542, .aload_n 0, 1), (543, .iload 4, 2), (545, .iconst 3, 1), (546, .iadd, 1), (547, .iaload, 1), (548, .aload_n 3, 1), (549, .invokestatic 132, 3), (552, .istore 5, 2), (554, .aload_n 2, 1), (555, .aload_n 0, 1), (556, .iload 4, 2), (558, .iconst 1, 1), (559, .iadd, 1), (560, .iaload, 1), (561, .i2l, 1), (562, .bipush 32, 2), (564, .lshl, 1), (565, .aload_n 0, 1), (566, .iload 4, 2), (568, .iconst 2, 1), (569, .iadd, 1), (570, .iaload, 1), (571, .i2l, 1), (572, .ldc2_w 112, 3), (575, .land, 1), (576, .lor, 1), (577, .aload_n 0, 1), (578, .iload 4, 2), (580, .iconst 3, 1), (581, .iadd, 1), (582, .iaload, 1), (583, .invokevirtual 134, 3), (586, .lstore 6, 2), (588, .goto 1207, 3)]
set_option maxRecDepth 100000 in
theorem eL_law_6 : ∀ x ∈ tL_law_6, decode cL_law x.1 = .ok x.2 := by decide +kernel
set_option maxRecDepth 100000 in
set_option maxHeartbeats 4000000 in
theorem lw_case_6 {p : Program} {l : Launch} {e : Env} {s : State} {m : MethodId} {below : List Frame} {meth : Method} {c : Code} {b L : Nat} {xs : Nat → Int32} {D : va_G} {cA : Nat → ClassId} {ro0 ro : Nat → Option Nat} {H : Heap} {locs : List Loc} {cells slots : Nat} {Q : State → Prop} {ls : Array Slot} {i x mm o : Nat} {iv : Int32} (C : lw_C p l s m meth c b L xs D cA ro0) (hi : i + 8 ≤ L) (hiv : iv.toInt = (i : Int)) (I : lw_I D cA ro0 s x mm o ro H locs) (hl : lv_has ls 8 [(4, .int iv), (3, .ref o), (2, .ref mm), (1, .ref x), (0, .ref b)]) (hc : cells + 6 ≤ 601024) (hs : slots + 147 ≤ 7293034) (K : ∀ (ro9 : Nat → Option Nat) (H9 : Heap) (lo9 : List Loc) (ls9 : Array Slot), lw_I D cA ro0 s x mm o ro9 H9 lo9 → lv_has ls9 8 [(4, .int iv), (3, .ref o), (2, .ref mm), (1, .ref x), (0, .ref b)] → W p l e room_1 s m #[Value.ref b] below meth c H9 lo9 (cells + 6) (slots + 147) Q (F0 m 1795 ls9 [])) : W p l e room_1 s m #[Value.ref b] below meth c H locs cells slots Q (F0 m 519 ls []) := by
  have hL := C.hL
  have hH0 := I.hh.2.1 b C.hbl
  have hts0 : ∀ w ∈ Cond.initialized "MomentTextsLaw" :: gT, w.before #[Value.ref b] s = true := fun w hw => (List.mem_cons.mp hw).elim (fun g => by rw [g]; exact C.h2 _ (tb_1 0 rfl rfl)) (C.h2 w)
  generalize hy1 : xs (i + 1) = y1
  generalize hy2 : xs (i + 2) = y2
  generalize hy3 : xs (i + 3) = y3
  generalize hy4 : xs (i + 4) = y4
  generalize hy5 : xs (i + 5) = y5
  generalize hy6 : xs (i + 6) = y6
  generalize hy7 : xs (i + 7) = y7
  refine lv_aload_n C.hx C.hb (eL_law_6 (519, .aload_n 1, 1) (List.mem_of_getElem? (i := 0) rfl)) rfl (lv_at hl 3 rfl) ?_
  refine lv_aload_n C.hx C.hb (eL_law_6 (520, .aload_n 0, 1) (List.mem_of_getElem? (i := 1) rfl)) rfl (lv_at hl 4 rfl) ?_
  refine lv_iload C.hx C.hb (eL_law_6 (521, .iload 4, 2) (List.mem_of_getElem? (i := 2) rfl)) (lv_at hl 0 rfl) ?_
  refine ff_iconst C.hx C.hb (eL_law_6 (523, .iconst 1, 1) (List.mem_of_getElem? (i := 3) rfl)) (by decide) (by decide) (fun v1 e1 => ?_)
  refine ff_iadd C.hx C.hb (eL_law_6 (524, .iadd, 1) (List.mem_of_getElem? (i := 4) rfl)) (by omega) (by omega) (fun v2 e2 => ?_)
  refine lw_sc (n := i + 1) C.hx C.hb C.hX hH0 (by omega) (by omega) hy1 (eL_law_6 (525, .iaload, 1) (List.mem_of_getElem? (i := 5) rfl)) ?_
  refine lv_i2l C.hx C.hb (eL_law_6 (526, .i2l, 1) (List.mem_of_getElem? (i := 6) rfl)) rfl ?_
  refine lv_bipush C.hx C.hb (eL_law_6 (527, .bipush 32, 2) (List.mem_of_getElem? (i := 7) rfl)) rfl ?_
  refine lv_lshl C.hx C.hb (eL_law_6 (529, .lshl, 1) (List.mem_of_getElem? (i := 8) rfl)) rfl ?_
  refine lv_aload_n C.hx C.hb (eL_law_6 (530, .aload_n 0, 1) (List.mem_of_getElem? (i := 9) rfl)) rfl (lv_at hl 4 rfl) ?_
  refine lv_iload C.hx C.hb (eL_law_6 (531, .iload 4, 2) (List.mem_of_getElem? (i := 10) rfl)) (lv_at hl 0 rfl) ?_
  refine ff_iconst C.hx C.hb (eL_law_6 (533, .iconst 2, 1) (List.mem_of_getElem? (i := 11) rfl)) (by decide) (by decide) (fun v3 e3 => ?_)
  refine ff_iadd C.hx C.hb (eL_law_6 (534, .iadd, 1) (List.mem_of_getElem? (i := 12) rfl)) (by omega) (by omega) (fun v4 e4 => ?_)
  refine lw_sc (n := i + 2) C.hx C.hb C.hX hH0 (by omega) (by omega) hy2 (eL_law_6 (535, .iaload, 1) (List.mem_of_getElem? (i := 13) rfl)) ?_
  refine lv_i2l C.hx C.hb (eL_law_6 (536, .i2l, 1) (List.mem_of_getElem? (i := 14) rfl)) rfl ?_
  refine lv_ldc2 C.hx C.hb C.hown (C.h2 _ (tb_8 200 rfl rfl)) (eL_law_6 (537, .ldc2_w 112, 3) (List.mem_of_getElem? (i := 15) rfl)) ?_
  refine lv_land C.hx C.hb (eL_law_6 (540, .land, 1) (List.mem_of_getElem? (i := 16) rfl)) ?_
  refine lv_lor C.hx C.hb (eL_law_6 (541, .lor, 1) (List.mem_of_getElem? (i := 17) rfl)) ?_
  refine W.eq (g2 := F0 m 542 ls [.long (lgI y1 y2), .ref x]) rfl ?_
  refine lv_aload_n C.hx C.hb (eL_law_6 (542, .aload_n 0, 1) (List.mem_of_getElem? (i := 18) rfl)) rfl (lv_at hl 4 rfl) ?_
  refine lv_iload C.hx C.hb (eL_law_6 (543, .iload 4, 2) (List.mem_of_getElem? (i := 19) rfl)) (lv_at hl 0 rfl) ?_
  refine ff_iconst C.hx C.hb (eL_law_6 (545, .iconst 3, 1) (List.mem_of_getElem? (i := 20) rfl)) (by decide) (by decide) (fun v5 e5 => ?_)
  refine ff_iadd C.hx C.hb (eL_law_6 (546, .iadd, 1) (List.mem_of_getElem? (i := 21) rfl)) (by omega) (by omega) (fun v6 e6 => ?_)
  refine lw_sc (n := i + 3) C.hx C.hb C.hX hH0 (by omega) (by omega) hy3 (eL_law_6 (547, .iaload, 1) (List.mem_of_getElem? (i := 22) rfl)) ?_
  refine lv_aload_n C.hx C.hb (eL_law_6 (548, .aload_n 3, 1) (List.mem_of_getElem? (i := 23) rfl)) rfl (lv_at hl 1 rfl) ?_
  refine zw_row (As := [.ref x, .long (lgI y1 y2), .int y3, .ref o]) (st := []) (Ts := gT) C.hx C.hb C.hml C.hown C.h2 (fun _ h => h) (wL_instant l C.hst D cA ro s.heap.size s.heap x (lgI y1 y2) y3 o I.hx10 I.ho42) ⟨rfl, rfl⟩ ⟨by decide, by decide⟩ ⟨by show cells + 1 ≤ 601024; omega, by show slots + 6 ≤ 7293034; omega⟩ (tb_3 101 rfl rfl) (tb_1 0 rfl rfl) (tb_3 99 rfl rfl) (tb_3 100 rfl rfl) (show yL_instant.cls ≠ "java/lang/invoke/MethodHandle" ∧ yL_instant.cls ≠ "java/lang/invoke/VarHandle" ∧ (parseMethodDescriptor yL_instant.desc).map (fun d => d.parameters.length) = some 4 by decide +kernel) zw_blind (fun U hU hW => ⟨rfl, by rw [hU]; exact I.hh.l0, (C.hKa.ext I.he).warm hW⟩) I.hh.2.2.1 hl.1 (Nat.le_of_ble_eq_true rfl) (eL_law_6 (549, .invokestatic 132, 3) (List.mem_of_getElem? (i := 24) rfl)) (fun r7 s7 t7 lo7 g7 f7 l7 => ?_)
  obtain ⟨k7, ro7, q7, he7, z7⟩ := f7
  cases q7
  have hh7 : zh_ok D cA RTg ro7 s.heap.size s.heap t7.heap lo7 := ⟨z7.1, z7.2.1, l7, z7.2.2.2⟩
  have hx10_7 := he7 _ _ I.hx10
  have hm11_7 := he7 _ _ I.hm11
  have ho42_7 := he7 _ _ I.ho42
  have he_7 := fun q r g => he7 q r (I.he q r g)
  have hH7 := hh7.2.1 b C.hbl
  refine W.eq (g2 := F0 m 552 ls [.int k7]) rfl ?_
  refine lv_istore C.hx C.hb (eL_law_6 (552, .istore 5, 2) (List.mem_of_getElem? (i := 25) rfl)) hl (by decide) rfl (fun ls8 (hl8 : lv_has ls8 8 [(5, .int k7), (4, .int iv), (3, .ref o), (2, .ref mm), (1, .ref x), (0, .ref b)]) => ?_)
  refine lv_aload_n C.hx C.hb (eL_law_6 (554, .aload_n 2, 1) (List.mem_of_getElem? (i := 26) rfl)) rfl (lv_at hl8 3 rfl) ?_
  refine lv_aload_n C.hx C.hb (eL_law_6 (555, .aload_n 0, 1) (List.mem_of_getElem? (i := 27) rfl)) rfl (lv_at hl8 5 rfl) ?_
  refine lv_iload C.hx C.hb (eL_law_6 (556, .iload 4, 2) (List.mem_of_getElem? (i := 28) rfl)) (lv_at hl8 1 rfl) ?_
  refine ff_iconst C.hx C.hb (eL_law_6 (558, .iconst 1, 1) (List.mem_of_getElem? (i := 29) rfl)) (by decide) (by decide) (fun v9 e9 => ?_)
  refine ff_iadd C.hx C.hb (eL_law_6 (559, .iadd, 1) (List.mem_of_getElem? (i := 30) rfl)) (by omega) (by omega) (fun v10 e10 => ?_)
  refine lw_sc (n := i + 1) C.hx C.hb C.hX hH7 (by omega) (by omega) hy1 (eL_law_6 (560, .iaload, 1) (List.mem_of_getElem? (i := 31) rfl)) ?_
  refine lv_i2l C.hx C.hb (eL_law_6 (561, .i2l, 1) (List.mem_of_getElem? (i := 32) rfl)) rfl ?_
  refine lv_bipush C.hx C.hb (eL_law_6 (562, .bipush 32, 2) (List.mem_of_getElem? (i := 33) rfl)) rfl ?_
  refine lv_lshl C.hx C.hb (eL_law_6 (564, .lshl, 1) (List.mem_of_getElem? (i := 34) rfl)) rfl ?_
  refine lv_aload_n C.hx C.hb (eL_law_6 (565, .aload_n 0, 1) (List.mem_of_getElem? (i := 35) rfl)) rfl (lv_at hl8 5 rfl) ?_
  refine lv_iload C.hx C.hb (eL_law_6 (566, .iload 4, 2) (List.mem_of_getElem? (i := 36) rfl)) (lv_at hl8 1 rfl) ?_
  refine ff_iconst C.hx C.hb (eL_law_6 (568, .iconst 2, 1) (List.mem_of_getElem? (i := 37) rfl)) (by decide) (by decide) (fun v11 e11 => ?_)
  refine ff_iadd C.hx C.hb (eL_law_6 (569, .iadd, 1) (List.mem_of_getElem? (i := 38) rfl)) (by omega) (by omega) (fun v12 e12 => ?_)
  refine lw_sc (n := i + 2) C.hx C.hb C.hX hH7 (by omega) (by omega) hy2 (eL_law_6 (570, .iaload, 1) (List.mem_of_getElem? (i := 39) rfl)) ?_
  refine lv_i2l C.hx C.hb (eL_law_6 (571, .i2l, 1) (List.mem_of_getElem? (i := 40) rfl)) rfl ?_
  refine lv_ldc2 C.hx C.hb C.hown (C.h2 _ (tb_8 200 rfl rfl)) (eL_law_6 (572, .ldc2_w 112, 3) (List.mem_of_getElem? (i := 41) rfl)) ?_
  refine lv_land C.hx C.hb (eL_law_6 (575, .land, 1) (List.mem_of_getElem? (i := 42) rfl)) ?_
  refine lv_lor C.hx C.hb (eL_law_6 (576, .lor, 1) (List.mem_of_getElem? (i := 43) rfl)) ?_
  refine W.eq (g2 := F0 m 577 ls8 [.long (lgI y1 y2), .ref mm]) rfl ?_
  refine lv_aload_n C.hx C.hb (eL_law_6 (577, .aload_n 0, 1) (List.mem_of_getElem? (i := 44) rfl)) rfl (lv_at hl8 5 rfl) ?_
  refine lv_iload C.hx C.hb (eL_law_6 (578, .iload 4, 2) (List.mem_of_getElem? (i := 45) rfl)) (lv_at hl8 1 rfl) ?_
  refine ff_iconst C.hx C.hb (eL_law_6 (580, .iconst 3, 1) (List.mem_of_getElem? (i := 46) rfl)) (by decide) (by decide) (fun v13 e13 => ?_)
  refine ff_iadd C.hx C.hb (eL_law_6 (581, .iadd, 1) (List.mem_of_getElem? (i := 47) rfl)) (by omega) (by omega) (fun v14 e14 => ?_)
  refine lw_sc (n := i + 3) C.hx C.hb C.hX hH7 (by omega) (by omega) hy3 (eL_law_6 (582, .iaload, 1) (List.mem_of_getElem? (i := 48) rfl)) ?_
  refine zr_V (idx := 134) (r := 11) (ci := 11) (n0 := 0) (fs := fsX12) (lo := 0) (hi0 := 0) (ts := [(1, (-9223372036854775808), 9223372036854775807), (0, (-2147483648), 2147483647)]) C.hx C.hb C.hml C.hown hts0 (C.hKa.ext he_7).1.1 zKb (mX12_instant l D cA ro7 s.heap.size s.heap) ⟨rfl, rfl⟩ ⟨by decide, by decide⟩ ⟨by show (cells + 1) ≤ 601024; omega, by show (slots + 6) ≤ 7293034; omega⟩ (tb_7 113 rfl rfl) (tb_1 12 rfl rfl) (tb_7 110 rfl rfl) (tb_7 111 rfl rfl) (tb_7 112 rfl rfl) (by decide +kernel) rfl rfl (zCX12 C.hKa.1.1.1) rfl 583 134 (.invokevirtual 134) (Or.inr (Or.inl ⟨rfl, rfl⟩)) (eL_law_6 (583, .invokevirtual 134, 3) (List.mem_of_getElem? (i := 49) rfl)) _ _ _ [] [.ref mm, .long (lgI y1 y2), .int y3] hl8.1 (Nat.le_of_ble_eq_true rfl) hh7 ⟨⟨Or.inr ⟨_, rfl, hm11_7⟩, tz_l (zn_i64 _).1 (zn_i64 _).2, tz_i (zn_i32 _).1 (zn_i32 _).2, trivial⟩, fun e he => (by cases he), fun f hf => (by cases hf)⟩ (fun H15 lo15 r15 hh15 hk15 hal15 => ?_)
  obtain ⟨w15, rfl, v15, rfl, -, -⟩ := zc_one (t := (1, (-9223372036854775808), 9223372036854775807)) (L := []) hal15
  have hH15 := hh15.2.1 b C.hbl
  refine W.eq (g2 := F0 m 586 ls8 [.long v15]) rfl ?_
  refine lv_lstore C.hx C.hb (eL_law_6 (586, .lstore 6, 2) (List.mem_of_getElem? (i := 50) rfl)) hl8 (by decide) rfl (fun ls16 (hl16 : lv_has ls16 8 [(6, .long v15), (5, .int k7), (4, .int iv), (3, .ref o), (2, .ref mm), (1, .ref x), (0, .ref b)]) => ?_)
  refine lv_goto C.hx C.hb (eL_law_6 (588, .goto 1207, 3) (List.mem_of_getElem? (i := 51) rfl)) (tgt := 1795) rfl ?_
  exact W.widen (k := cells + 6) (n := slots + 147) (by omega) (by omega) (K ro7 _ _ _ ⟨hh15, he_7, hx10_7, hm11_7, ho42_7⟩ (lv_sub hl16 [2, 3, 4, 5, 6] rfl))
def tL_law_7 : List (Nat × Instr × Nat) := [(591, .aload_n 1, 1), (592, .aload_n 0, 1), (593, .iload 4, 2), (595, .iconst 1, 1), (596, .iadd, 1), (597, .iaload, 1), (598, .i2l, 1), (599, .bipush 32, 2), (601, .lshl, 1), (602, .aload_n 0, 1), (603, .iload 4, 2), (605, .iconst 2, 1), (606, .iadd, 1), (607, .iaload, 1), (608, .i2l, 1), (609, .ldc2_w 112, 3), (612, .land, 1), (613, .lor, 1), (614, .aload_n 0, 1), (615, .iload 4, 2), (617, .iconst 3, 1), (618, .iadd, 1), (619, .iaload, 1), (620, .aload_n 3, 1), (621, .invokestatic 135, 3), (624, .istore 5, 2), (626, .aload_n 2, 1), (627, .aload_n 0, 1), (628, .iload 4, 2), (630, .iconst 1, 1), (631, .iadd, 1), (632, .iaload, 1), (633, .i2l, 1), (634, .bipush 32, 2), (636, .lshl, 1), (637, .aload_n 0, 1), (638, .iload 4, 2), (640, .iconst 2, 1), (641, .iadd, 1), (642, .iaload, 1), (643, .i2l, 1), (644, .ldc2_w 112, 3), (647, .land, 1), (648, .lor, 1), (649, .aload_n 0, 1), (650, .iload 4, 2), (652, .iconst 3, 1), (653, .iadd, 1), (654, .iaload, 1), (655, .invokevirtual 137, 3), (658, .lstore 6, 2), (660, .goto 1135, 3)]
set_option maxRecDepth 100000 in
theorem eL_law_7 : ∀ x ∈ tL_law_7, decode cL_law x.1 = .ok x.2 := by decide +kernel
set_option maxRecDepth 100000 in
set_option maxHeartbeats 4000000 in
theorem lw_case_7 {p : Program} {l : Launch} {e : Env} {s : State} {m : MethodId} {below : List Frame} {meth : Method} {c : Code} {b L : Nat} {xs : Nat → Int32} {D : va_G} {cA : Nat → ClassId} {ro0 ro : Nat → Option Nat} {H : Heap} {locs : List Loc} {cells slots : Nat} {Q : State → Prop} {ls : Array Slot} {i x mm o : Nat} {iv : Int32} (C : lw_C p l s m meth c b L xs D cA ro0) (hi : i + 8 ≤ L) (hiv : iv.toInt = (i : Int)) (I : lw_I D cA ro0 s x mm o ro H locs) (hl : lv_has ls 8 [(4, .int iv), (3, .ref o), (2, .ref mm), (1, .ref x), (0, .ref b)]) (hc : cells + 6 ≤ 601024) (hs : slots + 147 ≤ 7293034) (K : ∀ (ro9 : Nat → Option Nat) (H9 : Heap) (lo9 : List Loc) (ls9 : Array Slot), lw_I D cA ro0 s x mm o ro9 H9 lo9 → lv_has ls9 8 [(4, .int iv), (3, .ref o), (2, .ref mm), (1, .ref x), (0, .ref b)] → W p l e room_1 s m #[Value.ref b] below meth c H9 lo9 (cells + 6) (slots + 147) Q (F0 m 1795 ls9 [])) : W p l e room_1 s m #[Value.ref b] below meth c H locs cells slots Q (F0 m 591 ls []) := by
  have hL := C.hL
  have hH0 := I.hh.2.1 b C.hbl
  have hts0 : ∀ w ∈ Cond.initialized "MomentTextsLaw" :: gT, w.before #[Value.ref b] s = true := fun w hw => (List.mem_cons.mp hw).elim (fun g => by rw [g]; exact C.h2 _ (tb_1 0 rfl rfl)) (C.h2 w)
  generalize hy1 : xs (i + 1) = y1
  generalize hy2 : xs (i + 2) = y2
  generalize hy3 : xs (i + 3) = y3
  generalize hy4 : xs (i + 4) = y4
  generalize hy5 : xs (i + 5) = y5
  generalize hy6 : xs (i + 6) = y6
  generalize hy7 : xs (i + 7) = y7
  refine lv_aload_n C.hx C.hb (eL_law_7 (591, .aload_n 1, 1) (List.mem_of_getElem? (i := 0) rfl)) rfl (lv_at hl 3 rfl) ?_
  refine lv_aload_n C.hx C.hb (eL_law_7 (592, .aload_n 0, 1) (List.mem_of_getElem? (i := 1) rfl)) rfl (lv_at hl 4 rfl) ?_
  refine lv_iload C.hx C.hb (eL_law_7 (593, .iload 4, 2) (List.mem_of_getElem? (i := 2) rfl)) (lv_at hl 0 rfl) ?_
  refine ff_iconst C.hx C.hb (eL_law_7 (595, .iconst 1, 1) (List.mem_of_getElem? (i := 3) rfl)) (by decide) (by decide) (fun v1 e1 => ?_)
  refine ff_iadd C.hx C.hb (eL_law_7 (596, .iadd, 1) (List.mem_of_getElem? (i := 4) rfl)) (by omega) (by omega) (fun v2 e2 => ?_)
  refine lw_sc (n := i + 1) C.hx C.hb C.hX hH0 (by omega) (by omega) hy1 (eL_law_7 (597, .iaload, 1) (List.mem_of_getElem? (i := 5) rfl)) ?_
  refine lv_i2l C.hx C.hb (eL_law_7 (598, .i2l, 1) (List.mem_of_getElem? (i := 6) rfl)) rfl ?_
  refine lv_bipush C.hx C.hb (eL_law_7 (599, .bipush 32, 2) (List.mem_of_getElem? (i := 7) rfl)) rfl ?_
  refine lv_lshl C.hx C.hb (eL_law_7 (601, .lshl, 1) (List.mem_of_getElem? (i := 8) rfl)) rfl ?_
  refine lv_aload_n C.hx C.hb (eL_law_7 (602, .aload_n 0, 1) (List.mem_of_getElem? (i := 9) rfl)) rfl (lv_at hl 4 rfl) ?_
  refine lv_iload C.hx C.hb (eL_law_7 (603, .iload 4, 2) (List.mem_of_getElem? (i := 10) rfl)) (lv_at hl 0 rfl) ?_
  refine ff_iconst C.hx C.hb (eL_law_7 (605, .iconst 2, 1) (List.mem_of_getElem? (i := 11) rfl)) (by decide) (by decide) (fun v3 e3 => ?_)
  refine ff_iadd C.hx C.hb (eL_law_7 (606, .iadd, 1) (List.mem_of_getElem? (i := 12) rfl)) (by omega) (by omega) (fun v4 e4 => ?_)
  refine lw_sc (n := i + 2) C.hx C.hb C.hX hH0 (by omega) (by omega) hy2 (eL_law_7 (607, .iaload, 1) (List.mem_of_getElem? (i := 13) rfl)) ?_
  refine lv_i2l C.hx C.hb (eL_law_7 (608, .i2l, 1) (List.mem_of_getElem? (i := 14) rfl)) rfl ?_
  refine lv_ldc2 C.hx C.hb C.hown (C.h2 _ (tb_8 200 rfl rfl)) (eL_law_7 (609, .ldc2_w 112, 3) (List.mem_of_getElem? (i := 15) rfl)) ?_
  refine lv_land C.hx C.hb (eL_law_7 (612, .land, 1) (List.mem_of_getElem? (i := 16) rfl)) ?_
  refine lv_lor C.hx C.hb (eL_law_7 (613, .lor, 1) (List.mem_of_getElem? (i := 17) rfl)) ?_
  refine W.eq (g2 := F0 m 614 ls [.long (lgI y1 y2), .ref x]) rfl ?_
  refine lv_aload_n C.hx C.hb (eL_law_7 (614, .aload_n 0, 1) (List.mem_of_getElem? (i := 18) rfl)) rfl (lv_at hl 4 rfl) ?_
  refine lv_iload C.hx C.hb (eL_law_7 (615, .iload 4, 2) (List.mem_of_getElem? (i := 19) rfl)) (lv_at hl 0 rfl) ?_
  refine ff_iconst C.hx C.hb (eL_law_7 (617, .iconst 3, 1) (List.mem_of_getElem? (i := 20) rfl)) (by decide) (by decide) (fun v5 e5 => ?_)
  refine ff_iadd C.hx C.hb (eL_law_7 (618, .iadd, 1) (List.mem_of_getElem? (i := 21) rfl)) (by omega) (by omega) (fun v6 e6 => ?_)
  refine lw_sc (n := i + 3) C.hx C.hb C.hX hH0 (by omega) (by omega) hy3 (eL_law_7 (619, .iaload, 1) (List.mem_of_getElem? (i := 22) rfl)) ?_
  refine lv_aload_n C.hx C.hb (eL_law_7 (620, .aload_n 3, 1) (List.mem_of_getElem? (i := 23) rfl)) rfl (lv_at hl 1 rfl) ?_
  refine zw_row (As := [.ref x, .long (lgI y1 y2), .int y3, .ref o]) (st := []) (Ts := gT) C.hx C.hb C.hml C.hown C.h2 (fun _ h => h) (wL_reading l C.hst D cA ro s.heap.size s.heap x (lgI y1 y2) y3 o I.hx10 I.ho42) ⟨rfl, rfl⟩ ⟨by decide, by decide⟩ ⟨by show cells + 1 ≤ 601024; omega, by show slots + 6 ≤ 7293034; omega⟩ (tb_3 131 rfl rfl) (tb_1 0 rfl rfl) (tb_3 129 rfl rfl) (tb_3 130 rfl rfl) (show yL_reading.cls ≠ "java/lang/invoke/MethodHandle" ∧ yL_reading.cls ≠ "java/lang/invoke/VarHandle" ∧ (parseMethodDescriptor yL_reading.desc).map (fun d => d.parameters.length) = some 4 by decide +kernel) zw_blind (fun U hU hW => ⟨rfl, by rw [hU]; exact I.hh.l0, (C.hKa.ext I.he).warm hW⟩) I.hh.2.2.1 hl.1 (Nat.le_of_ble_eq_true rfl) (eL_law_7 (621, .invokestatic 135, 3) (List.mem_of_getElem? (i := 24) rfl)) (fun r7 s7 t7 lo7 g7 f7 l7 => ?_)
  obtain ⟨k7, ro7, q7, he7, z7⟩ := f7
  cases q7
  have hh7 : zh_ok D cA RTg ro7 s.heap.size s.heap t7.heap lo7 := ⟨z7.1, z7.2.1, l7, z7.2.2.2⟩
  have hx10_7 := he7 _ _ I.hx10
  have hm11_7 := he7 _ _ I.hm11
  have ho42_7 := he7 _ _ I.ho42
  have he_7 := fun q r g => he7 q r (I.he q r g)
  have hH7 := hh7.2.1 b C.hbl
  refine W.eq (g2 := F0 m 624 ls [.int k7]) rfl ?_
  refine lv_istore C.hx C.hb (eL_law_7 (624, .istore 5, 2) (List.mem_of_getElem? (i := 25) rfl)) hl (by decide) rfl (fun ls8 (hl8 : lv_has ls8 8 [(5, .int k7), (4, .int iv), (3, .ref o), (2, .ref mm), (1, .ref x), (0, .ref b)]) => ?_)
  refine lv_aload_n C.hx C.hb (eL_law_7 (626, .aload_n 2, 1) (List.mem_of_getElem? (i := 26) rfl)) rfl (lv_at hl8 3 rfl) ?_
  refine lv_aload_n C.hx C.hb (eL_law_7 (627, .aload_n 0, 1) (List.mem_of_getElem? (i := 27) rfl)) rfl (lv_at hl8 5 rfl) ?_
  refine lv_iload C.hx C.hb (eL_law_7 (628, .iload 4, 2) (List.mem_of_getElem? (i := 28) rfl)) (lv_at hl8 1 rfl) ?_
  refine ff_iconst C.hx C.hb (eL_law_7 (630, .iconst 1, 1) (List.mem_of_getElem? (i := 29) rfl)) (by decide) (by decide) (fun v9 e9 => ?_)
  refine ff_iadd C.hx C.hb (eL_law_7 (631, .iadd, 1) (List.mem_of_getElem? (i := 30) rfl)) (by omega) (by omega) (fun v10 e10 => ?_)
  refine lw_sc (n := i + 1) C.hx C.hb C.hX hH7 (by omega) (by omega) hy1 (eL_law_7 (632, .iaload, 1) (List.mem_of_getElem? (i := 31) rfl)) ?_
  refine lv_i2l C.hx C.hb (eL_law_7 (633, .i2l, 1) (List.mem_of_getElem? (i := 32) rfl)) rfl ?_
  refine lv_bipush C.hx C.hb (eL_law_7 (634, .bipush 32, 2) (List.mem_of_getElem? (i := 33) rfl)) rfl ?_
  refine lv_lshl C.hx C.hb (eL_law_7 (636, .lshl, 1) (List.mem_of_getElem? (i := 34) rfl)) rfl ?_
  refine lv_aload_n C.hx C.hb (eL_law_7 (637, .aload_n 0, 1) (List.mem_of_getElem? (i := 35) rfl)) rfl (lv_at hl8 5 rfl) ?_
  refine lv_iload C.hx C.hb (eL_law_7 (638, .iload 4, 2) (List.mem_of_getElem? (i := 36) rfl)) (lv_at hl8 1 rfl) ?_
  refine ff_iconst C.hx C.hb (eL_law_7 (640, .iconst 2, 1) (List.mem_of_getElem? (i := 37) rfl)) (by decide) (by decide) (fun v11 e11 => ?_)
  refine ff_iadd C.hx C.hb (eL_law_7 (641, .iadd, 1) (List.mem_of_getElem? (i := 38) rfl)) (by omega) (by omega) (fun v12 e12 => ?_)
  refine lw_sc (n := i + 2) C.hx C.hb C.hX hH7 (by omega) (by omega) hy2 (eL_law_7 (642, .iaload, 1) (List.mem_of_getElem? (i := 39) rfl)) ?_
  refine lv_i2l C.hx C.hb (eL_law_7 (643, .i2l, 1) (List.mem_of_getElem? (i := 40) rfl)) rfl ?_
  refine lv_ldc2 C.hx C.hb C.hown (C.h2 _ (tb_8 200 rfl rfl)) (eL_law_7 (644, .ldc2_w 112, 3) (List.mem_of_getElem? (i := 41) rfl)) ?_
  refine lv_land C.hx C.hb (eL_law_7 (647, .land, 1) (List.mem_of_getElem? (i := 42) rfl)) ?_
  refine lv_lor C.hx C.hb (eL_law_7 (648, .lor, 1) (List.mem_of_getElem? (i := 43) rfl)) ?_
  refine W.eq (g2 := F0 m 649 ls8 [.long (lgI y1 y2), .ref mm]) rfl ?_
  refine lv_aload_n C.hx C.hb (eL_law_7 (649, .aload_n 0, 1) (List.mem_of_getElem? (i := 44) rfl)) rfl (lv_at hl8 5 rfl) ?_
  refine lv_iload C.hx C.hb (eL_law_7 (650, .iload 4, 2) (List.mem_of_getElem? (i := 45) rfl)) (lv_at hl8 1 rfl) ?_
  refine ff_iconst C.hx C.hb (eL_law_7 (652, .iconst 3, 1) (List.mem_of_getElem? (i := 46) rfl)) (by decide) (by decide) (fun v13 e13 => ?_)
  refine ff_iadd C.hx C.hb (eL_law_7 (653, .iadd, 1) (List.mem_of_getElem? (i := 47) rfl)) (by omega) (by omega) (fun v14 e14 => ?_)
  refine lw_sc (n := i + 3) C.hx C.hb C.hX hH7 (by omega) (by omega) hy3 (eL_law_7 (654, .iaload, 1) (List.mem_of_getElem? (i := 48) rfl)) ?_
  refine zr_V (idx := 137) (r := 11) (ci := 11) (n0 := 0) (fs := fsX12) (lo := 0) (hi0 := 0) (ts := [(1, (-9223372036854775808), 9223372036854775807), (0, (-2147483648), 2147483647)]) C.hx C.hb C.hml C.hown hts0 (C.hKa.ext he_7).1.1 zKb (mX12_reading l D cA ro7 s.heap.size s.heap) ⟨rfl, rfl⟩ ⟨by decide, by decide⟩ ⟨by show (cells + 1) ≤ 601024; omega, by show (slots + 6) ≤ 7293034; omega⟩ (tb_7 137 rfl rfl) (tb_1 12 rfl rfl) (tb_7 134 rfl rfl) (tb_7 135 rfl rfl) (tb_7 136 rfl rfl) (by decide +kernel) rfl rfl (zCX12 C.hKa.1.1.1) rfl 655 137 (.invokevirtual 137) (Or.inr (Or.inl ⟨rfl, rfl⟩)) (eL_law_7 (655, .invokevirtual 137, 3) (List.mem_of_getElem? (i := 49) rfl)) _ _ _ [] [.ref mm, .long (lgI y1 y2), .int y3] hl8.1 (Nat.le_of_ble_eq_true rfl) hh7 ⟨⟨Or.inr ⟨_, rfl, hm11_7⟩, tz_l (zn_i64 _).1 (zn_i64 _).2, tz_i (zn_i32 _).1 (zn_i32 _).2, trivial⟩, fun e he => (by cases he), fun f hf => (by cases hf)⟩ (fun H15 lo15 r15 hh15 hk15 hal15 => ?_)
  obtain ⟨w15, rfl, v15, rfl, -, -⟩ := zc_one (t := (1, (-9223372036854775808), 9223372036854775807)) (L := []) hal15
  have hH15 := hh15.2.1 b C.hbl
  refine W.eq (g2 := F0 m 658 ls8 [.long v15]) rfl ?_
  refine lv_lstore C.hx C.hb (eL_law_7 (658, .lstore 6, 2) (List.mem_of_getElem? (i := 50) rfl)) hl8 (by decide) rfl (fun ls16 (hl16 : lv_has ls16 8 [(6, .long v15), (5, .int k7), (4, .int iv), (3, .ref o), (2, .ref mm), (1, .ref x), (0, .ref b)]) => ?_)
  refine lv_goto C.hx C.hb (eL_law_7 (660, .goto 1135, 3) (List.mem_of_getElem? (i := 51) rfl)) (tgt := 1795) rfl ?_
  exact W.widen (k := cells + 6) (n := slots + 147) (by omega) (by omega) (K ro7 _ _ _ ⟨hh15, he_7, hx10_7, hm11_7, ho42_7⟩ (lv_sub hl16 [2, 3, 4, 5, 6] rfl))
def tL_law_8 : List (Nat × Instr × Nat) := [(663, .aload_n 1, 1), (664, .aload_n 0, 1), (665, .iload 4, 2), (667, .iconst 1, 1), (668, .iadd, 1), (669, .iaload, 1), (670, .aload_n 3, 1), (671, .invokestatic 138, 3), (674, .istore 5, 2), (676, .aload_n 2, 1), (677, .aload_n 0, 1), (678, .iload 4, 2), (680, .iconst 1, 1), (681, .iadd, 1), (682, .iaload, 1), (683, .invokevirtual 140, 3), (686, .istore 6, 2), (688, .goto 1107, 3)]
set_option maxRecDepth 100000 in
theorem eL_law_8 : ∀ x ∈ tL_law_8, decode cL_law x.1 = .ok x.2 := by decide +kernel
set_option maxRecDepth 100000 in
set_option maxHeartbeats 4000000 in
theorem lw_case_8 {p : Program} {l : Launch} {e : Env} {s : State} {m : MethodId} {below : List Frame} {meth : Method} {c : Code} {b L : Nat} {xs : Nat → Int32} {D : va_G} {cA : Nat → ClassId} {ro0 ro : Nat → Option Nat} {H : Heap} {locs : List Loc} {cells slots : Nat} {Q : State → Prop} {ls : Array Slot} {i x mm o : Nat} {iv : Int32} (C : lw_C p l s m meth c b L xs D cA ro0) (hi : i + 8 ≤ L) (hiv : iv.toInt = (i : Int)) (I : lw_I D cA ro0 s x mm o ro H locs) (hl : lv_has ls 8 [(4, .int iv), (3, .ref o), (2, .ref mm), (1, .ref x), (0, .ref b)]) (hc : cells + 6 ≤ 601024) (hs : slots + 147 ≤ 7293034) (K : ∀ (ro9 : Nat → Option Nat) (H9 : Heap) (lo9 : List Loc) (ls9 : Array Slot), lw_I D cA ro0 s x mm o ro9 H9 lo9 → lv_has ls9 8 [(4, .int iv), (3, .ref o), (2, .ref mm), (1, .ref x), (0, .ref b)] → W p l e room_1 s m #[Value.ref b] below meth c H9 lo9 (cells + 6) (slots + 147) Q (F0 m 1795 ls9 [])) : W p l e room_1 s m #[Value.ref b] below meth c H locs cells slots Q (F0 m 663 ls []) := by
  have hL := C.hL
  have hH0 := I.hh.2.1 b C.hbl
  have hts0 : ∀ w ∈ Cond.initialized "MomentTextsLaw" :: gT, w.before #[Value.ref b] s = true := fun w hw => (List.mem_cons.mp hw).elim (fun g => by rw [g]; exact C.h2 _ (tb_1 0 rfl rfl)) (C.h2 w)
  generalize hy1 : xs (i + 1) = y1
  generalize hy2 : xs (i + 2) = y2
  generalize hy3 : xs (i + 3) = y3
  generalize hy4 : xs (i + 4) = y4
  generalize hy5 : xs (i + 5) = y5
  generalize hy6 : xs (i + 6) = y6
  generalize hy7 : xs (i + 7) = y7
  refine lv_aload_n C.hx C.hb (eL_law_8 (663, .aload_n 1, 1) (List.mem_of_getElem? (i := 0) rfl)) rfl (lv_at hl 3 rfl) ?_
  refine lv_aload_n C.hx C.hb (eL_law_8 (664, .aload_n 0, 1) (List.mem_of_getElem? (i := 1) rfl)) rfl (lv_at hl 4 rfl) ?_
  refine lv_iload C.hx C.hb (eL_law_8 (665, .iload 4, 2) (List.mem_of_getElem? (i := 2) rfl)) (lv_at hl 0 rfl) ?_
  refine ff_iconst C.hx C.hb (eL_law_8 (667, .iconst 1, 1) (List.mem_of_getElem? (i := 3) rfl)) (by decide) (by decide) (fun v1 e1 => ?_)
  refine ff_iadd C.hx C.hb (eL_law_8 (668, .iadd, 1) (List.mem_of_getElem? (i := 4) rfl)) (by omega) (by omega) (fun v2 e2 => ?_)
  refine lw_sc (n := i + 1) C.hx C.hb C.hX hH0 (by omega) (by omega) hy1 (eL_law_8 (669, .iaload, 1) (List.mem_of_getElem? (i := 5) rfl)) ?_
  refine lv_aload_n C.hx C.hb (eL_law_8 (670, .aload_n 3, 1) (List.mem_of_getElem? (i := 6) rfl)) rfl (lv_at hl 1 rfl) ?_
  refine zw_row (As := [.ref x, .int y1, .ref o]) (st := []) (Ts := gT) C.hx C.hb C.hml C.hown C.h2 (fun _ h => h) (wL_zone l C.hst D cA ro s.heap.size s.heap x y1 o I.hx10 I.ho42) ⟨rfl, rfl⟩ ⟨by decide, by decide⟩ ⟨by show cells + 6 ≤ 601024; omega, by show slots + 147 ≤ 7293034; omega⟩ (tb_3 163 rfl rfl) (tb_1 0 rfl rfl) (tb_3 161 rfl rfl) (tb_3 162 rfl rfl) (show yL_zone.cls ≠ "java/lang/invoke/MethodHandle" ∧ yL_zone.cls ≠ "java/lang/invoke/VarHandle" ∧ (parseMethodDescriptor yL_zone.desc).map (fun d => d.parameters.length) = some 3 by decide +kernel) zw_blind (fun U hU hW => ⟨rfl, by rw [hU]; exact I.hh.l0, (C.hKa.ext I.he).warm hW⟩) I.hh.2.2.1 hl.1 (Nat.le_of_ble_eq_true rfl) (eL_law_8 (671, .invokestatic 138, 3) (List.mem_of_getElem? (i := 7) rfl)) (fun r3 s3 t3 lo3 g3 f3 l3 => ?_)
  obtain ⟨k3, ro3, q3, he3, z3⟩ := f3
  cases q3
  have hh3 : zh_ok D cA RTg ro3 s.heap.size s.heap t3.heap lo3 := ⟨z3.1, z3.2.1, l3, z3.2.2.2⟩
  have hx10_3 := he3 _ _ I.hx10
  have hm11_3 := he3 _ _ I.hm11
  have ho42_3 := he3 _ _ I.ho42
  have he_3 := fun q r g => he3 q r (I.he q r g)
  have hH3 := hh3.2.1 b C.hbl
  refine W.eq (g2 := F0 m 674 ls [.int k3]) rfl ?_
  refine lv_istore C.hx C.hb (eL_law_8 (674, .istore 5, 2) (List.mem_of_getElem? (i := 8) rfl)) hl (by decide) rfl (fun ls4 (hl4 : lv_has ls4 8 [(5, .int k3), (4, .int iv), (3, .ref o), (2, .ref mm), (1, .ref x), (0, .ref b)]) => ?_)
  refine lv_aload_n C.hx C.hb (eL_law_8 (676, .aload_n 2, 1) (List.mem_of_getElem? (i := 9) rfl)) rfl (lv_at hl4 3 rfl) ?_
  refine lv_aload_n C.hx C.hb (eL_law_8 (677, .aload_n 0, 1) (List.mem_of_getElem? (i := 10) rfl)) rfl (lv_at hl4 5 rfl) ?_
  refine lv_iload C.hx C.hb (eL_law_8 (678, .iload 4, 2) (List.mem_of_getElem? (i := 11) rfl)) (lv_at hl4 1 rfl) ?_
  refine ff_iconst C.hx C.hb (eL_law_8 (680, .iconst 1, 1) (List.mem_of_getElem? (i := 12) rfl)) (by decide) (by decide) (fun v5 e5 => ?_)
  refine ff_iadd C.hx C.hb (eL_law_8 (681, .iadd, 1) (List.mem_of_getElem? (i := 13) rfl)) (by omega) (by omega) (fun v6 e6 => ?_)
  refine lw_sc (n := i + 1) C.hx C.hb C.hX hH3 (by omega) (by omega) hy1 (eL_law_8 (682, .iaload, 1) (List.mem_of_getElem? (i := 14) rfl)) ?_
  refine zr_V (idx := 140) (r := 11) (ci := 11) (n0 := 0) (fs := fsX12) (lo := 0) (hi0 := 0) (ts := [(0, (-2147483648), 2147483647)]) C.hx C.hb C.hml C.hown hts0 (C.hKa.ext he_3).1.1 zKb (mX12_zone l D cA ro3 s.heap.size s.heap) ⟨rfl, rfl⟩ ⟨by decide, by decide⟩ ⟨by show (cells + 6) ≤ 601024; omega, by show (slots + 147) ≤ 7293034; omega⟩ (tb_7 150 rfl rfl) (tb_1 12 rfl rfl) (tb_7 147 rfl rfl) (tb_7 148 rfl rfl) (tb_7 149 rfl rfl) (by decide +kernel) rfl rfl (zCX12 C.hKa.1.1.1) rfl 683 140 (.invokevirtual 140) (Or.inr (Or.inl ⟨rfl, rfl⟩)) (eL_law_8 (683, .invokevirtual 140, 3) (List.mem_of_getElem? (i := 15) rfl)) _ _ _ [] [.ref mm, .int y1] hl4.1 (Nat.le_of_ble_eq_true rfl) hh3 ⟨⟨Or.inr ⟨_, rfl, hm11_3⟩, tz_i (zn_i32 _).1 (zn_i32 _).2, trivial⟩, fun e he => (by cases he), fun f hf => (by cases hf)⟩ (fun H7 lo7 r7 hh7 hk7 hal7 => ?_)
  obtain ⟨w7, rfl, v7, rfl, -, -⟩ := zc_one (t := (0, (-2147483648), 2147483647)) (L := []) hal7
  have hH7 := hh7.2.1 b C.hbl
  refine W.eq (g2 := F0 m 686 ls4 [.int v7]) rfl ?_
  refine lv_istore C.hx C.hb (eL_law_8 (686, .istore 6, 2) (List.mem_of_getElem? (i := 16) rfl)) hl4 (by decide) rfl (fun ls8 (hl8 : lv_has ls8 8 [(6, .int v7), (5, .int k3), (4, .int iv), (3, .ref o), (2, .ref mm), (1, .ref x), (0, .ref b)]) => ?_)
  refine lv_goto C.hx C.hb (eL_law_8 (688, .goto 1107, 3) (List.mem_of_getElem? (i := 17) rfl)) (tgt := 1795) rfl ?_
  exact W.widen (k := cells + 6) (n := slots + 147) (by omega) (by omega) (K ro3 _ _ _ ⟨hh7, he_3, hx10_3, hm11_3, ho42_3⟩ (lv_sub hl8 [2, 3, 4, 5, 6] rfl))
def tL_law_9 : List (Nat × Instr × Nat) := [(691, .aload_n 1, 1), (692, .aload_n 0, 1), (693, .iload 4, 2), (695, .iconst 1, 1), (696, .iadd, 1), (697, .iaload, 1), (698, .aload_n 0, 1), (699, .iload 4, 2), (701, .iconst 2, 1), (702, .iadd, 1), (703, .iaload, 1), (704, .i2l, 1), (705, .bipush 32, 2), (707, .lshl, 1), (708, .aload_n 0, 1), (709, .iload 4, 2), (711, .iconst 3, 1), (712, .iadd, 1), (713, .iaload, 1), (714, .i2l, 1), (715, .ldc2_w 112, 3), (718, .land, 1), (719, .lor, 1), (720, .aload_n 0, 1), (721, .iload 4, 2), (723, .iconst 4, 1), (724, .iadd, 1), (725, .iaload, 1), (726, .aload_n 3, 1), (727, .invokestatic 141, 3), (730, .istore 5, 2), (732, .aload_n 2, 1), (733, .aload_n 0, 1), (734, .iload 4, 2), (736, .iconst 1, 1), (737, .iadd, 1), (738, .iaload, 1), (739, .aload_n 0, 1), (740, .iload 4, 2), (742, .iconst 2, 1), (743, .iadd, 1), (744, .iaload, 1), (745, .i2l, 1), (746, .bipush 32, 2), (748, .lshl, 1), (749, .aload_n 0, 1), (750, .iload 4, 2), (752, .iconst 3, 1), (753, .iadd, 1), (754, .iaload, 1), (755, .i2l, 1), (756, .ldc2_w 112, 3), (759, .land, 1), (760, .lor, 1), (761, .aload_n 0, 1), (762, .iload 4, 2), (764, .iconst 4, 1), (765, .iadd, 1), (766, .iaload, 1), (767, .invokevirtual 144, 3), (770, .istore 6, 2), (772, .goto 1023, 3)]
set_option maxRecDepth 100000 in
theorem eL_law_9 : ∀ x ∈ tL_law_9, decode cL_law x.1 = .ok x.2 := by decide +kernel
set_option maxRecDepth 100000 in
set_option maxHeartbeats 4000000 in
theorem lw_case_9 {p : Program} {l : Launch} {e : Env} {s : State} {m : MethodId} {below : List Frame} {meth : Method} {c : Code} {b L : Nat} {xs : Nat → Int32} {D : va_G} {cA : Nat → ClassId} {ro0 ro : Nat → Option Nat} {H : Heap} {locs : List Loc} {cells slots : Nat} {Q : State → Prop} {ls : Array Slot} {i x mm o : Nat} {iv : Int32} (C : lw_C p l s m meth c b L xs D cA ro0) (hi : i + 8 ≤ L) (hiv : iv.toInt = (i : Int)) (I : lw_I D cA ro0 s x mm o ro H locs) (hl : lv_has ls 8 [(4, .int iv), (3, .ref o), (2, .ref mm), (1, .ref x), (0, .ref b)]) (hc : cells + 6 ≤ 601024) (hs : slots + 147 ≤ 7293034) (K : ∀ (ro9 : Nat → Option Nat) (H9 : Heap) (lo9 : List Loc) (ls9 : Array Slot), lw_I D cA ro0 s x mm o ro9 H9 lo9 → lv_has ls9 8 [(4, .int iv), (3, .ref o), (2, .ref mm), (1, .ref x), (0, .ref b)] → W p l e room_1 s m #[Value.ref b] below meth c H9 lo9 (cells + 6) (slots + 147) Q (F0 m 1795 ls9 [])) : W p l e room_1 s m #[Value.ref b] below meth c H locs cells slots Q (F0 m 691 ls []) := by
  have hL := C.hL
  have hH0 := I.hh.2.1 b C.hbl
  have hts0 : ∀ w ∈ Cond.initialized "MomentTextsLaw" :: gT, w.before #[Value.ref b] s = true := fun w hw => (List.mem_cons.mp hw).elim (fun g => by rw [g]; exact C.h2 _ (tb_1 0 rfl rfl)) (C.h2 w)
  generalize hy1 : xs (i + 1) = y1
  generalize hy2 : xs (i + 2) = y2
  generalize hy3 : xs (i + 3) = y3
  generalize hy4 : xs (i + 4) = y4
  generalize hy5 : xs (i + 5) = y5
  generalize hy6 : xs (i + 6) = y6
  generalize hy7 : xs (i + 7) = y7
  refine lv_aload_n C.hx C.hb (eL_law_9 (691, .aload_n 1, 1) (List.mem_of_getElem? (i := 0) rfl)) rfl (lv_at hl 3 rfl) ?_
  refine lv_aload_n C.hx C.hb (eL_law_9 (692, .aload_n 0, 1) (List.mem_of_getElem? (i := 1) rfl)) rfl (lv_at hl 4 rfl) ?_
  refine lv_iload C.hx C.hb (eL_law_9 (693, .iload 4, 2) (List.mem_of_getElem? (i := 2) rfl)) (lv_at hl 0 rfl) ?_
  refine ff_iconst C.hx C.hb (eL_law_9 (695, .iconst 1, 1) (List.mem_of_getElem? (i := 3) rfl)) (by decide) (by decide) (fun v1 e1 => ?_)
  refine ff_iadd C.hx C.hb (eL_law_9 (696, .iadd, 1) (List.mem_of_getElem? (i := 4) rfl)) (by omega) (by omega) (fun v2 e2 => ?_)
  refine lw_sc (n := i + 1) C.hx C.hb C.hX hH0 (by omega) (by omega) hy1 (eL_law_9 (697, .iaload, 1) (List.mem_of_getElem? (i := 5) rfl)) ?_
  refine lv_aload_n C.hx C.hb (eL_law_9 (698, .aload_n 0, 1) (List.mem_of_getElem? (i := 6) rfl)) rfl (lv_at hl 4 rfl) ?_
  refine lv_iload C.hx C.hb (eL_law_9 (699, .iload 4, 2) (List.mem_of_getElem? (i := 7) rfl)) (lv_at hl 0 rfl) ?_
  refine ff_iconst C.hx C.hb (eL_law_9 (701, .iconst 2, 1) (List.mem_of_getElem? (i := 8) rfl)) (by decide) (by decide) (fun v3 e3 => ?_)
  refine ff_iadd C.hx C.hb (eL_law_9 (702, .iadd, 1) (List.mem_of_getElem? (i := 9) rfl)) (by omega) (by omega) (fun v4 e4 => ?_)
  refine lw_sc (n := i + 2) C.hx C.hb C.hX hH0 (by omega) (by omega) hy2 (eL_law_9 (703, .iaload, 1) (List.mem_of_getElem? (i := 10) rfl)) ?_
  refine lv_i2l C.hx C.hb (eL_law_9 (704, .i2l, 1) (List.mem_of_getElem? (i := 11) rfl)) rfl ?_
  refine lv_bipush C.hx C.hb (eL_law_9 (705, .bipush 32, 2) (List.mem_of_getElem? (i := 12) rfl)) rfl ?_
  refine lv_lshl C.hx C.hb (eL_law_9 (707, .lshl, 1) (List.mem_of_getElem? (i := 13) rfl)) rfl ?_
  refine lv_aload_n C.hx C.hb (eL_law_9 (708, .aload_n 0, 1) (List.mem_of_getElem? (i := 14) rfl)) rfl (lv_at hl 4 rfl) ?_
  refine lv_iload C.hx C.hb (eL_law_9 (709, .iload 4, 2) (List.mem_of_getElem? (i := 15) rfl)) (lv_at hl 0 rfl) ?_
  refine ff_iconst C.hx C.hb (eL_law_9 (711, .iconst 3, 1) (List.mem_of_getElem? (i := 16) rfl)) (by decide) (by decide) (fun v5 e5 => ?_)
  refine ff_iadd C.hx C.hb (eL_law_9 (712, .iadd, 1) (List.mem_of_getElem? (i := 17) rfl)) (by omega) (by omega) (fun v6 e6 => ?_)
  refine lw_sc (n := i + 3) C.hx C.hb C.hX hH0 (by omega) (by omega) hy3 (eL_law_9 (713, .iaload, 1) (List.mem_of_getElem? (i := 18) rfl)) ?_
  refine lv_i2l C.hx C.hb (eL_law_9 (714, .i2l, 1) (List.mem_of_getElem? (i := 19) rfl)) rfl ?_
  refine lv_ldc2 C.hx C.hb C.hown (C.h2 _ (tb_8 200 rfl rfl)) (eL_law_9 (715, .ldc2_w 112, 3) (List.mem_of_getElem? (i := 20) rfl)) ?_
  refine lv_land C.hx C.hb (eL_law_9 (718, .land, 1) (List.mem_of_getElem? (i := 21) rfl)) ?_
  refine lv_lor C.hx C.hb (eL_law_9 (719, .lor, 1) (List.mem_of_getElem? (i := 22) rfl)) ?_
  refine W.eq (g2 := F0 m 720 ls [.long (lgI y2 y3), .int y1, .ref x]) rfl ?_
  refine lv_aload_n C.hx C.hb (eL_law_9 (720, .aload_n 0, 1) (List.mem_of_getElem? (i := 23) rfl)) rfl (lv_at hl 4 rfl) ?_
  refine lv_iload C.hx C.hb (eL_law_9 (721, .iload 4, 2) (List.mem_of_getElem? (i := 24) rfl)) (lv_at hl 0 rfl) ?_
  refine ff_iconst C.hx C.hb (eL_law_9 (723, .iconst 4, 1) (List.mem_of_getElem? (i := 25) rfl)) (by decide) (by decide) (fun v7 e7 => ?_)
  refine ff_iadd C.hx C.hb (eL_law_9 (724, .iadd, 1) (List.mem_of_getElem? (i := 26) rfl)) (by omega) (by omega) (fun v8 e8 => ?_)
  refine lw_sc (n := i + 4) C.hx C.hb C.hX hH0 (by omega) (by omega) hy4 (eL_law_9 (725, .iaload, 1) (List.mem_of_getElem? (i := 27) rfl)) ?_
  refine lv_aload_n C.hx C.hb (eL_law_9 (726, .aload_n 3, 1) (List.mem_of_getElem? (i := 28) rfl)) rfl (lv_at hl 1 rfl) ?_
  refine zw_row (As := [.ref x, .int y1, .long (lgI y2 y3), .int y4, .ref o]) (st := []) (Ts := gT) C.hx C.hb C.hml C.hown C.h2 (fun _ h => h) (wL_change l C.hst D cA ro s.heap.size s.heap x y1 (lgI y2 y3) y4 o I.hx10 I.ho42) ⟨rfl, rfl⟩ ⟨by decide, by decide⟩ ⟨by show cells + 1 ≤ 601024; omega, by show slots + 6 ≤ 7293034; omega⟩ (tb_3 203 rfl rfl) (tb_1 0 rfl rfl) (tb_3 201 rfl rfl) (tb_3 202 rfl rfl) (show yL_change.cls ≠ "java/lang/invoke/MethodHandle" ∧ yL_change.cls ≠ "java/lang/invoke/VarHandle" ∧ (parseMethodDescriptor yL_change.desc).map (fun d => d.parameters.length) = some 5 by decide +kernel) zw_blind (fun U hU hW => ⟨rfl, by rw [hU]; exact I.hh.l0, (C.hKa.ext I.he).warm hW⟩) I.hh.2.2.1 hl.1 (Nat.le_of_ble_eq_true rfl) (eL_law_9 (727, .invokestatic 141, 3) (List.mem_of_getElem? (i := 29) rfl)) (fun r9 s9 t9 lo9 g9 f9 l9 => ?_)
  obtain ⟨k9, ro9, q9, he9, z9⟩ := f9
  cases q9
  have hh9 : zh_ok D cA RTg ro9 s.heap.size s.heap t9.heap lo9 := ⟨z9.1, z9.2.1, l9, z9.2.2.2⟩
  have hx10_9 := he9 _ _ I.hx10
  have hm11_9 := he9 _ _ I.hm11
  have ho42_9 := he9 _ _ I.ho42
  have he_9 := fun q r g => he9 q r (I.he q r g)
  have hH9 := hh9.2.1 b C.hbl
  refine W.eq (g2 := F0 m 730 ls [.int k9]) rfl ?_
  refine lv_istore C.hx C.hb (eL_law_9 (730, .istore 5, 2) (List.mem_of_getElem? (i := 30) rfl)) hl (by decide) rfl (fun ls10 (hl10 : lv_has ls10 8 [(5, .int k9), (4, .int iv), (3, .ref o), (2, .ref mm), (1, .ref x), (0, .ref b)]) => ?_)
  refine lv_aload_n C.hx C.hb (eL_law_9 (732, .aload_n 2, 1) (List.mem_of_getElem? (i := 31) rfl)) rfl (lv_at hl10 3 rfl) ?_
  refine lv_aload_n C.hx C.hb (eL_law_9 (733, .aload_n 0, 1) (List.mem_of_getElem? (i := 32) rfl)) rfl (lv_at hl10 5 rfl) ?_
  refine lv_iload C.hx C.hb (eL_law_9 (734, .iload 4, 2) (List.mem_of_getElem? (i := 33) rfl)) (lv_at hl10 1 rfl) ?_
  refine ff_iconst C.hx C.hb (eL_law_9 (736, .iconst 1, 1) (List.mem_of_getElem? (i := 34) rfl)) (by decide) (by decide) (fun v11 e11 => ?_)
  refine ff_iadd C.hx C.hb (eL_law_9 (737, .iadd, 1) (List.mem_of_getElem? (i := 35) rfl)) (by omega) (by omega) (fun v12 e12 => ?_)
  refine lw_sc (n := i + 1) C.hx C.hb C.hX hH9 (by omega) (by omega) hy1 (eL_law_9 (738, .iaload, 1) (List.mem_of_getElem? (i := 36) rfl)) ?_
  refine lv_aload_n C.hx C.hb (eL_law_9 (739, .aload_n 0, 1) (List.mem_of_getElem? (i := 37) rfl)) rfl (lv_at hl10 5 rfl) ?_
  refine lv_iload C.hx C.hb (eL_law_9 (740, .iload 4, 2) (List.mem_of_getElem? (i := 38) rfl)) (lv_at hl10 1 rfl) ?_
  refine ff_iconst C.hx C.hb (eL_law_9 (742, .iconst 2, 1) (List.mem_of_getElem? (i := 39) rfl)) (by decide) (by decide) (fun v13 e13 => ?_)
  refine ff_iadd C.hx C.hb (eL_law_9 (743, .iadd, 1) (List.mem_of_getElem? (i := 40) rfl)) (by omega) (by omega) (fun v14 e14 => ?_)
  refine lw_sc (n := i + 2) C.hx C.hb C.hX hH9 (by omega) (by omega) hy2 (eL_law_9 (744, .iaload, 1) (List.mem_of_getElem? (i := 41) rfl)) ?_
  refine lv_i2l C.hx C.hb (eL_law_9 (745, .i2l, 1) (List.mem_of_getElem? (i := 42) rfl)) rfl ?_
  refine lv_bipush C.hx C.hb (eL_law_9 (746, .bipush 32, 2) (List.mem_of_getElem? (i := 43) rfl)) rfl ?_
  refine lv_lshl C.hx C.hb (eL_law_9 (748, .lshl, 1) (List.mem_of_getElem? (i := 44) rfl)) rfl ?_
  refine lv_aload_n C.hx C.hb (eL_law_9 (749, .aload_n 0, 1) (List.mem_of_getElem? (i := 45) rfl)) rfl (lv_at hl10 5 rfl) ?_
  refine lv_iload C.hx C.hb (eL_law_9 (750, .iload 4, 2) (List.mem_of_getElem? (i := 46) rfl)) (lv_at hl10 1 rfl) ?_
  refine ff_iconst C.hx C.hb (eL_law_9 (752, .iconst 3, 1) (List.mem_of_getElem? (i := 47) rfl)) (by decide) (by decide) (fun v15 e15 => ?_)
  refine ff_iadd C.hx C.hb (eL_law_9 (753, .iadd, 1) (List.mem_of_getElem? (i := 48) rfl)) (by omega) (by omega) (fun v16 e16 => ?_)
  refine lw_sc (n := i + 3) C.hx C.hb C.hX hH9 (by omega) (by omega) hy3 (eL_law_9 (754, .iaload, 1) (List.mem_of_getElem? (i := 49) rfl)) ?_
  refine lv_i2l C.hx C.hb (eL_law_9 (755, .i2l, 1) (List.mem_of_getElem? (i := 50) rfl)) rfl ?_
  refine lv_ldc2 C.hx C.hb C.hown (C.h2 _ (tb_8 200 rfl rfl)) (eL_law_9 (756, .ldc2_w 112, 3) (List.mem_of_getElem? (i := 51) rfl)) ?_
  refine lv_land C.hx C.hb (eL_law_9 (759, .land, 1) (List.mem_of_getElem? (i := 52) rfl)) ?_
  refine lv_lor C.hx C.hb (eL_law_9 (760, .lor, 1) (List.mem_of_getElem? (i := 53) rfl)) ?_
  refine W.eq (g2 := F0 m 761 ls10 [.long (lgI y2 y3), .int y1, .ref mm]) rfl ?_
  refine lv_aload_n C.hx C.hb (eL_law_9 (761, .aload_n 0, 1) (List.mem_of_getElem? (i := 54) rfl)) rfl (lv_at hl10 5 rfl) ?_
  refine lv_iload C.hx C.hb (eL_law_9 (762, .iload 4, 2) (List.mem_of_getElem? (i := 55) rfl)) (lv_at hl10 1 rfl) ?_
  refine ff_iconst C.hx C.hb (eL_law_9 (764, .iconst 4, 1) (List.mem_of_getElem? (i := 56) rfl)) (by decide) (by decide) (fun v17 e17 => ?_)
  refine ff_iadd C.hx C.hb (eL_law_9 (765, .iadd, 1) (List.mem_of_getElem? (i := 57) rfl)) (by omega) (by omega) (fun v18 e18 => ?_)
  refine lw_sc (n := i + 4) C.hx C.hb C.hX hH9 (by omega) (by omega) hy4 (eL_law_9 (766, .iaload, 1) (List.mem_of_getElem? (i := 58) rfl)) ?_
  refine zr_V (idx := 144) (r := 11) (ci := 11) (n0 := 0) (fs := fsX12) (lo := 0) (hi0 := 0) (ts := [(0, (-2147483648), 2147483647), (1, (-9223372036854775808), 9223372036854775807), (0, (-2147483648), 2147483647)]) C.hx C.hb C.hml C.hown hts0 (C.hKa.ext he_9).1.1 zKb (mX12_change l D cA ro9 s.heap.size s.heap) ⟨rfl, rfl⟩ ⟨by decide, by decide⟩ ⟨by show (cells + 1) ≤ 601024; omega, by show (slots + 6) ≤ 7293034; omega⟩ (tb_7 158 rfl rfl) (tb_1 12 rfl rfl) (tb_7 155 rfl rfl) (tb_7 156 rfl rfl) (tb_7 157 rfl rfl) (by decide +kernel) rfl rfl (zCX12 C.hKa.1.1.1) rfl 767 144 (.invokevirtual 144) (Or.inr (Or.inl ⟨rfl, rfl⟩)) (eL_law_9 (767, .invokevirtual 144, 3) (List.mem_of_getElem? (i := 59) rfl)) _ _ _ [] [.ref mm, .int y1, .long (lgI y2 y3), .int y4] hl10.1 (Nat.le_of_ble_eq_true rfl) hh9 ⟨⟨Or.inr ⟨_, rfl, hm11_9⟩, tz_i (zn_i32 _).1 (zn_i32 _).2, tz_l (zn_i64 _).1 (zn_i64 _).2, tz_i (zn_i32 _).1 (zn_i32 _).2, trivial⟩, fun e he => (by cases he), fun f hf => (by cases hf)⟩ (fun H19 lo19 r19 hh19 hk19 hal19 => ?_)
  obtain ⟨w19, rfl, v19, rfl, -, -⟩ := zc_one (t := (0, (-2147483648), 2147483647)) (L := []) hal19
  have hH19 := hh19.2.1 b C.hbl
  refine W.eq (g2 := F0 m 770 ls10 [.int v19]) rfl ?_
  refine lv_istore C.hx C.hb (eL_law_9 (770, .istore 6, 2) (List.mem_of_getElem? (i := 60) rfl)) hl10 (by decide) rfl (fun ls20 (hl20 : lv_has ls20 8 [(6, .int v19), (5, .int k9), (4, .int iv), (3, .ref o), (2, .ref mm), (1, .ref x), (0, .ref b)]) => ?_)
  refine lv_goto C.hx C.hb (eL_law_9 (772, .goto 1023, 3) (List.mem_of_getElem? (i := 61) rfl)) (tgt := 1795) rfl ?_
  exact W.widen (k := cells + 6) (n := slots + 147) (by omega) (by omega) (K ro9 _ _ _ ⟨hh19, he_9, hx10_9, hm11_9, ho42_9⟩ (lv_sub hl20 [2, 3, 4, 5, 6] rfl))
def tL_law_10 : List (Nat × Instr × Nat) := [(775, .aload_n 1, 1), (776, .aload_n 0, 1), (777, .iload 4, 2), (779, .iconst 1, 1), (780, .iadd, 1), (781, .iaload, 1), (782, .aload_n 3, 1), (783, .invokestatic 145, 3), (786, .istore 5, 2), (788, .aload_n 2, 1), (789, .aload_n 0, 1), (790, .iload 4, 2), (792, .iconst 1, 1), (793, .iadd, 1), (794, .iaload, 1), (795, .invokevirtual 147, 3), (798, .lstore 6, 2), (800, .goto 995, 3)]
set_option maxRecDepth 100000 in
theorem eL_law_10 : ∀ x ∈ tL_law_10, decode cL_law x.1 = .ok x.2 := by decide +kernel
set_option maxRecDepth 100000 in
set_option maxHeartbeats 4000000 in
theorem lw_case_10 {p : Program} {l : Launch} {e : Env} {s : State} {m : MethodId} {below : List Frame} {meth : Method} {c : Code} {b L : Nat} {xs : Nat → Int32} {D : va_G} {cA : Nat → ClassId} {ro0 ro : Nat → Option Nat} {H : Heap} {locs : List Loc} {cells slots : Nat} {Q : State → Prop} {ls : Array Slot} {i x mm o : Nat} {iv : Int32} (C : lw_C p l s m meth c b L xs D cA ro0) (hi : i + 8 ≤ L) (hiv : iv.toInt = (i : Int)) (I : lw_I D cA ro0 s x mm o ro H locs) (hl : lv_has ls 8 [(4, .int iv), (3, .ref o), (2, .ref mm), (1, .ref x), (0, .ref b)]) (hc : cells + 6 ≤ 601024) (hs : slots + 147 ≤ 7293034) (K : ∀ (ro9 : Nat → Option Nat) (H9 : Heap) (lo9 : List Loc) (ls9 : Array Slot), lw_I D cA ro0 s x mm o ro9 H9 lo9 → lv_has ls9 8 [(4, .int iv), (3, .ref o), (2, .ref mm), (1, .ref x), (0, .ref b)] → W p l e room_1 s m #[Value.ref b] below meth c H9 lo9 (cells + 6) (slots + 147) Q (F0 m 1795 ls9 [])) : W p l e room_1 s m #[Value.ref b] below meth c H locs cells slots Q (F0 m 775 ls []) := by
  have hL := C.hL
  have hH0 := I.hh.2.1 b C.hbl
  have hts0 : ∀ w ∈ Cond.initialized "MomentTextsLaw" :: gT, w.before #[Value.ref b] s = true := fun w hw => (List.mem_cons.mp hw).elim (fun g => by rw [g]; exact C.h2 _ (tb_1 0 rfl rfl)) (C.h2 w)
  generalize hy1 : xs (i + 1) = y1
  generalize hy2 : xs (i + 2) = y2
  generalize hy3 : xs (i + 3) = y3
  generalize hy4 : xs (i + 4) = y4
  generalize hy5 : xs (i + 5) = y5
  generalize hy6 : xs (i + 6) = y6
  generalize hy7 : xs (i + 7) = y7
  refine lv_aload_n C.hx C.hb (eL_law_10 (775, .aload_n 1, 1) (List.mem_of_getElem? (i := 0) rfl)) rfl (lv_at hl 3 rfl) ?_
  refine lv_aload_n C.hx C.hb (eL_law_10 (776, .aload_n 0, 1) (List.mem_of_getElem? (i := 1) rfl)) rfl (lv_at hl 4 rfl) ?_
  refine lv_iload C.hx C.hb (eL_law_10 (777, .iload 4, 2) (List.mem_of_getElem? (i := 2) rfl)) (lv_at hl 0 rfl) ?_
  refine ff_iconst C.hx C.hb (eL_law_10 (779, .iconst 1, 1) (List.mem_of_getElem? (i := 3) rfl)) (by decide) (by decide) (fun v1 e1 => ?_)
  refine ff_iadd C.hx C.hb (eL_law_10 (780, .iadd, 1) (List.mem_of_getElem? (i := 4) rfl)) (by omega) (by omega) (fun v2 e2 => ?_)
  refine lw_sc (n := i + 1) C.hx C.hb C.hX hH0 (by omega) (by omega) hy1 (eL_law_10 (781, .iaload, 1) (List.mem_of_getElem? (i := 5) rfl)) ?_
  refine lv_aload_n C.hx C.hb (eL_law_10 (782, .aload_n 3, 1) (List.mem_of_getElem? (i := 6) rfl)) rfl (lv_at hl 1 rfl) ?_
  refine zw_row (As := [.ref x, .int y1, .ref o]) (st := []) (Ts := gT) C.hx C.hb C.hml C.hown C.h2 (fun _ h => h) (wL_rule l C.hst D cA ro s.heap.size s.heap x y1 o I.hx10 I.ho42) ⟨rfl, rfl⟩ ⟨by decide, by decide⟩ ⟨by show cells + 1 ≤ 601024; omega, by show slots + 6 ≤ 7293034; omega⟩ (tb_3 228 rfl rfl) (tb_1 0 rfl rfl) (tb_3 226 rfl rfl) (tb_3 227 rfl rfl) (show yL_rule.cls ≠ "java/lang/invoke/MethodHandle" ∧ yL_rule.cls ≠ "java/lang/invoke/VarHandle" ∧ (parseMethodDescriptor yL_rule.desc).map (fun d => d.parameters.length) = some 3 by decide +kernel) zw_blind (fun U hU hW => ⟨rfl, by rw [hU]; exact I.hh.l0, (C.hKa.ext I.he).warm hW⟩) I.hh.2.2.1 hl.1 (Nat.le_of_ble_eq_true rfl) (eL_law_10 (783, .invokestatic 145, 3) (List.mem_of_getElem? (i := 7) rfl)) (fun r3 s3 t3 lo3 g3 f3 l3 => ?_)
  obtain ⟨k3, ro3, q3, he3, z3⟩ := f3
  cases q3
  have hh3 : zh_ok D cA RTg ro3 s.heap.size s.heap t3.heap lo3 := ⟨z3.1, z3.2.1, l3, z3.2.2.2⟩
  have hx10_3 := he3 _ _ I.hx10
  have hm11_3 := he3 _ _ I.hm11
  have ho42_3 := he3 _ _ I.ho42
  have he_3 := fun q r g => he3 q r (I.he q r g)
  have hH3 := hh3.2.1 b C.hbl
  refine W.eq (g2 := F0 m 786 ls [.int k3]) rfl ?_
  refine lv_istore C.hx C.hb (eL_law_10 (786, .istore 5, 2) (List.mem_of_getElem? (i := 8) rfl)) hl (by decide) rfl (fun ls4 (hl4 : lv_has ls4 8 [(5, .int k3), (4, .int iv), (3, .ref o), (2, .ref mm), (1, .ref x), (0, .ref b)]) => ?_)
  refine lv_aload_n C.hx C.hb (eL_law_10 (788, .aload_n 2, 1) (List.mem_of_getElem? (i := 9) rfl)) rfl (lv_at hl4 3 rfl) ?_
  refine lv_aload_n C.hx C.hb (eL_law_10 (789, .aload_n 0, 1) (List.mem_of_getElem? (i := 10) rfl)) rfl (lv_at hl4 5 rfl) ?_
  refine lv_iload C.hx C.hb (eL_law_10 (790, .iload 4, 2) (List.mem_of_getElem? (i := 11) rfl)) (lv_at hl4 1 rfl) ?_
  refine ff_iconst C.hx C.hb (eL_law_10 (792, .iconst 1, 1) (List.mem_of_getElem? (i := 12) rfl)) (by decide) (by decide) (fun v5 e5 => ?_)
  refine ff_iadd C.hx C.hb (eL_law_10 (793, .iadd, 1) (List.mem_of_getElem? (i := 13) rfl)) (by omega) (by omega) (fun v6 e6 => ?_)
  refine lw_sc (n := i + 1) C.hx C.hb C.hX hH3 (by omega) (by omega) hy1 (eL_law_10 (794, .iaload, 1) (List.mem_of_getElem? (i := 14) rfl)) ?_
  refine zr_V (idx := 147) (r := 11) (ci := 11) (n0 := 0) (fs := fsX12) (lo := 0) (hi0 := 0) (ts := [(0, (-2147483648), 2147483647)]) C.hx C.hb C.hml C.hown hts0 (C.hKa.ext he_3).1.1 zKb (mX12_rule l D cA ro3 s.heap.size s.heap) ⟨rfl, rfl⟩ ⟨by decide, by decide⟩ ⟨by show (cells + 1) ≤ 601024; omega, by show (slots + 6) ≤ 7293034; omega⟩ (tb_8 1 rfl rfl) (tb_1 12 rfl rfl) (tb_7 238 rfl rfl) (tb_7 239 rfl rfl) (tb_8 0 rfl rfl) (by decide +kernel) rfl rfl (zCX12 C.hKa.1.1.1) rfl 795 147 (.invokevirtual 147) (Or.inr (Or.inl ⟨rfl, rfl⟩)) (eL_law_10 (795, .invokevirtual 147, 3) (List.mem_of_getElem? (i := 15) rfl)) _ _ _ [] [.ref mm, .int y1] hl4.1 (Nat.le_of_ble_eq_true rfl) hh3 ⟨⟨Or.inr ⟨_, rfl, hm11_3⟩, tz_i (zn_i32 _).1 (zn_i32 _).2, trivial⟩, fun e he => (by cases he), fun f hf => (by cases hf)⟩ (fun H7 lo7 r7 hh7 hk7 hal7 => ?_)
  obtain ⟨w7, rfl, v7, rfl, -, -⟩ := zc_one (t := (1, (-9223372036854775808), 9223372036854775807)) (L := []) hal7
  have hH7 := hh7.2.1 b C.hbl
  refine W.eq (g2 := F0 m 798 ls4 [.long v7]) rfl ?_
  refine lv_lstore C.hx C.hb (eL_law_10 (798, .lstore 6, 2) (List.mem_of_getElem? (i := 16) rfl)) hl4 (by decide) rfl (fun ls8 (hl8 : lv_has ls8 8 [(6, .long v7), (5, .int k3), (4, .int iv), (3, .ref o), (2, .ref mm), (1, .ref x), (0, .ref b)]) => ?_)
  refine lv_goto C.hx C.hb (eL_law_10 (800, .goto 995, 3) (List.mem_of_getElem? (i := 17) rfl)) (tgt := 1795) rfl ?_
  exact W.widen (k := cells + 6) (n := slots + 147) (by omega) (by omega) (K ro3 _ _ _ ⟨hh7, he_3, hx10_3, hm11_3, ho42_3⟩ (lv_sub hl8 [2, 3, 4, 5, 6] rfl))
def tL_law_11 : List (Nat × Instr × Nat) := [(803, .aload_n 1, 1), (804, .aload_n 0, 1), (805, .iload 4, 2), (807, .iconst 1, 1), (808, .iadd, 1), (809, .iaload, 1), (810, .aload_n 0, 1), (811, .iload 4, 2), (813, .iconst 2, 1), (814, .iadd, 1), (815, .iaload, 1), (816, .i2l, 1), (817, .bipush 32, 2), (819, .lshl, 1), (820, .aload_n 0, 1), (821, .iload 4, 2), (823, .iconst 3, 1), (824, .iadd, 1), (825, .iaload, 1), (826, .i2l, 1), (827, .ldc2_w 112, 3), (830, .land, 1), (831, .lor, 1), (832, .aload_n 3, 1), (833, .invokestatic 148, 3), (836, .istore 5, 2), (838, .aload_n 2, 1), (839, .aload_n 0, 1), (840, .iload 4, 2), (842, .iconst 1, 1), (843, .iadd, 1), (844, .iaload, 1), (845, .aload_n 0, 1), (846, .iload 4, 2), (848, .iconst 2, 1), (849, .iadd, 1), (850, .iaload, 1), (851, .i2l, 1), (852, .bipush 32, 2), (854, .lshl, 1), (855, .aload_n 0, 1), (856, .iload 4, 2), (858, .iconst 3, 1), (859, .iadd, 1), (860, .iaload, 1), (861, .i2l, 1), (862, .ldc2_w 112, 3), (865, .land, 1), (866, .lor, 1), (867, .invokevirtual 151, 3), (870, .istore 6, 2), (872, .goto 923, 3)]
set_option maxRecDepth 100000 in
theorem eL_law_11 : ∀ x ∈ tL_law_11, decode cL_law x.1 = .ok x.2 := by decide +kernel
set_option maxRecDepth 100000 in
set_option maxHeartbeats 4000000 in
theorem lw_case_11 {p : Program} {l : Launch} {e : Env} {s : State} {m : MethodId} {below : List Frame} {meth : Method} {c : Code} {b L : Nat} {xs : Nat → Int32} {D : va_G} {cA : Nat → ClassId} {ro0 ro : Nat → Option Nat} {H : Heap} {locs : List Loc} {cells slots : Nat} {Q : State → Prop} {ls : Array Slot} {i x mm o : Nat} {iv : Int32} (C : lw_C p l s m meth c b L xs D cA ro0) (hi : i + 8 ≤ L) (hiv : iv.toInt = (i : Int)) (I : lw_I D cA ro0 s x mm o ro H locs) (hl : lv_has ls 8 [(4, .int iv), (3, .ref o), (2, .ref mm), (1, .ref x), (0, .ref b)]) (hc : cells + 6 ≤ 601024) (hs : slots + 147 ≤ 7293034) (K : ∀ (ro9 : Nat → Option Nat) (H9 : Heap) (lo9 : List Loc) (ls9 : Array Slot), lw_I D cA ro0 s x mm o ro9 H9 lo9 → lv_has ls9 8 [(4, .int iv), (3, .ref o), (2, .ref mm), (1, .ref x), (0, .ref b)] → W p l e room_1 s m #[Value.ref b] below meth c H9 lo9 (cells + 6) (slots + 147) Q (F0 m 1795 ls9 [])) : W p l e room_1 s m #[Value.ref b] below meth c H locs cells slots Q (F0 m 803 ls []) := by
  have hL := C.hL
  have hH0 := I.hh.2.1 b C.hbl
  have hts0 : ∀ w ∈ Cond.initialized "MomentTextsLaw" :: gT, w.before #[Value.ref b] s = true := fun w hw => (List.mem_cons.mp hw).elim (fun g => by rw [g]; exact C.h2 _ (tb_1 0 rfl rfl)) (C.h2 w)
  generalize hy1 : xs (i + 1) = y1
  generalize hy2 : xs (i + 2) = y2
  generalize hy3 : xs (i + 3) = y3
  generalize hy4 : xs (i + 4) = y4
  generalize hy5 : xs (i + 5) = y5
  generalize hy6 : xs (i + 6) = y6
  generalize hy7 : xs (i + 7) = y7
  refine lv_aload_n C.hx C.hb (eL_law_11 (803, .aload_n 1, 1) (List.mem_of_getElem? (i := 0) rfl)) rfl (lv_at hl 3 rfl) ?_
  refine lv_aload_n C.hx C.hb (eL_law_11 (804, .aload_n 0, 1) (List.mem_of_getElem? (i := 1) rfl)) rfl (lv_at hl 4 rfl) ?_
  refine lv_iload C.hx C.hb (eL_law_11 (805, .iload 4, 2) (List.mem_of_getElem? (i := 2) rfl)) (lv_at hl 0 rfl) ?_
  refine ff_iconst C.hx C.hb (eL_law_11 (807, .iconst 1, 1) (List.mem_of_getElem? (i := 3) rfl)) (by decide) (by decide) (fun v1 e1 => ?_)
  refine ff_iadd C.hx C.hb (eL_law_11 (808, .iadd, 1) (List.mem_of_getElem? (i := 4) rfl)) (by omega) (by omega) (fun v2 e2 => ?_)
  refine lw_sc (n := i + 1) C.hx C.hb C.hX hH0 (by omega) (by omega) hy1 (eL_law_11 (809, .iaload, 1) (List.mem_of_getElem? (i := 5) rfl)) ?_
  refine lv_aload_n C.hx C.hb (eL_law_11 (810, .aload_n 0, 1) (List.mem_of_getElem? (i := 6) rfl)) rfl (lv_at hl 4 rfl) ?_
  refine lv_iload C.hx C.hb (eL_law_11 (811, .iload 4, 2) (List.mem_of_getElem? (i := 7) rfl)) (lv_at hl 0 rfl) ?_
  refine ff_iconst C.hx C.hb (eL_law_11 (813, .iconst 2, 1) (List.mem_of_getElem? (i := 8) rfl)) (by decide) (by decide) (fun v3 e3 => ?_)
  refine ff_iadd C.hx C.hb (eL_law_11 (814, .iadd, 1) (List.mem_of_getElem? (i := 9) rfl)) (by omega) (by omega) (fun v4 e4 => ?_)
  refine lw_sc (n := i + 2) C.hx C.hb C.hX hH0 (by omega) (by omega) hy2 (eL_law_11 (815, .iaload, 1) (List.mem_of_getElem? (i := 10) rfl)) ?_
  refine lv_i2l C.hx C.hb (eL_law_11 (816, .i2l, 1) (List.mem_of_getElem? (i := 11) rfl)) rfl ?_
  refine lv_bipush C.hx C.hb (eL_law_11 (817, .bipush 32, 2) (List.mem_of_getElem? (i := 12) rfl)) rfl ?_
  refine lv_lshl C.hx C.hb (eL_law_11 (819, .lshl, 1) (List.mem_of_getElem? (i := 13) rfl)) rfl ?_
  refine lv_aload_n C.hx C.hb (eL_law_11 (820, .aload_n 0, 1) (List.mem_of_getElem? (i := 14) rfl)) rfl (lv_at hl 4 rfl) ?_
  refine lv_iload C.hx C.hb (eL_law_11 (821, .iload 4, 2) (List.mem_of_getElem? (i := 15) rfl)) (lv_at hl 0 rfl) ?_
  refine ff_iconst C.hx C.hb (eL_law_11 (823, .iconst 3, 1) (List.mem_of_getElem? (i := 16) rfl)) (by decide) (by decide) (fun v5 e5 => ?_)
  refine ff_iadd C.hx C.hb (eL_law_11 (824, .iadd, 1) (List.mem_of_getElem? (i := 17) rfl)) (by omega) (by omega) (fun v6 e6 => ?_)
  refine lw_sc (n := i + 3) C.hx C.hb C.hX hH0 (by omega) (by omega) hy3 (eL_law_11 (825, .iaload, 1) (List.mem_of_getElem? (i := 18) rfl)) ?_
  refine lv_i2l C.hx C.hb (eL_law_11 (826, .i2l, 1) (List.mem_of_getElem? (i := 19) rfl)) rfl ?_
  refine lv_ldc2 C.hx C.hb C.hown (C.h2 _ (tb_8 200 rfl rfl)) (eL_law_11 (827, .ldc2_w 112, 3) (List.mem_of_getElem? (i := 20) rfl)) ?_
  refine lv_land C.hx C.hb (eL_law_11 (830, .land, 1) (List.mem_of_getElem? (i := 21) rfl)) ?_
  refine lv_lor C.hx C.hb (eL_law_11 (831, .lor, 1) (List.mem_of_getElem? (i := 22) rfl)) ?_
  refine W.eq (g2 := F0 m 832 ls [.long (lgI y2 y3), .int y1, .ref x]) rfl ?_
  refine lv_aload_n C.hx C.hb (eL_law_11 (832, .aload_n 3, 1) (List.mem_of_getElem? (i := 23) rfl)) rfl (lv_at hl 1 rfl) ?_
  refine zw_row (As := [.ref x, .int y1, .long (lgI y2 y3), .ref o]) (st := []) (Ts := gT) C.hx C.hb C.hml C.hown C.h2 (fun _ h => h) (wL_offset l C.hst D cA ro s.heap.size s.heap x y1 (lgI y2 y3) o I.hx10 I.ho42) ⟨rfl, rfl⟩ ⟨by decide, by decide⟩ ⟨by show cells + 1 ≤ 601024; omega, by show slots + 6 ≤ 7293034; omega⟩ (tb_4 104 rfl rfl) (tb_1 0 rfl rfl) (tb_4 102 rfl rfl) (tb_4 103 rfl rfl) (show yL_offset.cls ≠ "java/lang/invoke/MethodHandle" ∧ yL_offset.cls ≠ "java/lang/invoke/VarHandle" ∧ (parseMethodDescriptor yL_offset.desc).map (fun d => d.parameters.length) = some 4 by decide +kernel) zw_blind (fun U hU hW => ⟨rfl, by rw [hU]; exact I.hh.l0, (C.hKa.ext I.he).warm hW⟩) I.hh.2.2.1 hl.1 (Nat.le_of_ble_eq_true rfl) (eL_law_11 (833, .invokestatic 148, 3) (List.mem_of_getElem? (i := 24) rfl)) (fun r7 s7 t7 lo7 g7 f7 l7 => ?_)
  obtain ⟨k7, ro7, q7, he7, z7⟩ := f7
  cases q7
  have hh7 : zh_ok D cA RTg ro7 s.heap.size s.heap t7.heap lo7 := ⟨z7.1, z7.2.1, l7, z7.2.2.2⟩
  have hx10_7 := he7 _ _ I.hx10
  have hm11_7 := he7 _ _ I.hm11
  have ho42_7 := he7 _ _ I.ho42
  have he_7 := fun q r g => he7 q r (I.he q r g)
  have hH7 := hh7.2.1 b C.hbl
  refine W.eq (g2 := F0 m 836 ls [.int k7]) rfl ?_
  refine lv_istore C.hx C.hb (eL_law_11 (836, .istore 5, 2) (List.mem_of_getElem? (i := 25) rfl)) hl (by decide) rfl (fun ls8 (hl8 : lv_has ls8 8 [(5, .int k7), (4, .int iv), (3, .ref o), (2, .ref mm), (1, .ref x), (0, .ref b)]) => ?_)
  refine lv_aload_n C.hx C.hb (eL_law_11 (838, .aload_n 2, 1) (List.mem_of_getElem? (i := 26) rfl)) rfl (lv_at hl8 3 rfl) ?_
  refine lv_aload_n C.hx C.hb (eL_law_11 (839, .aload_n 0, 1) (List.mem_of_getElem? (i := 27) rfl)) rfl (lv_at hl8 5 rfl) ?_
  refine lv_iload C.hx C.hb (eL_law_11 (840, .iload 4, 2) (List.mem_of_getElem? (i := 28) rfl)) (lv_at hl8 1 rfl) ?_
  refine ff_iconst C.hx C.hb (eL_law_11 (842, .iconst 1, 1) (List.mem_of_getElem? (i := 29) rfl)) (by decide) (by decide) (fun v9 e9 => ?_)
  refine ff_iadd C.hx C.hb (eL_law_11 (843, .iadd, 1) (List.mem_of_getElem? (i := 30) rfl)) (by omega) (by omega) (fun v10 e10 => ?_)
  refine lw_sc (n := i + 1) C.hx C.hb C.hX hH7 (by omega) (by omega) hy1 (eL_law_11 (844, .iaload, 1) (List.mem_of_getElem? (i := 31) rfl)) ?_
  refine lv_aload_n C.hx C.hb (eL_law_11 (845, .aload_n 0, 1) (List.mem_of_getElem? (i := 32) rfl)) rfl (lv_at hl8 5 rfl) ?_
  refine lv_iload C.hx C.hb (eL_law_11 (846, .iload 4, 2) (List.mem_of_getElem? (i := 33) rfl)) (lv_at hl8 1 rfl) ?_
  refine ff_iconst C.hx C.hb (eL_law_11 (848, .iconst 2, 1) (List.mem_of_getElem? (i := 34) rfl)) (by decide) (by decide) (fun v11 e11 => ?_)
  refine ff_iadd C.hx C.hb (eL_law_11 (849, .iadd, 1) (List.mem_of_getElem? (i := 35) rfl)) (by omega) (by omega) (fun v12 e12 => ?_)
  refine lw_sc (n := i + 2) C.hx C.hb C.hX hH7 (by omega) (by omega) hy2 (eL_law_11 (850, .iaload, 1) (List.mem_of_getElem? (i := 36) rfl)) ?_
  refine lv_i2l C.hx C.hb (eL_law_11 (851, .i2l, 1) (List.mem_of_getElem? (i := 37) rfl)) rfl ?_
  refine lv_bipush C.hx C.hb (eL_law_11 (852, .bipush 32, 2) (List.mem_of_getElem? (i := 38) rfl)) rfl ?_
  refine lv_lshl C.hx C.hb (eL_law_11 (854, .lshl, 1) (List.mem_of_getElem? (i := 39) rfl)) rfl ?_
  refine lv_aload_n C.hx C.hb (eL_law_11 (855, .aload_n 0, 1) (List.mem_of_getElem? (i := 40) rfl)) rfl (lv_at hl8 5 rfl) ?_
  refine lv_iload C.hx C.hb (eL_law_11 (856, .iload 4, 2) (List.mem_of_getElem? (i := 41) rfl)) (lv_at hl8 1 rfl) ?_
  refine ff_iconst C.hx C.hb (eL_law_11 (858, .iconst 3, 1) (List.mem_of_getElem? (i := 42) rfl)) (by decide) (by decide) (fun v13 e13 => ?_)
  refine ff_iadd C.hx C.hb (eL_law_11 (859, .iadd, 1) (List.mem_of_getElem? (i := 43) rfl)) (by omega) (by omega) (fun v14 e14 => ?_)
  refine lw_sc (n := i + 3) C.hx C.hb C.hX hH7 (by omega) (by omega) hy3 (eL_law_11 (860, .iaload, 1) (List.mem_of_getElem? (i := 44) rfl)) ?_
  refine lv_i2l C.hx C.hb (eL_law_11 (861, .i2l, 1) (List.mem_of_getElem? (i := 45) rfl)) rfl ?_
  refine lv_ldc2 C.hx C.hb C.hown (C.h2 _ (tb_8 200 rfl rfl)) (eL_law_11 (862, .ldc2_w 112, 3) (List.mem_of_getElem? (i := 46) rfl)) ?_
  refine lv_land C.hx C.hb (eL_law_11 (865, .land, 1) (List.mem_of_getElem? (i := 47) rfl)) ?_
  refine lv_lor C.hx C.hb (eL_law_11 (866, .lor, 1) (List.mem_of_getElem? (i := 48) rfl)) ?_
  refine W.eq (g2 := F0 m 867 ls8 [.long (lgI y2 y3), .int y1, .ref mm]) rfl ?_
  refine zr_V (idx := 151) (r := 11) (ci := 11) (n0 := 0) (fs := fsX12) (lo := 0) (hi0 := 0) (ts := [(0, (-2147483648), 2147483647), (1, (-9223372036854775808), 9223372036854775807)]) C.hx C.hb C.hml C.hown hts0 (C.hKa.ext he_7).1.1 zKb (mX12_offset l D cA ro7 s.heap.size s.heap) ⟨rfl, rfl⟩ ⟨by decide, by decide⟩ ⟨by show (cells + 1) ≤ 601024; omega, by show (slots + 6) ≤ 7293034; omega⟩ (tb_7 166 rfl rfl) (tb_1 12 rfl rfl) (tb_7 163 rfl rfl) (tb_7 164 rfl rfl) (tb_7 165 rfl rfl) (by decide +kernel) rfl rfl (zCX12 C.hKa.1.1.1) rfl 867 151 (.invokevirtual 151) (Or.inr (Or.inl ⟨rfl, rfl⟩)) (eL_law_11 (867, .invokevirtual 151, 3) (List.mem_of_getElem? (i := 49) rfl)) _ _ _ [] [.ref mm, .int y1, .long (lgI y2 y3)] hl8.1 (Nat.le_of_ble_eq_true rfl) hh7 ⟨⟨Or.inr ⟨_, rfl, hm11_7⟩, tz_i (zn_i32 _).1 (zn_i32 _).2, tz_l (zn_i64 _).1 (zn_i64 _).2, trivial⟩, fun e he => (by cases he), fun f hf => (by cases hf)⟩ (fun H15 lo15 r15 hh15 hk15 hal15 => ?_)
  obtain ⟨w15, rfl, v15, rfl, -, -⟩ := zc_one (t := (0, (-2147483648), 2147483647)) (L := []) hal15
  have hH15 := hh15.2.1 b C.hbl
  refine W.eq (g2 := F0 m 870 ls8 [.int v15]) rfl ?_
  refine lv_istore C.hx C.hb (eL_law_11 (870, .istore 6, 2) (List.mem_of_getElem? (i := 50) rfl)) hl8 (by decide) rfl (fun ls16 (hl16 : lv_has ls16 8 [(6, .int v15), (5, .int k7), (4, .int iv), (3, .ref o), (2, .ref mm), (1, .ref x), (0, .ref b)]) => ?_)
  refine lv_goto C.hx C.hb (eL_law_11 (872, .goto 923, 3) (List.mem_of_getElem? (i := 51) rfl)) (tgt := 1795) rfl ?_
  exact W.widen (k := cells + 6) (n := slots + 147) (by omega) (by omega) (K ro7 _ _ _ ⟨hh15, he_7, hx10_7, hm11_7, ho42_7⟩ (lv_sub hl16 [2, 3, 4, 5, 6] rfl))
