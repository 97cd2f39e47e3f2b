def tL_law_18 : List (Nat × Instr × Nat) := [(1142, .aload_n 1, 1), (1143, .aload_n 0, 1), (1144, .iload 4, 2), (1146, .iconst 1, 1), (1147, .iadd, 1), (1148, .iaload, 1), (1149, .aload_n 0, 1), (1150, .iload 4, 2), (1152, .iconst 2, 1), (1153, .iadd, 1), (1154, .iaload, 1), (1155, .aload_n 3, 1), (1156, .invokestatic 170, 3), (1159, .istore 5, 2), (1161, .aload_n 2, 1), (1162, .aload_n 0, 1), (1163, .iload 4, 2), (1165, .iconst 1, 1), (1166, .iadd, 1), (1167, .iaload, 1), (1168, .aload_n 0, 1), (1169, .iload 4, 2), (1171, .iconst 2, 1), (1172, .iadd, 1), (1173, .iaload, 1), (1174, .invokevirtual 173, 3), (1177, .lstore 6, 2), (1179, .goto 616, 3)]
set_option maxRecDepth 100000 in
theorem eL_law_18 : ∀ x ∈ tL_law_18, decode cL_law x.1 = .ok x.2 := by decide +kernel
set_option maxRecDepth 100000 in
set_option maxHeartbeats 4000000 in
theorem lw_case_18 {p : Program} {l : Launch} {e : Env} {s : State} {m : MethodId} {below : List Frame} {meth : Method} {c : Code} {b L : Nat} {xs : Nat → Int32} {D : va_G} {cA : Nat → ClassId} {ro0 ro : Nat → Option Nat} {H : Heap} {locs : List Loc} {cells slots : Nat} {Q : State → Prop} {ls : Array Slot} {i x mm o : Nat} {iv : Int32} (C : lw_C p l s m meth c b L xs D cA ro0) (hi : i + 8 ≤ L) (hiv : iv.toInt = (i : Int)) (I : lw_I D cA ro0 s x mm o ro H locs) (hl : lv_has ls 8 [(4, .int iv), (3, .ref o), (2, .ref mm), (1, .ref x), (0, .ref b)]) (hc : cells + 6 ≤ 601024) (hs : slots + 147 ≤ 7293034) (K : ∀ (ro9 : Nat → Option Nat) (H9 : Heap) (lo9 : List Loc) (ls9 : Array Slot), lw_I D cA ro0 s x mm o ro9 H9 lo9 → lv_has ls9 8 [(4, .int iv), (3, .ref o), (2, .ref mm), (1, .ref x), (0, .ref b)] → W p l e room_1 s m #[Value.ref b] below meth c H9 lo9 (cells + 6) (slots + 147) Q (F0 m 1795 ls9 [])) : W p l e room_1 s m #[Value.ref b] below meth c H locs cells slots Q (F0 m 1142 ls []) := by
  have hL := C.hL
  have hH0 := I.hh.2.1 b C.hbl
  have hts0 : ∀ w ∈ Cond.initialized "MomentTextsLaw" :: gT, w.before #[Value.ref b] s = true := fun w hw => (List.mem_cons.mp hw).elim (fun g => by rw [g]; exact C.h2 _ (tb_1 0 rfl rfl)) (C.h2 w)
  generalize hy1 : xs (i + 1) = y1
  generalize hy2 : xs (i + 2) = y2
  generalize hy3 : xs (i + 3) = y3
  generalize hy4 : xs (i + 4) = y4
  generalize hy5 : xs (i + 5) = y5
  generalize hy6 : xs (i + 6) = y6
  generalize hy7 : xs (i + 7) = y7
  refine lv_aload_n C.hx C.hb (eL_law_18 (1142, .aload_n 1, 1) (List.mem_of_getElem? (i := 0) rfl)) rfl (lv_at hl 3 rfl) ?_
  refine lw_rd (k := 1) C hi hiv hH0 (lv_at hl 0 rfl) (lv_at hl 4 rfl) (by decide) rfl (eL_law_18 (1143, .aload_n 0, 1) (List.mem_of_getElem? (i := 1) rfl)) (eL_law_18 (1144, .iload 4, 2) (List.mem_of_getElem? (i := 2) rfl)) (eL_law_18 (1146, .iconst 1, 1) (List.mem_of_getElem? (i := 3) rfl)) (eL_law_18 (1147, .iadd, 1) (List.mem_of_getElem? (i := 4) rfl)) (eL_law_18 (1148, .iaload, 1) (List.mem_of_getElem? (i := 5) rfl)) hy1 ?_
  refine lw_rd (k := 2) C hi hiv hH0 (lv_at hl 0 rfl) (lv_at hl 4 rfl) (by decide) rfl (eL_law_18 (1149, .aload_n 0, 1) (List.mem_of_getElem? (i := 6) rfl)) (eL_law_18 (1150, .iload 4, 2) (List.mem_of_getElem? (i := 7) rfl)) (eL_law_18 (1152, .iconst 2, 1) (List.mem_of_getElem? (i := 8) rfl)) (eL_law_18 (1153, .iadd, 1) (List.mem_of_getElem? (i := 9) rfl)) (eL_law_18 (1154, .iaload, 1) (List.mem_of_getElem? (i := 10) rfl)) hy2 ?_
  refine lv_aload_n C.hx C.hb (eL_law_18 (1155, .aload_n 3, 1) (List.mem_of_getElem? (i := 11) rfl)) rfl (lv_at hl 1 rfl) ?_
  refine zw_row (As := [.ref x, .int y1, .int y2, .ref o]) (st := []) (Ts := gT) C.hx C.hb C.hml C.hown C.h2 (fun _ h => h) (wL_field l C.hst D cA ro s.heap.size s.heap x y1 y2 o I.hx10 I.ho42) ⟨rfl, rfl⟩ ⟨by decide, by decide⟩ ⟨by show cells + 1 ≤ 601024; omega, by show slots + 6 ≤ 7293034; omega⟩ (tb_5 191 rfl rfl) (tb_1 0 rfl rfl) (tb_5 189 rfl rfl) (tb_5 190 rfl rfl) (show yL_field.cls ≠ "java/lang/invoke/MethodHandle" ∧ yL_field.cls ≠ "java/lang/invoke/VarHandle" ∧ (parseMethodDescriptor yL_field.desc).map (fun d => d.parameters.length) = some 4 by decide +kernel) zw_blind (fun U hU hW => ⟨rfl, by rw [hU]; exact I.hh.l0, (C.hKa.ext I.he).warm hW⟩) I.hh.2.2.1 hl.1 (Nat.le_of_ble_eq_true rfl) (eL_law_18 (1156, .invokestatic 170, 3) (List.mem_of_getElem? (i := 12) rfl)) (fun r1 s1 t1 lo1 g1 f1 l1 => ?_)
  obtain ⟨k1, ro1, q1, he1, z1, kp1⟩ := f1
  cases q1
  rw [g1] at kp1
  have hh1 : zh_ok D cA RTg ro1 s.heap.size s.heap t1.heap lo1 := ⟨z1.1, z1.2.1, l1, z1.2.2.2⟩
  have j1 := (I.hj.kept I.hx10 I.hm11 kp1 (by decide) (by decide)).ext he1
  have kk1 := (I.hk.kept I.hx10 I.hm11 kp1 (by decide) (by decide)).ext he1
  have hx10_1 := he1 _ _ I.hx10
  have hm11_1 := he1 _ _ I.hm11
  have ho42_1 := he1 _ _ I.ho42
  have he_1 := fun q r g => he1 q r (I.he q r g)
  have hH1 := hh1.2.1 b C.hbl
  refine W.eq (g2 := F0 m 1159 ls [.int k1]) rfl ?_
  refine lv_istore C.hx C.hb (eL_law_18 (1159, .istore 5, 2) (List.mem_of_getElem? (i := 13) rfl)) hl (by decide) rfl (fun ls2 (hl2 : lv_has ls2 8 [(5, .int k1), (4, .int iv), (3, .ref o), (2, .ref mm), (1, .ref x), (0, .ref b)]) => ?_)
  refine lv_aload_n C.hx C.hb (eL_law_18 (1161, .aload_n 2, 1) (List.mem_of_getElem? (i := 14) rfl)) rfl (lv_at hl2 3 rfl) ?_
  refine lw_rd (k := 1) C hi hiv hH1 (lv_at hl2 1 rfl) (lv_at hl2 5 rfl) (by decide) rfl (eL_law_18 (1162, .aload_n 0, 1) (List.mem_of_getElem? (i := 15) rfl)) (eL_law_18 (1163, .iload 4, 2) (List.mem_of_getElem? (i := 16) rfl)) (eL_law_18 (1165, .iconst 1, 1) (List.mem_of_getElem? (i := 17) rfl)) (eL_law_18 (1166, .iadd, 1) (List.mem_of_getElem? (i := 18) rfl)) (eL_law_18 (1167, .iaload, 1) (List.mem_of_getElem? (i := 19) rfl)) hy1 ?_
  refine lw_rd (k := 2) C hi hiv hH1 (lv_at hl2 1 rfl) (lv_at hl2 5 rfl) (by decide) rfl (eL_law_18 (1168, .aload_n 0, 1) (List.mem_of_getElem? (i := 20) rfl)) (eL_law_18 (1169, .iload 4, 2) (List.mem_of_getElem? (i := 21) rfl)) (eL_law_18 (1171, .iconst 2, 1) (List.mem_of_getElem? (i := 22) rfl)) (eL_law_18 (1172, .iadd, 1) (List.mem_of_getElem? (i := 23) rfl)) (eL_law_18 (1173, .iaload, 1) (List.mem_of_getElem? (i := 24) rfl)) hy2 ?_
  refine zr_V (idx := 173) (r := 11) (ci := 11) (n0 := 0) (fs := fsX12) (lo := 0) (hi0 := 0) (ts := [(0, (-2147483648), 2147483647), (0, (-2147483648), 2147483647)]) C.hx C.hb C.hml C.hown hts0 (C.hKa.ext he_1).1.1 zKb (mX12_field l D cA ro1 s.heap.size s.heap) ⟨rfl, rfl⟩ ⟨by decide, by decide⟩ ⟨by show (cells + 1) ≤ 601024; omega, by show (slots + 6) ≤ 7293034; omega⟩ (tb_8 143 rfl rfl) (tb_1 12 rfl rfl) (tb_8 140 rfl rfl) (tb_8 141 rfl rfl) (tb_8 142 rfl rfl) (by decide +kernel) rfl rfl (zCX12 C.hKa.1.1.1) rfl 1174 173 (.invokevirtual 173) (Or.inr (Or.inl ⟨rfl, rfl⟩)) (eL_law_18 (1174, .invokevirtual 173, 3) (List.mem_of_getElem? (i := 25) rfl)) _ _ _ [] [.ref mm, .int y1, .int y2] hl2.1 (Nat.le_of_ble_eq_true rfl) hh1 ⟨⟨Or.inr ⟨_, rfl, hm11_1⟩, tz_i (zn_i32 _).1 (zn_i32 _).2, tz_i (zn_i32 _).1 (zn_i32 _).2, trivial⟩, fun e he => (by cases he), fun f hf => (by cases hf)⟩ (fun H3 lo3 r3 hh3 hk3 hal3 => ?_)
  obtain ⟨w3, rfl, v3, rfl, -, -⟩ := zc_one (t := (1, (-9223372036854775808), 9223372036854775807)) (L := []) hal3
  have hH3 := hh3.2.1 b C.hbl
  have j3 := j1.kept hx10_1 hm11_1 hk3 (by decide) (by decide)
  have kk3 := (kk1.kept hx10_1 hm11_1 hk3 (by decide) (by decide))
  refine W.eq (g2 := F0 m 1177 ls2 [.long v3]) rfl ?_
  refine lv_lstore C.hx C.hb (eL_law_18 (1177, .lstore 6, 2) (List.mem_of_getElem? (i := 26) rfl)) hl2 (by decide) rfl (fun ls4 (hl4 : lv_has ls4 8 [(6, .long v3), (5, .int k1), (4, .int iv), (3, .ref o), (2, .ref mm), (1, .ref x), (0, .ref b)]) => ?_)
  refine lv_goto C.hx C.hb (eL_law_18 (1179, .goto 616, 3) (List.mem_of_getElem? (i := 27) rfl)) (tgt := 1795) rfl ?_
  exact W.widen (k := cells + 6) (n := slots + 147) (by omega) (by omega) (K ro1 _ _ _ ⟨hh3, he_1, hx10_1, hm11_1, ho42_1, j3, kk3⟩ (lv_sub hl4 [2, 3, 4, 5, 6] rfl))
def tL_law_19 : List (Nat × Instr × Nat) := [(1182, .aload_n 1, 1), (1183, .aload_n 0, 1), (1184, .iload 4, 2), (1186, .iconst 1, 1), (1187, .iadd, 1), (1188, .iaload, 1), (1189, .i2l, 1), (1190, .bipush 32, 2), (1192, .lshl, 1), (1193, .aload_n 0, 1), (1194, .iload 4, 2), (1196, .iconst 2, 1), (1197, .iadd, 1), (1198, .iaload, 1), (1199, .i2l, 1), (1200, .ldc2_w 108, 3), (1203, .land, 1), (1204, .lor, 1), (1205, .aload_n 0, 1), (1206, .iload 4, 2), (1208, .iconst 3, 1), (1209, .iadd, 1), (1210, .iaload, 1), (1211, .aload_n 3, 1), (1212, .invokestatic 174, 3), (1215, .istore 5, 2), (1217, .aload_n 2, 1), (1218, .aload_n 0, 1), (1219, .iload 4, 2), (1221, .iconst 1, 1), (1222, .iadd, 1), (1223, .iaload, 1), (1224, .i2l, 1), (1225, .bipush 32, 2), (1227, .lshl, 1), (1228, .aload_n 0, 1), (1229, .iload 4, 2), (1231, .iconst 2, 1), (1232, .iadd, 1), (1233, .iaload, 1), (1234, .i2l, 1), (1235, .ldc2_w 108, 3), (1238, .land, 1), (1239, .lor, 1), (1240, .aload_n 0, 1), (1241, .iload 4, 2), (1243, .iconst 3, 1), (1244, .iadd, 1), (1245, .iaload, 1), (1246, .invokevirtual 176, 3), (1249, .istore 6, 2), (1251, .goto 544, 3)]
set_option maxRecDepth 100000 in
theorem eL_law_19 : ∀ x ∈ tL_law_19, decode cL_law x.1 = .ok x.2 := by decide +kernel
set_option maxRecDepth 100000 in
set_option maxHeartbeats 4000000 in
theorem lw_case_19 {p : Program} {l : Launch} {e : Env} {s : State} {m : MethodId} {below : List Frame} {meth : Method} {c : Code} {b L : Nat} {xs : Nat → Int32} {D : va_G} {cA : Nat → ClassId} {ro0 ro : Nat → Option Nat} {H : Heap} {locs : List Loc} {cells slots : Nat} {Q : State → Prop} {ls : Array Slot} {i x mm o : Nat} {iv : Int32} (C : lw_C p l s m meth c b L xs D cA ro0) (hi : i + 8 ≤ L) (hiv : iv.toInt = (i : Int)) (I : lw_I D cA ro0 s x mm o ro H locs) (hl : lv_has ls 8 [(4, .int iv), (3, .ref o), (2, .ref mm), (1, .ref x), (0, .ref b)]) (hc : cells + 6 ≤ 601024) (hs : slots + 147 ≤ 7293034) (K : ∀ (ro9 : Nat → Option Nat) (H9 : Heap) (lo9 : List Loc) (ls9 : Array Slot), lw_I D cA ro0 s x mm o ro9 H9 lo9 → lv_has ls9 8 [(4, .int iv), (3, .ref o), (2, .ref mm), (1, .ref x), (0, .ref b)] → W p l e room_1 s m #[Value.ref b] below meth c H9 lo9 (cells + 6) (slots + 147) Q (F0 m 1795 ls9 [])) : W p l e room_1 s m #[Value.ref b] below meth c H locs cells slots Q (F0 m 1182 ls []) := by
  have hL := C.hL
  have hH0 := I.hh.2.1 b C.hbl
  have hts0 : ∀ w ∈ Cond.initialized "MomentTextsLaw" :: gT, w.before #[Value.ref b] s = true := fun w hw => (List.mem_cons.mp hw).elim (fun g => by rw [g]; exact C.h2 _ (tb_1 0 rfl rfl)) (C.h2 w)
  generalize hy1 : xs (i + 1) = y1
  generalize hy2 : xs (i + 2) = y2
  generalize hy3 : xs (i + 3) = y3
  generalize hy4 : xs (i + 4) = y4
  generalize hy5 : xs (i + 5) = y5
  generalize hy6 : xs (i + 6) = y6
  generalize hy7 : xs (i + 7) = y7
  refine lv_aload_n C.hx C.hb (eL_law_19 (1182, .aload_n 1, 1) (List.mem_of_getElem? (i := 0) rfl)) rfl (lv_at hl 3 rfl) ?_
  refine lw_rd (k := 1) C hi hiv hH0 (lv_at hl 0 rfl) (lv_at hl 4 rfl) (by decide) rfl (eL_law_19 (1183, .aload_n 0, 1) (List.mem_of_getElem? (i := 1) rfl)) (eL_law_19 (1184, .iload 4, 2) (List.mem_of_getElem? (i := 2) rfl)) (eL_law_19 (1186, .iconst 1, 1) (List.mem_of_getElem? (i := 3) rfl)) (eL_law_19 (1187, .iadd, 1) (List.mem_of_getElem? (i := 4) rfl)) (eL_law_19 (1188, .iaload, 1) (List.mem_of_getElem? (i := 5) rfl)) hy1 ?_
  refine lv_i2l C.hx C.hb (eL_law_19 (1189, .i2l, 1) (List.mem_of_getElem? (i := 6) rfl)) rfl ?_
  refine lv_bipush C.hx C.hb (eL_law_19 (1190, .bipush 32, 2) (List.mem_of_getElem? (i := 7) rfl)) rfl ?_
  refine lv_lshl C.hx C.hb (eL_law_19 (1192, .lshl, 1) (List.mem_of_getElem? (i := 8) rfl)) rfl ?_
  refine lw_rd (k := 2) C hi hiv hH0 (lv_at hl 0 rfl) (lv_at hl 4 rfl) (by decide) rfl (eL_law_19 (1193, .aload_n 0, 1) (List.mem_of_getElem? (i := 9) rfl)) (eL_law_19 (1194, .iload 4, 2) (List.mem_of_getElem? (i := 10) rfl)) (eL_law_19 (1196, .iconst 2, 1) (List.mem_of_getElem? (i := 11) rfl)) (eL_law_19 (1197, .iadd, 1) (List.mem_of_getElem? (i := 12) rfl)) (eL_law_19 (1198, .iaload, 1) (List.mem_of_getElem? (i := 13) rfl)) hy2 ?_
  refine lv_i2l C.hx C.hb (eL_law_19 (1199, .i2l, 1) (List.mem_of_getElem? (i := 14) rfl)) rfl ?_
  refine lv_ldc2 C.hx C.hb C.hown (C.h2 _ (tb_8 200 rfl rfl)) (eL_law_19 (1200, .ldc2_w 108, 3) (List.mem_of_getElem? (i := 15) rfl)) ?_
  refine lv_land C.hx C.hb (eL_law_19 (1203, .land, 1) (List.mem_of_getElem? (i := 16) rfl)) ?_
  refine lv_lor C.hx C.hb (eL_law_19 (1204, .lor, 1) (List.mem_of_getElem? (i := 17) rfl)) ?_
  refine W.eq (g2 := F0 m 1205 ls [.long (lgI y1 y2), .ref x]) rfl ?_
  refine lw_rd (k := 3) C hi hiv hH0 (lv_at hl 0 rfl) (lv_at hl 4 rfl) (by decide) rfl (eL_law_19 (1205, .aload_n 0, 1) (List.mem_of_getElem? (i := 18) rfl)) (eL_law_19 (1206, .iload 4, 2) (List.mem_of_getElem? (i := 19) rfl)) (eL_law_19 (1208, .iconst 3, 1) (List.mem_of_getElem? (i := 20) rfl)) (eL_law_19 (1209, .iadd, 1) (List.mem_of_getElem? (i := 21) rfl)) (eL_law_19 (1210, .iaload, 1) (List.mem_of_getElem? (i := 22) rfl)) hy3 ?_
  refine lv_aload_n C.hx C.hb (eL_law_19 (1211, .aload_n 3, 1) (List.mem_of_getElem? (i := 23) rfl)) rfl (lv_at hl 1 rfl) ?_
  have hjj := I.hj
  obtain ⟨LL, zc, jc, jr, hzp⟩ := hjj
  have hkk := I.hk
  obtain ⟨TT, OO, kc, kr⟩ := hkk
  refine zw_row (As := [.ref x, .long (lgI y1 y2), .int y3, .ref o]) (st := []) (Ts := gT) C.hx C.hb C.hml C.hown C.h2 (fun _ h => h) (wK_writeDate l C.hst D cA ro s.heap.size s.heap x (lgI y1 y2) y3 o LL (zc.1.length : Int) TT OO I.hx10 I.ho42) ⟨rfl, rfl⟩ ⟨by decide, by decide⟩ ⟨by show cells + 1 ≤ 601024; omega, by show slots + 6 ≤ 7293034; omega⟩ (tb_5 199 rfl rfl) (tb_1 0 rfl rfl) (tb_5 197 rfl rfl) (tb_5 198 rfl rfl) (show yL_writeDate.cls ≠ "java/lang/invoke/MethodHandle" ∧ yL_writeDate.cls ≠ "java/lang/invoke/VarHandle" ∧ (parseMethodDescriptor yL_writeDate.desc).map (fun d => d.parameters.length) = some 4 by decide +kernel) zs_blindY (fun U hU hW => ⟨rfl, by rw [hU]; exact I.hh.l0, (C.hKa.ext I.he).warm hW, (zBQ_of C.hBM).alike hW.alike, by rw [hU]; exact ⟨jc.cs, kc⟩⟩) I.hh.2.2.1 hl.1 (Nat.le_of_ble_eq_true rfl) (eL_law_19 (1212, .invokestatic 174, 3) (List.mem_of_getElem? (i := 24) rfl)) (fun r1 s1 t1 lo1 g1 f1 l1 => ?_)
  obtain ⟨k1, T1, O1, zz, rr, q1, z1, kp1, kc1, hoz, hor, hday⟩ := f1
  cases q1
  rw [g1] at kp1
  have hh1 : zh_ok D cA RTg ro s.heap.size s.heap t1.heap lo1 := ⟨z1.1, z1.2.1, l1, z1.2.2.2⟩
  have jc1 := jc.kept I.hx10 kp1 (by decide)
  have jr1 := jr.kept I.hm11 kp1 (by decide)
  have kr1 := kr.kept I.hm11 kp1 (by decide)
  obtain ⟨rk, spk, hrk⟩ : ∃ r : Int, spW (lgI y1 y2).toInt y3.toInt TT OO k1.toInt r T1 O1 ∧ (k1.toInt = 0 → r = rr.toInt) := by
    rcases hday with ⟨g1, g2⟩ | ⟨g1, r, g2⟩
    · exact ⟨rr.toInt, by rw [g1]; exact g2, fun _ => rfl⟩
    · exact ⟨r, g2, fun g => absurd g g1⟩
  have hH1 := hh1.2.1 b C.hbl
  refine W.eq (g2 := F0 m 1215 ls [.int k1]) rfl ?_
  refine lv_istore C.hx C.hb (eL_law_19 (1215, .istore 5, 2) (List.mem_of_getElem? (i := 25) rfl)) hl (by decide) rfl (fun ls2 (hl2 : lv_has ls2 8 [(5, .int k1), (4, .int iv), (3, .ref o), (2, .ref mm), (1, .ref x), (0, .ref b)]) => ?_)
  refine lv_aload_n C.hx C.hb (eL_law_19 (1217, .aload_n 2, 1) (List.mem_of_getElem? (i := 26) rfl)) rfl (lv_at hl2 3 rfl) ?_
  refine lw_rd (k := 1) C hi hiv hH1 (lv_at hl2 1 rfl) (lv_at hl2 5 rfl) (by decide) rfl (eL_law_19 (1218, .aload_n 0, 1) (List.mem_of_getElem? (i := 27) rfl)) (eL_law_19 (1219, .iload 4, 2) (List.mem_of_getElem? (i := 28) rfl)) (eL_law_19 (1221, .iconst 1, 1) (List.mem_of_getElem? (i := 29) rfl)) (eL_law_19 (1222, .iadd, 1) (List.mem_of_getElem? (i := 30) rfl)) (eL_law_19 (1223, .iaload, 1) (List.mem_of_getElem? (i := 31) rfl)) hy1 ?_
  refine lv_i2l C.hx C.hb (eL_law_19 (1224, .i2l, 1) (List.mem_of_getElem? (i := 32) rfl)) rfl ?_
  refine lv_bipush C.hx C.hb (eL_law_19 (1225, .bipush 32, 2) (List.mem_of_getElem? (i := 33) rfl)) rfl ?_
  refine lv_lshl C.hx C.hb (eL_law_19 (1227, .lshl, 1) (List.mem_of_getElem? (i := 34) rfl)) rfl ?_
  refine lw_rd (k := 2) C hi hiv hH1 (lv_at hl2 1 rfl) (lv_at hl2 5 rfl) (by decide) rfl (eL_law_19 (1228, .aload_n 0, 1) (List.mem_of_getElem? (i := 35) rfl)) (eL_law_19 (1229, .iload 4, 2) (List.mem_of_getElem? (i := 36) rfl)) (eL_law_19 (1231, .iconst 2, 1) (List.mem_of_getElem? (i := 37) rfl)) (eL_law_19 (1232, .iadd, 1) (List.mem_of_getElem? (i := 38) rfl)) (eL_law_19 (1233, .iaload, 1) (List.mem_of_getElem? (i := 39) rfl)) hy2 ?_
  refine lv_i2l C.hx C.hb (eL_law_19 (1234, .i2l, 1) (List.mem_of_getElem? (i := 40) rfl)) rfl ?_
  refine lv_ldc2 C.hx C.hb C.hown (C.h2 _ (tb_8 200 rfl rfl)) (eL_law_19 (1235, .ldc2_w 108, 3) (List.mem_of_getElem? (i := 41) rfl)) ?_
  refine lv_land C.hx C.hb (eL_law_19 (1238, .land, 1) (List.mem_of_getElem? (i := 42) rfl)) ?_
  refine lv_lor C.hx C.hb (eL_law_19 (1239, .lor, 1) (List.mem_of_getElem? (i := 43) rfl)) ?_
  refine W.eq (g2 := F0 m 1240 ls2 [.long (lgI y1 y2), .ref mm]) rfl ?_
  refine lw_rd (k := 3) C hi hiv hH1 (lv_at hl2 1 rfl) (lv_at hl2 5 rfl) (by decide) rfl (eL_law_19 (1240, .aload_n 0, 1) (List.mem_of_getElem? (i := 44) rfl)) (eL_law_19 (1241, .iload 4, 2) (List.mem_of_getElem? (i := 45) rfl)) (eL_law_19 (1243, .iconst 3, 1) (List.mem_of_getElem? (i := 46) rfl)) (eL_law_19 (1244, .iadd, 1) (List.mem_of_getElem? (i := 47) rfl)) (eL_law_19 (1245, .iaload, 1) (List.mem_of_getElem? (i := 48) rfl)) hy3 ?_
  refine tz_rowV (As := [.long (lgI y1 y2), .int y3]) (st := []) (b := mm) (C := RX12) (Ts := gT) C.hx C.hb C.hml C.hown C.h2 (fun _ h => h) (hX12_writeDate l D cA ro s.heap.size s.heap mm (lgI y1 y2) y3 LL (zc.1.length : Int) TT OO I.hm11) ⟨rfl, rfl⟩ ⟨by decide, by decide⟩ ⟨by show (cells + 1) + 0 ≤ 601024; omega, by show (slots + 6) + 0 ≤ 7293034; omega⟩ (tb_8 160 rfl rfl) (tb_1 12 rfl rfl) (tb_8 157 rfl rfl) (tb_8 158 rfl rfl) (tb_8 159 rfl rfl) (show yX12_writeDate.cls ≠ "java/lang/invoke/MethodHandle" ∧ yX12_writeDate.cls ≠ "java/lang/invoke/VarHandle" ∧ (parseMethodDescriptor yX12_writeDate.desc).map (fun d => d.parameters.length) = some 2 by decide +kernel) zs_blind (lw_ob12 hh1 C.hKa.1.1.1 I.hm11) (fun U hU hW => ⟨rfl, by rw [hU]; exact hh1.l0, zKb s U hW.alike (C.hKa.ext I.he).1.1, by rw [hU]; exact ⟨jr1.rs, kr1⟩⟩) hh1.2.2.1 hl2.1 (Nat.le_of_ble_eq_true rfl) (eL_law_19 (1246, .invokevirtual 176, 3) (List.mem_of_getElem? (i := 49) rfl)) (fun r3 s3 t3 lo3 g3 f3 l3 => ?_)
  obtain ⟨vv3, rb3, w3, T3, O3, q3, ⟨b3, qb3, eb3⟩, z3, kp3, hw3, kr3, sp3⟩ := f3
  cases q3
  cases qb3
  rw [g3] at kp3
  have hh3 : zh_ok D cA RTg ro s.heap.size s.heap t3.heap lo3 := ⟨z3.1, z3.2.1, l3, z3.2.2.2⟩
  obtain ⟨hkw, hLL, hzz, hrr⟩ := (spW_det (lgI y1 y2).toInt y3.toInt TT OO) _ _ _ _ _ _ _ _ spk sp3
  rw [← hLL, ← hzz] at kr3
  have jc9 := jc1.kept I.hx10 kp3 (by decide)
  have jr9 := jr1.kept I.hm11 kp3 (by decide)
  have kc9 := kc1.kept I.hx10 kp3 (by decide)
  have j3 : jJY D cA ro t3.heap x mm := ⟨_, _, jc9, jr9, hzp⟩
  have kk3 : jK D cA ro t3.heap x mm := ⟨_, _, kc9, kr3⟩
  have hoz2 := (kp3.2 o 42 0 1 1 _ I.ho42 rfl (by decide)).trans hoz
  have hH3 := hh3.2.1 b C.hbl
  refine W.eq (g2 := F0 m 1249 ls2 [.int b3]) rfl ?_
  refine lv_istore C.hx C.hb (eL_law_19 (1249, .istore 6, 2) (List.mem_of_getElem? (i := 50) rfl)) hl2 (by decide) rfl (fun ls4 (hl4 : lv_has ls4 8 [(6, .int b3), (5, .int k1), (4, .int iv), (3, .ref o), (2, .ref mm), (1, .ref x), (0, .ref b)]) => ?_)
  refine lv_goto C.hx C.hb (eL_law_19 (1251, .goto 544, 3) (List.mem_of_getElem? (i := 51) rfl)) (tgt := 1795) rfl ?_
  exact W.widen (k := cells + 6) (n := slots + 147) (by omega) (by omega) (K ro _ _ _ ⟨hh3, I.he, I.hx10, I.hm11, I.ho42, j3, kk3⟩ (lv_sub hl4 [2, 3, 4, 5, 6] rfl))
def tL_law_20 : List (Nat × Instr × Nat) := [(1254, .aload_n 1, 1), (1255, .aload_n 0, 1), (1256, .iload 4, 2), (1258, .iconst 1, 1), (1259, .iadd, 1), (1260, .iaload, 1), (1261, .i2l, 1), (1262, .bipush 32, 2), (1264, .lshl, 1), (1265, .aload_n 0, 1), (1266, .iload 4, 2), (1268, .iconst 2, 1), (1269, .iadd, 1), (1270, .iaload, 1), (1271, .i2l, 1), (1272, .ldc2_w 108, 3), (1275, .land, 1), (1276, .lor, 1), (1277, .aload_n 0, 1), (1278, .iload 4, 2), (1280, .iconst 3, 1), (1281, .iadd, 1), (1282, .iaload, 1), (1283, .aload_n 0, 1), (1284, .iload 4, 2), (1286, .iconst 4, 1), (1287, .iadd, 1), (1288, .iaload, 1), (1289, .aload_n 0, 1), (1290, .iload 4, 2), (1292, .iconst 5, 1), (1293, .iadd, 1), (1294, .iaload, 1), (1295, .aload_n 3, 1), (1296, .invokestatic 177, 3), (1299, .istore 5, 2), (1301, .aload_n 2, 1), (1302, .aload_n 0, 1), (1303, .iload 4, 2), (1305, .iconst 1, 1), (1306, .iadd, 1), (1307, .iaload, 1), (1308, .i2l, 1), (1309, .bipush 32, 2), (1311, .lshl, 1), (1312, .aload_n 0, 1), (1313, .iload 4, 2), (1315, .iconst 2, 1), (1316, .iadd, 1), (1317, .iaload, 1), (1318, .i2l, 1), (1319, .ldc2_w 108, 3), (1322, .land, 1), (1323, .lor, 1), (1324, .aload_n 0, 1), (1325, .iload 4, 2), (1327, .iconst 3, 1), (1328, .iadd, 1), (1329, .iaload, 1), (1330, .aload_n 0, 1), (1331, .iload 4, 2), (1333, .iconst 4, 1), (1334, .iadd, 1), (1335, .iaload, 1), (1336, .aload_n 0, 1), (1337, .iload 4, 2), (1339, .iconst 5, 1), (1340, .iadd, 1), (1341, .iaload, 1), (1342, .invokevirtual 180, 3), (1345, .istore 6, 2), (1347, .goto 448, 3)]
set_option maxRecDepth 100000 in
theorem eL_law_20 : ∀ x ∈ tL_law_20, decode cL_law x.1 = .ok x.2 := by decide +kernel
set_option maxRecDepth 100000 in
set_option maxHeartbeats 4000000 in
theorem lw_case_20 {p : Program} {l : Launch} {e : Env} {s : State} {m : MethodId} {below : List Frame} {meth : Method} {c : Code} {b L : Nat} {xs : Nat → Int32} {D : va_G} {cA : Nat → ClassId} {ro0 ro : Nat → Option Nat} {H : Heap} {locs : List Loc} {cells slots : Nat} {Q : State → Prop} {ls : Array Slot} {i x mm o : Nat} {iv : Int32} (C : lw_C p l s m meth c b L xs D cA ro0) (hi : i + 8 ≤ L) (hiv : iv.toInt = (i : Int)) (I : lw_I D cA ro0 s x mm o ro H locs) (hl : lv_has ls 8 [(4, .int iv), (3, .ref o), (2, .ref mm), (1, .ref x), (0, .ref b)]) (hc : cells + 6 ≤ 601024) (hs : slots + 147 ≤ 7293034) (K : ∀ (ro9 : Nat → Option Nat) (H9 : Heap) (lo9 : List Loc) (ls9 : Array Slot), lw_I D cA ro0 s x mm o ro9 H9 lo9 → lv_has ls9 8 [(4, .int iv), (3, .ref o), (2, .ref mm), (1, .ref x), (0, .ref b)] → W p l e room_1 s m #[Value.ref b] below meth c H9 lo9 (cells + 6) (slots + 147) Q (F0 m 1795 ls9 [])) : W p l e room_1 s m #[Value.ref b] below meth c H locs cells slots Q (F0 m 1254 ls []) := by
  have hL := C.hL
  have hH0 := I.hh.2.1 b C.hbl
  have hts0 : ∀ w ∈ Cond.initialized "MomentTextsLaw" :: gT, w.before #[Value.ref b] s = true := fun w hw => (List.mem_cons.mp hw).elim (fun g => by rw [g]; exact C.h2 _ (tb_1 0 rfl rfl)) (C.h2 w)
  generalize hy1 : xs (i + 1) = y1
  generalize hy2 : xs (i + 2) = y2
  generalize hy3 : xs (i + 3) = y3
  generalize hy4 : xs (i + 4) = y4
  generalize hy5 : xs (i + 5) = y5
  generalize hy6 : xs (i + 6) = y6
  generalize hy7 : xs (i + 7) = y7
  refine lv_aload_n C.hx C.hb (eL_law_20 (1254, .aload_n 1, 1) (List.mem_of_getElem? (i := 0) rfl)) rfl (lv_at hl 3 rfl) ?_
  refine lw_rd (k := 1) C hi hiv hH0 (lv_at hl 0 rfl) (lv_at hl 4 rfl) (by decide) rfl (eL_law_20 (1255, .aload_n 0, 1) (List.mem_of_getElem? (i := 1) rfl)) (eL_law_20 (1256, .iload 4, 2) (List.mem_of_getElem? (i := 2) rfl)) (eL_law_20 (1258, .iconst 1, 1) (List.mem_of_getElem? (i := 3) rfl)) (eL_law_20 (1259, .iadd, 1) (List.mem_of_getElem? (i := 4) rfl)) (eL_law_20 (1260, .iaload, 1) (List.mem_of_getElem? (i := 5) rfl)) hy1 ?_
  refine lv_i2l C.hx C.hb (eL_law_20 (1261, .i2l, 1) (List.mem_of_getElem? (i := 6) rfl)) rfl ?_
  refine lv_bipush C.hx C.hb (eL_law_20 (1262, .bipush 32, 2) (List.mem_of_getElem? (i := 7) rfl)) rfl ?_
  refine lv_lshl C.hx C.hb (eL_law_20 (1264, .lshl, 1) (List.mem_of_getElem? (i := 8) rfl)) rfl ?_
  refine lw_rd (k := 2) C hi hiv hH0 (lv_at hl 0 rfl) (lv_at hl 4 rfl) (by decide) rfl (eL_law_20 (1265, .aload_n 0, 1) (List.mem_of_getElem? (i := 9) rfl)) (eL_law_20 (1266, .iload 4, 2) (List.mem_of_getElem? (i := 10) rfl)) (eL_law_20 (1268, .iconst 2, 1) (List.mem_of_getElem? (i := 11) rfl)) (eL_law_20 (1269, .iadd, 1) (List.mem_of_getElem? (i := 12) rfl)) (eL_law_20 (1270, .iaload, 1) (List.mem_of_getElem? (i := 13) rfl)) hy2 ?_
  refine lv_i2l C.hx C.hb (eL_law_20 (1271, .i2l, 1) (List.mem_of_getElem? (i := 14) rfl)) rfl ?_
  refine lv_ldc2 C.hx C.hb C.hown (C.h2 _ (tb_8 200 rfl rfl)) (eL_law_20 (1272, .ldc2_w 108, 3) (List.mem_of_getElem? (i := 15) rfl)) ?_
  refine lv_land C.hx C.hb (eL_law_20 (1275, .land, 1) (List.mem_of_getElem? (i := 16) rfl)) ?_
  refine lv_lor C.hx C.hb (eL_law_20 (1276, .lor, 1) (List.mem_of_getElem? (i := 17) rfl)) ?_
  refine W.eq (g2 := F0 m 1277 ls [.long (lgI y1 y2), .ref x]) rfl ?_
  refine lw_rd (k := 3) C hi hiv hH0 (lv_at hl 0 rfl) (lv_at hl 4 rfl) (by decide) rfl (eL_law_20 (1277, .aload_n 0, 1) (List.mem_of_getElem? (i := 18) rfl)) (eL_law_20 (1278, .iload 4, 2) (List.mem_of_getElem? (i := 19) rfl)) (eL_law_20 (1280, .iconst 3, 1) (List.mem_of_getElem? (i := 20) rfl)) (eL_law_20 (1281, .iadd, 1) (List.mem_of_getElem? (i := 21) rfl)) (eL_law_20 (1282, .iaload, 1) (List.mem_of_getElem? (i := 22) rfl)) hy3 ?_
  refine lw_rd (k := 4) C hi hiv hH0 (lv_at hl 0 rfl) (lv_at hl 4 rfl) (by decide) rfl (eL_law_20 (1283, .aload_n 0, 1) (List.mem_of_getElem? (i := 23) rfl)) (eL_law_20 (1284, .iload 4, 2) (List.mem_of_getElem? (i := 24) rfl)) (eL_law_20 (1286, .iconst 4, 1) (List.mem_of_getElem? (i := 25) rfl)) (eL_law_20 (1287, .iadd, 1) (List.mem_of_getElem? (i := 26) rfl)) (eL_law_20 (1288, .iaload, 1) (List.mem_of_getElem? (i := 27) rfl)) hy4 ?_
  refine lw_rd (k := 5) C hi hiv hH0 (lv_at hl 0 rfl) (lv_at hl 4 rfl) (by decide) rfl (eL_law_20 (1289, .aload_n 0, 1) (List.mem_of_getElem? (i := 28) rfl)) (eL_law_20 (1290, .iload 4, 2) (List.mem_of_getElem? (i := 29) rfl)) (eL_law_20 (1292, .iconst 5, 1) (List.mem_of_getElem? (i := 30) rfl)) (eL_law_20 (1293, .iadd, 1) (List.mem_of_getElem? (i := 31) rfl)) (eL_law_20 (1294, .iaload, 1) (List.mem_of_getElem? (i := 32) rfl)) hy5 ?_
  refine lv_aload_n C.hx C.hb (eL_law_20 (1295, .aload_n 3, 1) (List.mem_of_getElem? (i := 33) rfl)) rfl (lv_at hl 1 rfl) ?_
  have hjj := I.hj
  obtain ⟨LL, zc, jc, jr, hzp⟩ := hjj
  have hkk := I.hk
  obtain ⟨TT, OO, kc, kr⟩ := hkk
  refine zw_row (As := [.ref x, .long (lgI y1 y2), .int y3, .int y4, .int y5, .ref o]) (st := []) (Ts := gT) C.hx C.hb C.hml C.hown C.h2 (fun _ h => h) (wK_writeInstant l C.hst D cA ro s.heap.size s.heap x (lgI y1 y2) y3 y4 y5 o LL (zc.1.length : Int) TT OO I.hx10 I.ho42) ⟨rfl, rfl⟩ ⟨by decide, by decide⟩ ⟨by show cells + 1 ≤ 601024; omega, by show slots + 6 ≤ 7293034; omega⟩ (tb_6 13 rfl rfl) (tb_1 0 rfl rfl) (tb_6 11 rfl rfl) (tb_6 12 rfl rfl) (show yL_writeInstant.cls ≠ "java/lang/invoke/MethodHandle" ∧ yL_writeInstant.cls ≠ "java/lang/invoke/VarHandle" ∧ (parseMethodDescriptor yL_writeInstant.desc).map (fun d => d.parameters.length) = some 6 by decide +kernel) zs_blindY (fun U hU hW => ⟨rfl, by rw [hU]; exact I.hh.l0, (C.hKa.ext I.he).warm hW, (zBQ_of C.hBM).alike hW.alike, by rw [hU]; exact ⟨jc.cs, kc⟩⟩) I.hh.2.2.1 hl.1 (Nat.le_of_ble_eq_true rfl) (eL_law_20 (1296, .invokestatic 177, 3) (List.mem_of_getElem? (i := 34) rfl)) (fun r1 s1 t1 lo1 g1 f1 l1 => ?_)
  obtain ⟨k1, T1, O1, zz, rr, q1, z1, kp1, kc1, hoz, hor, hday⟩ := f1
  cases q1
  rw [g1] at kp1
  have hh1 : zh_ok D cA RTg ro s.heap.size s.heap t1.heap lo1 := ⟨z1.1, z1.2.1, l1, z1.2.2.2⟩
  have jc1 := jc.kept I.hx10 kp1 (by decide)
  have jr1 := jr.kept I.hm11 kp1 (by decide)
  have kr1 := kr.kept I.hm11 kp1 (by decide)
  obtain ⟨rk, spk, hrk⟩ : ∃ r : Int, spN (lgI y1 y2).toInt y3.toInt y4.toInt y5.toInt LL TT OO k1.toInt r T1 O1 ∧ (k1.toInt = 0 → r = rr.toInt) := by
    rcases hday with ⟨g1, g2⟩ | ⟨g1, r, g2⟩
    · exact ⟨rr.toInt, by rw [g1]; exact g2, fun _ => rfl⟩
    · exact ⟨r, g2, fun g => absurd g g1⟩
  have hH1 := hh1.2.1 b C.hbl
  refine W.eq (g2 := F0 m 1299 ls [.int k1]) rfl ?_
  refine lv_istore C.hx C.hb (eL_law_20 (1299, .istore 5, 2) (List.mem_of_getElem? (i := 35) rfl)) hl (by decide) rfl (fun ls2 (hl2 : lv_has ls2 8 [(5, .int k1), (4, .int iv), (3, .ref o), (2, .ref mm), (1, .ref x), (0, .ref b)]) => ?_)
  refine lv_aload_n C.hx C.hb (eL_law_20 (1301, .aload_n 2, 1) (List.mem_of_getElem? (i := 36) rfl)) rfl (lv_at hl2 3 rfl) ?_
  refine lw_rd (k := 1) C hi hiv hH1 (lv_at hl2 1 rfl) (lv_at hl2 5 rfl) (by decide) rfl (eL_law_20 (1302, .aload_n 0, 1) (List.mem_of_getElem? (i := 37) rfl)) (eL_law_20 (1303, .iload 4, 2) (List.mem_of_getElem? (i := 38) rfl)) (eL_law_20 (1305, .iconst 1, 1) (List.mem_of_getElem? (i := 39) rfl)) (eL_law_20 (1306, .iadd, 1) (List.mem_of_getElem? (i := 40) rfl)) (eL_law_20 (1307, .iaload, 1) (List.mem_of_getElem? (i := 41) rfl)) hy1 ?_
  refine lv_i2l C.hx C.hb (eL_law_20 (1308, .i2l, 1) (List.mem_of_getElem? (i := 42) rfl)) rfl ?_
  refine lv_bipush C.hx C.hb (eL_law_20 (1309, .bipush 32, 2) (List.mem_of_getElem? (i := 43) rfl)) rfl ?_
  refine lv_lshl C.hx C.hb (eL_law_20 (1311, .lshl, 1) (List.mem_of_getElem? (i := 44) rfl)) rfl ?_
  refine lw_rd (k := 2) C hi hiv hH1 (lv_at hl2 1 rfl) (lv_at hl2 5 rfl) (by decide) rfl (eL_law_20 (1312, .aload_n 0, 1) (List.mem_of_getElem? (i := 45) rfl)) (eL_law_20 (1313, .iload 4, 2) (List.mem_of_getElem? (i := 46) rfl)) (eL_law_20 (1315, .iconst 2, 1) (List.mem_of_getElem? (i := 47) rfl)) (eL_law_20 (1316, .iadd, 1) (List.mem_of_getElem? (i := 48) rfl)) (eL_law_20 (1317, .iaload, 1) (List.mem_of_getElem? (i := 49) rfl)) hy2 ?_
  refine lv_i2l C.hx C.hb (eL_law_20 (1318, .i2l, 1) (List.mem_of_getElem? (i := 50) rfl)) rfl ?_
  refine lv_ldc2 C.hx C.hb C.hown (C.h2 _ (tb_8 200 rfl rfl)) (eL_law_20 (1319, .ldc2_w 108, 3) (List.mem_of_getElem? (i := 51) rfl)) ?_
  refine lv_land C.hx C.hb (eL_law_20 (1322, .land, 1) (List.mem_of_getElem? (i := 52) rfl)) ?_
  refine lv_lor C.hx C.hb (eL_law_20 (1323, .lor, 1) (List.mem_of_getElem? (i := 53) rfl)) ?_
  refine W.eq (g2 := F0 m 1324 ls2 [.long (lgI y1 y2), .ref mm]) rfl ?_
  refine lw_rd (k := 3) C hi hiv hH1 (lv_at hl2 1 rfl) (lv_at hl2 5 rfl) (by decide) rfl (eL_law_20 (1324, .aload_n 0, 1) (List.mem_of_getElem? (i := 54) rfl)) (eL_law_20 (1325, .iload 4, 2) (List.mem_of_getElem? (i := 55) rfl)) (eL_law_20 (1327, .iconst 3, 1) (List.mem_of_getElem? (i := 56) rfl)) (eL_law_20 (1328, .iadd, 1) (List.mem_of_getElem? (i := 57) rfl)) (eL_law_20 (1329, .iaload, 1) (List.mem_of_getElem? (i := 58) rfl)) hy3 ?_
  refine lw_rd (k := 4) C hi hiv hH1 (lv_at hl2 1 rfl) (lv_at hl2 5 rfl) (by decide) rfl (eL_law_20 (1330, .aload_n 0, 1) (List.mem_of_getElem? (i := 59) rfl)) (eL_law_20 (1331, .iload 4, 2) (List.mem_of_getElem? (i := 60) rfl)) (eL_law_20 (1333, .iconst 4, 1) (List.mem_of_getElem? (i := 61) rfl)) (eL_law_20 (1334, .iadd, 1) (List.mem_of_getElem? (i := 62) rfl)) (eL_law_20 (1335, .iaload, 1) (List.mem_of_getElem? (i := 63) rfl)) hy4 ?_
  refine lw_rd (k := 5) C hi hiv hH1 (lv_at hl2 1 rfl) (lv_at hl2 5 rfl) (by decide) rfl (eL_law_20 (1336, .aload_n 0, 1) (List.mem_of_getElem? (i := 64) rfl)) (eL_law_20 (1337, .iload 4, 2) (List.mem_of_getElem? (i := 65) rfl)) (eL_law_20 (1339, .iconst 5, 1) (List.mem_of_getElem? (i := 66) rfl)) (eL_law_20 (1340, .iadd, 1) (List.mem_of_getElem? (i := 67) rfl)) (eL_law_20 (1341, .iaload, 1) (List.mem_of_getElem? (i := 68) rfl)) hy5 ?_
  refine tz_rowV (As := [.long (lgI y1 y2), .int y3, .int y4, .int y5]) (st := []) (b := mm) (C := RX12) (Ts := gT) C.hx C.hb C.hml C.hown C.h2 (fun _ h => h) (hX12_writeInstant l D cA ro s.heap.size s.heap mm (lgI y1 y2) y3 y4 y5 LL (zc.1.length : Int) TT OO I.hm11) ⟨rfl, rfl⟩ ⟨by decide, by decide⟩ ⟨by show (cells + 1) + 0 ≤ 601024; omega, by show (slots + 6) + 0 ≤ 7293034; omega⟩ (tb_8 177 rfl rfl) (tb_1 12 rfl rfl) (tb_8 174 rfl rfl) (tb_8 175 rfl rfl) (tb_8 176 rfl rfl) (show yX12_writeInstant.cls ≠ "java/lang/invoke/MethodHandle" ∧ yX12_writeInstant.cls ≠ "java/lang/invoke/VarHandle" ∧ (parseMethodDescriptor yX12_writeInstant.desc).map (fun d => d.parameters.length) = some 4 by decide +kernel) zs_blind (lw_ob12 hh1 C.hKa.1.1.1 I.hm11) (fun U hU hW => ⟨rfl, by rw [hU]; exact hh1.l0, zKb s U hW.alike (C.hKa.ext I.he).1.1, by rw [hU]; exact ⟨jr1.rs, kr1⟩⟩) hh1.2.2.1 hl2.1 (Nat.le_of_ble_eq_true rfl) (eL_law_20 (1342, .invokevirtual 180, 3) (List.mem_of_getElem? (i := 69) rfl)) (fun r3 s3 t3 lo3 g3 f3 l3 => ?_)
  obtain ⟨vv3, rb3, w3, T3, O3, q3, ⟨b3, qb3, eb3⟩, z3, kp3, hw3, kr3, sp3⟩ := f3
  cases q3
  cases qb3
  rw [g3] at kp3
  have hh3 : zh_ok D cA RTg ro s.heap.size s.heap t3.heap lo3 := ⟨z3.1, z3.2.1, l3, z3.2.2.2⟩
  obtain ⟨hkw, hLL, hzz, hrr⟩ := (spN_det (lgI y1 y2).toInt y3.toInt y4.toInt y5.toInt LL TT OO) _ _ _ _ _ _ _ _ spk sp3
  rw [← hLL, ← hzz] at kr3
  have jc9 := jc1.kept I.hx10 kp3 (by decide)
  have jr9 := jr1.kept I.hm11 kp3 (by decide)
  have kc9 := kc1.kept I.hx10 kp3 (by decide)
  have j3 : jJY D cA ro t3.heap x mm := ⟨_, _, jc9, jr9, hzp⟩
  have kk3 : jK D cA ro t3.heap x mm := ⟨_, _, kc9, kr3⟩
  have hoz2 := (kp3.2 o 42 0 1 1 _ I.ho42 rfl (by decide)).trans hoz
  have hH3 := hh3.2.1 b C.hbl
  refine W.eq (g2 := F0 m 1345 ls2 [.int b3]) rfl ?_
  refine lv_istore C.hx C.hb (eL_law_20 (1345, .istore 6, 2) (List.mem_of_getElem? (i := 70) rfl)) hl2 (by decide) rfl (fun ls4 (hl4 : lv_has ls4 8 [(6, .int b3), (5, .int k1), (4, .int iv), (3, .ref o), (2, .ref mm), (1, .ref x), (0, .ref b)]) => ?_)
  refine lv_goto C.hx C.hb (eL_law_20 (1347, .goto 448, 3) (List.mem_of_getElem? (i := 71) rfl)) (tgt := 1795) rfl ?_
  exact W.widen (k := cells + 6) (n := slots + 147) (by omega) (by omega) (K ro _ _ _ ⟨hh3, I.he, I.hx10, I.hm11, I.ho42, j3, kk3⟩ (lv_sub hl4 [2, 3, 4, 5, 6] rfl))
def tL_law_21 : List (Nat × Instr × Nat) := [(1350, .aload_n 1, 1), (1351, .aload_n 0, 1), (1352, .iload 4, 2), (1354, .iconst 1, 1), (1355, .iadd, 1), (1356, .iaload, 1), (1357, .i2l, 1), (1358, .bipush 32, 2), (1360, .lshl, 1), (1361, .aload_n 0, 1), (1362, .iload 4, 2), (1364, .iconst 2, 1), (1365, .iadd, 1), (1366, .iaload, 1), (1367, .i2l, 1), (1368, .ldc2_w 108, 3), (1371, .land, 1), (1372, .lor, 1), (1373, .aload_n 0, 1), (1374, .iload 4, 2), (1376, .iconst 3, 1), (1377, .iadd, 1), (1378, .iaload, 1), (1379, .i2l, 1), (1380, .bipush 32, 2), (1382, .lshl, 1), (1383, .aload_n 0, 1), (1384, .iload 4, 2), (1386, .iconst 4, 1), (1387, .iadd, 1), (1388, .iaload, 1), (1389, .i2l, 1), (1390, .ldc2_w 108, 3), (1393, .land, 1), (1394, .lor, 1), (1395, .aload_n 0, 1), (1396, .iload 4, 2), (1398, .iconst 5, 1), (1399, .iadd, 1), (1400, .iaload, 1), (1401, .i2l, 1), (1402, .bipush 32, 2), (1404, .lshl, 1), (1405, .aload_n 0, 1), (1406, .iload 4, 2), (1408, .bipush 6, 2), (1410, .iadd, 1), (1411, .iaload, 1), (1412, .i2l, 1), (1413, .ldc2_w 108, 3), (1416, .land, 1), (1417, .lor, 1), (1418, .aload_n 0, 1), (1419, .iload 4, 2), (1421, .bipush 7, 2), (1423, .iadd, 1), (1424, .iaload, 1), (1425, .aload_n 3, 1), (1426, .invokestatic 181, 3), (1429, .istore 5, 2), (1431, .aload_n 2, 1), (1432, .aload_n 0, 1), (1433, .iload 4, 2), (1435, .iconst 1, 1), (1436, .iadd, 1), (1437, .iaload, 1), (1438, .i2l, 1), (1439, .bipush 32, 2), (1441, .lshl, 1), (1442, .aload_n 0, 1), (1443, .iload 4, 2), (1445, .iconst 2, 1), (1446, .iadd, 1), (1447, .iaload, 1), (1448, .i2l, 1), (1449, .ldc2_w 108, 3), (1452, .land, 1), (1453, .lor, 1), (1454, .aload_n 0, 1), (1455, .iload 4, 2), (1457, .iconst 3, 1), (1458, .iadd, 1), (1459, .iaload, 1), (1460, .i2l, 1), (1461, .bipush 32, 2), (1463, .lshl, 1), (1464, .aload_n 0, 1), (1465, .iload 4, 2), (1467, .iconst 4, 1), (1468, .iadd, 1), (1469, .iaload, 1), (1470, .i2l, 1), (1471, .ldc2_w 108, 3), (1474, .land, 1), (1475, .lor, 1), (1476, .aload_n 0, 1), (1477, .iload 4, 2), (1479, .iconst 5, 1), (1480, .iadd, 1), (1481, .iaload, 1), (1482, .i2l, 1), (1483, .bipush 32, 2), (1485, .lshl, 1), (1486, .aload_n 0, 1), (1487, .iload 4, 2), (1489, .bipush 6, 2), (1491, .iadd, 1), (1492, .iaload, 1), (1493, .i2l, 1), (1494, .ldc2_w 108, 3), (1497, .land, 1), (1498, .lor, 1), (1499, .aload_n 0, 1), (1500, .iload 4, 2), (1502, .bipush 7, 2), (1504, .iadd, 1), (1505, .iaload, 1), (1506, .invokevirtual 184, 3), (1509, .istore 6, 2), (1511, .goto 284, 3)]
set_option maxRecDepth 100000 in
theorem eL_law_21 : ∀ x ∈ tL_law_21, decode cL_law x.1 = .ok x.2 := by decide +kernel
set_option maxRecDepth 100000 in
set_option maxHeartbeats 4000000 in
theorem lw_case_21 {p : Program} {l : Launch} {e : Env} {s : State} {m : MethodId} {below : List Frame} {meth : Method} {c : Code} {b L : Nat} {xs : Nat → Int32} {D : va_G} {cA : Nat → ClassId} {ro0 ro : Nat → Option Nat} {H : Heap} {locs : List Loc} {cells slots : Nat} {Q : State → Prop} {ls : Array Slot} {i x mm o : Nat} {iv : Int32} (C : lw_C p l s m meth c b L xs D cA ro0) (hi : i + 8 ≤ L) (hiv : iv.toInt = (i : Int)) (I : lw_I D cA ro0 s x mm o ro H locs) (hl : lv_has ls 8 [(4, .int iv), (3, .ref o), (2, .ref mm), (1, .ref x), (0, .ref b)]) (hc : cells + 6 ≤ 601024) (hs : slots + 147 ≤ 7293034) (K : ∀ (ro9 : Nat → Option Nat) (H9 : Heap) (lo9 : List Loc) (ls9 : Array Slot), lw_I D cA ro0 s x mm o ro9 H9 lo9 → lv_has ls9 8 [(4, .int iv), (3, .ref o), (2, .ref mm), (1, .ref x), (0, .ref b)] → W p l e room_1 s m #[Value.ref b] below meth c H9 lo9 (cells + 6) (slots + 147) Q (F0 m 1795 ls9 [])) : W p l e room_1 s m #[Value.ref b] below meth c H locs cells slots Q (F0 m 1350 ls []) := by
  have hL := C.hL
  have hH0 := I.hh.2.1 b C.hbl
  have hts0 : ∀ w ∈ Cond.initialized "MomentTextsLaw" :: gT, w.before #[Value.ref b] s = true := fun w hw => (List.mem_cons.mp hw).elim (fun g => by rw [g]; exact C.h2 _ (tb_1 0 rfl rfl)) (C.h2 w)
  generalize hy1 : xs (i + 1) = y1
  generalize hy2 : xs (i + 2) = y2
  generalize hy3 : xs (i + 3) = y3
  generalize hy4 : xs (i + 4) = y4
  generalize hy5 : xs (i + 5) = y5
  generalize hy6 : xs (i + 6) = y6
  generalize hy7 : xs (i + 7) = y7
  refine lv_aload_n C.hx C.hb (eL_law_21 (1350, .aload_n 1, 1) (List.mem_of_getElem? (i := 0) rfl)) rfl (lv_at hl 3 rfl) ?_
  refine lw_rd (k := 1) C hi hiv hH0 (lv_at hl 0 rfl) (lv_at hl 4 rfl) (by decide) rfl (eL_law_21 (1351, .aload_n 0, 1) (List.mem_of_getElem? (i := 1) rfl)) (eL_law_21 (1352, .iload 4, 2) (List.mem_of_getElem? (i := 2) rfl)) (eL_law_21 (1354, .iconst 1, 1) (List.mem_of_getElem? (i := 3) rfl)) (eL_law_21 (1355, .iadd, 1) (List.mem_of_getElem? (i := 4) rfl)) (eL_law_21 (1356, .iaload, 1) (List.mem_of_getElem? (i := 5) rfl)) hy1 ?_
  refine lv_i2l C.hx C.hb (eL_law_21 (1357, .i2l, 1) (List.mem_of_getElem? (i := 6) rfl)) rfl ?_
  refine lv_bipush C.hx C.hb (eL_law_21 (1358, .bipush 32, 2) (List.mem_of_getElem? (i := 7) rfl)) rfl ?_
  refine lv_lshl C.hx C.hb (eL_law_21 (1360, .lshl, 1) (List.mem_of_getElem? (i := 8) rfl)) rfl ?_
  refine lw_rd (k := 2) C hi hiv hH0 (lv_at hl 0 rfl) (lv_at hl 4 rfl) (by decide) rfl (eL_law_21 (1361, .aload_n 0, 1) (List.mem_of_getElem? (i := 9) rfl)) (eL_law_21 (1362, .iload 4, 2) (List.mem_of_getElem? (i := 10) rfl)) (eL_law_21 (1364, .iconst 2, 1) (List.mem_of_getElem? (i := 11) rfl)) (eL_law_21 (1365, .iadd, 1) (List.mem_of_getElem? (i := 12) rfl)) (eL_law_21 (1366, .iaload, 1) (List.mem_of_getElem? (i := 13) rfl)) hy2 ?_
  refine lv_i2l C.hx C.hb (eL_law_21 (1367, .i2l, 1) (List.mem_of_getElem? (i := 14) rfl)) rfl ?_
  refine lv_ldc2 C.hx C.hb C.hown (C.h2 _ (tb_8 200 rfl rfl)) (eL_law_21 (1368, .ldc2_w 108, 3) (List.mem_of_getElem? (i := 15) rfl)) ?_
  refine lv_land C.hx C.hb (eL_law_21 (1371, .land, 1) (List.mem_of_getElem? (i := 16) rfl)) ?_
  refine lv_lor C.hx C.hb (eL_law_21 (1372, .lor, 1) (List.mem_of_getElem? (i := 17) rfl)) ?_
  refine W.eq (g2 := F0 m 1373 ls [.long (lgI y1 y2), .ref x]) rfl ?_
  refine lw_rd (k := 3) C hi hiv hH0 (lv_at hl 0 rfl) (lv_at hl 4 rfl) (by decide) rfl (eL_law_21 (1373, .aload_n 0, 1) (List.mem_of_getElem? (i := 18) rfl)) (eL_law_21 (1374, .iload 4, 2) (List.mem_of_getElem? (i := 19) rfl)) (eL_law_21 (1376, .iconst 3, 1) (List.mem_of_getElem? (i := 20) rfl)) (eL_law_21 (1377, .iadd, 1) (List.mem_of_getElem? (i := 21) rfl)) (eL_law_21 (1378, .iaload, 1) (List.mem_of_getElem? (i := 22) rfl)) hy3 ?_
  refine lv_i2l C.hx C.hb (eL_law_21 (1379, .i2l, 1) (List.mem_of_getElem? (i := 23) rfl)) rfl ?_
  refine lv_bipush C.hx C.hb (eL_law_21 (1380, .bipush 32, 2) (List.mem_of_getElem? (i := 24) rfl)) rfl ?_
  refine lv_lshl C.hx C.hb (eL_law_21 (1382, .lshl, 1) (List.mem_of_getElem? (i := 25) rfl)) rfl ?_
  refine lw_rd (k := 4) C hi hiv hH0 (lv_at hl 0 rfl) (lv_at hl 4 rfl) (by decide) rfl (eL_law_21 (1383, .aload_n 0, 1) (List.mem_of_getElem? (i := 26) rfl)) (eL_law_21 (1384, .iload 4, 2) (List.mem_of_getElem? (i := 27) rfl)) (eL_law_21 (1386, .iconst 4, 1) (List.mem_of_getElem? (i := 28) rfl)) (eL_law_21 (1387, .iadd, 1) (List.mem_of_getElem? (i := 29) rfl)) (eL_law_21 (1388, .iaload, 1) (List.mem_of_getElem? (i := 30) rfl)) hy4 ?_
  refine lv_i2l C.hx C.hb (eL_law_21 (1389, .i2l, 1) (List.mem_of_getElem? (i := 31) rfl)) rfl ?_
  refine lv_ldc2 C.hx C.hb C.hown (C.h2 _ (tb_8 200 rfl rfl)) (eL_law_21 (1390, .ldc2_w 108, 3) (List.mem_of_getElem? (i := 32) rfl)) ?_
  refine lv_land C.hx C.hb (eL_law_21 (1393, .land, 1) (List.mem_of_getElem? (i := 33) rfl)) ?_
  refine lv_lor C.hx C.hb (eL_law_21 (1394, .lor, 1) (List.mem_of_getElem? (i := 34) rfl)) ?_
  refine W.eq (g2 := F0 m 1395 ls [.long (lgI y3 y4), .long (lgI y1 y2), .ref x]) rfl ?_
  refine lw_rd (k := 5) C hi hiv hH0 (lv_at hl 0 rfl) (lv_at hl 4 rfl) (by decide) rfl (eL_law_21 (1395, .aload_n 0, 1) (List.mem_of_getElem? (i := 35) rfl)) (eL_law_21 (1396, .iload 4, 2) (List.mem_of_getElem? (i := 36) rfl)) (eL_law_21 (1398, .iconst 5, 1) (List.mem_of_getElem? (i := 37) rfl)) (eL_law_21 (1399, .iadd, 1) (List.mem_of_getElem? (i := 38) rfl)) (eL_law_21 (1400, .iaload, 1) (List.mem_of_getElem? (i := 39) rfl)) hy5 ?_
  refine lv_i2l C.hx C.hb (eL_law_21 (1401, .i2l, 1) (List.mem_of_getElem? (i := 40) rfl)) rfl ?_
  refine lv_bipush C.hx C.hb (eL_law_21 (1402, .bipush 32, 2) (List.mem_of_getElem? (i := 41) rfl)) rfl ?_
  refine lv_lshl C.hx C.hb (eL_law_21 (1404, .lshl, 1) (List.mem_of_getElem? (i := 42) rfl)) rfl ?_
  refine lw_rdB (k := 6) C hi hiv hH0 (lv_at hl 0 rfl) (lv_at hl 4 rfl) (by decide) rfl (eL_law_21 (1405, .aload_n 0, 1) (List.mem_of_getElem? (i := 43) rfl)) (eL_law_21 (1406, .iload 4, 2) (List.mem_of_getElem? (i := 44) rfl)) (eL_law_21 (1408, .bipush 6, 2) (List.mem_of_getElem? (i := 45) rfl)) (eL_law_21 (1410, .iadd, 1) (List.mem_of_getElem? (i := 46) rfl)) (eL_law_21 (1411, .iaload, 1) (List.mem_of_getElem? (i := 47) rfl)) hy6 ?_
  refine lv_i2l C.hx C.hb (eL_law_21 (1412, .i2l, 1) (List.mem_of_getElem? (i := 48) rfl)) rfl ?_
  refine lv_ldc2 C.hx C.hb C.hown (C.h2 _ (tb_8 200 rfl rfl)) (eL_law_21 (1413, .ldc2_w 108, 3) (List.mem_of_getElem? (i := 49) rfl)) ?_
  refine lv_land C.hx C.hb (eL_law_21 (1416, .land, 1) (List.mem_of_getElem? (i := 50) rfl)) ?_
  refine lv_lor C.hx C.hb (eL_law_21 (1417, .lor, 1) (List.mem_of_getElem? (i := 51) rfl)) ?_
  refine W.eq (g2 := F0 m 1418 ls [.long (lgI y5 y6), .long (lgI y3 y4), .long (lgI y1 y2), .ref x]) rfl ?_
  refine lw_rdB (k := 7) C hi hiv hH0 (lv_at hl 0 rfl) (lv_at hl 4 rfl) (by decide) rfl (eL_law_21 (1418, .aload_n 0, 1) (List.mem_of_getElem? (i := 52) rfl)) (eL_law_21 (1419, .iload 4, 2) (List.mem_of_getElem? (i := 53) rfl)) (eL_law_21 (1421, .bipush 7, 2) (List.mem_of_getElem? (i := 54) rfl)) (eL_law_21 (1423, .iadd, 1) (List.mem_of_getElem? (i := 55) rfl)) (eL_law_21 (1424, .iaload, 1) (List.mem_of_getElem? (i := 56) rfl)) hy7 ?_
  refine lv_aload_n C.hx C.hb (eL_law_21 (1425, .aload_n 3, 1) (List.mem_of_getElem? (i := 57) rfl)) rfl (lv_at hl 1 rfl) ?_
  have hjj := I.hj
  obtain ⟨LL, zc, jc, jr, hzp⟩ := hjj
  have hkk := I.hk
  obtain ⟨TT, OO, kc, kr⟩ := hkk
  refine zw_row (As := [.ref x, .long (lgI y1 y2), .long (lgI y3 y4), .long (lgI y5 y6), .int y7, .ref o]) (st := []) (Ts := gT) C.hx C.hb C.hml C.hown C.h2 (fun _ h => h) (wK_writeDuration l C.hst D cA ro s.heap.size s.heap x (lgI y1 y2) (lgI y3 y4) (lgI y5 y6) y7 o LL (zc.1.length : Int) TT OO I.hx10 I.ho42) ⟨rfl, rfl⟩ ⟨by decide, by decide⟩ ⟨by show cells + 1 ≤ 601024; omega, by show slots + 6 ≤ 7293034; omega⟩ (tb_6 37 rfl rfl) (tb_1 0 rfl rfl) (tb_6 35 rfl rfl) (tb_6 36 rfl rfl) (show yL_writeDuration.cls ≠ "java/lang/invoke/MethodHandle" ∧ yL_writeDuration.cls ≠ "java/lang/invoke/VarHandle" ∧ (parseMethodDescriptor yL_writeDuration.desc).map (fun d => d.parameters.length) = some 6 by decide +kernel) zs_blindY (fun U hU hW => ⟨rfl, by rw [hU]; exact I.hh.l0, (C.hKa.ext I.he).warm hW, (zBQ_of C.hBM).alike hW.alike, by rw [hU]; exact ⟨jc.cs, kc⟩⟩) I.hh.2.2.1 hl.1 (Nat.le_of_ble_eq_true rfl) (eL_law_21 (1426, .invokestatic 181, 3) (List.mem_of_getElem? (i := 58) rfl)) (fun r1 s1 t1 lo1 g1 f1 l1 => ?_)
  obtain ⟨k1, T1, O1, zz, rr, q1, z1, kp1, kc1, hoz, hor, hday⟩ := f1
  cases q1
  rw [g1] at kp1
  have hh1 : zh_ok D cA RTg ro s.heap.size s.heap t1.heap lo1 := ⟨z1.1, z1.2.1, l1, z1.2.2.2⟩
  have jc1 := jc.kept I.hx10 kp1 (by decide)
  have jr1 := jr.kept I.hm11 kp1 (by decide)
  have kr1 := kr.kept I.hm11 kp1 (by decide)
  obtain ⟨rk, spk, hrk⟩ : ∃ r : Int, spU (lgI y1 y2).toInt (lgI y3 y4).toInt (lgI y5 y6).toInt y7.toInt TT OO k1.toInt r T1 O1 ∧ (k1.toInt = 0 → r = rr.toInt) := by
    rcases hday with ⟨g1, g2⟩ | ⟨g1, r, g2⟩
    · exact ⟨rr.toInt, by rw [g1]; exact g2, fun _ => rfl⟩
    · exact ⟨r, g2, fun g => absurd g g1⟩
  have hH1 := hh1.2.1 b C.hbl
  refine W.eq (g2 := F0 m 1429 ls [.int k1]) rfl ?_
  refine lv_istore C.hx C.hb (eL_law_21 (1429, .istore 5, 2) (List.mem_of_getElem? (i := 59) rfl)) hl (by decide) rfl (fun ls2 (hl2 : lv_has ls2 8 [(5, .int k1), (4, .int iv), (3, .ref o), (2, .ref mm), (1, .ref x), (0, .ref b)]) => ?_)
  refine lv_aload_n C.hx C.hb (eL_law_21 (1431, .aload_n 2, 1) (List.mem_of_getElem? (i := 60) rfl)) rfl (lv_at hl2 3 rfl) ?_
  refine lw_rd (k := 1) C hi hiv hH1 (lv_at hl2 1 rfl) (lv_at hl2 5 rfl) (by decide) rfl (eL_law_21 (1432, .aload_n 0, 1) (List.mem_of_getElem? (i := 61) rfl)) (eL_law_21 (1433, .iload 4, 2) (List.mem_of_getElem? (i := 62) rfl)) (eL_law_21 (1435, .iconst 1, 1) (List.mem_of_getElem? (i := 63) rfl)) (eL_law_21 (1436, .iadd, 1) (List.mem_of_getElem? (i := 64) rfl)) (eL_law_21 (1437, .iaload, 1) (List.mem_of_getElem? (i := 65) rfl)) hy1 ?_
  refine lv_i2l C.hx C.hb (eL_law_21 (1438, .i2l, 1) (List.mem_of_getElem? (i := 66) rfl)) rfl ?_
  refine lv_bipush C.hx C.hb (eL_law_21 (1439, .bipush 32, 2) (List.mem_of_getElem? (i := 67) rfl)) rfl ?_
  refine lv_lshl C.hx C.hb (eL_law_21 (1441, .lshl, 1) (List.mem_of_getElem? (i := 68) rfl)) rfl ?_
  refine lw_rd (k := 2) C hi hiv hH1 (lv_at hl2 1 rfl) (lv_at hl2 5 rfl) (by decide) rfl (eL_law_21 (1442, .aload_n 0, 1) (List.mem_of_getElem? (i := 69) rfl)) (eL_law_21 (1443, .iload 4, 2) (List.mem_of_getElem? (i := 70) rfl)) (eL_law_21 (1445, .iconst 2, 1) (List.mem_of_getElem? (i := 71) rfl)) (eL_law_21 (1446, .iadd, 1) (List.mem_of_getElem? (i := 72) rfl)) (eL_law_21 (1447, .iaload, 1) (List.mem_of_getElem? (i := 73) rfl)) hy2 ?_
  refine lv_i2l C.hx C.hb (eL_law_21 (1448, .i2l, 1) (List.mem_of_getElem? (i := 74) rfl)) rfl ?_
  refine lv_ldc2 C.hx C.hb C.hown (C.h2 _ (tb_8 200 rfl rfl)) (eL_law_21 (1449, .ldc2_w 108, 3) (List.mem_of_getElem? (i := 75) rfl)) ?_
  refine lv_land C.hx C.hb (eL_law_21 (1452, .land, 1) (List.mem_of_getElem? (i := 76) rfl)) ?_
  refine lv_lor C.hx C.hb (eL_law_21 (1453, .lor, 1) (List.mem_of_getElem? (i := 77) rfl)) ?_
  refine W.eq (g2 := F0 m 1454 ls2 [.long (lgI y1 y2), .ref mm]) rfl ?_
  refine lw_rd (k := 3) C hi hiv hH1 (lv_at hl2 1 rfl) (lv_at hl2 5 rfl) (by decide) rfl (eL_law_21 (1454, .aload_n 0, 1) (List.mem_of_getElem? (i := 78) rfl)) (eL_law_21 (1455, .iload 4, 2) (List.mem_of_getElem? (i := 79) rfl)) (eL_law_21 (1457, .iconst 3, 1) (List.mem_of_getElem? (i := 80) rfl)) (eL_law_21 (1458, .iadd, 1) (List.mem_of_getElem? (i := 81) rfl)) (eL_law_21 (1459, .iaload, 1) (List.mem_of_getElem? (i := 82) rfl)) hy3 ?_
  refine lv_i2l C.hx C.hb (eL_law_21 (1460, .i2l, 1) (List.mem_of_getElem? (i := 83) rfl)) rfl ?_
  refine lv_bipush C.hx C.hb (eL_law_21 (1461, .bipush 32, 2) (List.mem_of_getElem? (i := 84) rfl)) rfl ?_
  refine lv_lshl C.hx C.hb (eL_law_21 (1463, .lshl, 1) (List.mem_of_getElem? (i := 85) rfl)) rfl ?_
  refine lw_rd (k := 4) C hi hiv hH1 (lv_at hl2 1 rfl) (lv_at hl2 5 rfl) (by decide) rfl (eL_law_21 (1464, .aload_n 0, 1) (List.mem_of_getElem? (i := 86) rfl)) (eL_law_21 (1465, .iload 4, 2) (List.mem_of_getElem? (i := 87) rfl)) (eL_law_21 (1467, .iconst 4, 1) (List.mem_of_getElem? (i := 88) rfl)) (eL_law_21 (1468, .iadd, 1) (List.mem_of_getElem? (i := 89) rfl)) (eL_law_21 (1469, .iaload, 1) (List.mem_of_getElem? (i := 90) rfl)) hy4 ?_
  refine lv_i2l C.hx C.hb (eL_law_21 (1470, .i2l, 1) (List.mem_of_getElem? (i := 91) rfl)) rfl ?_
  refine lv_ldc2 C.hx C.hb C.hown (C.h2 _ (tb_8 200 rfl rfl)) (eL_law_21 (1471, .ldc2_w 108, 3) (List.mem_of_getElem? (i := 92) rfl)) ?_
  refine lv_land C.hx C.hb (eL_law_21 (1474, .land, 1) (List.mem_of_getElem? (i := 93) rfl)) ?_
  refine lv_lor C.hx C.hb (eL_law_21 (1475, .lor, 1) (List.mem_of_getElem? (i := 94) rfl)) ?_
  refine W.eq (g2 := F0 m 1476 ls2 [.long (lgI y3 y4), .long (lgI y1 y2), .ref mm]) rfl ?_
  refine lw_rd (k := 5) C hi hiv hH1 (lv_at hl2 1 rfl) (lv_at hl2 5 rfl) (by decide) rfl (eL_law_21 (1476, .aload_n 0, 1) (List.mem_of_getElem? (i := 95) rfl)) (eL_law_21 (1477, .iload 4, 2) (List.mem_of_getElem? (i := 96) rfl)) (eL_law_21 (1479, .iconst 5, 1) (List.mem_of_getElem? (i := 97) rfl)) (eL_law_21 (1480, .iadd, 1) (List.mem_of_getElem? (i := 98) rfl)) (eL_law_21 (1481, .iaload, 1) (List.mem_of_getElem? (i := 99) rfl)) hy5 ?_
  refine lv_i2l C.hx C.hb (eL_law_21 (1482, .i2l, 1) (List.mem_of_getElem? (i := 100) rfl)) rfl ?_
  refine lv_bipush C.hx C.hb (eL_law_21 (1483, .bipush 32, 2) (List.mem_of_getElem? (i := 101) rfl)) rfl ?_
  refine lv_lshl C.hx C.hb (eL_law_21 (1485, .lshl, 1) (List.mem_of_getElem? (i := 102) rfl)) rfl ?_
  refine lw_rdB (k := 6) C hi hiv hH1 (lv_at hl2 1 rfl) (lv_at hl2 5 rfl) (by decide) rfl (eL_law_21 (1486, .aload_n 0, 1) (List.mem_of_getElem? (i := 103) rfl)) (eL_law_21 (1487, .iload 4, 2) (List.mem_of_getElem? (i := 104) rfl)) (eL_law_21 (1489, .bipush 6, 2) (List.mem_of_getElem? (i := 105) rfl)) (eL_law_21 (1491, .iadd, 1) (List.mem_of_getElem? (i := 106) rfl)) (eL_law_21 (1492, .iaload, 1) (List.mem_of_getElem? (i := 107) rfl)) hy6 ?_
  refine lv_i2l C.hx C.hb (eL_law_21 (1493, .i2l, 1) (List.mem_of_getElem? (i := 108) rfl)) rfl ?_
  refine lv_ldc2 C.hx C.hb C.hown (C.h2 _ (tb_8 200 rfl rfl)) (eL_law_21 (1494, .ldc2_w 108, 3) (List.mem_of_getElem? (i := 109) rfl)) ?_
  refine lv_land C.hx C.hb (eL_law_21 (1497, .land, 1) (List.mem_of_getElem? (i := 110) rfl)) ?_
  refine lv_lor C.hx C.hb (eL_law_21 (1498, .lor, 1) (List.mem_of_getElem? (i := 111) rfl)) ?_
  refine W.eq (g2 := F0 m 1499 ls2 [.long (lgI y5 y6), .long (lgI y3 y4), .long (lgI y1 y2), .ref mm]) rfl ?_
  refine lw_rdB (k := 7) C hi hiv hH1 (lv_at hl2 1 rfl) (lv_at hl2 5 rfl) (by decide) rfl (eL_law_21 (1499, .aload_n 0, 1) (List.mem_of_getElem? (i := 112) rfl)) (eL_law_21 (1500, .iload 4, 2) (List.mem_of_getElem? (i := 113) rfl)) (eL_law_21 (1502, .bipush 7, 2) (List.mem_of_getElem? (i := 114) rfl)) (eL_law_21 (1504, .iadd, 1) (List.mem_of_getElem? (i := 115) rfl)) (eL_law_21 (1505, .iaload, 1) (List.mem_of_getElem? (i := 116) rfl)) hy7 ?_
  refine tz_rowV (As := [.long (lgI y1 y2), .long (lgI y3 y4), .long (lgI y5 y6), .int y7]) (st := []) (b := mm) (C := RX12) (Ts := gT) C.hx C.hb C.hml C.hown C.h2 (fun _ h => h) (hX12_writeDuration l D cA ro s.heap.size s.heap mm (lgI y1 y2) (lgI y3 y4) (lgI y5 y6) y7 LL (zc.1.length : Int) TT OO I.hm11) ⟨rfl, rfl⟩ ⟨by decide, by decide⟩ ⟨by show (cells + 1) + 0 ≤ 601024; omega, by show (slots + 6) + 0 ≤ 7293034; omega⟩ (tb_8 186 rfl rfl) (tb_1 12 rfl rfl) (tb_8 183 rfl rfl) (tb_8 184 rfl rfl) (tb_8 185 rfl rfl) (show yX12_writeDuration.cls ≠ "java/lang/invoke/MethodHandle" ∧ yX12_writeDuration.cls ≠ "java/lang/invoke/VarHandle" ∧ (parseMethodDescriptor yX12_writeDuration.desc).map (fun d => d.parameters.length) = some 4 by decide +kernel) zs_blind (lw_ob12 hh1 C.hKa.1.1.1 I.hm11) (fun U hU hW => ⟨rfl, by rw [hU]; exact hh1.l0, zKb s U hW.alike (C.hKa.ext I.he).1.1, by rw [hU]; exact ⟨jr1.rs, kr1⟩⟩) hh1.2.2.1 hl2.1 (Nat.le_of_ble_eq_true rfl) (eL_law_21 (1506, .invokevirtual 184, 3) (List.mem_of_getElem? (i := 117) rfl)) (fun r3 s3 t3 lo3 g3 f3 l3 => ?_)
  obtain ⟨vv3, rb3, w3, T3, O3, q3, ⟨b3, qb3, eb3⟩, z3, kp3, hw3, kr3, sp3⟩ := f3
  cases q3
  cases qb3
  rw [g3] at kp3
  have hh3 : zh_ok D cA RTg ro s.heap.size s.heap t3.heap lo3 := ⟨z3.1, z3.2.1, l3, z3.2.2.2⟩
  obtain ⟨hkw, hLL, hzz, hrr⟩ := (spU_det (lgI y1 y2).toInt (lgI y3 y4).toInt (lgI y5 y6).toInt y7.toInt TT OO) _ _ _ _ _ _ _ _ spk sp3
  rw [← hLL, ← hzz] at kr3
  have jc9 := jc1.kept I.hx10 kp3 (by decide)
  have jr9 := jr1.kept I.hm11 kp3 (by decide)
  have kc9 := kc1.kept I.hx10 kp3 (by decide)
  have j3 : jJY D cA ro t3.heap x mm := ⟨_, _, jc9, jr9, hzp⟩
  have kk3 : jK D cA ro t3.heap x mm := ⟨_, _, kc9, kr3⟩
  have hoz2 := (kp3.2 o 42 0 1 1 _ I.ho42 rfl (by decide)).trans hoz
  have hH3 := hh3.2.1 b C.hbl
  refine W.eq (g2 := F0 m 1509 ls2 [.int b3]) rfl ?_
  refine lv_istore C.hx C.hb (eL_law_21 (1509, .istore 6, 2) (List.mem_of_getElem? (i := 118) rfl)) hl2 (by decide) rfl (fun ls4 (hl4 : lv_has ls4 8 [(6, .int b3), (5, .int k1), (4, .int iv), (3, .ref o), (2, .ref mm), (1, .ref x), (0, .ref b)]) => ?_)
  refine lv_goto C.hx C.hb (eL_law_21 (1511, .goto 284, 3) (List.mem_of_getElem? (i := 119) rfl)) (tgt := 1795) rfl ?_
  exact W.widen (k := cells + 6) (n := slots + 147) (by omega) (by omega) (K ro _ _ _ ⟨hh3, I.he, I.hx10, I.hm11, I.ho42, j3, kk3⟩ (lv_sub hl4 [2, 3, 4, 5, 6] rfl))
def tL_law_22 : List (Nat × Instr × Nat) := [(1514, .aload_n 1, 1), (1515, .aload_n 0, 1), (1516, .iload 4, 2), (1518, .iconst 1, 1), (1519, .iadd, 1), (1520, .iaload, 1), (1521, .aload_n 3, 1), (1522, .invokestatic 185, 3), (1525, .istore 5, 2), (1527, .aload_n 2, 1), (1528, .aload_n 0, 1), (1529, .iload 4, 2), (1531, .iconst 1, 1), (1532, .iadd, 1), (1533, .iaload, 1), (1534, .invokevirtual 187, 3), (1537, .istore 6, 2), (1539, .goto 256, 3)]
set_option maxRecDepth 100000 in
theorem eL_law_22 : ∀ x ∈ tL_law_22, decode cL_law x.1 = .ok x.2 := by decide +kernel
set_option maxRecDepth 100000 in
set_option maxHeartbeats 4000000 in
theorem lw_case_22 {p : Program} {l : Launch} {e : Env} {s : State} {m : MethodId} {below : List Frame} {meth : Method} {c : Code} {b L : Nat} {xs : Nat → Int32} {D : va_G} {cA : Nat → ClassId} {ro0 ro : Nat → Option Nat} {H : Heap} {locs : List Loc} {cells slots : Nat} {Q : State → Prop} {ls : Array Slot} {i x mm o : Nat} {iv : Int32} (C : lw_C p l s m meth c b L xs D cA ro0) (hi : i + 8 ≤ L) (hiv : iv.toInt = (i : Int)) (I : lw_I D cA ro0 s x mm o ro H locs) (hl : lv_has ls 8 [(4, .int iv), (3, .ref o), (2, .ref mm), (1, .ref x), (0, .ref b)]) (hc : cells + 6 ≤ 601024) (hs : slots + 147 ≤ 7293034) (K : ∀ (ro9 : Nat → Option Nat) (H9 : Heap) (lo9 : List Loc) (ls9 : Array Slot), lw_I D cA ro0 s x mm o ro9 H9 lo9 → lv_has ls9 8 [(4, .int iv), (3, .ref o), (2, .ref mm), (1, .ref x), (0, .ref b)] → W p l e room_1 s m #[Value.ref b] below meth c H9 lo9 (cells + 6) (slots + 147) Q (F0 m 1795 ls9 [])) : W p l e room_1 s m #[Value.ref b] below meth c H locs cells slots Q (F0 m 1514 ls []) := by
  have hL := C.hL
  have hH0 := I.hh.2.1 b C.hbl
  have hts0 : ∀ w ∈ Cond.initialized "MomentTextsLaw" :: gT, w.before #[Value.ref b] s = true := fun w hw => (List.mem_cons.mp hw).elim (fun g => by rw [g]; exact C.h2 _ (tb_1 0 rfl rfl)) (C.h2 w)
  generalize hy1 : xs (i + 1) = y1
  generalize hy2 : xs (i + 2) = y2
  generalize hy3 : xs (i + 3) = y3
  generalize hy4 : xs (i + 4) = y4
  generalize hy5 : xs (i + 5) = y5
  generalize hy6 : xs (i + 6) = y6
  generalize hy7 : xs (i + 7) = y7
  refine lv_aload_n C.hx C.hb (eL_law_22 (1514, .aload_n 1, 1) (List.mem_of_getElem? (i := 0) rfl)) rfl (lv_at hl 3 rfl) ?_
  refine lw_rd (k := 1) C hi hiv hH0 (lv_at hl 0 rfl) (lv_at hl 4 rfl) (by decide) rfl (eL_law_22 (1515, .aload_n 0, 1) (List.mem_of_getElem? (i := 1) rfl)) (eL_law_22 (1516, .iload 4, 2) (List.mem_of_getElem? (i := 2) rfl)) (eL_law_22 (1518, .iconst 1, 1) (List.mem_of_getElem? (i := 3) rfl)) (eL_law_22 (1519, .iadd, 1) (List.mem_of_getElem? (i := 4) rfl)) (eL_law_22 (1520, .iaload, 1) (List.mem_of_getElem? (i := 5) rfl)) hy1 ?_
  refine lv_aload_n C.hx C.hb (eL_law_22 (1521, .aload_n 3, 1) (List.mem_of_getElem? (i := 6) rfl)) rfl (lv_at hl 1 rfl) ?_
  have hjj := I.hj
  obtain ⟨LL, zc, jc, jr, hzp⟩ := hjj
  have hkk := I.hk
  obtain ⟨TT, OO, kc, kr⟩ := hkk
  refine zw_row (As := [.ref x, .int y1, .ref o]) (st := []) (Ts := gT) C.hx C.hb C.hml C.hown C.h2 (fun _ h => h) (wK_out l C.hst D cA ro s.heap.size s.heap x y1 o LL (zc.1.length : Int) TT OO I.hx10 I.ho42) ⟨rfl, rfl⟩ ⟨by decide, by decide⟩ ⟨by show cells + 1 ≤ 601024; omega, by show slots + 6 ≤ 7293034; omega⟩ (tb_6 64 rfl rfl) (tb_1 0 rfl rfl) (tb_6 62 rfl rfl) (tb_6 63 rfl rfl) (show yL_out.cls ≠ "java/lang/invoke/MethodHandle" ∧ yL_out.cls ≠ "java/lang/invoke/VarHandle" ∧ (parseMethodDescriptor yL_out.desc).map (fun d => d.parameters.length) = some 3 by decide +kernel) zs_blindY (fun U hU hW => ⟨rfl, by rw [hU]; exact I.hh.l0, (C.hKa.ext I.he).warm hW, (zBQ_of C.hBM).alike hW.alike, by rw [hU]; exact ⟨jc.cs, kc⟩⟩) I.hh.2.2.1 hl.1 (Nat.le_of_ble_eq_true rfl) (eL_law_22 (1522, .invokestatic 185, 3) (List.mem_of_getElem? (i := 7) rfl)) (fun r1 s1 t1 lo1 g1 f1 l1 => ?_)
  obtain ⟨k1, T1, O1, zz, rr, q1, z1, kp1, kc1, hoz, hor, hday⟩ := f1
  cases q1
  rw [g1] at kp1
  have hh1 : zh_ok D cA RTg ro s.heap.size s.heap t1.heap lo1 := ⟨z1.1, z1.2.1, l1, z1.2.2.2⟩
  have jc1 := jc.kept I.hx10 kp1 (by decide)
  have jr1 := jr.kept I.hm11 kp1 (by decide)
  have kr1 := kr.kept I.hm11 kp1 (by decide)
  obtain ⟨rk, spk, hrk⟩ : ∃ r : Int, spO y1.toInt TT OO k1.toInt r T1 O1 ∧ (k1.toInt = 0 → r = rr.toInt) := by
    rcases hday with ⟨g1, g2⟩ | ⟨g1, r, g2⟩
    · exact ⟨rr.toInt, by rw [g1]; exact g2, fun _ => rfl⟩
    · exact ⟨r, g2, fun g => absurd g g1⟩
  have hH1 := hh1.2.1 b C.hbl
  refine W.eq (g2 := F0 m 1525 ls [.int k1]) rfl ?_
  refine lv_istore C.hx C.hb (eL_law_22 (1525, .istore 5, 2) (List.mem_of_getElem? (i := 8) rfl)) hl (by decide) rfl (fun ls2 (hl2 : lv_has ls2 8 [(5, .int k1), (4, .int iv), (3, .ref o), (2, .ref mm), (1, .ref x), (0, .ref b)]) => ?_)
  refine lv_aload_n C.hx C.hb (eL_law_22 (1527, .aload_n 2, 1) (List.mem_of_getElem? (i := 9) rfl)) rfl (lv_at hl2 3 rfl) ?_
  refine lw_rd (k := 1) C hi hiv hH1 (lv_at hl2 1 rfl) (lv_at hl2 5 rfl) (by decide) rfl (eL_law_22 (1528, .aload_n 0, 1) (List.mem_of_getElem? (i := 10) rfl)) (eL_law_22 (1529, .iload 4, 2) (List.mem_of_getElem? (i := 11) rfl)) (eL_law_22 (1531, .iconst 1, 1) (List.mem_of_getElem? (i := 12) rfl)) (eL_law_22 (1532, .iadd, 1) (List.mem_of_getElem? (i := 13) rfl)) (eL_law_22 (1533, .iaload, 1) (List.mem_of_getElem? (i := 14) rfl)) hy1 ?_
  refine tz_rowV (As := [.int y1]) (st := []) (b := mm) (C := RX12) (Ts := gT) C.hx C.hb C.hml C.hown C.h2 (fun _ h => h) (hX12_out l D cA ro s.heap.size s.heap mm y1 LL (zc.1.length : Int) TT OO I.hm11) ⟨rfl, rfl⟩ ⟨by decide, by decide⟩ ⟨by show (cells + 1) + 0 ≤ 601024; omega, by show (slots + 6) + 0 ≤ 7293034; omega⟩ (tb_8 199 rfl rfl) (tb_1 12 rfl rfl) (tb_8 196 rfl rfl) (tb_8 197 rfl rfl) (tb_8 198 rfl rfl) (show yX12_out.cls ≠ "java/lang/invoke/MethodHandle" ∧ yX12_out.cls ≠ "java/lang/invoke/VarHandle" ∧ (parseMethodDescriptor yX12_out.desc).map (fun d => d.parameters.length) = some 1 by decide +kernel) zs_blind (lw_ob12 hh1 C.hKa.1.1.1 I.hm11) (fun U hU hW => ⟨rfl, by rw [hU]; exact hh1.l0, zKb s U hW.alike (C.hKa.ext I.he).1.1, by rw [hU]; exact ⟨jr1.rs, kr1⟩⟩) hh1.2.2.1 hl2.1 (Nat.le_of_ble_eq_true rfl) (eL_law_22 (1534, .invokevirtual 187, 3) (List.mem_of_getElem? (i := 15) rfl)) (fun r3 s3 t3 lo3 g3 f3 l3 => ?_)
  obtain ⟨vv3, rb3, w3, T3, O3, q3, ⟨b3, qb3, eb3⟩, z3, kp3, hw3, kr3, sp3⟩ := f3
  cases q3
  cases qb3
  rw [g3] at kp3
  have hh3 : zh_ok D cA RTg ro s.heap.size s.heap t3.heap lo3 := ⟨z3.1, z3.2.1, l3, z3.2.2.2⟩
  obtain ⟨hkw, hLL, hzz, hrr⟩ := (spO_det y1.toInt TT OO) _ _ _ _ _ _ _ _ spk sp3
  rw [← hLL, ← hzz] at kr3
  have jc9 := jc1.kept I.hx10 kp3 (by decide)
  have jr9 := jr1.kept I.hm11 kp3 (by decide)
  have kc9 := kc1.kept I.hx10 kp3 (by decide)
  have j3 : jJY D cA ro t3.heap x mm := ⟨_, _, jc9, jr9, hzp⟩
  have kk3 : jK D cA ro t3.heap x mm := ⟨_, _, kc9, kr3⟩
  have hoz2 := (kp3.2 o 42 0 1 1 _ I.ho42 rfl (by decide)).trans hoz
  have hH3 := hh3.2.1 b C.hbl
  refine W.eq (g2 := F0 m 1537 ls2 [.int b3]) rfl ?_
  refine lv_istore C.hx C.hb (eL_law_22 (1537, .istore 6, 2) (List.mem_of_getElem? (i := 16) rfl)) hl2 (by decide) rfl (fun ls4 (hl4 : lv_has ls4 8 [(6, .int b3), (5, .int k1), (4, .int iv), (3, .ref o), (2, .ref mm), (1, .ref x), (0, .ref b)]) => ?_)
  refine lv_goto C.hx C.hb (eL_law_22 (1539, .goto 256, 3) (List.mem_of_getElem? (i := 17) rfl)) (tgt := 1795) rfl ?_
  exact W.widen (k := cells + 6) (n := slots + 147) (by omega) (by omega) (K ro _ _ _ ⟨hh3, I.he, I.hx10, I.hm11, I.ho42, j3, kk3⟩ (lv_sub hl4 [2, 3, 4, 5, 6] rfl))
def tL_law_23 : List (Nat × Instr × Nat) := [(1542, .aload_n 1, 1), (1543, .aload_n 0, 1), (1544, .iload 4, 2), (1546, .iconst 1, 1), (1547, .iadd, 1), (1548, .iaload, 1), (1549, .aload_n 0, 1), (1550, .iload 4, 2), (1552, .iconst 2, 1), (1553, .iadd, 1), (1554, .iaload, 1), (1555, .i2l, 1), (1556, .bipush 32, 2), (1558, .lshl, 1), (1559, .aload_n 0, 1), (1560, .iload 4, 2), (1562, .iconst 3, 1), (1563, .iadd, 1), (1564, .iaload, 1), (1565, .i2l, 1), (1566, .ldc2_w 108, 3), (1569, .land, 1), (1570, .lor, 1), (1571, .aload_n 0, 1), (1572, .iload 4, 2), (1574, .iconst 4, 1), (1575, .iadd, 1), (1576, .iaload, 1), (1577, .aload_n 0, 1), (1578, .iload 4, 2), (1580, .iconst 5, 1), (1581, .iadd, 1), (1582, .iaload, 1), (1583, .aload_n 3, 1), (1584, .invokestatic 188, 3), (1587, .istore 5, 2), (1589, .aload_n 2, 1), (1590, .aload_n 0, 1), (1591, .iload 4, 2), (1593, .iconst 1, 1), (1594, .iadd, 1), (1595, .iaload, 1), (1596, .aload_n 0, 1), (1597, .iload 4, 2), (1599, .iconst 2, 1), (1600, .iadd, 1), (1601, .iaload, 1), (1602, .i2l, 1), (1603, .bipush 32, 2), (1605, .lshl, 1), (1606, .aload_n 0, 1), (1607, .iload 4, 2), (1609, .iconst 3, 1), (1610, .iadd, 1), (1611, .iaload, 1), (1612, .i2l, 1), (1613, .ldc2_w 108, 3), (1616, .land, 1), (1617, .lor, 1), (1618, .aload_n 0, 1), (1619, .iload 4, 2), (1621, .iconst 4, 1), (1622, .iadd, 1), (1623, .iaload, 1), (1624, .aload_n 0, 1), (1625, .iload 4, 2), (1627, .iconst 5, 1), (1628, .iadd, 1), (1629, .iaload, 1), (1630, .invokevirtual 190, 3), (1633, .lstore 6, 2), (1635, .goto 160, 3)]
set_option maxRecDepth 100000 in
theorem eL_law_23 : ∀ x ∈ tL_law_23, decode cL_law x.1 = .ok x.2 := by decide +kernel
set_option maxRecDepth 100000 in
set_option maxHeartbeats 4000000 in
theorem lw_case_23 {p : Program} {l : Launch} {e : Env} {s : State} {m : MethodId} {below : List Frame} {meth : Method} {c : Code} {b L : Nat} {xs : Nat → Int32} {D : va_G} {cA : Nat → ClassId} {ro0 ro : Nat → Option Nat} {H : Heap} {locs : List Loc} {cells slots : Nat} {Q : State → Prop} {ls : Array Slot} {i x mm o : Nat} {iv : Int32} (C : lw_C p l s m meth c b L xs D cA ro0) (hi : i + 8 ≤ L) (hiv : iv.toInt = (i : Int)) (I : lw_I D cA ro0 s x mm o ro H locs) (hl : lv_has ls 8 [(4, .int iv), (3, .ref o), (2, .ref mm), (1, .ref x), (0, .ref b)]) (hc : cells + 6 ≤ 601024) (hs : slots + 147 ≤ 7293034) (K : ∀ (ro9 : Nat → Option Nat) (H9 : Heap) (lo9 : List Loc) (ls9 : Array Slot), lw_I D cA ro0 s x mm o ro9 H9 lo9 → lv_has ls9 8 [(4, .int iv), (3, .ref o), (2, .ref mm), (1, .ref x), (0, .ref b)] → W p l e room_1 s m #[Value.ref b] below meth c H9 lo9 (cells + 6) (slots + 147) Q (F0 m 1795 ls9 [])) : W p l e room_1 s m #[Value.ref b] below meth c H locs cells slots Q (F0 m 1542 ls []) := by
  have hL := C.hL
  have hH0 := I.hh.2.1 b C.hbl
  have hts0 : ∀ w ∈ Cond.initialized "MomentTextsLaw" :: gT, w.before #[Value.ref b] s = true := fun w hw => (List.mem_cons.mp hw).elim (fun g => by rw [g]; exact C.h2 _ (tb_1 0 rfl rfl)) (C.h2 w)
  generalize hy1 : xs (i + 1) = y1
  generalize hy2 : xs (i + 2) = y2
  generalize hy3 : xs (i + 3) = y3
  generalize hy4 : xs (i + 4) = y4
  generalize hy5 : xs (i + 5) = y5
  generalize hy6 : xs (i + 6) = y6
  generalize hy7 : xs (i + 7) = y7
  refine lv_aload_n C.hx C.hb (eL_law_23 (1542, .aload_n 1, 1) (List.mem_of_getElem? (i := 0) rfl)) rfl (lv_at hl 3 rfl) ?_
  refine lw_rd (k := 1) C hi hiv hH0 (lv_at hl 0 rfl) (lv_at hl 4 rfl) (by decide) rfl (eL_law_23 (1543, .aload_n 0, 1) (List.mem_of_getElem? (i := 1) rfl)) (eL_law_23 (1544, .iload 4, 2) (List.mem_of_getElem? (i := 2) rfl)) (eL_law_23 (1546, .iconst 1, 1) (List.mem_of_getElem? (i := 3) rfl)) (eL_law_23 (1547, .iadd, 1) (List.mem_of_getElem? (i := 4) rfl)) (eL_law_23 (1548, .iaload, 1) (List.mem_of_getElem? (i := 5) rfl)) hy1 ?_
  refine lw_rd (k := 2) C hi hiv hH0 (lv_at hl 0 rfl) (lv_at hl 4 rfl) (by decide) rfl (eL_law_23 (1549, .aload_n 0, 1) (List.mem_of_getElem? (i := 6) rfl)) (eL_law_23 (1550, .iload 4, 2) (List.mem_of_getElem? (i := 7) rfl)) (eL_law_23 (1552, .iconst 2, 1) (List.mem_of_getElem? (i := 8) rfl)) (eL_law_23 (1553, .iadd, 1) (List.mem_of_getElem? (i := 9) rfl)) (eL_law_23 (1554, .iaload, 1) (List.mem_of_getElem? (i := 10) rfl)) hy2 ?_
  refine lv_i2l C.hx C.hb (eL_law_23 (1555, .i2l, 1) (List.mem_of_getElem? (i := 11) rfl)) rfl ?_
  refine lv_bipush C.hx C.hb (eL_law_23 (1556, .bipush 32, 2) (List.mem_of_getElem? (i := 12) rfl)) rfl ?_
  refine lv_lshl C.hx C.hb (eL_law_23 (1558, .lshl, 1) (List.mem_of_getElem? (i := 13) rfl)) rfl ?_
  refine lw_rd (k := 3) C hi hiv hH0 (lv_at hl 0 rfl) (lv_at hl 4 rfl) (by decide) rfl (eL_law_23 (1559, .aload_n 0, 1) (List.mem_of_getElem? (i := 14) rfl)) (eL_law_23 (1560, .iload 4, 2) (List.mem_of_getElem? (i := 15) rfl)) (eL_law_23 (1562, .iconst 3, 1) (List.mem_of_getElem? (i := 16) rfl)) (eL_law_23 (1563, .iadd, 1) (List.mem_of_getElem? (i := 17) rfl)) (eL_law_23 (1564, .iaload, 1) (List.mem_of_getElem? (i := 18) rfl)) hy3 ?_
  refine lv_i2l C.hx C.hb (eL_law_23 (1565, .i2l, 1) (List.mem_of_getElem? (i := 19) rfl)) rfl ?_
  refine lv_ldc2 C.hx C.hb C.hown (C.h2 _ (tb_8 200 rfl rfl)) (eL_law_23 (1566, .ldc2_w 108, 3) (List.mem_of_getElem? (i := 20) rfl)) ?_
  refine lv_land C.hx C.hb (eL_law_23 (1569, .land, 1) (List.mem_of_getElem? (i := 21) rfl)) ?_
  refine lv_lor C.hx C.hb (eL_law_23 (1570, .lor, 1) (List.mem_of_getElem? (i := 22) rfl)) ?_
  refine W.eq (g2 := F0 m 1571 ls [.long (lgI y2 y3), .int y1, .ref x]) rfl ?_
  refine lw_rd (k := 4) C hi hiv hH0 (lv_at hl 0 rfl) (lv_at hl 4 rfl) (by decide) rfl (eL_law_23 (1571, .aload_n 0, 1) (List.mem_of_getElem? (i := 23) rfl)) (eL_law_23 (1572, .iload 4, 2) (List.mem_of_getElem? (i := 24) rfl)) (eL_law_23 (1574, .iconst 4, 1) (List.mem_of_getElem? (i := 25) rfl)) (eL_law_23 (1575, .iadd, 1) (List.mem_of_getElem? (i := 26) rfl)) (eL_law_23 (1576, .iaload, 1) (List.mem_of_getElem? (i := 27) rfl)) hy4 ?_
  refine lw_rd (k := 5) C hi hiv hH0 (lv_at hl 0 rfl) (lv_at hl 4 rfl) (by decide) rfl (eL_law_23 (1577, .aload_n 0, 1) (List.mem_of_getElem? (i := 28) rfl)) (eL_law_23 (1578, .iload 4, 2) (List.mem_of_getElem? (i := 29) rfl)) (eL_law_23 (1580, .iconst 5, 1) (List.mem_of_getElem? (i := 30) rfl)) (eL_law_23 (1581, .iadd, 1) (List.mem_of_getElem? (i := 31) rfl)) (eL_law_23 (1582, .iaload, 1) (List.mem_of_getElem? (i := 32) rfl)) hy5 ?_
  refine lv_aload_n C.hx C.hb (eL_law_23 (1583, .aload_n 3, 1) (List.mem_of_getElem? (i := 33) rfl)) rfl (lv_at hl 1 rfl) ?_
  have hjj := I.hj
  obtain ⟨LL, zc, jc, jr, hzp⟩ := hjj
  have hkk := I.hk
  obtain ⟨TT, OO, kc, kr⟩ := hkk
  refine zw_row (As := [.ref x, .int y1, .long (lgI y2 y3), .int y4, .int y5, .ref o]) (st := []) (Ts := gT) C.hx C.hb C.hml C.hown C.h2 (fun _ h => h) (wY_plus l C.hst D cA ro s.heap.size s.heap x y1 (lgI y2 y3) y4 y5 o LL zc I.hx10 I.ho42 hzp.1) ⟨rfl, rfl⟩ ⟨by decide, by decide⟩ ⟨by show cells + 1 ≤ 601024; omega, by show slots + 6 ≤ 7293034; omega⟩ (tb_6 88 rfl rfl) (tb_1 0 rfl rfl) (tb_6 86 rfl rfl) (tb_6 87 rfl rfl) (show yL_plus.cls ≠ "java/lang/invoke/MethodHandle" ∧ yL_plus.cls ≠ "java/lang/invoke/VarHandle" ∧ (parseMethodDescriptor yL_plus.desc).map (fun d => d.parameters.length) = some 6 by decide +kernel) zs_blindY (fun U hU hW => ⟨rfl, by rw [hU]; exact I.hh.l0, (C.hKa.ext I.he).warm hW, (zBQ_of C.hBM).alike hW.alike, by rw [hU]; exact jc⟩) I.hh.2.2.1 hl.1 (Nat.le_of_ble_eq_true rfl) (eL_law_23 (1584, .invokestatic 188, 3) (List.mem_of_getElem? (i := 34) rfl)) (fun r1 s1 t1 lo1 g1 f1 l1 => ?_)
  obtain ⟨k1, ro1, L1, zc1, zz, rr, q1, he1, z1, kp1, jc1, hoz, hor, hday⟩ := f1
  cases q1
  rw [g1] at kp1
  have hh1 : zh_ok D cA RTg ro1 s.heap.size s.heap t1.heap lo1 := ⟨z1.1, z1.2.1, l1, z1.2.2.2⟩
  have jr1 := (jr.kept I.hm11 kp1 (by decide)).ext he1
  have kk1 := (I.hk.kept I.hx10 I.hm11 kp1 (by decide) (by decide)).ext he1
  have hsm : L1 = LL ∧ zc1 = zc := by
    rcases hday with ⟨-, g2⟩ | ⟨-, r, g2⟩
    · exact ⟨g2.1, g2.2.1⟩
    · exact ⟨g2.1, g2.2.1⟩
  rw [hsm.1, hsm.2] at jc1
  have j1 : jJY D cA ro1 t1.heap x mm := ⟨LL, zc, jc1, jr1, hzp⟩
  have hx10_1 := he1 _ _ I.hx10
  have hm11_1 := he1 _ _ I.hm11
  have ho42_1 := he1 _ _ I.ho42
  have he_1 := fun q r g => he1 q r (I.he q r g)
  have hH1 := hh1.2.1 b C.hbl
  refine W.eq (g2 := F0 m 1587 ls [.int k1]) rfl ?_
  refine lv_istore C.hx C.hb (eL_law_23 (1587, .istore 5, 2) (List.mem_of_getElem? (i := 35) rfl)) hl (by decide) rfl (fun ls2 (hl2 : lv_has ls2 8 [(5, .int k1), (4, .int iv), (3, .ref o), (2, .ref mm), (1, .ref x), (0, .ref b)]) => ?_)
  refine lv_aload_n C.hx C.hb (eL_law_23 (1589, .aload_n 2, 1) (List.mem_of_getElem? (i := 36) rfl)) rfl (lv_at hl2 3 rfl) ?_
  refine lw_rd (k := 1) C hi hiv hH1 (lv_at hl2 1 rfl) (lv_at hl2 5 rfl) (by decide) rfl (eL_law_23 (1590, .aload_n 0, 1) (List.mem_of_getElem? (i := 37) rfl)) (eL_law_23 (1591, .iload 4, 2) (List.mem_of_getElem? (i := 38) rfl)) (eL_law_23 (1593, .iconst 1, 1) (List.mem_of_getElem? (i := 39) rfl)) (eL_law_23 (1594, .iadd, 1) (List.mem_of_getElem? (i := 40) rfl)) (eL_law_23 (1595, .iaload, 1) (List.mem_of_getElem? (i := 41) rfl)) hy1 ?_
  refine lw_rd (k := 2) C hi hiv hH1 (lv_at hl2 1 rfl) (lv_at hl2 5 rfl) (by decide) rfl (eL_law_23 (1596, .aload_n 0, 1) (List.mem_of_getElem? (i := 42) rfl)) (eL_law_23 (1597, .iload 4, 2) (List.mem_of_getElem? (i := 43) rfl)) (eL_law_23 (1599, .iconst 2, 1) (List.mem_of_getElem? (i := 44) rfl)) (eL_law_23 (1600, .iadd, 1) (List.mem_of_getElem? (i := 45) rfl)) (eL_law_23 (1601, .iaload, 1) (List.mem_of_getElem? (i := 46) rfl)) hy2 ?_
  refine lv_i2l C.hx C.hb (eL_law_23 (1602, .i2l, 1) (List.mem_of_getElem? (i := 47) rfl)) rfl ?_
  refine lv_bipush C.hx C.hb (eL_law_23 (1603, .bipush 32, 2) (List.mem_of_getElem? (i := 48) rfl)) rfl ?_
  refine lv_lshl C.hx C.hb (eL_law_23 (1605, .lshl, 1) (List.mem_of_getElem? (i := 49) rfl)) rfl ?_
  refine lw_rd (k := 3) C hi hiv hH1 (lv_at hl2 1 rfl) (lv_at hl2 5 rfl) (by decide) rfl (eL_law_23 (1606, .aload_n 0, 1) (List.mem_of_getElem? (i := 50) rfl)) (eL_law_23 (1607, .iload 4, 2) (List.mem_of_getElem? (i := 51) rfl)) (eL_law_23 (1609, .iconst 3, 1) (List.mem_of_getElem? (i := 52) rfl)) (eL_law_23 (1610, .iadd, 1) (List.mem_of_getElem? (i := 53) rfl)) (eL_law_23 (1611, .iaload, 1) (List.mem_of_getElem? (i := 54) rfl)) hy3 ?_
  refine lv_i2l C.hx C.hb (eL_law_23 (1612, .i2l, 1) (List.mem_of_getElem? (i := 55) rfl)) rfl ?_
  refine lv_ldc2 C.hx C.hb C.hown (C.h2 _ (tb_8 200 rfl rfl)) (eL_law_23 (1613, .ldc2_w 108, 3) (List.mem_of_getElem? (i := 56) rfl)) ?_
  refine lv_land C.hx C.hb (eL_law_23 (1616, .land, 1) (List.mem_of_getElem? (i := 57) rfl)) ?_
  refine lv_lor C.hx C.hb (eL_law_23 (1617, .lor, 1) (List.mem_of_getElem? (i := 58) rfl)) ?_
  refine W.eq (g2 := F0 m 1618 ls2 [.long (lgI y2 y3), .int y1, .ref mm]) rfl ?_
  refine lw_rd (k := 4) C hi hiv hH1 (lv_at hl2 1 rfl) (lv_at hl2 5 rfl) (by decide) rfl (eL_law_23 (1618, .aload_n 0, 1) (List.mem_of_getElem? (i := 59) rfl)) (eL_law_23 (1619, .iload 4, 2) (List.mem_of_getElem? (i := 60) rfl)) (eL_law_23 (1621, .iconst 4, 1) (List.mem_of_getElem? (i := 61) rfl)) (eL_law_23 (1622, .iadd, 1) (List.mem_of_getElem? (i := 62) rfl)) (eL_law_23 (1623, .iaload, 1) (List.mem_of_getElem? (i := 63) rfl)) hy4 ?_
  refine lw_rd (k := 5) C hi hiv hH1 (lv_at hl2 1 rfl) (lv_at hl2 5 rfl) (by decide) rfl (eL_law_23 (1624, .aload_n 0, 1) (List.mem_of_getElem? (i := 64) rfl)) (eL_law_23 (1625, .iload 4, 2) (List.mem_of_getElem? (i := 65) rfl)) (eL_law_23 (1627, .iconst 5, 1) (List.mem_of_getElem? (i := 66) rfl)) (eL_law_23 (1628, .iadd, 1) (List.mem_of_getElem? (i := 67) rfl)) (eL_law_23 (1629, .iaload, 1) (List.mem_of_getElem? (i := 68) rfl)) hy5 ?_
  refine zr_V (idx := 190) (r := 11) (ci := 11) (n0 := 0) (fs := fsX12) (lo := 0) (hi0 := 0) (ts := [(0, (-2147483648), 2147483647), (1, (-9223372036854775808), 9223372036854775807), (0, (-2147483648), 2147483647), (0, (-2147483648), 2147483647)]) C.hx C.hb C.hml C.hown hts0 (C.hKa.ext he_1).1.1 zKb (mX12_plus l D cA ro1 s.heap.size s.heap) ⟨rfl, rfl⟩ ⟨by decide, by decide⟩ ⟨by show (cells + 1) ≤ 601024; omega, by show (slots + 6) ≤ 7293034; omega⟩ (tb_7 215 rfl rfl) (tb_1 12 rfl rfl) (tb_7 212 rfl rfl) (tb_7 213 rfl rfl) (tb_7 214 rfl rfl) (by decide +kernel) rfl rfl (zCX12 C.hKa.1.1.1) rfl 1630 190 (.invokevirtual 190) (Or.inr (Or.inl ⟨rfl, rfl⟩)) (eL_law_23 (1630, .invokevirtual 190, 3) (List.mem_of_getElem? (i := 69) rfl)) _ _ _ [] [.ref mm, .int y1, .long (lgI y2 y3), .int y4, .int y5] hl2.1 (Nat.le_of_ble_eq_true rfl) hh1 ⟨⟨Or.inr ⟨_, rfl, hm11_1⟩, tz_i (zn_i32 _).1 (zn_i32 _).2, tz_l (zn_i64 _).1 (zn_i64 _).2, tz_i (zn_i32 _).1 (zn_i32 _).2, tz_i (zn_i32 _).1 (zn_i32 _).2, trivial⟩, fun e he => (by cases he), fun f hf => (by cases hf)⟩ (fun H3 lo3 r3 hh3 hk3 hal3 => ?_)
  obtain ⟨w3, rfl, v3, rfl, -, -⟩ := zc_one (t := (1, (-9223372036854775808), 9223372036854775807)) (L := []) hal3
  have hH3 := hh3.2.1 b C.hbl
  have j3 := j1.kept hx10_1 hm11_1 hk3 (by decide) (by decide)
  have kk3 := (kk1.kept hx10_1 hm11_1 hk3 (by decide) (by decide))
  refine W.eq (g2 := F0 m 1633 ls2 [.long v3]) rfl ?_
  refine lv_lstore C.hx C.hb (eL_law_23 (1633, .lstore 6, 2) (List.mem_of_getElem? (i := 70) rfl)) hl2 (by decide) rfl (fun ls4 (hl4 : lv_has ls4 8 [(6, .long v3), (5, .int k1), (4, .int iv), (3, .ref o), (2, .ref mm), (1, .ref x), (0, .ref b)]) => ?_)
  refine lv_goto C.hx C.hb (eL_law_23 (1635, .goto 160, 3) (List.mem_of_getElem? (i := 71) rfl)) (tgt := 1795) rfl ?_
  exact W.widen (k := cells + 6) (n := slots + 147) (by omega) (by omega) (K ro1 _ _ _ ⟨hh3, he_1, hx10_1, hm11_1, ho42_1, j3, kk3⟩ (lv_sub hl4 [2, 3, 4, 5, 6] rfl))
def tL_law_24 : List (Nat × Instr × Nat) := [(1638, .aload_n 1, 1), (1639, .aload_n 0, 1), (1640, .iload 4, 2), (1642, .iconst 1, 1), (1643, .iadd, 1), (1644, .iaload, 1), (1645, .aload_n 0, 1), (1646, .iload 4, 2), (1648, .iconst 2, 1), (1649, .iadd, 1), (1650, .iaload, 1), (1651, .i2l, 1), (1652, .bipush 32, 2), (1654, .lshl, 1), (1655, .aload_n 0, 1), (1656, .iload 4, 2), (1658, .iconst 3, 1), (1659, .iadd, 1), (1660, .iaload, 1), (1661, .i2l, 1), (1662, .ldc2_w 108, 3), (1665, .land, 1), (1666, .lor, 1), (1667, .aload_n 0, 1), (1668, .iload 4, 2), (1670, .iconst 4, 1), (1671, .iadd, 1), (1672, .iaload, 1), (1673, .i2l, 1), (1674, .bipush 32, 2), (1676, .lshl, 1), (1677, .aload_n 0, 1), (1678, .iload 4, 2), (1680, .iconst 5, 1), (1681, .iadd, 1), (1682, .iaload, 1), (1683, .i2l, 1), (1684, .ldc2_w 108, 3), (1687, .land, 1), (1688, .lor, 1), (1689, .aload_n 0, 1), (1690, .iload 4, 2), (1692, .bipush 6, 2), (1694, .iadd, 1), (1695, .iaload, 1), (1696, .aload_n 3, 1), (1697, .invokestatic 191, 3), (1700, .istore 5, 2), (1702, .aload_n 2, 1), (1703, .aload_n 0, 1), (1704, .iload 4, 2), (1706, .iconst 1, 1), (1707, .iadd, 1), (1708, .iaload, 1), (1709, .aload_n 0, 1), (1710, .iload 4, 2), (1712, .iconst 2, 1), (1713, .iadd, 1), (1714, .iaload, 1), (1715, .i2l, 1), (1716, .bipush 32, 2), (1718, .lshl, 1), (1719, .aload_n 0, 1), (1720, .iload 4, 2), (1722, .iconst 3, 1), (1723, .iadd, 1), (1724, .iaload, 1), (1725, .i2l, 1), (1726, .ldc2_w 108, 3), (1729, .land, 1), (1730, .lor, 1), (1731, .aload_n 0, 1), (1732, .iload 4, 2), (1734, .iconst 4, 1), (1735, .iadd, 1), (1736, .iaload, 1), (1737, .i2l, 1), (1738, .bipush 32, 2), (1740, .lshl, 1), (1741, .aload_n 0, 1), (1742, .iload 4, 2), (1744, .iconst 5, 1), (1745, .iadd, 1), (1746, .iaload, 1), (1747, .i2l, 1), (1748, .ldc2_w 108, 3), (1751, .land, 1), (1752, .lor, 1), (1753, .aload_n 0, 1), (1754, .iload 4, 2), (1756, .bipush 6, 2), (1758, .iadd, 1), (1759, .iaload, 1), (1760, .invokevirtual 194, 3), (1763, .lstore 6, 2), (1765, .aload_n 2, 1), (1766, .invokevirtual 195, 3), (1769, .iload 5, 2), (1771, .if_icmp .eq 5, 3), (1774, .iconst 0, 1), (1775, .ireturn, 1), (1776, .iload 5, 2), (1778, .ifCond .ne 14, 3), (1781, .aload_n 3, 1), (1782, .iconst 0, 1), (1783, .laload, 1), (1784, .lload 6, 2), (1786, .lcmp, 1), (1787, .ifCond .eq 5, 3), (1790, .iconst 0, 1), (1791, .ireturn, 1), (1792, .goto 3, 3)]
set_option maxRecDepth 100000 in
theorem eL_law_24 : ∀ x ∈ tL_law_24, decode cL_law x.1 = .ok x.2 := by decide +kernel
set_option maxRecDepth 100000 in
set_option maxHeartbeats 4000000 in
theorem lw_case_24 {p : Program} {l : Launch} {e : Env} {s : State} {m : MethodId} {below : List Frame} {meth : Method} {c : Code} {b L : Nat} {xs : Nat → Int32} {D : va_G} {cA : Nat → ClassId} {ro0 ro : Nat → Option Nat} {H : Heap} {locs : List Loc} {cells slots : Nat} {Q : State → Prop} {ls : Array Slot} {i x mm o : Nat} {iv : Int32} (C : lw_C p l s m meth c b L xs D cA ro0) (hi : i + 8 ≤ L) (hiv : iv.toInt = (i : Int)) (I : lw_I D cA ro0 s x mm o ro H locs) (hl : lv_has ls 8 [(4, .int iv), (3, .ref o), (2, .ref mm), (1, .ref x), (0, .ref b)]) (hc : cells + 6 ≤ 601024) (hs : slots + 147 ≤ 7293034) (K : ∀ (ro9 : Nat → Option Nat) (H9 : Heap) (lo9 : List Loc) (ls9 : Array Slot), lw_I D cA ro0 s x mm o ro9 H9 lo9 → lv_has ls9 8 [(4, .int iv), (3, .ref o), (2, .ref mm), (1, .ref x), (0, .ref b)] → W p l e room_1 s m #[Value.ref b] below meth c H9 lo9 (cells + 6) (slots + 147) Q (F0 m 1795 ls9 [])) : W p l e room_1 s m #[Value.ref b] below meth c H locs cells slots Q (F0 m 1638 ls []) := by
  have hL := C.hL
  have hH0 := I.hh.2.1 b C.hbl
  have hts0 : ∀ w ∈ Cond.initialized "MomentTextsLaw" :: gT, w.before #[Value.ref b] s = true := fun w hw => (List.mem_cons.mp hw).elim (fun g => by rw [g]; exact C.h2 _ (tb_1 0 rfl rfl)) (C.h2 w)
  generalize hy1 : xs (i + 1) = y1
  generalize hy2 : xs (i + 2) = y2
  generalize hy3 : xs (i + 3) = y3
  generalize hy4 : xs (i + 4) = y4
  generalize hy5 : xs (i + 5) = y5
  generalize hy6 : xs (i + 6) = y6
  generalize hy7 : xs (i + 7) = y7
  refine lv_aload_n C.hx C.hb (eL_law_24 (1638, .aload_n 1, 1) (List.mem_of_getElem? (i := 0) rfl)) rfl (lv_at hl 3 rfl) ?_
  refine lw_rd (k := 1) C hi hiv hH0 (lv_at hl 0 rfl) (lv_at hl 4 rfl) (by decide) rfl (eL_law_24 (1639, .aload_n 0, 1) (List.mem_of_getElem? (i := 1) rfl)) (eL_law_24 (1640, .iload 4, 2) (List.mem_of_getElem? (i := 2) rfl)) (eL_law_24 (1642, .iconst 1, 1) (List.mem_of_getElem? (i := 3) rfl)) (eL_law_24 (1643, .iadd, 1) (List.mem_of_getElem? (i := 4) rfl)) (eL_law_24 (1644, .iaload, 1) (List.mem_of_getElem? (i := 5) rfl)) hy1 ?_
  refine lw_rd (k := 2) C hi hiv hH0 (lv_at hl 0 rfl) (lv_at hl 4 rfl) (by decide) rfl (eL_law_24 (1645, .aload_n 0, 1) (List.mem_of_getElem? (i := 6) rfl)) (eL_law_24 (1646, .iload 4, 2) (List.mem_of_getElem? (i := 7) rfl)) (eL_law_24 (1648, .iconst 2, 1) (List.mem_of_getElem? (i := 8) rfl)) (eL_law_24 (1649, .iadd, 1) (List.mem_of_getElem? (i := 9) rfl)) (eL_law_24 (1650, .iaload, 1) (List.mem_of_getElem? (i := 10) rfl)) hy2 ?_
  refine lv_i2l C.hx C.hb (eL_law_24 (1651, .i2l, 1) (List.mem_of_getElem? (i := 11) rfl)) rfl ?_
  refine lv_bipush C.hx C.hb (eL_law_24 (1652, .bipush 32, 2) (List.mem_of_getElem? (i := 12) rfl)) rfl ?_
  refine lv_lshl C.hx C.hb (eL_law_24 (1654, .lshl, 1) (List.mem_of_getElem? (i := 13) rfl)) rfl ?_
  refine lw_rd (k := 3) C hi hiv hH0 (lv_at hl 0 rfl) (lv_at hl 4 rfl) (by decide) rfl (eL_law_24 (1655, .aload_n 0, 1) (List.mem_of_getElem? (i := 14) rfl)) (eL_law_24 (1656, .iload 4, 2) (List.mem_of_getElem? (i := 15) rfl)) (eL_law_24 (1658, .iconst 3, 1) (List.mem_of_getElem? (i := 16) rfl)) (eL_law_24 (1659, .iadd, 1) (List.mem_of_getElem? (i := 17) rfl)) (eL_law_24 (1660, .iaload, 1) (List.mem_of_getElem? (i := 18) rfl)) hy3 ?_
  refine lv_i2l C.hx C.hb (eL_law_24 (1661, .i2l, 1) (List.mem_of_getElem? (i := 19) rfl)) rfl ?_
  refine lv_ldc2 C.hx C.hb C.hown (C.h2 _ (tb_8 200 rfl rfl)) (eL_law_24 (1662, .ldc2_w 108, 3) (List.mem_of_getElem? (i := 20) rfl)) ?_
  refine lv_land C.hx C.hb (eL_law_24 (1665, .land, 1) (List.mem_of_getElem? (i := 21) rfl)) ?_
  refine lv_lor C.hx C.hb (eL_law_24 (1666, .lor, 1) (List.mem_of_getElem? (i := 22) rfl)) ?_
  refine W.eq (g2 := F0 m 1667 ls [.long (lgI y2 y3), .int y1, .ref x]) rfl ?_
  refine lw_rd (k := 4) C hi hiv hH0 (lv_at hl 0 rfl) (lv_at hl 4 rfl) (by decide) rfl (eL_law_24 (1667, .aload_n 0, 1) (List.mem_of_getElem? (i := 23) rfl)) (eL_law_24 (1668, .iload 4, 2) (List.mem_of_getElem? (i := 24) rfl)) (eL_law_24 (1670, .iconst 4, 1) (List.mem_of_getElem? (i := 25) rfl)) (eL_law_24 (1671, .iadd, 1) (List.mem_of_getElem? (i := 26) rfl)) (eL_law_24 (1672, .iaload, 1) (List.mem_of_getElem? (i := 27) rfl)) hy4 ?_
  refine lv_i2l C.hx C.hb (eL_law_24 (1673, .i2l, 1) (List.mem_of_getElem? (i := 28) rfl)) rfl ?_
  refine lv_bipush C.hx C.hb (eL_law_24 (1674, .bipush 32, 2) (List.mem_of_getElem? (i := 29) rfl)) rfl ?_
  refine lv_lshl C.hx C.hb (eL_law_24 (1676, .lshl, 1) (List.mem_of_getElem? (i := 30) rfl)) rfl ?_
  refine lw_rd (k := 5) C hi hiv hH0 (lv_at hl 0 rfl) (lv_at hl 4 rfl) (by decide) rfl (eL_law_24 (1677, .aload_n 0, 1) (List.mem_of_getElem? (i := 31) rfl)) (eL_law_24 (1678, .iload 4, 2) (List.mem_of_getElem? (i := 32) rfl)) (eL_law_24 (1680, .iconst 5, 1) (List.mem_of_getElem? (i := 33) rfl)) (eL_law_24 (1681, .iadd, 1) (List.mem_of_getElem? (i := 34) rfl)) (eL_law_24 (1682, .iaload, 1) (List.mem_of_getElem? (i := 35) rfl)) hy5 ?_
  refine lv_i2l C.hx C.hb (eL_law_24 (1683, .i2l, 1) (List.mem_of_getElem? (i := 36) rfl)) rfl ?_
  refine lv_ldc2 C.hx C.hb C.hown (C.h2 _ (tb_8 200 rfl rfl)) (eL_law_24 (1684, .ldc2_w 108, 3) (List.mem_of_getElem? (i := 37) rfl)) ?_
  refine lv_land C.hx C.hb (eL_law_24 (1687, .land, 1) (List.mem_of_getElem? (i := 38) rfl)) ?_
  refine lv_lor C.hx C.hb (eL_law_24 (1688, .lor, 1) (List.mem_of_getElem? (i := 39) rfl)) ?_
  refine W.eq (g2 := F0 m 1689 ls [.long (lgI y4 y5), .long (lgI y2 y3), .int y1, .ref x]) rfl ?_
  refine lw_rdB (k := 6) C hi hiv hH0 (lv_at hl 0 rfl) (lv_at hl 4 rfl) (by decide) rfl (eL_law_24 (1689, .aload_n 0, 1) (List.mem_of_getElem? (i := 40) rfl)) (eL_law_24 (1690, .iload 4, 2) (List.mem_of_getElem? (i := 41) rfl)) (eL_law_24 (1692, .bipush 6, 2) (List.mem_of_getElem? (i := 42) rfl)) (eL_law_24 (1694, .iadd, 1) (List.mem_of_getElem? (i := 43) rfl)) (eL_law_24 (1695, .iaload, 1) (List.mem_of_getElem? (i := 44) rfl)) hy6 ?_
  refine lv_aload_n C.hx C.hb (eL_law_24 (1696, .aload_n 3, 1) (List.mem_of_getElem? (i := 45) rfl)) rfl (lv_at hl 1 rfl) ?_
  have hjj := I.hj
  obtain ⟨LL, zc, jc, jr, hzp⟩ := hjj
  have hkk := I.hk
  obtain ⟨TT, OO, kc, kr⟩ := hkk
  refine zw_row (As := [.ref x, .int y1, .long (lgI y2 y3), .long (lgI y4 y5), .int y6, .ref o]) (st := []) (Ts := gT) C.hx C.hb C.hml C.hown C.h2 (fun _ h => h) (wB_between l C.hst D cA ro s.heap.size s.heap x y1 (lgI y2 y3) (lgI y4 y5) y6 o LL zc I.hx10 I.ho42 hzp.1 hzp.2) ⟨rfl, rfl⟩ ⟨by decide, by decide⟩ ⟨by show cells + 1 ≤ 601024; omega, by show slots + 6 ≤ 7293034; omega⟩ (tb_6 106 rfl rfl) (tb_1 0 rfl rfl) (tb_6 104 rfl rfl) (tb_6 105 rfl rfl) (show yL_between.cls ≠ "java/lang/invoke/MethodHandle" ∧ yL_between.cls ≠ "java/lang/invoke/VarHandle" ∧ (parseMethodDescriptor yL_between.desc).map (fun d => d.parameters.length) = some 6 by decide +kernel) zs_blindY (fun U hU hW => ⟨rfl, by rw [hU]; exact I.hh.l0, (C.hKa.ext I.he).warm hW, (zBQ_of C.hBM).alike hW.alike, by rw [hU]; exact jc⟩) I.hh.2.2.1 hl.1 (Nat.le_of_ble_eq_true rfl) (eL_law_24 (1697, .invokestatic 191, 3) (List.mem_of_getElem? (i := 46) rfl)) (fun r1 s1 t1 lo1 g1 f1 l1 => ?_)
  obtain ⟨k1, ro1, L1, zc1, zz, rr, q1, he1, z1, kp1, jc1, hoz, hor, hday⟩ := f1
  cases q1
  rw [g1] at kp1
  have hh1 : zh_ok D cA RTg ro1 s.heap.size s.heap t1.heap lo1 := ⟨z1.1, z1.2.1, l1, z1.2.2.2⟩
  have jr1 := (jr.kept I.hm11 kp1 (by decide)).ext he1
  have kk1 := (I.hk.kept I.hx10 I.hm11 kp1 (by decide) (by decide)).ext he1
  obtain ⟨rk, spk, hrk⟩ : ∃ r : Int, spBY y1.toInt (lgI y2 y3).toInt (lgI y4 y5).toInt y6.toInt LL zc k1.toInt r L1 zc1 ∧ (k1.toInt = 0 → r = rr.toInt) := by
    rcases hday with ⟨g1, g2⟩ | ⟨g1, r, g2⟩
    · exact ⟨rr.toInt, by rw [g1]; exact g2, fun _ => rfl⟩
    · exact ⟨r, g2, fun g => absurd g g1⟩
  have hx10_1 := he1 _ _ I.hx10
  have hm11_1 := he1 _ _ I.hm11
  have ho42_1 := he1 _ _ I.ho42
  have he_1 := fun q r g => he1 q r (I.he q r g)
  have hH1 := hh1.2.1 b C.hbl
  refine W.eq (g2 := F0 m 1700 ls [.int k1]) rfl ?_
  refine lv_istore C.hx C.hb (eL_law_24 (1700, .istore 5, 2) (List.mem_of_getElem? (i := 47) rfl)) hl (by decide) rfl (fun ls2 (hl2 : lv_has ls2 8 [(5, .int k1), (4, .int iv), (3, .ref o), (2, .ref mm), (1, .ref x), (0, .ref b)]) => ?_)
  refine lv_aload_n C.hx C.hb (eL_law_24 (1702, .aload_n 2, 1) (List.mem_of_getElem? (i := 48) rfl)) rfl (lv_at hl2 3 rfl) ?_
  refine lw_rd (k := 1) C hi hiv hH1 (lv_at hl2 1 rfl) (lv_at hl2 5 rfl) (by decide) rfl (eL_law_24 (1703, .aload_n 0, 1) (List.mem_of_getElem? (i := 49) rfl)) (eL_law_24 (1704, .iload 4, 2) (List.mem_of_getElem? (i := 50) rfl)) (eL_law_24 (1706, .iconst 1, 1) (List.mem_of_getElem? (i := 51) rfl)) (eL_law_24 (1707, .iadd, 1) (List.mem_of_getElem? (i := 52) rfl)) (eL_law_24 (1708, .iaload, 1) (List.mem_of_getElem? (i := 53) rfl)) hy1 ?_
  refine lw_rd (k := 2) C hi hiv hH1 (lv_at hl2 1 rfl) (lv_at hl2 5 rfl) (by decide) rfl (eL_law_24 (1709, .aload_n 0, 1) (List.mem_of_getElem? (i := 54) rfl)) (eL_law_24 (1710, .iload 4, 2) (List.mem_of_getElem? (i := 55) rfl)) (eL_law_24 (1712, .iconst 2, 1) (List.mem_of_getElem? (i := 56) rfl)) (eL_law_24 (1713, .iadd, 1) (List.mem_of_getElem? (i := 57) rfl)) (eL_law_24 (1714, .iaload, 1) (List.mem_of_getElem? (i := 58) rfl)) hy2 ?_
  refine lv_i2l C.hx C.hb (eL_law_24 (1715, .i2l, 1) (List.mem_of_getElem? (i := 59) rfl)) rfl ?_
  refine lv_bipush C.hx C.hb (eL_law_24 (1716, .bipush 32, 2) (List.mem_of_getElem? (i := 60) rfl)) rfl ?_
  refine lv_lshl C.hx C.hb (eL_law_24 (1718, .lshl, 1) (List.mem_of_getElem? (i := 61) rfl)) rfl ?_
  refine lw_rd (k := 3) C hi hiv hH1 (lv_at hl2 1 rfl) (lv_at hl2 5 rfl) (by decide) rfl (eL_law_24 (1719, .aload_n 0, 1) (List.mem_of_getElem? (i := 62) rfl)) (eL_law_24 (1720, .iload 4, 2) (List.mem_of_getElem? (i := 63) rfl)) (eL_law_24 (1722, .iconst 3, 1) (List.mem_of_getElem? (i := 64) rfl)) (eL_law_24 (1723, .iadd, 1) (List.mem_of_getElem? (i := 65) rfl)) (eL_law_24 (1724, .iaload, 1) (List.mem_of_getElem? (i := 66) rfl)) hy3 ?_
  refine lv_i2l C.hx C.hb (eL_law_24 (1725, .i2l, 1) (List.mem_of_getElem? (i := 67) rfl)) rfl ?_
  refine lv_ldc2 C.hx C.hb C.hown (C.h2 _ (tb_8 200 rfl rfl)) (eL_law_24 (1726, .ldc2_w 108, 3) (List.mem_of_getElem? (i := 68) rfl)) ?_
  refine lv_land C.hx C.hb (eL_law_24 (1729, .land, 1) (List.mem_of_getElem? (i := 69) rfl)) ?_
  refine lv_lor C.hx C.hb (eL_law_24 (1730, .lor, 1) (List.mem_of_getElem? (i := 70) rfl)) ?_
  refine W.eq (g2 := F0 m 1731 ls2 [.long (lgI y2 y3), .int y1, .ref mm]) rfl ?_
  refine lw_rd (k := 4) C hi hiv hH1 (lv_at hl2 1 rfl) (lv_at hl2 5 rfl) (by decide) rfl (eL_law_24 (1731, .aload_n 0, 1) (List.mem_of_getElem? (i := 71) rfl)) (eL_law_24 (1732, .iload 4, 2) (List.mem_of_getElem? (i := 72) rfl)) (eL_law_24 (1734, .iconst 4, 1) (List.mem_of_getElem? (i := 73) rfl)) (eL_law_24 (1735, .iadd, 1) (List.mem_of_getElem? (i := 74) rfl)) (eL_law_24 (1736, .iaload, 1) (List.mem_of_getElem? (i := 75) rfl)) hy4 ?_
  refine lv_i2l C.hx C.hb (eL_law_24 (1737, .i2l, 1) (List.mem_of_getElem? (i := 76) rfl)) rfl ?_
  refine lv_bipush C.hx C.hb (eL_law_24 (1738, .bipush 32, 2) (List.mem_of_getElem? (i := 77) rfl)) rfl ?_
  refine lv_lshl C.hx C.hb (eL_law_24 (1740, .lshl, 1) (List.mem_of_getElem? (i := 78) rfl)) rfl ?_
  refine lw_rd (k := 5) C hi hiv hH1 (lv_at hl2 1 rfl) (lv_at hl2 5 rfl) (by decide) rfl (eL_law_24 (1741, .aload_n 0, 1) (List.mem_of_getElem? (i := 79) rfl)) (eL_law_24 (1742, .iload 4, 2) (List.mem_of_getElem? (i := 80) rfl)) (eL_law_24 (1744, .iconst 5, 1) (List.mem_of_getElem? (i := 81) rfl)) (eL_law_24 (1745, .iadd, 1) (List.mem_of_getElem? (i := 82) rfl)) (eL_law_24 (1746, .iaload, 1) (List.mem_of_getElem? (i := 83) rfl)) hy5 ?_
  refine lv_i2l C.hx C.hb (eL_law_24 (1747, .i2l, 1) (List.mem_of_getElem? (i := 84) rfl)) rfl ?_
  refine lv_ldc2 C.hx C.hb C.hown (C.h2 _ (tb_8 200 rfl rfl)) (eL_law_24 (1748, .ldc2_w 108, 3) (List.mem_of_getElem? (i := 85) rfl)) ?_
  refine lv_land C.hx C.hb (eL_law_24 (1751, .land, 1) (List.mem_of_getElem? (i := 86) rfl)) ?_
  refine lv_lor C.hx C.hb (eL_law_24 (1752, .lor, 1) (List.mem_of_getElem? (i := 87) rfl)) ?_
  refine W.eq (g2 := F0 m 1753 ls2 [.long (lgI y4 y5), .long (lgI y2 y3), .int y1, .ref mm]) rfl ?_
  refine lw_rdB (k := 6) C hi hiv hH1 (lv_at hl2 1 rfl) (lv_at hl2 5 rfl) (by decide) rfl (eL_law_24 (1753, .aload_n 0, 1) (List.mem_of_getElem? (i := 88) rfl)) (eL_law_24 (1754, .iload 4, 2) (List.mem_of_getElem? (i := 89) rfl)) (eL_law_24 (1756, .bipush 6, 2) (List.mem_of_getElem? (i := 90) rfl)) (eL_law_24 (1758, .iadd, 1) (List.mem_of_getElem? (i := 91) rfl)) (eL_law_24 (1759, .iaload, 1) (List.mem_of_getElem? (i := 92) rfl)) hy6 ?_
  refine tz_rowV (As := [.int y1, .long (lgI y2 y3), .long (lgI y4 y5), .int y6]) (st := []) (b := mm) (C := RX12) (Ts := gT) C.hx C.hb C.hml C.hown C.h2 (fun _ h => h) (hX12_between l D cA ro1 s.heap.size s.heap mm y1 (lgI y2 y3) (lgI y4 y5) y6 LL zc.1 zc.2 hm11_1 hzp.1) ⟨rfl, rfl⟩ ⟨by decide, by decide⟩ ⟨by show (cells + 1) + 0 ≤ 601024; omega, by show (slots + 6) + 0 ≤ 7293034; omega⟩ (tb_7 229 rfl rfl) (tb_1 12 rfl rfl) (tb_7 226 rfl rfl) (tb_7 227 rfl rfl) (tb_7 228 rfl rfl) (show yX12_between.cls ≠ "java/lang/invoke/MethodHandle" ∧ yX12_between.cls ≠ "java/lang/invoke/VarHandle" ∧ (parseMethodDescriptor yX12_between.desc).map (fun d => d.parameters.length) = some 4 by decide +kernel) zs_blind (lw_ob12 hh1 C.hKa.1.1.1 hm11_1) (fun U hU hW => ⟨rfl, by rw [hU]; exact hh1.l0, zKb s U hW.alike (C.hKa.ext he_1).1.1, by rw [hU]; exact jr1⟩) hh1.2.2.1 hl2.1 (Nat.le_of_ble_eq_true rfl) (eL_law_24 (1760, .invokevirtual 194, 3) (List.mem_of_getElem? (i := 93) rfl)) (fun r3 s3 t3 lo3 g3 f3 l3 => ?_)
  obtain ⟨vv3, rb3, w3, L3, zc3, q3, ⟨b3, qb3, eb3⟩, z3, kp3, hw3, jr3, sp3⟩ := f3
  cases q3
  cases qb3
  rw [g3] at kp3
  have hh3 : zh_ok D cA RTg ro1 s.heap.size s.heap t3.heap lo3 := ⟨z3.1, z3.2.1, l3, z3.2.2.2⟩
  obtain ⟨hkw, hLL, hzz, hrr⟩ := (spBY_det y1.toInt (lgI y2 y3).toInt (lgI y4 y5).toInt y6.toInt LL zc) _ _ _ _ _ _ _ _ spk sp3
  rw [← hLL, ← hzz] at jr3
  have jc9 := jc1.kept hx10_1 kp3 (by decide)
  have kk3 := (kk1.kept hx10_1 hm11_1 kp3 (by decide) (by decide))
  have zp9 : zPT L1 zc1.1 := by rw [spk.1, spk.2.1]; exact hzp
  have j3 : jJY D cA ro1 t3.heap x mm := ⟨_, _, jc9, jr3, zp9⟩
  have hoz2 := (kp3.2 o 42 0 1 1 _ ho42_1 rfl (by decide)).trans hoz
  have hH3 := hh3.2.1 b C.hbl
  refine W.eq (g2 := F0 m 1763 ls2 [.long b3]) rfl ?_
  refine lv_lstore C.hx C.hb (eL_law_24 (1763, .lstore 6, 2) (List.mem_of_getElem? (i := 94) rfl)) hl2 (by decide) rfl (fun ls4 (hl4 : lv_has ls4 8 [(6, .long b3), (5, .int k1), (4, .int iv), (3, .ref o), (2, .ref mm), (1, .ref x), (0, .ref b)]) => ?_)
  refine lv_aload_n C.hx C.hb (eL_law_24 (1765, .aload_n 2, 1) (List.mem_of_getElem? (i := 95) rfl)) rfl (lv_at hl4 4 rfl) ?_
  refine tz_rowV (As := []) (st := []) (b := mm) (C := RX12) (Ts := gT) C.hx C.hb C.hml C.hown C.h2 (fun _ h => h) (hX12_thrown l D cA ro1 s.heap.size s.heap mm hm11_1) ⟨rfl, rfl⟩ ⟨by decide, by decide⟩ ⟨by show ((cells + 1) + 0) + 0 ≤ 601024; omega, by show ((slots + 6) + 0) + 0 ≤ 7293034; omega⟩ (tb_7 37 rfl rfl) (tb_1 12 rfl rfl) (tb_7 34 rfl rfl) (tb_7 35 rfl rfl) (tb_7 36 rfl rfl) (show yX12_thrown.cls ≠ "java/lang/invoke/MethodHandle" ∧ yX12_thrown.cls ≠ "java/lang/invoke/VarHandle" ∧ (parseMethodDescriptor yX12_thrown.desc).map (fun d => d.parameters.length) = some 0 by decide +kernel) zd_blind (lw_ob12 hh3 C.hKa.1.1.1 hm11_1) (fun U hU hW => ⟨rfl, by rw [hU]; exact hh3.l0, zKb s U hW.alike (C.hKa.ext he_1).1.1⟩) hh3.2.2.1 hl4.1 (Nat.le_of_ble_eq_true rfl) (eL_law_24 (1766, .invokevirtual 195, 3) (List.mem_of_getElem? (i := 96) rfl)) (fun r5 s5 t5 lo5 g5 f5 l5 => ?_)
  obtain ⟨z5, w5, q5, v5⟩ := f5
  cases v5
  rw [g5] at z5 q5
  cases hw3.symm.trans q5
  have hh5 : zh_ok D cA RTg ro1 s.heap.size s.heap t5.heap lo5 := by rw [z5]; exact ⟨hh3.1, hh3.2.1, l5, hh3.2.2.2⟩
  have hoz3 : t5.heap[o]? = some (arrV (cA 1) 1 zz) := by rw [z5]; exact hoz2
  have j5 : jJY D cA ro1 t5.heap x mm := by rw [z5]; exact j3
  have kk5 : jK D cA ro1 t5.heap x mm := by rw [z5]; exact kk3
  have hH5 := hh5.2.1 b C.hbl
  refine W.eq (g2 := F0 m 1769 ls4 [.int w3]) rfl ?_
  refine lv_iload C.hx C.hb (eL_law_24 (1769, .iload 5, 2) (List.mem_of_getElem? (i := 97) rfl)) (lv_at hl4 1 rfl) ?_
  refine ff_icmp_eq C.hx C.hb (eL_law_24 (1771, .if_icmp .eq 5, 3) (List.mem_of_getElem? (i := 98) rfl)) (tgt := 1776) rfl (fun c1 => ?_) (fun c1 => (by exfalso; omega))
  refine lv_iload C.hx C.hb (eL_law_24 (1776, .iload 5, 2) (List.mem_of_getElem? (i := 101) rfl)) (lv_at hl4 1 rfl) ?_
  refine ff_if_ne C.hx C.hb (eL_law_24 (1778, .ifCond .ne 14, 3) (List.mem_of_getElem? (i := 102) rfl)) (tgt := 1792) rfl (fun c2 => ?_) (fun c2 => ?_)
  · skip
    refine lv_goto C.hx C.hb (eL_law_24 (1792, .goto 3, 3) (List.mem_of_getElem? (i := 111) rfl)) (tgt := 1795) rfl ?_
    exact W.widen (k := cells + 6) (n := slots + 147) (by omega) (by omega) (K ro1 _ _ _ ⟨hh5, he_1, hx10_1, hm11_1, ho42_1, j5, kk5⟩ (lv_sub hl4 [2, 3, 4, 5, 6] rfl))
  · skip
    refine lv_aload_n C.hx C.hb (eL_law_24 (1781, .aload_n 3, 1) (List.mem_of_getElem? (i := 103) rfl)) rfl (lv_at hl4 3 rfl) ?_
    refine ff_iconst C.hx C.hb (eL_law_24 (1782, .iconst 0, 1) (List.mem_of_getElem? (i := 104) rfl)) (by decide) (by decide) (fun v6 e6 => ?_)
    refine tz_lald (N := 1) C.hx C.hb (zAr C.hKa.1.1.1 1 (by decide)) hoz3 (by omega) (by omega) (eL_law_24 (1783, .laload, 1) (List.mem_of_getElem? (i := 105) rfl)) ?_
    rw [show v6.toNatClampNeg = 0 by show v6.toInt.toNat = 0; omega, hor]
    refine lv_lload C.hx C.hb (eL_law_24 (1784, .lload 6, 2) (List.mem_of_getElem? (i := 106) rfl)) (lv_at hl4 0 rfl) ?_
    refine ff_lcmp C.hx C.hb (eL_law_24 (1786, .lcmp, 1) (List.mem_of_getElem? (i := 107) rfl)) (fun v7 e7 => ?_)
    refine ff_if_eq C.hx C.hb (eL_law_24 (1787, .ifCond .eq 5, 3) (List.mem_of_getElem? (i := 108) rfl)) (tgt := 1792) rfl (fun c3 => ?_) (fun c3 => ?_)
    · skip
      refine lv_goto C.hx C.hb (eL_law_24 (1792, .goto 3, 3) (List.mem_of_getElem? (i := 111) rfl)) (tgt := 1795) rfl ?_
      exact W.widen (k := cells + 6) (n := slots + 147) (by omega) (by omega) (K ro1 _ _ _ ⟨hh5, he_1, hx10_1, hm11_1, ho42_1, j5, kk5⟩ (lv_sub hl4 [2, 3, 4, 5, 6] rfl))
    · exfalso
      have q1 := hrk (by omega)
      have q2 := hrr (by omega)
      omega
