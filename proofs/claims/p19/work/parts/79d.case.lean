def tL_law_18 : List (Nat × Instr × Nat) := [(1169, .aload_n 1, 1), (1170, .aload_n 0, 1), (1171, .iload 4, 2), (1173, .iconst 1, 1), (1174, .iadd, 1), (1175, .iaload, 1), (1176, .aload_n 0, 1), (1177, .iload 4, 2), (1179, .iconst 2, 1), (1180, .iadd, 1), (1181, .iaload, 1), (1182, .aload_n 3, 1), (1183, .invokestatic 173, 3), (1186, .istore 5, 2), (1188, .aload_n 2, 1), (1189, .aload_n 0, 1), (1190, .iload 4, 2), (1192, .iconst 1, 1), (1193, .iadd, 1), (1194, .iaload, 1), (1195, .aload_n 0, 1), (1196, .iload 4, 2), (1198, .iconst 2, 1), (1199, .iadd, 1), (1200, .iaload, 1), (1201, .invokevirtual 176, 3), (1204, .lstore 6, 2), (1206, .goto 589, 3)]
set_option maxRecDepth 100000 in
theorem eL_law_18 : ∀ x ∈ tL_law_18, decode cL_law x.1 = .ok x.2 := by decide +kernel
set_option maxRecDepth 100000 in
set_option maxHeartbeats 4000000 in
theorem lw_case_18 {p : Program} {l : Launch} {e : Env} {s : State} {m : MethodId} {below : List Frame} {meth : Method} {c : Code} {b L : Nat} {xs : Nat → Int32} {D : va_G} {cA : Nat → ClassId} {ro0 ro : Nat → Option Nat} {H : Heap} {locs : List Loc} {cells slots : Nat} {Q : State → Prop} {ls : Array Slot} {i x mm o : Nat} {iv : Int32} (C : lw_C p l s m meth c b L xs D cA ro0) (hi : i + 8 ≤ L) (hiv : iv.toInt = (i : Int)) (I : lw_I D cA ro0 s x mm o ro H locs) (hl : lv_has ls 8 [(4, .int iv), (3, .ref o), (2, .ref mm), (1, .ref x), (0, .ref b)]) (hc : cells + 6 ≤ 601024) (hs : slots + 147 ≤ 7293034) (K : ∀ (ro9 : Nat → Option Nat) (H9 : Heap) (lo9 : List Loc) (ls9 : Array Slot), lw_I D cA ro0 s x mm o ro9 H9 lo9 → lv_has ls9 8 [(4, .int iv), (3, .ref o), (2, .ref mm), (1, .ref x), (0, .ref b)] → W p l e room_1 s m #[Value.ref b] below meth c H9 lo9 (cells + 6) (slots + 147) Q (F0 m 1795 ls9 [])) : W p l e room_1 s m #[Value.ref b] below meth c H locs cells slots Q (F0 m 1169 ls []) := by
  have hL := C.hL
  have hH0 := I.hh.2.1 b C.hbl
  have hts0 : ∀ w ∈ Cond.initialized "MomentTextsLaw" :: gT, w.before #[Value.ref b] s = true := fun w hw => (List.mem_cons.mp hw).elim (fun g => by rw [g]; exact C.h2 _ (tb_1 0 rfl rfl)) (C.h2 w)
  generalize hy1 : xs (i + 1) = y1
  generalize hy2 : xs (i + 2) = y2
  generalize hy3 : xs (i + 3) = y3
  generalize hy4 : xs (i + 4) = y4
  generalize hy5 : xs (i + 5) = y5
  generalize hy6 : xs (i + 6) = y6
  generalize hy7 : xs (i + 7) = y7
  refine lv_aload_n C.hx C.hb (eL_law_18 (1169, .aload_n 1, 1) (List.mem_of_getElem? (i := 0) rfl)) rfl (lv_at hl 3 rfl) ?_
  refine lw_rd (k := 1) C hi hiv hH0 (lv_at hl 0 rfl) (lv_at hl 4 rfl) (by decide) rfl (eL_law_18 (1170, .aload_n 0, 1) (List.mem_of_getElem? (i := 1) rfl)) (eL_law_18 (1171, .iload 4, 2) (List.mem_of_getElem? (i := 2) rfl)) (eL_law_18 (1173, .iconst 1, 1) (List.mem_of_getElem? (i := 3) rfl)) (eL_law_18 (1174, .iadd, 1) (List.mem_of_getElem? (i := 4) rfl)) (eL_law_18 (1175, .iaload, 1) (List.mem_of_getElem? (i := 5) rfl)) hy1 ?_
  refine lw_rd (k := 2) C hi hiv hH0 (lv_at hl 0 rfl) (lv_at hl 4 rfl) (by decide) rfl (eL_law_18 (1176, .aload_n 0, 1) (List.mem_of_getElem? (i := 6) rfl)) (eL_law_18 (1177, .iload 4, 2) (List.mem_of_getElem? (i := 7) rfl)) (eL_law_18 (1179, .iconst 2, 1) (List.mem_of_getElem? (i := 8) rfl)) (eL_law_18 (1180, .iadd, 1) (List.mem_of_getElem? (i := 9) rfl)) (eL_law_18 (1181, .iaload, 1) (List.mem_of_getElem? (i := 10) rfl)) hy2 ?_
  refine lv_aload_n C.hx C.hb (eL_law_18 (1182, .aload_n 3, 1) (List.mem_of_getElem? (i := 11) rfl)) rfl (lv_at hl 1 rfl) ?_
  refine zw_row (As := [.ref x, .int y1, .int y2, .ref o]) (st := []) (Ts := gT) C.hx C.hb C.hml C.hown C.h2 (fun _ h => h) (wL_field l C.hst D cA ro s.heap.size s.heap x y1 y2 o I.hx10 I.ho42) ⟨rfl, rfl⟩ ⟨by decide, by decide⟩ ⟨by show cells + 1 ≤ 601024; omega, by show slots + 6 ≤ 7293034; omega⟩ (tb_5 191 rfl rfl) (tb_1 0 rfl rfl) (tb_5 189 rfl rfl) (tb_5 190 rfl rfl) (show yL_field.cls ≠ "java/lang/invoke/MethodHandle" ∧ yL_field.cls ≠ "java/lang/invoke/VarHandle" ∧ (parseMethodDescriptor yL_field.desc).map (fun d => d.parameters.length) = some 4 by decide +kernel) zw_blind (fun U hU hW => ⟨rfl, by rw [hU]; exact I.hh.l0, (C.hKa.ext I.he).warm hW⟩) I.hh.2.2.1 hl.1 (Nat.le_of_ble_eq_true rfl) (eL_law_18 (1183, .invokestatic 173, 3) (List.mem_of_getElem? (i := 12) rfl)) (fun r1 s1 t1 lo1 g1 f1 l1 => ?_)
  obtain ⟨k1, ro1, q1, he1, z1, kp1⟩ := f1
  cases q1
  rw [g1] at kp1
  have hh1 : zh_ok D cA RTg ro1 s.heap.size s.heap t1.heap lo1 := ⟨z1.1, z1.2.1, l1, z1.2.2.2⟩
  have j1 := (I.hj.kept I.hx10 I.hm11 kp1 (by decide) (by decide)).ext he1
  have kk1 := (I.hk.kept I.hx10 I.hm11 kp1 (by decide) (by decide)).ext he1
  have hx10_1 := he1 _ _ I.hx10
  have hm11_1 := he1 _ _ I.hm11
  have ho42_1 := he1 _ _ I.ho42
  have he_1 := fun q r g => he1 q r (I.he q r g)
  have hH1 := hh1.2.1 b C.hbl
  have rq1 := (I.hq.kept I.hx10 kp1 (by decide)).ext he1
  refine W.eq (g2 := F0 m 1186 ls [.int k1]) rfl ?_
  refine lv_istore C.hx C.hb (eL_law_18 (1186, .istore 5, 2) (List.mem_of_getElem? (i := 13) rfl)) hl (by decide) rfl (fun ls2 (hl2 : lv_has ls2 8 [(5, .int k1), (4, .int iv), (3, .ref o), (2, .ref mm), (1, .ref x), (0, .ref b)]) => ?_)
  refine lv_aload_n C.hx C.hb (eL_law_18 (1188, .aload_n 2, 1) (List.mem_of_getElem? (i := 14) rfl)) rfl (lv_at hl2 3 rfl) ?_
  refine lw_rd (k := 1) C hi hiv hH1 (lv_at hl2 1 rfl) (lv_at hl2 5 rfl) (by decide) rfl (eL_law_18 (1189, .aload_n 0, 1) (List.mem_of_getElem? (i := 15) rfl)) (eL_law_18 (1190, .iload 4, 2) (List.mem_of_getElem? (i := 16) rfl)) (eL_law_18 (1192, .iconst 1, 1) (List.mem_of_getElem? (i := 17) rfl)) (eL_law_18 (1193, .iadd, 1) (List.mem_of_getElem? (i := 18) rfl)) (eL_law_18 (1194, .iaload, 1) (List.mem_of_getElem? (i := 19) rfl)) hy1 ?_
  refine lw_rd (k := 2) C hi hiv hH1 (lv_at hl2 1 rfl) (lv_at hl2 5 rfl) (by decide) rfl (eL_law_18 (1195, .aload_n 0, 1) (List.mem_of_getElem? (i := 20) rfl)) (eL_law_18 (1196, .iload 4, 2) (List.mem_of_getElem? (i := 21) rfl)) (eL_law_18 (1198, .iconst 2, 1) (List.mem_of_getElem? (i := 22) rfl)) (eL_law_18 (1199, .iadd, 1) (List.mem_of_getElem? (i := 23) rfl)) (eL_law_18 (1200, .iaload, 1) (List.mem_of_getElem? (i := 24) rfl)) hy2 ?_
  refine zr_V (idx := 176) (r := 11) (ci := 11) (n0 := 0) (fs := fsX12) (lo := 0) (hi0 := 0) (ts := [(0, (-2147483648), 2147483647), (0, (-2147483648), 2147483647)]) C.hx C.hb C.hml C.hown hts0 (C.hKa.ext he_1).1.1 zKb (mX12_field l D cA ro1 s.heap.size s.heap) ⟨rfl, rfl⟩ ⟨by decide, by decide⟩ ⟨by show (cells + 1) ≤ 601024; omega, by show (slots + 6) ≤ 7293034; omega⟩ (tb_8 143 rfl rfl) (tb_1 12 rfl rfl) (tb_8 140 rfl rfl) (tb_8 141 rfl rfl) (tb_8 142 rfl rfl) (by decide +kernel) rfl rfl (zCX12 C.hKa.1.1.1) rfl 1201 176 (.invokevirtual 176) (Or.inr (Or.inl ⟨rfl, rfl⟩)) (eL_law_18 (1201, .invokevirtual 176, 3) (List.mem_of_getElem? (i := 25) rfl)) _ _ _ [] [.ref mm, .int y1, .int y2] hl2.1 (Nat.le_of_ble_eq_true rfl) hh1 ⟨⟨Or.inr ⟨_, rfl, hm11_1⟩, tz_i (zn_i32 _).1 (zn_i32 _).2, tz_i (zn_i32 _).1 (zn_i32 _).2, trivial⟩, fun e he => (by cases he), fun f hf => (by cases hf)⟩ (fun H3 lo3 r3 hh3 hk3 hal3 => ?_)
  obtain ⟨w3, rfl, v3, rfl, -, -⟩ := zc_one (t := (1, (-9223372036854775808), 9223372036854775807)) (L := []) hal3
  have hH3 := hh3.2.1 b C.hbl
  have j3 := j1.kept hx10_1 hm11_1 hk3 (by decide) (by decide)
  have kk3 := (kk1.kept hx10_1 hm11_1 hk3 (by decide) (by decide))
  have rq3 := (rq1.kept hx10_1 hk3 (by decide))
  refine W.eq (g2 := F0 m 1204 ls2 [.long v3]) rfl ?_
  refine lv_lstore C.hx C.hb (eL_law_18 (1204, .lstore 6, 2) (List.mem_of_getElem? (i := 26) rfl)) hl2 (by decide) rfl (fun ls4 (hl4 : lv_has ls4 8 [(6, .long v3), (5, .int k1), (4, .int iv), (3, .ref o), (2, .ref mm), (1, .ref x), (0, .ref b)]) => ?_)
  refine lv_goto C.hx C.hb (eL_law_18 (1206, .goto 589, 3) (List.mem_of_getElem? (i := 27) rfl)) (tgt := 1795) rfl ?_
  exact W.widen (k := cells + 6) (n := slots + 147) (by omega) (by omega) (K ro1 _ _ _ ⟨hh3, he_1, hx10_1, hm11_1, ho42_1, j3, kk3, rq3⟩ (lv_sub hl4 [2, 3, 4, 5, 6] rfl))
def tL_law_19 : List (Nat × Instr × Nat) := [(1209, .aload_n 1, 1), (1210, .aload_n 0, 1), (1211, .iload 4, 2), (1213, .iconst 1, 1), (1214, .iadd, 1), (1215, .iaload, 1), (1216, .i2l, 1), (1217, .bipush 32, 2), (1219, .lshl, 1), (1220, .aload_n 0, 1), (1221, .iload 4, 2), (1223, .iconst 2, 1), (1224, .iadd, 1), (1225, .iaload, 1), (1226, .i2l, 1), (1227, .ldc2_w 108, 3), (1230, .land, 1), (1231, .lor, 1), (1232, .aload_n 0, 1), (1233, .iload 4, 2), (1235, .iconst 3, 1), (1236, .iadd, 1), (1237, .iaload, 1), (1238, .aload_n 3, 1), (1239, .invokestatic 177, 3), (1242, .istore 5, 2), (1244, .aload_n 2, 1), (1245, .aload_n 0, 1), (1246, .iload 4, 2), (1248, .iconst 1, 1), (1249, .iadd, 1), (1250, .iaload, 1), (1251, .i2l, 1), (1252, .bipush 32, 2), (1254, .lshl, 1), (1255, .aload_n 0, 1), (1256, .iload 4, 2), (1258, .iconst 2, 1), (1259, .iadd, 1), (1260, .iaload, 1), (1261, .i2l, 1), (1262, .ldc2_w 108, 3), (1265, .land, 1), (1266, .lor, 1), (1267, .aload_n 0, 1), (1268, .iload 4, 2), (1270, .iconst 3, 1), (1271, .iadd, 1), (1272, .iaload, 1), (1273, .invokevirtual 179, 3), (1276, .istore 6, 2), (1278, .goto 517, 3)]
set_option maxRecDepth 100000 in
theorem eL_law_19 : ∀ x ∈ tL_law_19, decode cL_law x.1 = .ok x.2 := by decide +kernel
set_option maxRecDepth 100000 in
set_option maxHeartbeats 4000000 in
theorem lw_case_19 {p : Program} {l : Launch} {e : Env} {s : State} {m : MethodId} {below : List Frame} {meth : Method} {c : Code} {b L : Nat} {xs : Nat → Int32} {D : va_G} {cA : Nat → ClassId} {ro0 ro : Nat → Option Nat} {H : Heap} {locs : List Loc} {cells slots : Nat} {Q : State → Prop} {ls : Array Slot} {i x mm o : Nat} {iv : Int32} (C : lw_C p l s m meth c b L xs D cA ro0) (hi : i + 8 ≤ L) (hiv : iv.toInt = (i : Int)) (I : lw_I D cA ro0 s x mm o ro H locs) (hl : lv_has ls 8 [(4, .int iv), (3, .ref o), (2, .ref mm), (1, .ref x), (0, .ref b)]) (hc : cells + 6 ≤ 601024) (hs : slots + 147 ≤ 7293034) (K : ∀ (ro9 : Nat → Option Nat) (H9 : Heap) (lo9 : List Loc) (ls9 : Array Slot), lw_I D cA ro0 s x mm o ro9 H9 lo9 → lv_has ls9 8 [(4, .int iv), (3, .ref o), (2, .ref mm), (1, .ref x), (0, .ref b)] → W p l e room_1 s m #[Value.ref b] below meth c H9 lo9 (cells + 6) (slots + 147) Q (F0 m 1795 ls9 [])) : W p l e room_1 s m #[Value.ref b] below meth c H locs cells slots Q (F0 m 1209 ls []) := by
  have hL := C.hL
  have hH0 := I.hh.2.1 b C.hbl
  have hts0 : ∀ w ∈ Cond.initialized "MomentTextsLaw" :: gT, w.before #[Value.ref b] s = true := fun w hw => (List.mem_cons.mp hw).elim (fun g => by rw [g]; exact C.h2 _ (tb_1 0 rfl rfl)) (C.h2 w)
  generalize hy1 : xs (i + 1) = y1
  generalize hy2 : xs (i + 2) = y2
  generalize hy3 : xs (i + 3) = y3
  generalize hy4 : xs (i + 4) = y4
  generalize hy5 : xs (i + 5) = y5
  generalize hy6 : xs (i + 6) = y6
  generalize hy7 : xs (i + 7) = y7
  refine lv_aload_n C.hx C.hb (eL_law_19 (1209, .aload_n 1, 1) (List.mem_of_getElem? (i := 0) rfl)) rfl (lv_at hl 3 rfl) ?_
  refine lw_rd (k := 1) C hi hiv hH0 (lv_at hl 0 rfl) (lv_at hl 4 rfl) (by decide) rfl (eL_law_19 (1210, .aload_n 0, 1) (List.mem_of_getElem? (i := 1) rfl)) (eL_law_19 (1211, .iload 4, 2) (List.mem_of_getElem? (i := 2) rfl)) (eL_law_19 (1213, .iconst 1, 1) (List.mem_of_getElem? (i := 3) rfl)) (eL_law_19 (1214, .iadd, 1) (List.mem_of_getElem? (i := 4) rfl)) (eL_law_19 (1215, .iaload, 1) (List.mem_of_getElem? (i := 5) rfl)) hy1 ?_
  refine lv_i2l C.hx C.hb (eL_law_19 (1216, .i2l, 1) (List.mem_of_getElem? (i := 6) rfl)) rfl ?_
  refine lv_bipush C.hx C.hb (eL_law_19 (1217, .bipush 32, 2) (List.mem_of_getElem? (i := 7) rfl)) rfl ?_
  refine lv_lshl C.hx C.hb (eL_law_19 (1219, .lshl, 1) (List.mem_of_getElem? (i := 8) rfl)) rfl ?_
  refine lw_rd (k := 2) C hi hiv hH0 (lv_at hl 0 rfl) (lv_at hl 4 rfl) (by decide) rfl (eL_law_19 (1220, .aload_n 0, 1) (List.mem_of_getElem? (i := 9) rfl)) (eL_law_19 (1221, .iload 4, 2) (List.mem_of_getElem? (i := 10) rfl)) (eL_law_19 (1223, .iconst 2, 1) (List.mem_of_getElem? (i := 11) rfl)) (eL_law_19 (1224, .iadd, 1) (List.mem_of_getElem? (i := 12) rfl)) (eL_law_19 (1225, .iaload, 1) (List.mem_of_getElem? (i := 13) rfl)) hy2 ?_
  refine lv_i2l C.hx C.hb (eL_law_19 (1226, .i2l, 1) (List.mem_of_getElem? (i := 14) rfl)) rfl ?_
  refine lv_ldc2 C.hx C.hb C.hown (C.h2 _ (tb_8 200 rfl rfl)) (eL_law_19 (1227, .ldc2_w 108, 3) (List.mem_of_getElem? (i := 15) rfl)) ?_
  refine lv_land C.hx C.hb (eL_law_19 (1230, .land, 1) (List.mem_of_getElem? (i := 16) rfl)) ?_
  refine lv_lor C.hx C.hb (eL_law_19 (1231, .lor, 1) (List.mem_of_getElem? (i := 17) rfl)) ?_
  refine W.eq (g2 := F0 m 1232 ls [.long (lgI y1 y2), .ref x]) rfl ?_
  refine lw_rd (k := 3) C hi hiv hH0 (lv_at hl 0 rfl) (lv_at hl 4 rfl) (by decide) rfl (eL_law_19 (1232, .aload_n 0, 1) (List.mem_of_getElem? (i := 18) rfl)) (eL_law_19 (1233, .iload 4, 2) (List.mem_of_getElem? (i := 19) rfl)) (eL_law_19 (1235, .iconst 3, 1) (List.mem_of_getElem? (i := 20) rfl)) (eL_law_19 (1236, .iadd, 1) (List.mem_of_getElem? (i := 21) rfl)) (eL_law_19 (1237, .iaload, 1) (List.mem_of_getElem? (i := 22) rfl)) hy3 ?_
  refine lv_aload_n C.hx C.hb (eL_law_19 (1238, .aload_n 3, 1) (List.mem_of_getElem? (i := 23) rfl)) rfl (lv_at hl 1 rfl) ?_
  have hjj := I.hj
  obtain ⟨LL, zc, jc, jr, jl, jzc, jzr⟩ := hjj
  have hkk := I.hk
  obtain ⟨TT, OO, kc, kr⟩ := hkk
  refine zw_row (As := [.ref x, .long (lgI y1 y2), .int y3, .ref o]) (st := []) (Ts := gT) C.hx C.hb C.hml C.hown C.h2 (fun _ h => h) (wK_writeDate l C.hst D cA ro s.heap.size s.heap x (lgI y1 y2) y3 o LL zc TT OO I.hx10 I.ho42) ⟨rfl, rfl⟩ ⟨by decide, by decide⟩ ⟨by show cells + 1 ≤ 601024; omega, by show slots + 6 ≤ 7293034; omega⟩ (tb_5 199 rfl rfl) (tb_1 0 rfl rfl) (tb_5 197 rfl rfl) (tb_5 198 rfl rfl) (show yL_writeDate.cls ≠ "java/lang/invoke/MethodHandle" ∧ yL_writeDate.cls ≠ "java/lang/invoke/VarHandle" ∧ (parseMethodDescriptor yL_writeDate.desc).map (fun d => d.parameters.length) = some 4 by decide +kernel) zs_blindY (fun U hU hW => ⟨rfl, by rw [hU]; exact I.hh.l0, (C.hKa.ext I.he).warm hW, (zBQ_of C.hBM).alike hW.alike, by rw [hU]; exact ⟨⟨jc, jzc, jl⟩, kc⟩⟩) I.hh.2.2.1 hl.1 (Nat.le_of_ble_eq_true rfl) (eL_law_19 (1239, .invokestatic 177, 3) (List.mem_of_getElem? (i := 24) rfl)) (fun r1 s1 t1 lo1 g1 f1 l1 => ?_)
  obtain ⟨k1, T1, O1, zz, rr, q1, z1, kp1, kc1, hoz, hor, hday⟩ := f1
  cases q1
  rw [g1] at kp1
  have hh1 : zh_ok D cA RTg ro s.heap.size s.heap t1.heap lo1 := ⟨z1.1, z1.2.1, l1, z1.2.2.2⟩
  have jc1 := (show jCS D cA ro _ x LL zc from ⟨jc, jzc, jl⟩).kept I.hx10 kp1 (by decide)
  have jr1 := (show jRS D cA ro _ mm LL zc from ⟨jr, jzr, jl⟩).kept I.hm11 kp1 (by decide)
  have kr1 := kr.kept I.hm11 kp1 (by decide)
  obtain ⟨rk, spk, hrk⟩ : ∃ r : Int, spW (lgI y1 y2).toInt y3.toInt TT OO k1.toInt r T1 O1 ∧ (k1.toInt = 0 → r = rr.toInt) := by
    rcases hday with ⟨g1, g2⟩ | ⟨g1, r, g2⟩
    · exact ⟨rr.toInt, by rw [g1]; exact g2, fun _ => rfl⟩
    · exact ⟨r, g2, fun g => absurd g g1⟩
  have hH1 := hh1.2.1 b C.hbl
  have rq1 := (I.hq.kept I.hx10 kp1 (by decide))
  refine W.eq (g2 := F0 m 1242 ls [.int k1]) rfl ?_
  refine lv_istore C.hx C.hb (eL_law_19 (1242, .istore 5, 2) (List.mem_of_getElem? (i := 25) rfl)) hl (by decide) rfl (fun ls2 (hl2 : lv_has ls2 8 [(5, .int k1), (4, .int iv), (3, .ref o), (2, .ref mm), (1, .ref x), (0, .ref b)]) => ?_)
  refine lv_aload_n C.hx C.hb (eL_law_19 (1244, .aload_n 2, 1) (List.mem_of_getElem? (i := 26) rfl)) rfl (lv_at hl2 3 rfl) ?_
  refine lw_rd (k := 1) C hi hiv hH1 (lv_at hl2 1 rfl) (lv_at hl2 5 rfl) (by decide) rfl (eL_law_19 (1245, .aload_n 0, 1) (List.mem_of_getElem? (i := 27) rfl)) (eL_law_19 (1246, .iload 4, 2) (List.mem_of_getElem? (i := 28) rfl)) (eL_law_19 (1248, .iconst 1, 1) (List.mem_of_getElem? (i := 29) rfl)) (eL_law_19 (1249, .iadd, 1) (List.mem_of_getElem? (i := 30) rfl)) (eL_law_19 (1250, .iaload, 1) (List.mem_of_getElem? (i := 31) rfl)) hy1 ?_
  refine lv_i2l C.hx C.hb (eL_law_19 (1251, .i2l, 1) (List.mem_of_getElem? (i := 32) rfl)) rfl ?_
  refine lv_bipush C.hx C.hb (eL_law_19 (1252, .bipush 32, 2) (List.mem_of_getElem? (i := 33) rfl)) rfl ?_
  refine lv_lshl C.hx C.hb (eL_law_19 (1254, .lshl, 1) (List.mem_of_getElem? (i := 34) rfl)) rfl ?_
  refine lw_rd (k := 2) C hi hiv hH1 (lv_at hl2 1 rfl) (lv_at hl2 5 rfl) (by decide) rfl (eL_law_19 (1255, .aload_n 0, 1) (List.mem_of_getElem? (i := 35) rfl)) (eL_law_19 (1256, .iload 4, 2) (List.mem_of_getElem? (i := 36) rfl)) (eL_law_19 (1258, .iconst 2, 1) (List.mem_of_getElem? (i := 37) rfl)) (eL_law_19 (1259, .iadd, 1) (List.mem_of_getElem? (i := 38) rfl)) (eL_law_19 (1260, .iaload, 1) (List.mem_of_getElem? (i := 39) rfl)) hy2 ?_
  refine lv_i2l C.hx C.hb (eL_law_19 (1261, .i2l, 1) (List.mem_of_getElem? (i := 40) rfl)) rfl ?_
  refine lv_ldc2 C.hx C.hb C.hown (C.h2 _ (tb_8 200 rfl rfl)) (eL_law_19 (1262, .ldc2_w 108, 3) (List.mem_of_getElem? (i := 41) rfl)) ?_
  refine lv_land C.hx C.hb (eL_law_19 (1265, .land, 1) (List.mem_of_getElem? (i := 42) rfl)) ?_
  refine lv_lor C.hx C.hb (eL_law_19 (1266, .lor, 1) (List.mem_of_getElem? (i := 43) rfl)) ?_
  refine W.eq (g2 := F0 m 1267 ls2 [.long (lgI y1 y2), .ref mm]) rfl ?_
  refine lw_rd (k := 3) C hi hiv hH1 (lv_at hl2 1 rfl) (lv_at hl2 5 rfl) (by decide) rfl (eL_law_19 (1267, .aload_n 0, 1) (List.mem_of_getElem? (i := 44) rfl)) (eL_law_19 (1268, .iload 4, 2) (List.mem_of_getElem? (i := 45) rfl)) (eL_law_19 (1270, .iconst 3, 1) (List.mem_of_getElem? (i := 46) rfl)) (eL_law_19 (1271, .iadd, 1) (List.mem_of_getElem? (i := 47) rfl)) (eL_law_19 (1272, .iaload, 1) (List.mem_of_getElem? (i := 48) rfl)) hy3 ?_
  refine tz_rowV (As := [.long (lgI y1 y2), .int y3]) (st := []) (b := mm) (C := RX12) (Ts := gT) C.hx C.hb C.hml C.hown C.h2 (fun _ h => h) (hX12_writeDate l D cA ro s.heap.size s.heap mm (lgI y1 y2) y3 LL zc TT OO I.hm11) ⟨rfl, rfl⟩ ⟨by decide, by decide⟩ ⟨by show (cells + 1) + 0 ≤ 601024; omega, by show (slots + 6) + 0 ≤ 7293034; omega⟩ (tb_8 160 rfl rfl) (tb_1 12 rfl rfl) (tb_8 157 rfl rfl) (tb_8 158 rfl rfl) (tb_8 159 rfl rfl) (show yX12_writeDate.cls ≠ "java/lang/invoke/MethodHandle" ∧ yX12_writeDate.cls ≠ "java/lang/invoke/VarHandle" ∧ (parseMethodDescriptor yX12_writeDate.desc).map (fun d => d.parameters.length) = some 2 by decide +kernel) zs_blind (lw_ob12 hh1 C.hKa.1.1.1 I.hm11) (fun U hU hW => ⟨rfl, by rw [hU]; exact hh1.l0, zKb s U hW.alike (C.hKa.ext I.he).1.1, by rw [hU]; exact ⟨jr1, kr1⟩⟩) hh1.2.2.1 hl2.1 (Nat.le_of_ble_eq_true rfl) (eL_law_19 (1273, .invokevirtual 179, 3) (List.mem_of_getElem? (i := 49) rfl)) (fun r3 s3 t3 lo3 g3 f3 l3 => ?_)
  obtain ⟨vv3, rb3, w3, T3, O3, q3, ⟨b3, qb3, eb3⟩, z3, kp3, hw3, kr3, sp3⟩ := f3
  cases q3
  cases qb3
  rw [g3] at kp3
  have hh3 : zh_ok D cA RTg ro s.heap.size s.heap t3.heap lo3 := ⟨z3.1, z3.2.1, l3, z3.2.2.2⟩
  obtain ⟨hkw, hLL, hzz, hrr⟩ := (spW_det (lgI y1 y2).toInt y3.toInt TT OO) _ _ _ _ _ _ _ _ spk sp3
  rw [← hLL, ← hzz] at kr3
  have jc9 := jc1.kept I.hx10 kp3 (by decide)
  have jr9 := jr1.kept I.hm11 kp3 (by decide)
  have kc9 := kc1.kept I.hx10 kp3 (by decide)
  have j3 : jJ D cA ro t3.heap x mm := ⟨_, _, jc9.1, jr9.1, jc9.2.2, jc9.2.1, jr9.2.1⟩
  have kk3 : jK D cA ro t3.heap x mm := ⟨_, _, kc9, kr3⟩
  have hoz2 := (kp3.2 o 42 0 1 1 _ I.ho42 rfl (by decide)).trans hoz
  have hH3 := hh3.2.1 b C.hbl
  have rq3 := (rq1.kept I.hx10 kp3 (by decide))
  refine W.eq (g2 := F0 m 1276 ls2 [.int b3]) rfl ?_
  refine lv_istore C.hx C.hb (eL_law_19 (1276, .istore 6, 2) (List.mem_of_getElem? (i := 50) rfl)) hl2 (by decide) rfl (fun ls4 (hl4 : lv_has ls4 8 [(6, .int b3), (5, .int k1), (4, .int iv), (3, .ref o), (2, .ref mm), (1, .ref x), (0, .ref b)]) => ?_)
  refine lv_goto C.hx C.hb (eL_law_19 (1278, .goto 517, 3) (List.mem_of_getElem? (i := 51) rfl)) (tgt := 1795) rfl ?_
  exact W.widen (k := cells + 6) (n := slots + 147) (by omega) (by omega) (K ro _ _ _ ⟨hh3, I.he, I.hx10, I.hm11, I.ho42, j3, kk3, rq3⟩ (lv_sub hl4 [2, 3, 4, 5, 6] rfl))
def tL_law_20 : List (Nat × Instr × Nat) := [(1281, .aload_n 1, 1), (1282, .aload_n 0, 1), (1283, .iload 4, 2), (1285, .iconst 1, 1), (1286, .iadd, 1), (1287, .iaload, 1), (1288, .i2l, 1), (1289, .bipush 32, 2), (1291, .lshl, 1), (1292, .aload_n 0, 1), (1293, .iload 4, 2), (1295, .iconst 2, 1), (1296, .iadd, 1), (1297, .iaload, 1), (1298, .i2l, 1), (1299, .ldc2_w 108, 3), (1302, .land, 1), (1303, .lor, 1), (1304, .aload_n 0, 1), (1305, .iload 4, 2), (1307, .iconst 3, 1), (1308, .iadd, 1), (1309, .iaload, 1), (1310, .aload_n 0, 1), (1311, .iload 4, 2), (1313, .iconst 4, 1), (1314, .iadd, 1), (1315, .iaload, 1), (1316, .aload_n 0, 1), (1317, .iload 4, 2), (1319, .iconst 5, 1), (1320, .iadd, 1), (1321, .iaload, 1), (1322, .aload_n 3, 1), (1323, .invokestatic 180, 3), (1326, .istore 5, 2), (1328, .aload_n 2, 1), (1329, .aload_n 0, 1), (1330, .iload 4, 2), (1332, .iconst 1, 1), (1333, .iadd, 1), (1334, .iaload, 1), (1335, .i2l, 1), (1336, .bipush 32, 2), (1338, .lshl, 1), (1339, .aload_n 0, 1), (1340, .iload 4, 2), (1342, .iconst 2, 1), (1343, .iadd, 1), (1344, .iaload, 1), (1345, .i2l, 1), (1346, .ldc2_w 108, 3), (1349, .land, 1), (1350, .lor, 1), (1351, .aload_n 0, 1), (1352, .iload 4, 2), (1354, .iconst 3, 1), (1355, .iadd, 1), (1356, .iaload, 1), (1357, .aload_n 0, 1), (1358, .iload 4, 2), (1360, .iconst 4, 1), (1361, .iadd, 1), (1362, .iaload, 1), (1363, .aload_n 0, 1), (1364, .iload 4, 2), (1366, .iconst 5, 1), (1367, .iadd, 1), (1368, .iaload, 1), (1369, .invokevirtual 183, 3), (1372, .istore 6, 2), (1374, .goto 421, 3)]
set_option maxRecDepth 100000 in
theorem eL_law_20 : ∀ x ∈ tL_law_20, decode cL_law x.1 = .ok x.2 := by decide +kernel
set_option maxRecDepth 100000 in
set_option maxHeartbeats 4000000 in
theorem lw_case_20 {p : Program} {l : Launch} {e : Env} {s : State} {m : MethodId} {below : List Frame} {meth : Method} {c : Code} {b L : Nat} {xs : Nat → Int32} {D : va_G} {cA : Nat → ClassId} {ro0 ro : Nat → Option Nat} {H : Heap} {locs : List Loc} {cells slots : Nat} {Q : State → Prop} {ls : Array Slot} {i x mm o : Nat} {iv : Int32} (C : lw_C p l s m meth c b L xs D cA ro0) (hi : i + 8 ≤ L) (hiv : iv.toInt = (i : Int)) (I : lw_I D cA ro0 s x mm o ro H locs) (hl : lv_has ls 8 [(4, .int iv), (3, .ref o), (2, .ref mm), (1, .ref x), (0, .ref b)]) (hc : cells + 6 ≤ 601024) (hs : slots + 147 ≤ 7293034) (K : ∀ (ro9 : Nat → Option Nat) (H9 : Heap) (lo9 : List Loc) (ls9 : Array Slot), lw_I D cA ro0 s x mm o ro9 H9 lo9 → lv_has ls9 8 [(4, .int iv), (3, .ref o), (2, .ref mm), (1, .ref x), (0, .ref b)] → W p l e room_1 s m #[Value.ref b] below meth c H9 lo9 (cells + 6) (slots + 147) Q (F0 m 1795 ls9 [])) : W p l e room_1 s m #[Value.ref b] below meth c H locs cells slots Q (F0 m 1281 ls []) := by
  have hL := C.hL
  have hH0 := I.hh.2.1 b C.hbl
  have hts0 : ∀ w ∈ Cond.initialized "MomentTextsLaw" :: gT, w.before #[Value.ref b] s = true := fun w hw => (List.mem_cons.mp hw).elim (fun g => by rw [g]; exact C.h2 _ (tb_1 0 rfl rfl)) (C.h2 w)
  generalize hy1 : xs (i + 1) = y1
  generalize hy2 : xs (i + 2) = y2
  generalize hy3 : xs (i + 3) = y3
  generalize hy4 : xs (i + 4) = y4
  generalize hy5 : xs (i + 5) = y5
  generalize hy6 : xs (i + 6) = y6
  generalize hy7 : xs (i + 7) = y7
  refine lv_aload_n C.hx C.hb (eL_law_20 (1281, .aload_n 1, 1) (List.mem_of_getElem? (i := 0) rfl)) rfl (lv_at hl 3 rfl) ?_
  refine lw_rd (k := 1) C hi hiv hH0 (lv_at hl 0 rfl) (lv_at hl 4 rfl) (by decide) rfl (eL_law_20 (1282, .aload_n 0, 1) (List.mem_of_getElem? (i := 1) rfl)) (eL_law_20 (1283, .iload 4, 2) (List.mem_of_getElem? (i := 2) rfl)) (eL_law_20 (1285, .iconst 1, 1) (List.mem_of_getElem? (i := 3) rfl)) (eL_law_20 (1286, .iadd, 1) (List.mem_of_getElem? (i := 4) rfl)) (eL_law_20 (1287, .iaload, 1) (List.mem_of_getElem? (i := 5) rfl)) hy1 ?_
  refine lv_i2l C.hx C.hb (eL_law_20 (1288, .i2l, 1) (List.mem_of_getElem? (i := 6) rfl)) rfl ?_
  refine lv_bipush C.hx C.hb (eL_law_20 (1289, .bipush 32, 2) (List.mem_of_getElem? (i := 7) rfl)) rfl ?_
  refine lv_lshl C.hx C.hb (eL_law_20 (1291, .lshl, 1) (List.mem_of_getElem? (i := 8) rfl)) rfl ?_
  refine lw_rd (k := 2) C hi hiv hH0 (lv_at hl 0 rfl) (lv_at hl 4 rfl) (by decide) rfl (eL_law_20 (1292, .aload_n 0, 1) (List.mem_of_getElem? (i := 9) rfl)) (eL_law_20 (1293, .iload 4, 2) (List.mem_of_getElem? (i := 10) rfl)) (eL_law_20 (1295, .iconst 2, 1) (List.mem_of_getElem? (i := 11) rfl)) (eL_law_20 (1296, .iadd, 1) (List.mem_of_getElem? (i := 12) rfl)) (eL_law_20 (1297, .iaload, 1) (List.mem_of_getElem? (i := 13) rfl)) hy2 ?_
  refine lv_i2l C.hx C.hb (eL_law_20 (1298, .i2l, 1) (List.mem_of_getElem? (i := 14) rfl)) rfl ?_
  refine lv_ldc2 C.hx C.hb C.hown (C.h2 _ (tb_8 200 rfl rfl)) (eL_law_20 (1299, .ldc2_w 108, 3) (List.mem_of_getElem? (i := 15) rfl)) ?_
  refine lv_land C.hx C.hb (eL_law_20 (1302, .land, 1) (List.mem_of_getElem? (i := 16) rfl)) ?_
  refine lv_lor C.hx C.hb (eL_law_20 (1303, .lor, 1) (List.mem_of_getElem? (i := 17) rfl)) ?_
  refine W.eq (g2 := F0 m 1304 ls [.long (lgI y1 y2), .ref x]) rfl ?_
  refine lw_rd (k := 3) C hi hiv hH0 (lv_at hl 0 rfl) (lv_at hl 4 rfl) (by decide) rfl (eL_law_20 (1304, .aload_n 0, 1) (List.mem_of_getElem? (i := 18) rfl)) (eL_law_20 (1305, .iload 4, 2) (List.mem_of_getElem? (i := 19) rfl)) (eL_law_20 (1307, .iconst 3, 1) (List.mem_of_getElem? (i := 20) rfl)) (eL_law_20 (1308, .iadd, 1) (List.mem_of_getElem? (i := 21) rfl)) (eL_law_20 (1309, .iaload, 1) (List.mem_of_getElem? (i := 22) rfl)) hy3 ?_
  refine lw_rd (k := 4) C hi hiv hH0 (lv_at hl 0 rfl) (lv_at hl 4 rfl) (by decide) rfl (eL_law_20 (1310, .aload_n 0, 1) (List.mem_of_getElem? (i := 23) rfl)) (eL_law_20 (1311, .iload 4, 2) (List.mem_of_getElem? (i := 24) rfl)) (eL_law_20 (1313, .iconst 4, 1) (List.mem_of_getElem? (i := 25) rfl)) (eL_law_20 (1314, .iadd, 1) (List.mem_of_getElem? (i := 26) rfl)) (eL_law_20 (1315, .iaload, 1) (List.mem_of_getElem? (i := 27) rfl)) hy4 ?_
  refine lw_rd (k := 5) C hi hiv hH0 (lv_at hl 0 rfl) (lv_at hl 4 rfl) (by decide) rfl (eL_law_20 (1316, .aload_n 0, 1) (List.mem_of_getElem? (i := 28) rfl)) (eL_law_20 (1317, .iload 4, 2) (List.mem_of_getElem? (i := 29) rfl)) (eL_law_20 (1319, .iconst 5, 1) (List.mem_of_getElem? (i := 30) rfl)) (eL_law_20 (1320, .iadd, 1) (List.mem_of_getElem? (i := 31) rfl)) (eL_law_20 (1321, .iaload, 1) (List.mem_of_getElem? (i := 32) rfl)) hy5 ?_
  refine lv_aload_n C.hx C.hb (eL_law_20 (1322, .aload_n 3, 1) (List.mem_of_getElem? (i := 33) rfl)) rfl (lv_at hl 1 rfl) ?_
  have hjj := I.hj
  obtain ⟨LL, zc, jc, jr, jl, jzc, jzr⟩ := hjj
  have hkk := I.hk
  obtain ⟨TT, OO, kc, kr⟩ := hkk
  refine zw_row (As := [.ref x, .long (lgI y1 y2), .int y3, .int y4, .int y5, .ref o]) (st := []) (Ts := gT) C.hx C.hb C.hml C.hown C.h2 (fun _ h => h) (wK_writeInstant l C.hst D cA ro s.heap.size s.heap x (lgI y1 y2) y3 y4 y5 o LL zc TT OO I.hx10 I.ho42) ⟨rfl, rfl⟩ ⟨by decide, by decide⟩ ⟨by show cells + 1 ≤ 601024; omega, by show slots + 6 ≤ 7293034; omega⟩ (tb_6 13 rfl rfl) (tb_1 0 rfl rfl) (tb_6 11 rfl rfl) (tb_6 12 rfl rfl) (show yL_writeInstant.cls ≠ "java/lang/invoke/MethodHandle" ∧ yL_writeInstant.cls ≠ "java/lang/invoke/VarHandle" ∧ (parseMethodDescriptor yL_writeInstant.desc).map (fun d => d.parameters.length) = some 6 by decide +kernel) zs_blindY (fun U hU hW => ⟨rfl, by rw [hU]; exact I.hh.l0, (C.hKa.ext I.he).warm hW, (zBQ_of C.hBM).alike hW.alike, by rw [hU]; exact ⟨⟨jc, jzc, jl⟩, kc⟩⟩) I.hh.2.2.1 hl.1 (Nat.le_of_ble_eq_true rfl) (eL_law_20 (1323, .invokestatic 180, 3) (List.mem_of_getElem? (i := 34) rfl)) (fun r1 s1 t1 lo1 g1 f1 l1 => ?_)
  obtain ⟨k1, T1, O1, zz, rr, q1, z1, kp1, kc1, hoz, hor, hday⟩ := f1
  cases q1
  rw [g1] at kp1
  have hh1 : zh_ok D cA RTg ro s.heap.size s.heap t1.heap lo1 := ⟨z1.1, z1.2.1, l1, z1.2.2.2⟩
  have jc1 := (show jCS D cA ro _ x LL zc from ⟨jc, jzc, jl⟩).kept I.hx10 kp1 (by decide)
  have jr1 := (show jRS D cA ro _ mm LL zc from ⟨jr, jzr, jl⟩).kept I.hm11 kp1 (by decide)
  have kr1 := kr.kept I.hm11 kp1 (by decide)
  obtain ⟨rk, spk, hrk⟩ : ∃ r : Int, spN (lgI y1 y2).toInt y3.toInt y4.toInt y5.toInt LL TT OO k1.toInt r T1 O1 ∧ (k1.toInt = 0 → r = rr.toInt) := by
    rcases hday with ⟨g1, g2⟩ | ⟨g1, r, g2⟩
    · exact ⟨rr.toInt, by rw [g1]; exact g2, fun _ => rfl⟩
    · exact ⟨r, g2, fun g => absurd g g1⟩
  have hH1 := hh1.2.1 b C.hbl
  have rq1 := (I.hq.kept I.hx10 kp1 (by decide))
  refine W.eq (g2 := F0 m 1326 ls [.int k1]) rfl ?_
  refine lv_istore C.hx C.hb (eL_law_20 (1326, .istore 5, 2) (List.mem_of_getElem? (i := 35) rfl)) hl (by decide) rfl (fun ls2 (hl2 : lv_has ls2 8 [(5, .int k1), (4, .int iv), (3, .ref o), (2, .ref mm), (1, .ref x), (0, .ref b)]) => ?_)
  refine lv_aload_n C.hx C.hb (eL_law_20 (1328, .aload_n 2, 1) (List.mem_of_getElem? (i := 36) rfl)) rfl (lv_at hl2 3 rfl) ?_
  refine lw_rd (k := 1) C hi hiv hH1 (lv_at hl2 1 rfl) (lv_at hl2 5 rfl) (by decide) rfl (eL_law_20 (1329, .aload_n 0, 1) (List.mem_of_getElem? (i := 37) rfl)) (eL_law_20 (1330, .iload 4, 2) (List.mem_of_getElem? (i := 38) rfl)) (eL_law_20 (1332, .iconst 1, 1) (List.mem_of_getElem? (i := 39) rfl)) (eL_law_20 (1333, .iadd, 1) (List.mem_of_getElem? (i := 40) rfl)) (eL_law_20 (1334, .iaload, 1) (List.mem_of_getElem? (i := 41) rfl)) hy1 ?_
  refine lv_i2l C.hx C.hb (eL_law_20 (1335, .i2l, 1) (List.mem_of_getElem? (i := 42) rfl)) rfl ?_
  refine lv_bipush C.hx C.hb (eL_law_20 (1336, .bipush 32, 2) (List.mem_of_getElem? (i := 43) rfl)) rfl ?_
  refine lv_lshl C.hx C.hb (eL_law_20 (1338, .lshl, 1) (List.mem_of_getElem? (i := 44) rfl)) rfl ?_
  refine lw_rd (k := 2) C hi hiv hH1 (lv_at hl2 1 rfl) (lv_at hl2 5 rfl) (by decide) rfl (eL_law_20 (1339, .aload_n 0, 1) (List.mem_of_getElem? (i := 45) rfl)) (eL_law_20 (1340, .iload 4, 2) (List.mem_of_getElem? (i := 46) rfl)) (eL_law_20 (1342, .iconst 2, 1) (List.mem_of_getElem? (i := 47) rfl)) (eL_law_20 (1343, .iadd, 1) (List.mem_of_getElem? (i := 48) rfl)) (eL_law_20 (1344, .iaload, 1) (List.mem_of_getElem? (i := 49) rfl)) hy2 ?_
  refine lv_i2l C.hx C.hb (eL_law_20 (1345, .i2l, 1) (List.mem_of_getElem? (i := 50) rfl)) rfl ?_
  refine lv_ldc2 C.hx C.hb C.hown (C.h2 _ (tb_8 200 rfl rfl)) (eL_law_20 (1346, .ldc2_w 108, 3) (List.mem_of_getElem? (i := 51) rfl)) ?_
  refine lv_land C.hx C.hb (eL_law_20 (1349, .land, 1) (List.mem_of_getElem? (i := 52) rfl)) ?_
  refine lv_lor C.hx C.hb (eL_law_20 (1350, .lor, 1) (List.mem_of_getElem? (i := 53) rfl)) ?_
  refine W.eq (g2 := F0 m 1351 ls2 [.long (lgI y1 y2), .ref mm]) rfl ?_
  refine lw_rd (k := 3) C hi hiv hH1 (lv_at hl2 1 rfl) (lv_at hl2 5 rfl) (by decide) rfl (eL_law_20 (1351, .aload_n 0, 1) (List.mem_of_getElem? (i := 54) rfl)) (eL_law_20 (1352, .iload 4, 2) (List.mem_of_getElem? (i := 55) rfl)) (eL_law_20 (1354, .iconst 3, 1) (List.mem_of_getElem? (i := 56) rfl)) (eL_law_20 (1355, .iadd, 1) (List.mem_of_getElem? (i := 57) rfl)) (eL_law_20 (1356, .iaload, 1) (List.mem_of_getElem? (i := 58) rfl)) hy3 ?_
  refine lw_rd (k := 4) C hi hiv hH1 (lv_at hl2 1 rfl) (lv_at hl2 5 rfl) (by decide) rfl (eL_law_20 (1357, .aload_n 0, 1) (List.mem_of_getElem? (i := 59) rfl)) (eL_law_20 (1358, .iload 4, 2) (List.mem_of_getElem? (i := 60) rfl)) (eL_law_20 (1360, .iconst 4, 1) (List.mem_of_getElem? (i := 61) rfl)) (eL_law_20 (1361, .iadd, 1) (List.mem_of_getElem? (i := 62) rfl)) (eL_law_20 (1362, .iaload, 1) (List.mem_of_getElem? (i := 63) rfl)) hy4 ?_
  refine lw_rd (k := 5) C hi hiv hH1 (lv_at hl2 1 rfl) (lv_at hl2 5 rfl) (by decide) rfl (eL_law_20 (1363, .aload_n 0, 1) (List.mem_of_getElem? (i := 64) rfl)) (eL_law_20 (1364, .iload 4, 2) (List.mem_of_getElem? (i := 65) rfl)) (eL_law_20 (1366, .iconst 5, 1) (List.mem_of_getElem? (i := 66) rfl)) (eL_law_20 (1367, .iadd, 1) (List.mem_of_getElem? (i := 67) rfl)) (eL_law_20 (1368, .iaload, 1) (List.mem_of_getElem? (i := 68) rfl)) hy5 ?_
  refine tz_rowV (As := [.long (lgI y1 y2), .int y3, .int y4, .int y5]) (st := []) (b := mm) (C := RX12) (Ts := gT) C.hx C.hb C.hml C.hown C.h2 (fun _ h => h) (hX12_writeInstant l D cA ro s.heap.size s.heap mm (lgI y1 y2) y3 y4 y5 LL zc TT OO I.hm11) ⟨rfl, rfl⟩ ⟨by decide, by decide⟩ ⟨by show (cells + 1) + 0 ≤ 601024; omega, by show (slots + 6) + 0 ≤ 7293034; omega⟩ (tb_8 177 rfl rfl) (tb_1 12 rfl rfl) (tb_8 174 rfl rfl) (tb_8 175 rfl rfl) (tb_8 176 rfl rfl) (show yX12_writeInstant.cls ≠ "java/lang/invoke/MethodHandle" ∧ yX12_writeInstant.cls ≠ "java/lang/invoke/VarHandle" ∧ (parseMethodDescriptor yX12_writeInstant.desc).map (fun d => d.parameters.length) = some 4 by decide +kernel) zs_blind (lw_ob12 hh1 C.hKa.1.1.1 I.hm11) (fun U hU hW => ⟨rfl, by rw [hU]; exact hh1.l0, zKb s U hW.alike (C.hKa.ext I.he).1.1, by rw [hU]; exact ⟨jr1, kr1⟩⟩) hh1.2.2.1 hl2.1 (Nat.le_of_ble_eq_true rfl) (eL_law_20 (1369, .invokevirtual 183, 3) (List.mem_of_getElem? (i := 69) rfl)) (fun r3 s3 t3 lo3 g3 f3 l3 => ?_)
  obtain ⟨vv3, rb3, w3, T3, O3, q3, ⟨b3, qb3, eb3⟩, z3, kp3, hw3, kr3, sp3⟩ := f3
  cases q3
  cases qb3
  rw [g3] at kp3
  have hh3 : zh_ok D cA RTg ro s.heap.size s.heap t3.heap lo3 := ⟨z3.1, z3.2.1, l3, z3.2.2.2⟩
  obtain ⟨hkw, hLL, hzz, hrr⟩ := (spN_det (lgI y1 y2).toInt y3.toInt y4.toInt y5.toInt LL TT OO) _ _ _ _ _ _ _ _ spk sp3
  rw [← hLL, ← hzz] at kr3
  have jc9 := jc1.kept I.hx10 kp3 (by decide)
  have jr9 := jr1.kept I.hm11 kp3 (by decide)
  have kc9 := kc1.kept I.hx10 kp3 (by decide)
  have j3 : jJ D cA ro t3.heap x mm := ⟨_, _, jc9.1, jr9.1, jc9.2.2, jc9.2.1, jr9.2.1⟩
  have kk3 : jK D cA ro t3.heap x mm := ⟨_, _, kc9, kr3⟩
  have hoz2 := (kp3.2 o 42 0 1 1 _ I.ho42 rfl (by decide)).trans hoz
  have hH3 := hh3.2.1 b C.hbl
  have rq3 := (rq1.kept I.hx10 kp3 (by decide))
  refine W.eq (g2 := F0 m 1372 ls2 [.int b3]) rfl ?_
  refine lv_istore C.hx C.hb (eL_law_20 (1372, .istore 6, 2) (List.mem_of_getElem? (i := 70) rfl)) hl2 (by decide) rfl (fun ls4 (hl4 : lv_has ls4 8 [(6, .int b3), (5, .int k1), (4, .int iv), (3, .ref o), (2, .ref mm), (1, .ref x), (0, .ref b)]) => ?_)
  refine lv_goto C.hx C.hb (eL_law_20 (1374, .goto 421, 3) (List.mem_of_getElem? (i := 71) rfl)) (tgt := 1795) rfl ?_
  exact W.widen (k := cells + 6) (n := slots + 147) (by omega) (by omega) (K ro _ _ _ ⟨hh3, I.he, I.hx10, I.hm11, I.ho42, j3, kk3, rq3⟩ (lv_sub hl4 [2, 3, 4, 5, 6] rfl))
def tL_law_21 : List (Nat × Instr × Nat) := [(1377, .aload_n 1, 1), (1378, .aload_n 0, 1), (1379, .iload 4, 2), (1381, .iconst 1, 1), (1382, .iadd, 1), (1383, .iaload, 1), (1384, .i2l, 1), (1385, .bipush 32, 2), (1387, .lshl, 1), (1388, .aload_n 0, 1), (1389, .iload 4, 2), (1391, .iconst 2, 1), (1392, .iadd, 1), (1393, .iaload, 1), (1394, .i2l, 1), (1395, .ldc2_w 108, 3), (1398, .land, 1), (1399, .lor, 1), (1400, .aload_n 0, 1), (1401, .iload 4, 2), (1403, .iconst 3, 1), (1404, .iadd, 1), (1405, .iaload, 1), (1406, .i2l, 1), (1407, .bipush 32, 2), (1409, .lshl, 1), (1410, .aload_n 0, 1), (1411, .iload 4, 2), (1413, .iconst 4, 1), (1414, .iadd, 1), (1415, .iaload, 1), (1416, .i2l, 1), (1417, .ldc2_w 108, 3), (1420, .land, 1), (1421, .lor, 1), (1422, .aload_n 0, 1), (1423, .iload 4, 2), (1425, .iconst 5, 1), (1426, .iadd, 1), (1427, .iaload, 1), (1428, .i2l, 1), (1429, .bipush 32, 2), (1431, .lshl, 1), (1432, .aload_n 0, 1), (1433, .iload 4, 2), (1435, .bipush 6, 2), (1437, .iadd, 1), (1438, .iaload, 1), (1439, .i2l, 1), (1440, .ldc2_w 108, 3), (1443, .land, 1), (1444, .lor, 1), (1445, .aload_n 0, 1), (1446, .iload 4, 2), (1448, .bipush 7, 2), (1450, .iadd, 1), (1451, .iaload, 1), (1452, .aload_n 3, 1), (1453, .invokestatic 184, 3), (1456, .istore 5, 2), (1458, .aload_n 2, 1), (1459, .aload_n 0, 1), (1460, .iload 4, 2), (1462, .iconst 1, 1), (1463, .iadd, 1), (1464, .iaload, 1), (1465, .i2l, 1), (1466, .bipush 32, 2), (1468, .lshl, 1), (1469, .aload_n 0, 1), (1470, .iload 4, 2), (1472, .iconst 2, 1), (1473, .iadd, 1), (1474, .iaload, 1), (1475, .i2l, 1), (1476, .ldc2_w 108, 3), (1479, .land, 1), (1480, .lor, 1), (1481, .aload_n 0, 1), (1482, .iload 4, 2), (1484, .iconst 3, 1), (1485, .iadd, 1), (1486, .iaload, 1), (1487, .i2l, 1), (1488, .bipush 32, 2), (1490, .lshl, 1), (1491, .aload_n 0, 1), (1492, .iload 4, 2), (1494, .iconst 4, 1), (1495, .iadd, 1), (1496, .iaload, 1), (1497, .i2l, 1), (1498, .ldc2_w 108, 3), (1501, .land, 1), (1502, .lor, 1), (1503, .aload_n 0, 1), (1504, .iload 4, 2), (1506, .iconst 5, 1), (1507, .iadd, 1), (1508, .iaload, 1), (1509, .i2l, 1), (1510, .bipush 32, 2), (1512, .lshl, 1), (1513, .aload_n 0, 1), (1514, .iload 4, 2), (1516, .bipush 6, 2), (1518, .iadd, 1), (1519, .iaload, 1), (1520, .i2l, 1), (1521, .ldc2_w 108, 3), (1524, .land, 1), (1525, .lor, 1), (1526, .aload_n 0, 1), (1527, .iload 4, 2), (1529, .bipush 7, 2), (1531, .iadd, 1), (1532, .iaload, 1), (1533, .invokevirtual 187, 3), (1536, .istore 6, 2), (1538, .goto 257, 3)]
set_option maxRecDepth 100000 in
theorem eL_law_21 : ∀ x ∈ tL_law_21, decode cL_law x.1 = .ok x.2 := by decide +kernel
set_option maxRecDepth 100000 in
set_option maxHeartbeats 4000000 in
theorem lw_case_21 {p : Program} {l : Launch} {e : Env} {s : State} {m : MethodId} {below : List Frame} {meth : Method} {c : Code} {b L : Nat} {xs : Nat → Int32} {D : va_G} {cA : Nat → ClassId} {ro0 ro : Nat → Option Nat} {H : Heap} {locs : List Loc} {cells slots : Nat} {Q : State → Prop} {ls : Array Slot} {i x mm o : Nat} {iv : Int32} (C : lw_C p l s m meth c b L xs D cA ro0) (hi : i + 8 ≤ L) (hiv : iv.toInt = (i : Int)) (I : lw_I D cA ro0 s x mm o ro H locs) (hl : lv_has ls 8 [(4, .int iv), (3, .ref o), (2, .ref mm), (1, .ref x), (0, .ref b)]) (hc : cells + 6 ≤ 601024) (hs : slots + 147 ≤ 7293034) (K : ∀ (ro9 : Nat → Option Nat) (H9 : Heap) (lo9 : List Loc) (ls9 : Array Slot), lw_I D cA ro0 s x mm o ro9 H9 lo9 → lv_has ls9 8 [(4, .int iv), (3, .ref o), (2, .ref mm), (1, .ref x), (0, .ref b)] → W p l e room_1 s m #[Value.ref b] below meth c H9 lo9 (cells + 6) (slots + 147) Q (F0 m 1795 ls9 [])) : W p l e room_1 s m #[Value.ref b] below meth c H locs cells slots Q (F0 m 1377 ls []) := by
  have hL := C.hL
  have hH0 := I.hh.2.1 b C.hbl
  have hts0 : ∀ w ∈ Cond.initialized "MomentTextsLaw" :: gT, w.before #[Value.ref b] s = true := fun w hw => (List.mem_cons.mp hw).elim (fun g => by rw [g]; exact C.h2 _ (tb_1 0 rfl rfl)) (C.h2 w)
  generalize hy1 : xs (i + 1) = y1
  generalize hy2 : xs (i + 2) = y2
  generalize hy3 : xs (i + 3) = y3
  generalize hy4 : xs (i + 4) = y4
  generalize hy5 : xs (i + 5) = y5
  generalize hy6 : xs (i + 6) = y6
  generalize hy7 : xs (i + 7) = y7
  refine lv_aload_n C.hx C.hb (eL_law_21 (1377, .aload_n 1, 1) (List.mem_of_getElem? (i := 0) rfl)) rfl (lv_at hl 3 rfl) ?_
  refine lw_rd (k := 1) C hi hiv hH0 (lv_at hl 0 rfl) (lv_at hl 4 rfl) (by decide) rfl (eL_law_21 (1378, .aload_n 0, 1) (List.mem_of_getElem? (i := 1) rfl)) (eL_law_21 (1379, .iload 4, 2) (List.mem_of_getElem? (i := 2) rfl)) (eL_law_21 (1381, .iconst 1, 1) (List.mem_of_getElem? (i := 3) rfl)) (eL_law_21 (1382, .iadd, 1) (List.mem_of_getElem? (i := 4) rfl)) (eL_law_21 (1383, .iaload, 1) (List.mem_of_getElem? (i := 5) rfl)) hy1 ?_
  refine lv_i2l C.hx C.hb (eL_law_21 (1384, .i2l, 1) (List.mem_of_getElem? (i := 6) rfl)) rfl ?_
  refine lv_bipush C.hx C.hb (eL_law_21 (1385, .bipush 32, 2) (List.mem_of_getElem? (i := 7) rfl)) rfl ?_
  refine lv_lshl C.hx C.hb (eL_law_21 (1387, .lshl, 1) (List.mem_of_getElem? (i := 8) rfl)) rfl ?_
  refine lw_rd (k := 2) C hi hiv hH0 (lv_at hl 0 rfl) (lv_at hl 4 rfl) (by decide) rfl (eL_law_21 (1388, .aload_n 0, 1) (List.mem_of_getElem? (i := 9) rfl)) (eL_law_21 (1389, .iload 4, 2) (List.mem_of_getElem? (i := 10) rfl)) (eL_law_21 (1391, .iconst 2, 1) (List.mem_of_getElem? (i := 11) rfl)) (eL_law_21 (1392, .iadd, 1) (List.mem_of_getElem? (i := 12) rfl)) (eL_law_21 (1393, .iaload, 1) (List.mem_of_getElem? (i := 13) rfl)) hy2 ?_
  refine lv_i2l C.hx C.hb (eL_law_21 (1394, .i2l, 1) (List.mem_of_getElem? (i := 14) rfl)) rfl ?_
  refine lv_ldc2 C.hx C.hb C.hown (C.h2 _ (tb_8 200 rfl rfl)) (eL_law_21 (1395, .ldc2_w 108, 3) (List.mem_of_getElem? (i := 15) rfl)) ?_
  refine lv_land C.hx C.hb (eL_law_21 (1398, .land, 1) (List.mem_of_getElem? (i := 16) rfl)) ?_
  refine lv_lor C.hx C.hb (eL_law_21 (1399, .lor, 1) (List.mem_of_getElem? (i := 17) rfl)) ?_
  refine W.eq (g2 := F0 m 1400 ls [.long (lgI y1 y2), .ref x]) rfl ?_
  refine lw_rd (k := 3) C hi hiv hH0 (lv_at hl 0 rfl) (lv_at hl 4 rfl) (by decide) rfl (eL_law_21 (1400, .aload_n 0, 1) (List.mem_of_getElem? (i := 18) rfl)) (eL_law_21 (1401, .iload 4, 2) (List.mem_of_getElem? (i := 19) rfl)) (eL_law_21 (1403, .iconst 3, 1) (List.mem_of_getElem? (i := 20) rfl)) (eL_law_21 (1404, .iadd, 1) (List.mem_of_getElem? (i := 21) rfl)) (eL_law_21 (1405, .iaload, 1) (List.mem_of_getElem? (i := 22) rfl)) hy3 ?_
  refine lv_i2l C.hx C.hb (eL_law_21 (1406, .i2l, 1) (List.mem_of_getElem? (i := 23) rfl)) rfl ?_
  refine lv_bipush C.hx C.hb (eL_law_21 (1407, .bipush 32, 2) (List.mem_of_getElem? (i := 24) rfl)) rfl ?_
  refine lv_lshl C.hx C.hb (eL_law_21 (1409, .lshl, 1) (List.mem_of_getElem? (i := 25) rfl)) rfl ?_
  refine lw_rd (k := 4) C hi hiv hH0 (lv_at hl 0 rfl) (lv_at hl 4 rfl) (by decide) rfl (eL_law_21 (1410, .aload_n 0, 1) (List.mem_of_getElem? (i := 26) rfl)) (eL_law_21 (1411, .iload 4, 2) (List.mem_of_getElem? (i := 27) rfl)) (eL_law_21 (1413, .iconst 4, 1) (List.mem_of_getElem? (i := 28) rfl)) (eL_law_21 (1414, .iadd, 1) (List.mem_of_getElem? (i := 29) rfl)) (eL_law_21 (1415, .iaload, 1) (List.mem_of_getElem? (i := 30) rfl)) hy4 ?_
  refine lv_i2l C.hx C.hb (eL_law_21 (1416, .i2l, 1) (List.mem_of_getElem? (i := 31) rfl)) rfl ?_
  refine lv_ldc2 C.hx C.hb C.hown (C.h2 _ (tb_8 200 rfl rfl)) (eL_law_21 (1417, .ldc2_w 108, 3) (List.mem_of_getElem? (i := 32) rfl)) ?_
  refine lv_land C.hx C.hb (eL_law_21 (1420, .land, 1) (List.mem_of_getElem? (i := 33) rfl)) ?_
  refine lv_lor C.hx C.hb (eL_law_21 (1421, .lor, 1) (List.mem_of_getElem? (i := 34) rfl)) ?_
  refine W.eq (g2 := F0 m 1422 ls [.long (lgI y3 y4), .long (lgI y1 y2), .ref x]) rfl ?_
  refine lw_rd (k := 5) C hi hiv hH0 (lv_at hl 0 rfl) (lv_at hl 4 rfl) (by decide) rfl (eL_law_21 (1422, .aload_n 0, 1) (List.mem_of_getElem? (i := 35) rfl)) (eL_law_21 (1423, .iload 4, 2) (List.mem_of_getElem? (i := 36) rfl)) (eL_law_21 (1425, .iconst 5, 1) (List.mem_of_getElem? (i := 37) rfl)) (eL_law_21 (1426, .iadd, 1) (List.mem_of_getElem? (i := 38) rfl)) (eL_law_21 (1427, .iaload, 1) (List.mem_of_getElem? (i := 39) rfl)) hy5 ?_
  refine lv_i2l C.hx C.hb (eL_law_21 (1428, .i2l, 1) (List.mem_of_getElem? (i := 40) rfl)) rfl ?_
  refine lv_bipush C.hx C.hb (eL_law_21 (1429, .bipush 32, 2) (List.mem_of_getElem? (i := 41) rfl)) rfl ?_
  refine lv_lshl C.hx C.hb (eL_law_21 (1431, .lshl, 1) (List.mem_of_getElem? (i := 42) rfl)) rfl ?_
  refine lw_rdB (k := 6) C hi hiv hH0 (lv_at hl 0 rfl) (lv_at hl 4 rfl) (by decide) rfl (eL_law_21 (1432, .aload_n 0, 1) (List.mem_of_getElem? (i := 43) rfl)) (eL_law_21 (1433, .iload 4, 2) (List.mem_of_getElem? (i := 44) rfl)) (eL_law_21 (1435, .bipush 6, 2) (List.mem_of_getElem? (i := 45) rfl)) (eL_law_21 (1437, .iadd, 1) (List.mem_of_getElem? (i := 46) rfl)) (eL_law_21 (1438, .iaload, 1) (List.mem_of_getElem? (i := 47) rfl)) hy6 ?_
  refine lv_i2l C.hx C.hb (eL_law_21 (1439, .i2l, 1) (List.mem_of_getElem? (i := 48) rfl)) rfl ?_
  refine lv_ldc2 C.hx C.hb C.hown (C.h2 _ (tb_8 200 rfl rfl)) (eL_law_21 (1440, .ldc2_w 108, 3) (List.mem_of_getElem? (i := 49) rfl)) ?_
  refine lv_land C.hx C.hb (eL_law_21 (1443, .land, 1) (List.mem_of_getElem? (i := 50) rfl)) ?_
  refine lv_lor C.hx C.hb (eL_law_21 (1444, .lor, 1) (List.mem_of_getElem? (i := 51) rfl)) ?_
  refine W.eq (g2 := F0 m 1445 ls [.long (lgI y5 y6), .long (lgI y3 y4), .long (lgI y1 y2), .ref x]) rfl ?_
  refine lw_rdB (k := 7) C hi hiv hH0 (lv_at hl 0 rfl) (lv_at hl 4 rfl) (by decide) rfl (eL_law_21 (1445, .aload_n 0, 1) (List.mem_of_getElem? (i := 52) rfl)) (eL_law_21 (1446, .iload 4, 2) (List.mem_of_getElem? (i := 53) rfl)) (eL_law_21 (1448, .bipush 7, 2) (List.mem_of_getElem? (i := 54) rfl)) (eL_law_21 (1450, .iadd, 1) (List.mem_of_getElem? (i := 55) rfl)) (eL_law_21 (1451, .iaload, 1) (List.mem_of_getElem? (i := 56) rfl)) hy7 ?_
  refine lv_aload_n C.hx C.hb (eL_law_21 (1452, .aload_n 3, 1) (List.mem_of_getElem? (i := 57) rfl)) rfl (lv_at hl 1 rfl) ?_
  have hjj := I.hj
  obtain ⟨LL, zc, jc, jr, jl, jzc, jzr⟩ := hjj
  have hkk := I.hk
  obtain ⟨TT, OO, kc, kr⟩ := hkk
  refine zw_row (As := [.ref x, .long (lgI y1 y2), .long (lgI y3 y4), .long (lgI y5 y6), .int y7, .ref o]) (st := []) (Ts := gT) C.hx C.hb C.hml C.hown C.h2 (fun _ h => h) (wK_writeDuration l C.hst D cA ro s.heap.size s.heap x (lgI y1 y2) (lgI y3 y4) (lgI y5 y6) y7 o LL zc TT OO I.hx10 I.ho42) ⟨rfl, rfl⟩ ⟨by decide, by decide⟩ ⟨by show cells + 1 ≤ 601024; omega, by show slots + 6 ≤ 7293034; omega⟩ (tb_6 37 rfl rfl) (tb_1 0 rfl rfl) (tb_6 35 rfl rfl) (tb_6 36 rfl rfl) (show yL_writeDuration.cls ≠ "java/lang/invoke/MethodHandle" ∧ yL_writeDuration.cls ≠ "java/lang/invoke/VarHandle" ∧ (parseMethodDescriptor yL_writeDuration.desc).map (fun d => d.parameters.length) = some 6 by decide +kernel) zs_blindY (fun U hU hW => ⟨rfl, by rw [hU]; exact I.hh.l0, (C.hKa.ext I.he).warm hW, (zBQ_of C.hBM).alike hW.alike, by rw [hU]; exact ⟨⟨jc, jzc, jl⟩, kc⟩⟩) I.hh.2.2.1 hl.1 (Nat.le_of_ble_eq_true rfl) (eL_law_21 (1453, .invokestatic 184, 3) (List.mem_of_getElem? (i := 58) rfl)) (fun r1 s1 t1 lo1 g1 f1 l1 => ?_)
  obtain ⟨k1, T1, O1, zz, rr, q1, z1, kp1, kc1, hoz, hor, hday⟩ := f1
  cases q1
  rw [g1] at kp1
  have hh1 : zh_ok D cA RTg ro s.heap.size s.heap t1.heap lo1 := ⟨z1.1, z1.2.1, l1, z1.2.2.2⟩
  have jc1 := (show jCS D cA ro _ x LL zc from ⟨jc, jzc, jl⟩).kept I.hx10 kp1 (by decide)
  have jr1 := (show jRS D cA ro _ mm LL zc from ⟨jr, jzr, jl⟩).kept I.hm11 kp1 (by decide)
  have kr1 := kr.kept I.hm11 kp1 (by decide)
  obtain ⟨rk, spk, hrk⟩ : ∃ r : Int, spU (lgI y1 y2).toInt (lgI y3 y4).toInt (lgI y5 y6).toInt y7.toInt TT OO k1.toInt r T1 O1 ∧ (k1.toInt = 0 → r = rr.toInt) := by
    rcases hday with ⟨g1, g2⟩ | ⟨g1, r, g2⟩
    · exact ⟨rr.toInt, by rw [g1]; exact g2, fun _ => rfl⟩
    · exact ⟨r, g2, fun g => absurd g g1⟩
  have hH1 := hh1.2.1 b C.hbl
  have rq1 := (I.hq.kept I.hx10 kp1 (by decide))
  refine W.eq (g2 := F0 m 1456 ls [.int k1]) rfl ?_
  refine lv_istore C.hx C.hb (eL_law_21 (1456, .istore 5, 2) (List.mem_of_getElem? (i := 59) rfl)) hl (by decide) rfl (fun ls2 (hl2 : lv_has ls2 8 [(5, .int k1), (4, .int iv), (3, .ref o), (2, .ref mm), (1, .ref x), (0, .ref b)]) => ?_)
  refine lv_aload_n C.hx C.hb (eL_law_21 (1458, .aload_n 2, 1) (List.mem_of_getElem? (i := 60) rfl)) rfl (lv_at hl2 3 rfl) ?_
  refine lw_rd (k := 1) C hi hiv hH1 (lv_at hl2 1 rfl) (lv_at hl2 5 rfl) (by decide) rfl (eL_law_21 (1459, .aload_n 0, 1) (List.mem_of_getElem? (i := 61) rfl)) (eL_law_21 (1460, .iload 4, 2) (List.mem_of_getElem? (i := 62) rfl)) (eL_law_21 (1462, .iconst 1, 1) (List.mem_of_getElem? (i := 63) rfl)) (eL_law_21 (1463, .iadd, 1) (List.mem_of_getElem? (i := 64) rfl)) (eL_law_21 (1464, .iaload, 1) (List.mem_of_getElem? (i := 65) rfl)) hy1 ?_
  refine lv_i2l C.hx C.hb (eL_law_21 (1465, .i2l, 1) (List.mem_of_getElem? (i := 66) rfl)) rfl ?_
  refine lv_bipush C.hx C.hb (eL_law_21 (1466, .bipush 32, 2) (List.mem_of_getElem? (i := 67) rfl)) rfl ?_
  refine lv_lshl C.hx C.hb (eL_law_21 (1468, .lshl, 1) (List.mem_of_getElem? (i := 68) rfl)) rfl ?_
  refine lw_rd (k := 2) C hi hiv hH1 (lv_at hl2 1 rfl) (lv_at hl2 5 rfl) (by decide) rfl (eL_law_21 (1469, .aload_n 0, 1) (List.mem_of_getElem? (i := 69) rfl)) (eL_law_21 (1470, .iload 4, 2) (List.mem_of_getElem? (i := 70) rfl)) (eL_law_21 (1472, .iconst 2, 1) (List.mem_of_getElem? (i := 71) rfl)) (eL_law_21 (1473, .iadd, 1) (List.mem_of_getElem? (i := 72) rfl)) (eL_law_21 (1474, .iaload, 1) (List.mem_of_getElem? (i := 73) rfl)) hy2 ?_
  refine lv_i2l C.hx C.hb (eL_law_21 (1475, .i2l, 1) (List.mem_of_getElem? (i := 74) rfl)) rfl ?_
  refine lv_ldc2 C.hx C.hb C.hown (C.h2 _ (tb_8 200 rfl rfl)) (eL_law_21 (1476, .ldc2_w 108, 3) (List.mem_of_getElem? (i := 75) rfl)) ?_
  refine lv_land C.hx C.hb (eL_law_21 (1479, .land, 1) (List.mem_of_getElem? (i := 76) rfl)) ?_
  refine lv_lor C.hx C.hb (eL_law_21 (1480, .lor, 1) (List.mem_of_getElem? (i := 77) rfl)) ?_
  refine W.eq (g2 := F0 m 1481 ls2 [.long (lgI y1 y2), .ref mm]) rfl ?_
  refine lw_rd (k := 3) C hi hiv hH1 (lv_at hl2 1 rfl) (lv_at hl2 5 rfl) (by decide) rfl (eL_law_21 (1481, .aload_n 0, 1) (List.mem_of_getElem? (i := 78) rfl)) (eL_law_21 (1482, .iload 4, 2) (List.mem_of_getElem? (i := 79) rfl)) (eL_law_21 (1484, .iconst 3, 1) (List.mem_of_getElem? (i := 80) rfl)) (eL_law_21 (1485, .iadd, 1) (List.mem_of_getElem? (i := 81) rfl)) (eL_law_21 (1486, .iaload, 1) (List.mem_of_getElem? (i := 82) rfl)) hy3 ?_
  refine lv_i2l C.hx C.hb (eL_law_21 (1487, .i2l, 1) (List.mem_of_getElem? (i := 83) rfl)) rfl ?_
  refine lv_bipush C.hx C.hb (eL_law_21 (1488, .bipush 32, 2) (List.mem_of_getElem? (i := 84) rfl)) rfl ?_
  refine lv_lshl C.hx C.hb (eL_law_21 (1490, .lshl, 1) (List.mem_of_getElem? (i := 85) rfl)) rfl ?_
  refine lw_rd (k := 4) C hi hiv hH1 (lv_at hl2 1 rfl) (lv_at hl2 5 rfl) (by decide) rfl (eL_law_21 (1491, .aload_n 0, 1) (List.mem_of_getElem? (i := 86) rfl)) (eL_law_21 (1492, .iload 4, 2) (List.mem_of_getElem? (i := 87) rfl)) (eL_law_21 (1494, .iconst 4, 1) (List.mem_of_getElem? (i := 88) rfl)) (eL_law_21 (1495, .iadd, 1) (List.mem_of_getElem? (i := 89) rfl)) (eL_law_21 (1496, .iaload, 1) (List.mem_of_getElem? (i := 90) rfl)) hy4 ?_
  refine lv_i2l C.hx C.hb (eL_law_21 (1497, .i2l, 1) (List.mem_of_getElem? (i := 91) rfl)) rfl ?_
  refine lv_ldc2 C.hx C.hb C.hown (C.h2 _ (tb_8 200 rfl rfl)) (eL_law_21 (1498, .ldc2_w 108, 3) (List.mem_of_getElem? (i := 92) rfl)) ?_
  refine lv_land C.hx C.hb (eL_law_21 (1501, .land, 1) (List.mem_of_getElem? (i := 93) rfl)) ?_
  refine lv_lor C.hx C.hb (eL_law_21 (1502, .lor, 1) (List.mem_of_getElem? (i := 94) rfl)) ?_
  refine W.eq (g2 := F0 m 1503 ls2 [.long (lgI y3 y4), .long (lgI y1 y2), .ref mm]) rfl ?_
  refine lw_rd (k := 5) C hi hiv hH1 (lv_at hl2 1 rfl) (lv_at hl2 5 rfl) (by decide) rfl (eL_law_21 (1503, .aload_n 0, 1) (List.mem_of_getElem? (i := 95) rfl)) (eL_law_21 (1504, .iload 4, 2) (List.mem_of_getElem? (i := 96) rfl)) (eL_law_21 (1506, .iconst 5, 1) (List.mem_of_getElem? (i := 97) rfl)) (eL_law_21 (1507, .iadd, 1) (List.mem_of_getElem? (i := 98) rfl)) (eL_law_21 (1508, .iaload, 1) (List.mem_of_getElem? (i := 99) rfl)) hy5 ?_
  refine lv_i2l C.hx C.hb (eL_law_21 (1509, .i2l, 1) (List.mem_of_getElem? (i := 100) rfl)) rfl ?_
  refine lv_bipush C.hx C.hb (eL_law_21 (1510, .bipush 32, 2) (List.mem_of_getElem? (i := 101) rfl)) rfl ?_
  refine lv_lshl C.hx C.hb (eL_law_21 (1512, .lshl, 1) (List.mem_of_getElem? (i := 102) rfl)) rfl ?_
  refine lw_rdB (k := 6) C hi hiv hH1 (lv_at hl2 1 rfl) (lv_at hl2 5 rfl) (by decide) rfl (eL_law_21 (1513, .aload_n 0, 1) (List.mem_of_getElem? (i := 103) rfl)) (eL_law_21 (1514, .iload 4, 2) (List.mem_of_getElem? (i := 104) rfl)) (eL_law_21 (1516, .bipush 6, 2) (List.mem_of_getElem? (i := 105) rfl)) (eL_law_21 (1518, .iadd, 1) (List.mem_of_getElem? (i := 106) rfl)) (eL_law_21 (1519, .iaload, 1) (List.mem_of_getElem? (i := 107) rfl)) hy6 ?_
  refine lv_i2l C.hx C.hb (eL_law_21 (1520, .i2l, 1) (List.mem_of_getElem? (i := 108) rfl)) rfl ?_
  refine lv_ldc2 C.hx C.hb C.hown (C.h2 _ (tb_8 200 rfl rfl)) (eL_law_21 (1521, .ldc2_w 108, 3) (List.mem_of_getElem? (i := 109) rfl)) ?_
  refine lv_land C.hx C.hb (eL_law_21 (1524, .land, 1) (List.mem_of_getElem? (i := 110) rfl)) ?_
  refine lv_lor C.hx C.hb (eL_law_21 (1525, .lor, 1) (List.mem_of_getElem? (i := 111) rfl)) ?_
  refine W.eq (g2 := F0 m 1526 ls2 [.long (lgI y5 y6), .long (lgI y3 y4), .long (lgI y1 y2), .ref mm]) rfl ?_
  refine lw_rdB (k := 7) C hi hiv hH1 (lv_at hl2 1 rfl) (lv_at hl2 5 rfl) (by decide) rfl (eL_law_21 (1526, .aload_n 0, 1) (List.mem_of_getElem? (i := 112) rfl)) (eL_law_21 (1527, .iload 4, 2) (List.mem_of_getElem? (i := 113) rfl)) (eL_law_21 (1529, .bipush 7, 2) (List.mem_of_getElem? (i := 114) rfl)) (eL_law_21 (1531, .iadd, 1) (List.mem_of_getElem? (i := 115) rfl)) (eL_law_21 (1532, .iaload, 1) (List.mem_of_getElem? (i := 116) rfl)) hy7 ?_
  refine tz_rowV (As := [.long (lgI y1 y2), .long (lgI y3 y4), .long (lgI y5 y6), .int y7]) (st := []) (b := mm) (C := RX12) (Ts := gT) C.hx C.hb C.hml C.hown C.h2 (fun _ h => h) (hX12_writeDuration l D cA ro s.heap.size s.heap mm (lgI y1 y2) (lgI y3 y4) (lgI y5 y6) y7 LL zc TT OO I.hm11) ⟨rfl, rfl⟩ ⟨by decide, by decide⟩ ⟨by show (cells + 1) + 0 ≤ 601024; omega, by show (slots + 6) + 0 ≤ 7293034; omega⟩ (tb_8 186 rfl rfl) (tb_1 12 rfl rfl) (tb_8 183 rfl rfl) (tb_8 184 rfl rfl) (tb_8 185 rfl rfl) (show yX12_writeDuration.cls ≠ "java/lang/invoke/MethodHandle" ∧ yX12_writeDuration.cls ≠ "java/lang/invoke/VarHandle" ∧ (parseMethodDescriptor yX12_writeDuration.desc).map (fun d => d.parameters.length) = some 4 by decide +kernel) zs_blind (lw_ob12 hh1 C.hKa.1.1.1 I.hm11) (fun U hU hW => ⟨rfl, by rw [hU]; exact hh1.l0, zKb s U hW.alike (C.hKa.ext I.he).1.1, by rw [hU]; exact ⟨jr1, kr1⟩⟩) hh1.2.2.1 hl2.1 (Nat.le_of_ble_eq_true rfl) (eL_law_21 (1533, .invokevirtual 187, 3) (List.mem_of_getElem? (i := 117) rfl)) (fun r3 s3 t3 lo3 g3 f3 l3 => ?_)
  obtain ⟨vv3, rb3, w3, T3, O3, q3, ⟨b3, qb3, eb3⟩, z3, kp3, hw3, kr3, sp3⟩ := f3
  cases q3
  cases qb3
  rw [g3] at kp3
  have hh3 : zh_ok D cA RTg ro s.heap.size s.heap t3.heap lo3 := ⟨z3.1, z3.2.1, l3, z3.2.2.2⟩
  obtain ⟨hkw, hLL, hzz, hrr⟩ := (spU_det (lgI y1 y2).toInt (lgI y3 y4).toInt (lgI y5 y6).toInt y7.toInt TT OO) _ _ _ _ _ _ _ _ spk sp3
  rw [← hLL, ← hzz] at kr3
  have jc9 := jc1.kept I.hx10 kp3 (by decide)
  have jr9 := jr1.kept I.hm11 kp3 (by decide)
  have kc9 := kc1.kept I.hx10 kp3 (by decide)
  have j3 : jJ D cA ro t3.heap x mm := ⟨_, _, jc9.1, jr9.1, jc9.2.2, jc9.2.1, jr9.2.1⟩
  have kk3 : jK D cA ro t3.heap x mm := ⟨_, _, kc9, kr3⟩
  have hoz2 := (kp3.2 o 42 0 1 1 _ I.ho42 rfl (by decide)).trans hoz
  have hH3 := hh3.2.1 b C.hbl
  have rq3 := (rq1.kept I.hx10 kp3 (by decide))
  refine W.eq (g2 := F0 m 1536 ls2 [.int b3]) rfl ?_
  refine lv_istore C.hx C.hb (eL_law_21 (1536, .istore 6, 2) (List.mem_of_getElem? (i := 118) rfl)) hl2 (by decide) rfl (fun ls4 (hl4 : lv_has ls4 8 [(6, .int b3), (5, .int k1), (4, .int iv), (3, .ref o), (2, .ref mm), (1, .ref x), (0, .ref b)]) => ?_)
  refine lv_goto C.hx C.hb (eL_law_21 (1538, .goto 257, 3) (List.mem_of_getElem? (i := 119) rfl)) (tgt := 1795) rfl ?_
  exact W.widen (k := cells + 6) (n := slots + 147) (by omega) (by omega) (K ro _ _ _ ⟨hh3, I.he, I.hx10, I.hm11, I.ho42, j3, kk3, rq3⟩ (lv_sub hl4 [2, 3, 4, 5, 6] rfl))
def tL_law_22 : List (Nat × Instr × Nat) := [(1541, .aload_n 1, 1), (1542, .aload_n 0, 1), (1543, .iload 4, 2), (1545, .iconst 1, 1), (1546, .iadd, 1), (1547, .iaload, 1), (1548, .aload_n 3, 1), (1549, .invokestatic 188, 3), (1552, .istore 5, 2), (1554, .aload_n 2, 1), (1555, .aload_n 0, 1), (1556, .iload 4, 2), (1558, .iconst 1, 1), (1559, .iadd, 1), (1560, .iaload, 1), (1561, .invokevirtual 190, 3), (1564, .istore 6, 2), (1566, .goto 229, 3)]
set_option maxRecDepth 100000 in
theorem eL_law_22 : ∀ x ∈ tL_law_22, decode cL_law x.1 = .ok x.2 := by decide +kernel
set_option maxRecDepth 100000 in
set_option maxHeartbeats 4000000 in
theorem lw_case_22 {p : Program} {l : Launch} {e : Env} {s : State} {m : MethodId} {below : List Frame} {meth : Method} {c : Code} {b L : Nat} {xs : Nat → Int32} {D : va_G} {cA : Nat → ClassId} {ro0 ro : Nat → Option Nat} {H : Heap} {locs : List Loc} {cells slots : Nat} {Q : State → Prop} {ls : Array Slot} {i x mm o : Nat} {iv : Int32} (C : lw_C p l s m meth c b L xs D cA ro0) (hi : i + 8 ≤ L) (hiv : iv.toInt = (i : Int)) (I : lw_I D cA ro0 s x mm o ro H locs) (hl : lv_has ls 8 [(4, .int iv), (3, .ref o), (2, .ref mm), (1, .ref x), (0, .ref b)]) (hc : cells + 6 ≤ 601024) (hs : slots + 147 ≤ 7293034) (K : ∀ (ro9 : Nat → Option Nat) (H9 : Heap) (lo9 : List Loc) (ls9 : Array Slot), lw_I D cA ro0 s x mm o ro9 H9 lo9 → lv_has ls9 8 [(4, .int iv), (3, .ref o), (2, .ref mm), (1, .ref x), (0, .ref b)] → W p l e room_1 s m #[Value.ref b] below meth c H9 lo9 (cells + 6) (slots + 147) Q (F0 m 1795 ls9 [])) : W p l e room_1 s m #[Value.ref b] below meth c H locs cells slots Q (F0 m 1541 ls []) := by
  have hL := C.hL
  have hH0 := I.hh.2.1 b C.hbl
  have hts0 : ∀ w ∈ Cond.initialized "MomentTextsLaw" :: gT, w.before #[Value.ref b] s = true := fun w hw => (List.mem_cons.mp hw).elim (fun g => by rw [g]; exact C.h2 _ (tb_1 0 rfl rfl)) (C.h2 w)
  generalize hy1 : xs (i + 1) = y1
  generalize hy2 : xs (i + 2) = y2
  generalize hy3 : xs (i + 3) = y3
  generalize hy4 : xs (i + 4) = y4
  generalize hy5 : xs (i + 5) = y5
  generalize hy6 : xs (i + 6) = y6
  generalize hy7 : xs (i + 7) = y7
  refine lv_aload_n C.hx C.hb (eL_law_22 (1541, .aload_n 1, 1) (List.mem_of_getElem? (i := 0) rfl)) rfl (lv_at hl 3 rfl) ?_
  refine lw_rd (k := 1) C hi hiv hH0 (lv_at hl 0 rfl) (lv_at hl 4 rfl) (by decide) rfl (eL_law_22 (1542, .aload_n 0, 1) (List.mem_of_getElem? (i := 1) rfl)) (eL_law_22 (1543, .iload 4, 2) (List.mem_of_getElem? (i := 2) rfl)) (eL_law_22 (1545, .iconst 1, 1) (List.mem_of_getElem? (i := 3) rfl)) (eL_law_22 (1546, .iadd, 1) (List.mem_of_getElem? (i := 4) rfl)) (eL_law_22 (1547, .iaload, 1) (List.mem_of_getElem? (i := 5) rfl)) hy1 ?_
  refine lv_aload_n C.hx C.hb (eL_law_22 (1548, .aload_n 3, 1) (List.mem_of_getElem? (i := 6) rfl)) rfl (lv_at hl 1 rfl) ?_
  have hjj := I.hj
  obtain ⟨LL, zc, jc, jr, jl, jzc, jzr⟩ := hjj
  have hkk := I.hk
  obtain ⟨TT, OO, kc, kr⟩ := hkk
  refine zw_row (As := [.ref x, .int y1, .ref o]) (st := []) (Ts := gT) C.hx C.hb C.hml C.hown C.h2 (fun _ h => h) (wK_out l C.hst D cA ro s.heap.size s.heap x y1 o LL zc TT OO I.hx10 I.ho42) ⟨rfl, rfl⟩ ⟨by decide, by decide⟩ ⟨by show cells + 1 ≤ 601024; omega, by show slots + 6 ≤ 7293034; omega⟩ (tb_6 64 rfl rfl) (tb_1 0 rfl rfl) (tb_6 62 rfl rfl) (tb_6 63 rfl rfl) (show yL_out.cls ≠ "java/lang/invoke/MethodHandle" ∧ yL_out.cls ≠ "java/lang/invoke/VarHandle" ∧ (parseMethodDescriptor yL_out.desc).map (fun d => d.parameters.length) = some 3 by decide +kernel) zs_blindY (fun U hU hW => ⟨rfl, by rw [hU]; exact I.hh.l0, (C.hKa.ext I.he).warm hW, (zBQ_of C.hBM).alike hW.alike, by rw [hU]; exact ⟨⟨jc, jzc, jl⟩, kc⟩⟩) I.hh.2.2.1 hl.1 (Nat.le_of_ble_eq_true rfl) (eL_law_22 (1549, .invokestatic 188, 3) (List.mem_of_getElem? (i := 7) rfl)) (fun r1 s1 t1 lo1 g1 f1 l1 => ?_)
  obtain ⟨k1, T1, O1, zz, rr, q1, z1, kp1, kc1, hoz, hor, hday⟩ := f1
  cases q1
  rw [g1] at kp1
  have hh1 : zh_ok D cA RTg ro s.heap.size s.heap t1.heap lo1 := ⟨z1.1, z1.2.1, l1, z1.2.2.2⟩
  have jc1 := (show jCS D cA ro _ x LL zc from ⟨jc, jzc, jl⟩).kept I.hx10 kp1 (by decide)
  have jr1 := (show jRS D cA ro _ mm LL zc from ⟨jr, jzr, jl⟩).kept I.hm11 kp1 (by decide)
  have kr1 := kr.kept I.hm11 kp1 (by decide)
  obtain ⟨rk, spk, hrk⟩ : ∃ r : Int, spO y1.toInt TT OO k1.toInt r T1 O1 ∧ (k1.toInt = 0 → r = rr.toInt) := by
    rcases hday with ⟨g1, g2⟩ | ⟨g1, r, g2⟩
    · exact ⟨rr.toInt, by rw [g1]; exact g2, fun _ => rfl⟩
    · exact ⟨r, g2, fun g => absurd g g1⟩
  have hH1 := hh1.2.1 b C.hbl
  have rq1 := (I.hq.kept I.hx10 kp1 (by decide))
  refine W.eq (g2 := F0 m 1552 ls [.int k1]) rfl ?_
  refine lv_istore C.hx C.hb (eL_law_22 (1552, .istore 5, 2) (List.mem_of_getElem? (i := 8) rfl)) hl (by decide) rfl (fun ls2 (hl2 : lv_has ls2 8 [(5, .int k1), (4, .int iv), (3, .ref o), (2, .ref mm), (1, .ref x), (0, .ref b)]) => ?_)
  refine lv_aload_n C.hx C.hb (eL_law_22 (1554, .aload_n 2, 1) (List.mem_of_getElem? (i := 9) rfl)) rfl (lv_at hl2 3 rfl) ?_
  refine lw_rd (k := 1) C hi hiv hH1 (lv_at hl2 1 rfl) (lv_at hl2 5 rfl) (by decide) rfl (eL_law_22 (1555, .aload_n 0, 1) (List.mem_of_getElem? (i := 10) rfl)) (eL_law_22 (1556, .iload 4, 2) (List.mem_of_getElem? (i := 11) rfl)) (eL_law_22 (1558, .iconst 1, 1) (List.mem_of_getElem? (i := 12) rfl)) (eL_law_22 (1559, .iadd, 1) (List.mem_of_getElem? (i := 13) rfl)) (eL_law_22 (1560, .iaload, 1) (List.mem_of_getElem? (i := 14) rfl)) hy1 ?_
  refine tz_rowV (As := [.int y1]) (st := []) (b := mm) (C := RX12) (Ts := gT) C.hx C.hb C.hml C.hown C.h2 (fun _ h => h) (hX12_out l D cA ro s.heap.size s.heap mm y1 LL zc TT OO I.hm11) ⟨rfl, rfl⟩ ⟨by decide, by decide⟩ ⟨by show (cells + 1) + 0 ≤ 601024; omega, by show (slots + 6) + 0 ≤ 7293034; omega⟩ (tb_8 199 rfl rfl) (tb_1 12 rfl rfl) (tb_8 196 rfl rfl) (tb_8 197 rfl rfl) (tb_8 198 rfl rfl) (show yX12_out.cls ≠ "java/lang/invoke/MethodHandle" ∧ yX12_out.cls ≠ "java/lang/invoke/VarHandle" ∧ (parseMethodDescriptor yX12_out.desc).map (fun d => d.parameters.length) = some 1 by decide +kernel) zs_blind (lw_ob12 hh1 C.hKa.1.1.1 I.hm11) (fun U hU hW => ⟨rfl, by rw [hU]; exact hh1.l0, zKb s U hW.alike (C.hKa.ext I.he).1.1, by rw [hU]; exact ⟨jr1, kr1⟩⟩) hh1.2.2.1 hl2.1 (Nat.le_of_ble_eq_true rfl) (eL_law_22 (1561, .invokevirtual 190, 3) (List.mem_of_getElem? (i := 15) rfl)) (fun r3 s3 t3 lo3 g3 f3 l3 => ?_)
  obtain ⟨vv3, rb3, w3, T3, O3, q3, ⟨b3, qb3, eb3⟩, z3, kp3, hw3, kr3, sp3⟩ := f3
  cases q3
  cases qb3
  rw [g3] at kp3
  have hh3 : zh_ok D cA RTg ro s.heap.size s.heap t3.heap lo3 := ⟨z3.1, z3.2.1, l3, z3.2.2.2⟩
  obtain ⟨hkw, hLL, hzz, hrr⟩ := (spO_det y1.toInt TT OO) _ _ _ _ _ _ _ _ spk sp3
  rw [← hLL, ← hzz] at kr3
  have jc9 := jc1.kept I.hx10 kp3 (by decide)
  have jr9 := jr1.kept I.hm11 kp3 (by decide)
  have kc9 := kc1.kept I.hx10 kp3 (by decide)
  have j3 : jJ D cA ro t3.heap x mm := ⟨_, _, jc9.1, jr9.1, jc9.2.2, jc9.2.1, jr9.2.1⟩
  have kk3 : jK D cA ro t3.heap x mm := ⟨_, _, kc9, kr3⟩
  have hoz2 := (kp3.2 o 42 0 1 1 _ I.ho42 rfl (by decide)).trans hoz
  have hH3 := hh3.2.1 b C.hbl
  have rq3 := (rq1.kept I.hx10 kp3 (by decide))
  refine W.eq (g2 := F0 m 1564 ls2 [.int b3]) rfl ?_
  refine lv_istore C.hx C.hb (eL_law_22 (1564, .istore 6, 2) (List.mem_of_getElem? (i := 16) rfl)) hl2 (by decide) rfl (fun ls4 (hl4 : lv_has ls4 8 [(6, .int b3), (5, .int k1), (4, .int iv), (3, .ref o), (2, .ref mm), (1, .ref x), (0, .ref b)]) => ?_)
  refine lv_goto C.hx C.hb (eL_law_22 (1566, .goto 229, 3) (List.mem_of_getElem? (i := 17) rfl)) (tgt := 1795) rfl ?_
  exact W.widen (k := cells + 6) (n := slots + 147) (by omega) (by omega) (K ro _ _ _ ⟨hh3, I.he, I.hx10, I.hm11, I.ho42, j3, kk3, rq3⟩ (lv_sub hl4 [2, 3, 4, 5, 6] rfl))
def tL_law_23 : List (Nat × Instr × Nat) := [(1569, .aload_n 1, 1), (1570, .aload_n 0, 1), (1571, .iload 4, 2), (1573, .iconst 1, 1), (1574, .iadd, 1), (1575, .iaload, 1), (1576, .aload_n 0, 1), (1577, .iload 4, 2), (1579, .iconst 2, 1), (1580, .iadd, 1), (1581, .iaload, 1), (1582, .i2l, 1), (1583, .bipush 32, 2), (1585, .lshl, 1), (1586, .aload_n 0, 1), (1587, .iload 4, 2), (1589, .iconst 3, 1), (1590, .iadd, 1), (1591, .iaload, 1), (1592, .i2l, 1), (1593, .ldc2_w 108, 3), (1596, .land, 1), (1597, .lor, 1), (1598, .aload_n 0, 1), (1599, .iload 4, 2), (1601, .iconst 4, 1), (1602, .iadd, 1), (1603, .iaload, 1), (1604, .aload_n 0, 1), (1605, .iload 4, 2), (1607, .iconst 5, 1), (1608, .iadd, 1), (1609, .iaload, 1), (1610, .aload_n 3, 1), (1611, .invokestatic 191, 3), (1614, .istore 5, 2), (1616, .aload_n 2, 1), (1617, .aload_n 0, 1), (1618, .iload 4, 2), (1620, .iconst 1, 1), (1621, .iadd, 1), (1622, .iaload, 1), (1623, .aload_n 0, 1), (1624, .iload 4, 2), (1626, .iconst 2, 1), (1627, .iadd, 1), (1628, .iaload, 1), (1629, .i2l, 1), (1630, .bipush 32, 2), (1632, .lshl, 1), (1633, .aload_n 0, 1), (1634, .iload 4, 2), (1636, .iconst 3, 1), (1637, .iadd, 1), (1638, .iaload, 1), (1639, .i2l, 1), (1640, .ldc2_w 108, 3), (1643, .land, 1), (1644, .lor, 1), (1645, .aload_n 0, 1), (1646, .iload 4, 2), (1648, .iconst 4, 1), (1649, .iadd, 1), (1650, .iaload, 1), (1651, .aload_n 0, 1), (1652, .iload 4, 2), (1654, .iconst 5, 1), (1655, .iadd, 1), (1656, .iaload, 1), (1657, .invokevirtual 193, 3), (1660, .lstore 6, 2), (1662, .goto 133, 3)]
set_option maxRecDepth 100000 in
theorem eL_law_23 : ∀ x ∈ tL_law_23, decode cL_law x.1 = .ok x.2 := by decide +kernel
set_option maxRecDepth 100000 in
set_option maxHeartbeats 4000000 in
theorem lw_case_23 {p : Program} {l : Launch} {e : Env} {s : State} {m : MethodId} {below : List Frame} {meth : Method} {c : Code} {b L : Nat} {xs : Nat → Int32} {D : va_G} {cA : Nat → ClassId} {ro0 ro : Nat → Option Nat} {H : Heap} {locs : List Loc} {cells slots : Nat} {Q : State → Prop} {ls : Array Slot} {i x mm o : Nat} {iv : Int32} (C : lw_C p l s m meth c b L xs D cA ro0) (hi : i + 8 ≤ L) (hiv : iv.toInt = (i : Int)) (I : lw_I D cA ro0 s x mm o ro H locs) (hl : lv_has ls 8 [(4, .int iv), (3, .ref o), (2, .ref mm), (1, .ref x), (0, .ref b)]) (hc : cells + 6 ≤ 601024) (hs : slots + 147 ≤ 7293034) (K : ∀ (ro9 : Nat → Option Nat) (H9 : Heap) (lo9 : List Loc) (ls9 : Array Slot), lw_I D cA ro0 s x mm o ro9 H9 lo9 → lv_has ls9 8 [(4, .int iv), (3, .ref o), (2, .ref mm), (1, .ref x), (0, .ref b)] → W p l e room_1 s m #[Value.ref b] below meth c H9 lo9 (cells + 6) (slots + 147) Q (F0 m 1795 ls9 [])) : W p l e room_1 s m #[Value.ref b] below meth c H locs cells slots Q (F0 m 1569 ls []) := by
  have hL := C.hL
  have hH0 := I.hh.2.1 b C.hbl
  have hts0 : ∀ w ∈ Cond.initialized "MomentTextsLaw" :: gT, w.before #[Value.ref b] s = true := fun w hw => (List.mem_cons.mp hw).elim (fun g => by rw [g]; exact C.h2 _ (tb_1 0 rfl rfl)) (C.h2 w)
  generalize hy1 : xs (i + 1) = y1
  generalize hy2 : xs (i + 2) = y2
  generalize hy3 : xs (i + 3) = y3
  generalize hy4 : xs (i + 4) = y4
  generalize hy5 : xs (i + 5) = y5
  generalize hy6 : xs (i + 6) = y6
  generalize hy7 : xs (i + 7) = y7
  refine lv_aload_n C.hx C.hb (eL_law_23 (1569, .aload_n 1, 1) (List.mem_of_getElem? (i := 0) rfl)) rfl (lv_at hl 3 rfl) ?_
  refine lw_rd (k := 1) C hi hiv hH0 (lv_at hl 0 rfl) (lv_at hl 4 rfl) (by decide) rfl (eL_law_23 (1570, .aload_n 0, 1) (List.mem_of_getElem? (i := 1) rfl)) (eL_law_23 (1571, .iload 4, 2) (List.mem_of_getElem? (i := 2) rfl)) (eL_law_23 (1573, .iconst 1, 1) (List.mem_of_getElem? (i := 3) rfl)) (eL_law_23 (1574, .iadd, 1) (List.mem_of_getElem? (i := 4) rfl)) (eL_law_23 (1575, .iaload, 1) (List.mem_of_getElem? (i := 5) rfl)) hy1 ?_
  refine lw_rd (k := 2) C hi hiv hH0 (lv_at hl 0 rfl) (lv_at hl 4 rfl) (by decide) rfl (eL_law_23 (1576, .aload_n 0, 1) (List.mem_of_getElem? (i := 6) rfl)) (eL_law_23 (1577, .iload 4, 2) (List.mem_of_getElem? (i := 7) rfl)) (eL_law_23 (1579, .iconst 2, 1) (List.mem_of_getElem? (i := 8) rfl)) (eL_law_23 (1580, .iadd, 1) (List.mem_of_getElem? (i := 9) rfl)) (eL_law_23 (1581, .iaload, 1) (List.mem_of_getElem? (i := 10) rfl)) hy2 ?_
  refine lv_i2l C.hx C.hb (eL_law_23 (1582, .i2l, 1) (List.mem_of_getElem? (i := 11) rfl)) rfl ?_
  refine lv_bipush C.hx C.hb (eL_law_23 (1583, .bipush 32, 2) (List.mem_of_getElem? (i := 12) rfl)) rfl ?_
  refine lv_lshl C.hx C.hb (eL_law_23 (1585, .lshl, 1) (List.mem_of_getElem? (i := 13) rfl)) rfl ?_
  refine lw_rd (k := 3) C hi hiv hH0 (lv_at hl 0 rfl) (lv_at hl 4 rfl) (by decide) rfl (eL_law_23 (1586, .aload_n 0, 1) (List.mem_of_getElem? (i := 14) rfl)) (eL_law_23 (1587, .iload 4, 2) (List.mem_of_getElem? (i := 15) rfl)) (eL_law_23 (1589, .iconst 3, 1) (List.mem_of_getElem? (i := 16) rfl)) (eL_law_23 (1590, .iadd, 1) (List.mem_of_getElem? (i := 17) rfl)) (eL_law_23 (1591, .iaload, 1) (List.mem_of_getElem? (i := 18) rfl)) hy3 ?_
  refine lv_i2l C.hx C.hb (eL_law_23 (1592, .i2l, 1) (List.mem_of_getElem? (i := 19) rfl)) rfl ?_
  refine lv_ldc2 C.hx C.hb C.hown (C.h2 _ (tb_8 200 rfl rfl)) (eL_law_23 (1593, .ldc2_w 108, 3) (List.mem_of_getElem? (i := 20) rfl)) ?_
  refine lv_land C.hx C.hb (eL_law_23 (1596, .land, 1) (List.mem_of_getElem? (i := 21) rfl)) ?_
  refine lv_lor C.hx C.hb (eL_law_23 (1597, .lor, 1) (List.mem_of_getElem? (i := 22) rfl)) ?_
  refine W.eq (g2 := F0 m 1598 ls [.long (lgI y2 y3), .int y1, .ref x]) rfl ?_
  refine lw_rd (k := 4) C hi hiv hH0 (lv_at hl 0 rfl) (lv_at hl 4 rfl) (by decide) rfl (eL_law_23 (1598, .aload_n 0, 1) (List.mem_of_getElem? (i := 23) rfl)) (eL_law_23 (1599, .iload 4, 2) (List.mem_of_getElem? (i := 24) rfl)) (eL_law_23 (1601, .iconst 4, 1) (List.mem_of_getElem? (i := 25) rfl)) (eL_law_23 (1602, .iadd, 1) (List.mem_of_getElem? (i := 26) rfl)) (eL_law_23 (1603, .iaload, 1) (List.mem_of_getElem? (i := 27) rfl)) hy4 ?_
  refine lw_rd (k := 5) C hi hiv hH0 (lv_at hl 0 rfl) (lv_at hl 4 rfl) (by decide) rfl (eL_law_23 (1604, .aload_n 0, 1) (List.mem_of_getElem? (i := 28) rfl)) (eL_law_23 (1605, .iload 4, 2) (List.mem_of_getElem? (i := 29) rfl)) (eL_law_23 (1607, .iconst 5, 1) (List.mem_of_getElem? (i := 30) rfl)) (eL_law_23 (1608, .iadd, 1) (List.mem_of_getElem? (i := 31) rfl)) (eL_law_23 (1609, .iaload, 1) (List.mem_of_getElem? (i := 32) rfl)) hy5 ?_
  refine lv_aload_n C.hx C.hb (eL_law_23 (1610, .aload_n 3, 1) (List.mem_of_getElem? (i := 33) rfl)) rfl (lv_at hl 1 rfl) ?_
  refine zw_row (As := [.ref x, .int y1, .long (lgI y2 y3), .int y4, .int y5, .ref o]) (st := []) (Ts := gT) C.hx C.hb C.hml C.hown C.h2 (fun _ h => h) (wL_plus l C.hst D cA ro s.heap.size s.heap x y1 (lgI y2 y3) y4 y5 o I.hx10 I.ho42) ⟨rfl, rfl⟩ ⟨by decide, by decide⟩ ⟨by show cells + 1 ≤ 601024; omega, by show slots + 6 ≤ 7293034; omega⟩ (tb_6 88 rfl rfl) (tb_1 0 rfl rfl) (tb_6 86 rfl rfl) (tb_6 87 rfl rfl) (show yL_plus.cls ≠ "java/lang/invoke/MethodHandle" ∧ yL_plus.cls ≠ "java/lang/invoke/VarHandle" ∧ (parseMethodDescriptor yL_plus.desc).map (fun d => d.parameters.length) = some 6 by decide +kernel) zw_blind (fun U hU hW => ⟨rfl, by rw [hU]; exact I.hh.l0, (C.hKa.ext I.he).warm hW⟩) I.hh.2.2.1 hl.1 (Nat.le_of_ble_eq_true rfl) (eL_law_23 (1611, .invokestatic 191, 3) (List.mem_of_getElem? (i := 34) rfl)) (fun r1 s1 t1 lo1 g1 f1 l1 => ?_)
  obtain ⟨k1, ro1, q1, he1, z1, kp1⟩ := f1
  cases q1
  rw [g1] at kp1
  have hh1 : zh_ok D cA RTg ro1 s.heap.size s.heap t1.heap lo1 := ⟨z1.1, z1.2.1, l1, z1.2.2.2⟩
  have j1 := (I.hj.kept I.hx10 I.hm11 kp1 (by decide) (by decide)).ext he1
  have kk1 := (I.hk.kept I.hx10 I.hm11 kp1 (by decide) (by decide)).ext he1
  have hx10_1 := he1 _ _ I.hx10
  have hm11_1 := he1 _ _ I.hm11
  have ho42_1 := he1 _ _ I.ho42
  have he_1 := fun q r g => he1 q r (I.he q r g)
  have hH1 := hh1.2.1 b C.hbl
  have rq1 := (I.hq.kept I.hx10 kp1 (by decide)).ext he1
  refine W.eq (g2 := F0 m 1614 ls [.int k1]) rfl ?_
  refine lv_istore C.hx C.hb (eL_law_23 (1614, .istore 5, 2) (List.mem_of_getElem? (i := 35) rfl)) hl (by decide) rfl (fun ls2 (hl2 : lv_has ls2 8 [(5, .int k1), (4, .int iv), (3, .ref o), (2, .ref mm), (1, .ref x), (0, .ref b)]) => ?_)
  refine lv_aload_n C.hx C.hb (eL_law_23 (1616, .aload_n 2, 1) (List.mem_of_getElem? (i := 36) rfl)) rfl (lv_at hl2 3 rfl) ?_
  refine lw_rd (k := 1) C hi hiv hH1 (lv_at hl2 1 rfl) (lv_at hl2 5 rfl) (by decide) rfl (eL_law_23 (1617, .aload_n 0, 1) (List.mem_of_getElem? (i := 37) rfl)) (eL_law_23 (1618, .iload 4, 2) (List.mem_of_getElem? (i := 38) rfl)) (eL_law_23 (1620, .iconst 1, 1) (List.mem_of_getElem? (i := 39) rfl)) (eL_law_23 (1621, .iadd, 1) (List.mem_of_getElem? (i := 40) rfl)) (eL_law_23 (1622, .iaload, 1) (List.mem_of_getElem? (i := 41) rfl)) hy1 ?_
  refine lw_rd (k := 2) C hi hiv hH1 (lv_at hl2 1 rfl) (lv_at hl2 5 rfl) (by decide) rfl (eL_law_23 (1623, .aload_n 0, 1) (List.mem_of_getElem? (i := 42) rfl)) (eL_law_23 (1624, .iload 4, 2) (List.mem_of_getElem? (i := 43) rfl)) (eL_law_23 (1626, .iconst 2, 1) (List.mem_of_getElem? (i := 44) rfl)) (eL_law_23 (1627, .iadd, 1) (List.mem_of_getElem? (i := 45) rfl)) (eL_law_23 (1628, .iaload, 1) (List.mem_of_getElem? (i := 46) rfl)) hy2 ?_
  refine lv_i2l C.hx C.hb (eL_law_23 (1629, .i2l, 1) (List.mem_of_getElem? (i := 47) rfl)) rfl ?_
  refine lv_bipush C.hx C.hb (eL_law_23 (1630, .bipush 32, 2) (List.mem_of_getElem? (i := 48) rfl)) rfl ?_
  refine lv_lshl C.hx C.hb (eL_law_23 (1632, .lshl, 1) (List.mem_of_getElem? (i := 49) rfl)) rfl ?_
  refine lw_rd (k := 3) C hi hiv hH1 (lv_at hl2 1 rfl) (lv_at hl2 5 rfl) (by decide) rfl (eL_law_23 (1633, .aload_n 0, 1) (List.mem_of_getElem? (i := 50) rfl)) (eL_law_23 (1634, .iload 4, 2) (List.mem_of_getElem? (i := 51) rfl)) (eL_law_23 (1636, .iconst 3, 1) (List.mem_of_getElem? (i := 52) rfl)) (eL_law_23 (1637, .iadd, 1) (List.mem_of_getElem? (i := 53) rfl)) (eL_law_23 (1638, .iaload, 1) (List.mem_of_getElem? (i := 54) rfl)) hy3 ?_
  refine lv_i2l C.hx C.hb (eL_law_23 (1639, .i2l, 1) (List.mem_of_getElem? (i := 55) rfl)) rfl ?_
  refine lv_ldc2 C.hx C.hb C.hown (C.h2 _ (tb_8 200 rfl rfl)) (eL_law_23 (1640, .ldc2_w 108, 3) (List.mem_of_getElem? (i := 56) rfl)) ?_
  refine lv_land C.hx C.hb (eL_law_23 (1643, .land, 1) (List.mem_of_getElem? (i := 57) rfl)) ?_
  refine lv_lor C.hx C.hb (eL_law_23 (1644, .lor, 1) (List.mem_of_getElem? (i := 58) rfl)) ?_
  refine W.eq (g2 := F0 m 1645 ls2 [.long (lgI y2 y3), .int y1, .ref mm]) rfl ?_
  refine lw_rd (k := 4) C hi hiv hH1 (lv_at hl2 1 rfl) (lv_at hl2 5 rfl) (by decide) rfl (eL_law_23 (1645, .aload_n 0, 1) (List.mem_of_getElem? (i := 59) rfl)) (eL_law_23 (1646, .iload 4, 2) (List.mem_of_getElem? (i := 60) rfl)) (eL_law_23 (1648, .iconst 4, 1) (List.mem_of_getElem? (i := 61) rfl)) (eL_law_23 (1649, .iadd, 1) (List.mem_of_getElem? (i := 62) rfl)) (eL_law_23 (1650, .iaload, 1) (List.mem_of_getElem? (i := 63) rfl)) hy4 ?_
  refine lw_rd (k := 5) C hi hiv hH1 (lv_at hl2 1 rfl) (lv_at hl2 5 rfl) (by decide) rfl (eL_law_23 (1651, .aload_n 0, 1) (List.mem_of_getElem? (i := 64) rfl)) (eL_law_23 (1652, .iload 4, 2) (List.mem_of_getElem? (i := 65) rfl)) (eL_law_23 (1654, .iconst 5, 1) (List.mem_of_getElem? (i := 66) rfl)) (eL_law_23 (1655, .iadd, 1) (List.mem_of_getElem? (i := 67) rfl)) (eL_law_23 (1656, .iaload, 1) (List.mem_of_getElem? (i := 68) rfl)) hy5 ?_
  refine zr_V (idx := 193) (r := 11) (ci := 11) (n0 := 0) (fs := fsX12) (lo := 0) (hi0 := 0) (ts := [(0, (-2147483648), 2147483647), (1, (-9223372036854775808), 9223372036854775807), (0, (-2147483648), 2147483647), (0, (-2147483648), 2147483647)]) C.hx C.hb C.hml C.hown hts0 (C.hKa.ext he_1).1.1 zKb (mX12_plus l D cA ro1 s.heap.size s.heap) ⟨rfl, rfl⟩ ⟨by decide, by decide⟩ ⟨by show (cells + 1) ≤ 601024; omega, by show (slots + 6) ≤ 7293034; omega⟩ (tb_7 215 rfl rfl) (tb_1 12 rfl rfl) (tb_7 212 rfl rfl) (tb_7 213 rfl rfl) (tb_7 214 rfl rfl) (by decide +kernel) rfl rfl (zCX12 C.hKa.1.1.1) rfl 1657 193 (.invokevirtual 193) (Or.inr (Or.inl ⟨rfl, rfl⟩)) (eL_law_23 (1657, .invokevirtual 193, 3) (List.mem_of_getElem? (i := 69) rfl)) _ _ _ [] [.ref mm, .int y1, .long (lgI y2 y3), .int y4, .int y5] hl2.1 (Nat.le_of_ble_eq_true rfl) hh1 ⟨⟨Or.inr ⟨_, rfl, hm11_1⟩, tz_i (zn_i32 _).1 (zn_i32 _).2, tz_l (zn_i64 _).1 (zn_i64 _).2, tz_i (zn_i32 _).1 (zn_i32 _).2, tz_i (zn_i32 _).1 (zn_i32 _).2, trivial⟩, fun e he => (by cases he), fun f hf => (by cases hf)⟩ (fun H3 lo3 r3 hh3 hk3 hal3 => ?_)
  obtain ⟨w3, rfl, v3, rfl, -, -⟩ := zc_one (t := (1, (-9223372036854775808), 9223372036854775807)) (L := []) hal3
  have hH3 := hh3.2.1 b C.hbl
  have j3 := j1.kept hx10_1 hm11_1 hk3 (by decide) (by decide)
  have kk3 := (kk1.kept hx10_1 hm11_1 hk3 (by decide) (by decide))
  have rq3 := (rq1.kept hx10_1 hk3 (by decide))
  refine W.eq (g2 := F0 m 1660 ls2 [.long v3]) rfl ?_
  refine lv_lstore C.hx C.hb (eL_law_23 (1660, .lstore 6, 2) (List.mem_of_getElem? (i := 70) rfl)) hl2 (by decide) rfl (fun ls4 (hl4 : lv_has ls4 8 [(6, .long v3), (5, .int k1), (4, .int iv), (3, .ref o), (2, .ref mm), (1, .ref x), (0, .ref b)]) => ?_)
  refine lv_goto C.hx C.hb (eL_law_23 (1662, .goto 133, 3) (List.mem_of_getElem? (i := 71) rfl)) (tgt := 1795) rfl ?_
  exact W.widen (k := cells + 6) (n := slots + 147) (by omega) (by omega) (K ro1 _ _ _ ⟨hh3, he_1, hx10_1, hm11_1, ho42_1, j3, kk3, rq3⟩ (lv_sub hl4 [2, 3, 4, 5, 6] rfl))
def tL_law_24 : List (Nat × Instr × Nat) := [(1665, .aload_n 1, 1), (1666, .aload_n 0, 1), (1667, .iload 4, 2), (1669, .iconst 1, 1), (1670, .iadd, 1), (1671, .iaload, 1), (1672, .aload_n 0, 1), (1673, .iload 4, 2), (1675, .iconst 2, 1), (1676, .iadd, 1), (1677, .iaload, 1), (1678, .i2l, 1), (1679, .bipush 32, 2), (1681, .lshl, 1), (1682, .aload_n 0, 1), (1683, .iload 4, 2), (1685, .iconst 3, 1), (1686, .iadd, 1), (1687, .iaload, 1), (1688, .i2l, 1), (1689, .ldc2_w 108, 3), (1692, .land, 1), (1693, .lor, 1), (1694, .aload_n 0, 1), (1695, .iload 4, 2), (1697, .iconst 4, 1), (1698, .iadd, 1), (1699, .iaload, 1), (1700, .i2l, 1), (1701, .bipush 32, 2), (1703, .lshl, 1), (1704, .aload_n 0, 1), (1705, .iload 4, 2), (1707, .iconst 5, 1), (1708, .iadd, 1), (1709, .iaload, 1), (1710, .i2l, 1), (1711, .ldc2_w 108, 3), (1714, .land, 1), (1715, .lor, 1), (1716, .aload_n 0, 1), (1717, .iload 4, 2), (1719, .bipush 6, 2), (1721, .iadd, 1), (1722, .iaload, 1), (1723, .aload_n 3, 1), (1724, .invokestatic 194, 3), (1727, .istore 5, 2), (1729, .aload_n 2, 1), (1730, .aload_n 0, 1), (1731, .iload 4, 2), (1733, .iconst 1, 1), (1734, .iadd, 1), (1735, .iaload, 1), (1736, .aload_n 0, 1), (1737, .iload 4, 2), (1739, .iconst 2, 1), (1740, .iadd, 1), (1741, .iaload, 1), (1742, .i2l, 1), (1743, .bipush 32, 2), (1745, .lshl, 1), (1746, .aload_n 0, 1), (1747, .iload 4, 2), (1749, .iconst 3, 1), (1750, .iadd, 1), (1751, .iaload, 1), (1752, .i2l, 1), (1753, .ldc2_w 108, 3), (1756, .land, 1), (1757, .lor, 1), (1758, .aload_n 0, 1), (1759, .iload 4, 2), (1761, .iconst 4, 1), (1762, .iadd, 1), (1763, .iaload, 1), (1764, .i2l, 1), (1765, .bipush 32, 2), (1767, .lshl, 1), (1768, .aload_n 0, 1), (1769, .iload 4, 2), (1771, .iconst 5, 1), (1772, .iadd, 1), (1773, .iaload, 1), (1774, .i2l, 1), (1775, .ldc2_w 108, 3), (1778, .land, 1), (1779, .lor, 1), (1780, .aload_n 0, 1), (1781, .iload 4, 2), (1783, .bipush 6, 2), (1785, .iadd, 1), (1786, .iaload, 1), (1787, .invokevirtual 197, 3), (1790, .lstore 6, 2), (1792, .goto 3, 3)]
set_option maxRecDepth 100000 in
theorem eL_law_24 : ∀ x ∈ tL_law_24, decode cL_law x.1 = .ok x.2 := by decide +kernel
set_option maxRecDepth 100000 in
set_option maxHeartbeats 4000000 in
theorem lw_case_24 {p : Program} {l : Launch} {e : Env} {s : State} {m : MethodId} {below : List Frame} {meth : Method} {c : Code} {b L : Nat} {xs : Nat → Int32} {D : va_G} {cA : Nat → ClassId} {ro0 ro : Nat → Option Nat} {H : Heap} {locs : List Loc} {cells slots : Nat} {Q : State → Prop} {ls : Array Slot} {i x mm o : Nat} {iv : Int32} (C : lw_C p l s m meth c b L xs D cA ro0) (hi : i + 8 ≤ L) (hiv : iv.toInt = (i : Int)) (I : lw_I D cA ro0 s x mm o ro H locs) (hl : lv_has ls 8 [(4, .int iv), (3, .ref o), (2, .ref mm), (1, .ref x), (0, .ref b)]) (hc : cells + 6 ≤ 601024) (hs : slots + 147 ≤ 7293034) (K : ∀ (ro9 : Nat → Option Nat) (H9 : Heap) (lo9 : List Loc) (ls9 : Array Slot), lw_I D cA ro0 s x mm o ro9 H9 lo9 → lv_has ls9 8 [(4, .int iv), (3, .ref o), (2, .ref mm), (1, .ref x), (0, .ref b)] → W p l e room_1 s m #[Value.ref b] below meth c H9 lo9 (cells + 6) (slots + 147) Q (F0 m 1795 ls9 [])) : W p l e room_1 s m #[Value.ref b] below meth c H locs cells slots Q (F0 m 1665 ls []) := by
  have hL := C.hL
  have hH0 := I.hh.2.1 b C.hbl
  have hts0 : ∀ w ∈ Cond.initialized "MomentTextsLaw" :: gT, w.before #[Value.ref b] s = true := fun w hw => (List.mem_cons.mp hw).elim (fun g => by rw [g]; exact C.h2 _ (tb_1 0 rfl rfl)) (C.h2 w)
  generalize hy1 : xs (i + 1) = y1
  generalize hy2 : xs (i + 2) = y2
  generalize hy3 : xs (i + 3) = y3
  generalize hy4 : xs (i + 4) = y4
  generalize hy5 : xs (i + 5) = y5
  generalize hy6 : xs (i + 6) = y6
  generalize hy7 : xs (i + 7) = y7
  refine lv_aload_n C.hx C.hb (eL_law_24 (1665, .aload_n 1, 1) (List.mem_of_getElem? (i := 0) rfl)) rfl (lv_at hl 3 rfl) ?_
  refine lw_rd (k := 1) C hi hiv hH0 (lv_at hl 0 rfl) (lv_at hl 4 rfl) (by decide) rfl (eL_law_24 (1666, .aload_n 0, 1) (List.mem_of_getElem? (i := 1) rfl)) (eL_law_24 (1667, .iload 4, 2) (List.mem_of_getElem? (i := 2) rfl)) (eL_law_24 (1669, .iconst 1, 1) (List.mem_of_getElem? (i := 3) rfl)) (eL_law_24 (1670, .iadd, 1) (List.mem_of_getElem? (i := 4) rfl)) (eL_law_24 (1671, .iaload, 1) (List.mem_of_getElem? (i := 5) rfl)) hy1 ?_
  refine lw_rd (k := 2) C hi hiv hH0 (lv_at hl 0 rfl) (lv_at hl 4 rfl) (by decide) rfl (eL_law_24 (1672, .aload_n 0, 1) (List.mem_of_getElem? (i := 6) rfl)) (eL_law_24 (1673, .iload 4, 2) (List.mem_of_getElem? (i := 7) rfl)) (eL_law_24 (1675, .iconst 2, 1) (List.mem_of_getElem? (i := 8) rfl)) (eL_law_24 (1676, .iadd, 1) (List.mem_of_getElem? (i := 9) rfl)) (eL_law_24 (1677, .iaload, 1) (List.mem_of_getElem? (i := 10) rfl)) hy2 ?_
  refine lv_i2l C.hx C.hb (eL_law_24 (1678, .i2l, 1) (List.mem_of_getElem? (i := 11) rfl)) rfl ?_
  refine lv_bipush C.hx C.hb (eL_law_24 (1679, .bipush 32, 2) (List.mem_of_getElem? (i := 12) rfl)) rfl ?_
  refine lv_lshl C.hx C.hb (eL_law_24 (1681, .lshl, 1) (List.mem_of_getElem? (i := 13) rfl)) rfl ?_
  refine lw_rd (k := 3) C hi hiv hH0 (lv_at hl 0 rfl) (lv_at hl 4 rfl) (by decide) rfl (eL_law_24 (1682, .aload_n 0, 1) (List.mem_of_getElem? (i := 14) rfl)) (eL_law_24 (1683, .iload 4, 2) (List.mem_of_getElem? (i := 15) rfl)) (eL_law_24 (1685, .iconst 3, 1) (List.mem_of_getElem? (i := 16) rfl)) (eL_law_24 (1686, .iadd, 1) (List.mem_of_getElem? (i := 17) rfl)) (eL_law_24 (1687, .iaload, 1) (List.mem_of_getElem? (i := 18) rfl)) hy3 ?_
  refine lv_i2l C.hx C.hb (eL_law_24 (1688, .i2l, 1) (List.mem_of_getElem? (i := 19) rfl)) rfl ?_
  refine lv_ldc2 C.hx C.hb C.hown (C.h2 _ (tb_8 200 rfl rfl)) (eL_law_24 (1689, .ldc2_w 108, 3) (List.mem_of_getElem? (i := 20) rfl)) ?_
  refine lv_land C.hx C.hb (eL_law_24 (1692, .land, 1) (List.mem_of_getElem? (i := 21) rfl)) ?_
  refine lv_lor C.hx C.hb (eL_law_24 (1693, .lor, 1) (List.mem_of_getElem? (i := 22) rfl)) ?_
  refine W.eq (g2 := F0 m 1694 ls [.long (lgI y2 y3), .int y1, .ref x]) rfl ?_
  refine lw_rd (k := 4) C hi hiv hH0 (lv_at hl 0 rfl) (lv_at hl 4 rfl) (by decide) rfl (eL_law_24 (1694, .aload_n 0, 1) (List.mem_of_getElem? (i := 23) rfl)) (eL_law_24 (1695, .iload 4, 2) (List.mem_of_getElem? (i := 24) rfl)) (eL_law_24 (1697, .iconst 4, 1) (List.mem_of_getElem? (i := 25) rfl)) (eL_law_24 (1698, .iadd, 1) (List.mem_of_getElem? (i := 26) rfl)) (eL_law_24 (1699, .iaload, 1) (List.mem_of_getElem? (i := 27) rfl)) hy4 ?_
  refine lv_i2l C.hx C.hb (eL_law_24 (1700, .i2l, 1) (List.mem_of_getElem? (i := 28) rfl)) rfl ?_
  refine lv_bipush C.hx C.hb (eL_law_24 (1701, .bipush 32, 2) (List.mem_of_getElem? (i := 29) rfl)) rfl ?_
  refine lv_lshl C.hx C.hb (eL_law_24 (1703, .lshl, 1) (List.mem_of_getElem? (i := 30) rfl)) rfl ?_
  refine lw_rd (k := 5) C hi hiv hH0 (lv_at hl 0 rfl) (lv_at hl 4 rfl) (by decide) rfl (eL_law_24 (1704, .aload_n 0, 1) (List.mem_of_getElem? (i := 31) rfl)) (eL_law_24 (1705, .iload 4, 2) (List.mem_of_getElem? (i := 32) rfl)) (eL_law_24 (1707, .iconst 5, 1) (List.mem_of_getElem? (i := 33) rfl)) (eL_law_24 (1708, .iadd, 1) (List.mem_of_getElem? (i := 34) rfl)) (eL_law_24 (1709, .iaload, 1) (List.mem_of_getElem? (i := 35) rfl)) hy5 ?_
  refine lv_i2l C.hx C.hb (eL_law_24 (1710, .i2l, 1) (List.mem_of_getElem? (i := 36) rfl)) rfl ?_
  refine lv_ldc2 C.hx C.hb C.hown (C.h2 _ (tb_8 200 rfl rfl)) (eL_law_24 (1711, .ldc2_w 108, 3) (List.mem_of_getElem? (i := 37) rfl)) ?_
  refine lv_land C.hx C.hb (eL_law_24 (1714, .land, 1) (List.mem_of_getElem? (i := 38) rfl)) ?_
  refine lv_lor C.hx C.hb (eL_law_24 (1715, .lor, 1) (List.mem_of_getElem? (i := 39) rfl)) ?_
  refine W.eq (g2 := F0 m 1716 ls [.long (lgI y4 y5), .long (lgI y2 y3), .int y1, .ref x]) rfl ?_
  refine lw_rdB (k := 6) C hi hiv hH0 (lv_at hl 0 rfl) (lv_at hl 4 rfl) (by decide) rfl (eL_law_24 (1716, .aload_n 0, 1) (List.mem_of_getElem? (i := 40) rfl)) (eL_law_24 (1717, .iload 4, 2) (List.mem_of_getElem? (i := 41) rfl)) (eL_law_24 (1719, .bipush 6, 2) (List.mem_of_getElem? (i := 42) rfl)) (eL_law_24 (1721, .iadd, 1) (List.mem_of_getElem? (i := 43) rfl)) (eL_law_24 (1722, .iaload, 1) (List.mem_of_getElem? (i := 44) rfl)) hy6 ?_
  refine lv_aload_n C.hx C.hb (eL_law_24 (1723, .aload_n 3, 1) (List.mem_of_getElem? (i := 45) rfl)) rfl (lv_at hl 1 rfl) ?_
  refine zw_row (As := [.ref x, .int y1, .long (lgI y2 y3), .long (lgI y4 y5), .int y6, .ref o]) (st := []) (Ts := gT) C.hx C.hb C.hml C.hown C.h2 (fun _ h => h) (wL_between l C.hst D cA ro s.heap.size s.heap x y1 (lgI y2 y3) (lgI y4 y5) y6 o I.hx10 I.ho42) ⟨rfl, rfl⟩ ⟨by decide, by decide⟩ ⟨by show cells + 1 ≤ 601024; omega, by show slots + 6 ≤ 7293034; omega⟩ (tb_6 106 rfl rfl) (tb_1 0 rfl rfl) (tb_6 104 rfl rfl) (tb_6 105 rfl rfl) (show yL_between.cls ≠ "java/lang/invoke/MethodHandle" ∧ yL_between.cls ≠ "java/lang/invoke/VarHandle" ∧ (parseMethodDescriptor yL_between.desc).map (fun d => d.parameters.length) = some 6 by decide +kernel) zw_blind (fun U hU hW => ⟨rfl, by rw [hU]; exact I.hh.l0, (C.hKa.ext I.he).warm hW⟩) I.hh.2.2.1 hl.1 (Nat.le_of_ble_eq_true rfl) (eL_law_24 (1724, .invokestatic 194, 3) (List.mem_of_getElem? (i := 46) rfl)) (fun r1 s1 t1 lo1 g1 f1 l1 => ?_)
  obtain ⟨k1, ro1, q1, he1, z1, kp1⟩ := f1
  cases q1
  rw [g1] at kp1
  have hh1 : zh_ok D cA RTg ro1 s.heap.size s.heap t1.heap lo1 := ⟨z1.1, z1.2.1, l1, z1.2.2.2⟩
  have j1 := (I.hj.kept I.hx10 I.hm11 kp1 (by decide) (by decide)).ext he1
  have kk1 := (I.hk.kept I.hx10 I.hm11 kp1 (by decide) (by decide)).ext he1
  have hx10_1 := he1 _ _ I.hx10
  have hm11_1 := he1 _ _ I.hm11
  have ho42_1 := he1 _ _ I.ho42
  have he_1 := fun q r g => he1 q r (I.he q r g)
  have hH1 := hh1.2.1 b C.hbl
  have rq1 := (I.hq.kept I.hx10 kp1 (by decide)).ext he1
  refine W.eq (g2 := F0 m 1727 ls [.int k1]) rfl ?_
  refine lv_istore C.hx C.hb (eL_law_24 (1727, .istore 5, 2) (List.mem_of_getElem? (i := 47) rfl)) hl (by decide) rfl (fun ls2 (hl2 : lv_has ls2 8 [(5, .int k1), (4, .int iv), (3, .ref o), (2, .ref mm), (1, .ref x), (0, .ref b)]) => ?_)
  refine lv_aload_n C.hx C.hb (eL_law_24 (1729, .aload_n 2, 1) (List.mem_of_getElem? (i := 48) rfl)) rfl (lv_at hl2 3 rfl) ?_
  refine lw_rd (k := 1) C hi hiv hH1 (lv_at hl2 1 rfl) (lv_at hl2 5 rfl) (by decide) rfl (eL_law_24 (1730, .aload_n 0, 1) (List.mem_of_getElem? (i := 49) rfl)) (eL_law_24 (1731, .iload 4, 2) (List.mem_of_getElem? (i := 50) rfl)) (eL_law_24 (1733, .iconst 1, 1) (List.mem_of_getElem? (i := 51) rfl)) (eL_law_24 (1734, .iadd, 1) (List.mem_of_getElem? (i := 52) rfl)) (eL_law_24 (1735, .iaload, 1) (List.mem_of_getElem? (i := 53) rfl)) hy1 ?_
  refine lw_rd (k := 2) C hi hiv hH1 (lv_at hl2 1 rfl) (lv_at hl2 5 rfl) (by decide) rfl (eL_law_24 (1736, .aload_n 0, 1) (List.mem_of_getElem? (i := 54) rfl)) (eL_law_24 (1737, .iload 4, 2) (List.mem_of_getElem? (i := 55) rfl)) (eL_law_24 (1739, .iconst 2, 1) (List.mem_of_getElem? (i := 56) rfl)) (eL_law_24 (1740, .iadd, 1) (List.mem_of_getElem? (i := 57) rfl)) (eL_law_24 (1741, .iaload, 1) (List.mem_of_getElem? (i := 58) rfl)) hy2 ?_
  refine lv_i2l C.hx C.hb (eL_law_24 (1742, .i2l, 1) (List.mem_of_getElem? (i := 59) rfl)) rfl ?_
  refine lv_bipush C.hx C.hb (eL_law_24 (1743, .bipush 32, 2) (List.mem_of_getElem? (i := 60) rfl)) rfl ?_
  refine lv_lshl C.hx C.hb (eL_law_24 (1745, .lshl, 1) (List.mem_of_getElem? (i := 61) rfl)) rfl ?_
  refine lw_rd (k := 3) C hi hiv hH1 (lv_at hl2 1 rfl) (lv_at hl2 5 rfl) (by decide) rfl (eL_law_24 (1746, .aload_n 0, 1) (List.mem_of_getElem? (i := 62) rfl)) (eL_law_24 (1747, .iload 4, 2) (List.mem_of_getElem? (i := 63) rfl)) (eL_law_24 (1749, .iconst 3, 1) (List.mem_of_getElem? (i := 64) rfl)) (eL_law_24 (1750, .iadd, 1) (List.mem_of_getElem? (i := 65) rfl)) (eL_law_24 (1751, .iaload, 1) (List.mem_of_getElem? (i := 66) rfl)) hy3 ?_
  refine lv_i2l C.hx C.hb (eL_law_24 (1752, .i2l, 1) (List.mem_of_getElem? (i := 67) rfl)) rfl ?_
  refine lv_ldc2 C.hx C.hb C.hown (C.h2 _ (tb_8 200 rfl rfl)) (eL_law_24 (1753, .ldc2_w 108, 3) (List.mem_of_getElem? (i := 68) rfl)) ?_
  refine lv_land C.hx C.hb (eL_law_24 (1756, .land, 1) (List.mem_of_getElem? (i := 69) rfl)) ?_
  refine lv_lor C.hx C.hb (eL_law_24 (1757, .lor, 1) (List.mem_of_getElem? (i := 70) rfl)) ?_
  refine W.eq (g2 := F0 m 1758 ls2 [.long (lgI y2 y3), .int y1, .ref mm]) rfl ?_
  refine lw_rd (k := 4) C hi hiv hH1 (lv_at hl2 1 rfl) (lv_at hl2 5 rfl) (by decide) rfl (eL_law_24 (1758, .aload_n 0, 1) (List.mem_of_getElem? (i := 71) rfl)) (eL_law_24 (1759, .iload 4, 2) (List.mem_of_getElem? (i := 72) rfl)) (eL_law_24 (1761, .iconst 4, 1) (List.mem_of_getElem? (i := 73) rfl)) (eL_law_24 (1762, .iadd, 1) (List.mem_of_getElem? (i := 74) rfl)) (eL_law_24 (1763, .iaload, 1) (List.mem_of_getElem? (i := 75) rfl)) hy4 ?_
  refine lv_i2l C.hx C.hb (eL_law_24 (1764, .i2l, 1) (List.mem_of_getElem? (i := 76) rfl)) rfl ?_
  refine lv_bipush C.hx C.hb (eL_law_24 (1765, .bipush 32, 2) (List.mem_of_getElem? (i := 77) rfl)) rfl ?_
  refine lv_lshl C.hx C.hb (eL_law_24 (1767, .lshl, 1) (List.mem_of_getElem? (i := 78) rfl)) rfl ?_
  refine lw_rd (k := 5) C hi hiv hH1 (lv_at hl2 1 rfl) (lv_at hl2 5 rfl) (by decide) rfl (eL_law_24 (1768, .aload_n 0, 1) (List.mem_of_getElem? (i := 79) rfl)) (eL_law_24 (1769, .iload 4, 2) (List.mem_of_getElem? (i := 80) rfl)) (eL_law_24 (1771, .iconst 5, 1) (List.mem_of_getElem? (i := 81) rfl)) (eL_law_24 (1772, .iadd, 1) (List.mem_of_getElem? (i := 82) rfl)) (eL_law_24 (1773, .iaload, 1) (List.mem_of_getElem? (i := 83) rfl)) hy5 ?_
  refine lv_i2l C.hx C.hb (eL_law_24 (1774, .i2l, 1) (List.mem_of_getElem? (i := 84) rfl)) rfl ?_
  refine lv_ldc2 C.hx C.hb C.hown (C.h2 _ (tb_8 200 rfl rfl)) (eL_law_24 (1775, .ldc2_w 108, 3) (List.mem_of_getElem? (i := 85) rfl)) ?_
  refine lv_land C.hx C.hb (eL_law_24 (1778, .land, 1) (List.mem_of_getElem? (i := 86) rfl)) ?_
  refine lv_lor C.hx C.hb (eL_law_24 (1779, .lor, 1) (List.mem_of_getElem? (i := 87) rfl)) ?_
  refine W.eq (g2 := F0 m 1780 ls2 [.long (lgI y4 y5), .long (lgI y2 y3), .int y1, .ref mm]) rfl ?_
  refine lw_rdB (k := 6) C hi hiv hH1 (lv_at hl2 1 rfl) (lv_at hl2 5 rfl) (by decide) rfl (eL_law_24 (1780, .aload_n 0, 1) (List.mem_of_getElem? (i := 88) rfl)) (eL_law_24 (1781, .iload 4, 2) (List.mem_of_getElem? (i := 89) rfl)) (eL_law_24 (1783, .bipush 6, 2) (List.mem_of_getElem? (i := 90) rfl)) (eL_law_24 (1785, .iadd, 1) (List.mem_of_getElem? (i := 91) rfl)) (eL_law_24 (1786, .iaload, 1) (List.mem_of_getElem? (i := 92) rfl)) hy6 ?_
  refine zr_V (idx := 197) (r := 11) (ci := 11) (n0 := 0) (fs := fsX12) (lo := 0) (hi0 := 0) (ts := [(0, (-2147483648), 2147483647), (1, (-9223372036854775808), 9223372036854775807), (1, (-9223372036854775808), 9223372036854775807), (0, (-2147483648), 2147483647)]) C.hx C.hb C.hml C.hown hts0 (C.hKa.ext he_1).1.1 zKb (mX12_between l D cA ro1 s.heap.size s.heap) ⟨rfl, rfl⟩ ⟨by decide, by decide⟩ ⟨by show (cells + 1) ≤ 601024; omega, by show (slots + 6) ≤ 7293034; omega⟩ (tb_7 229 rfl rfl) (tb_1 12 rfl rfl) (tb_7 226 rfl rfl) (tb_7 227 rfl rfl) (tb_7 228 rfl rfl) (by decide +kernel) rfl rfl (zCX12 C.hKa.1.1.1) rfl 1787 197 (.invokevirtual 197) (Or.inr (Or.inl ⟨rfl, rfl⟩)) (eL_law_24 (1787, .invokevirtual 197, 3) (List.mem_of_getElem? (i := 93) rfl)) _ _ _ [] [.ref mm, .int y1, .long (lgI y2 y3), .long (lgI y4 y5), .int y6] hl2.1 (Nat.le_of_ble_eq_true rfl) hh1 ⟨⟨Or.inr ⟨_, rfl, hm11_1⟩, tz_i (zn_i32 _).1 (zn_i32 _).2, tz_l (zn_i64 _).1 (zn_i64 _).2, tz_l (zn_i64 _).1 (zn_i64 _).2, tz_i (zn_i32 _).1 (zn_i32 _).2, trivial⟩, fun e he => (by cases he), fun f hf => (by cases hf)⟩ (fun H3 lo3 r3 hh3 hk3 hal3 => ?_)
  obtain ⟨w3, rfl, v3, rfl, -, -⟩ := zc_one (t := (1, (-9223372036854775808), 9223372036854775807)) (L := []) hal3
  have hH3 := hh3.2.1 b C.hbl
  have j3 := j1.kept hx10_1 hm11_1 hk3 (by decide) (by decide)
  have kk3 := (kk1.kept hx10_1 hm11_1 hk3 (by decide) (by decide))
  have rq3 := (rq1.kept hx10_1 hk3 (by decide))
  refine W.eq (g2 := F0 m 1790 ls2 [.long v3]) rfl ?_
  refine lv_lstore C.hx C.hb (eL_law_24 (1790, .lstore 6, 2) (List.mem_of_getElem? (i := 94) rfl)) hl2 (by decide) rfl (fun ls4 (hl4 : lv_has ls4 8 [(6, .long v3), (5, .int k1), (4, .int iv), (3, .ref o), (2, .ref mm), (1, .ref x), (0, .ref b)]) => ?_)
  refine lv_goto C.hx C.hb (eL_law_24 (1792, .goto 3, 3) (List.mem_of_getElem? (i := 95) rfl)) (tgt := 1795) rfl ?_
  exact W.widen (k := cells + 6) (n := slots + 147) (by omega) (by omega) (K ro1 _ _ _ ⟨hh3, he_1, hx10_1, hm11_1, ho42_1, j3, kk3, rq3⟩ (lv_sub hl4 [2, 3, 4, 5, 6] rfl))
