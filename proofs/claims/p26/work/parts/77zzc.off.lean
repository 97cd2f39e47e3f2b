set_option maxRecDepth 100000 in
set_option maxHeartbeats 4000000 in
theorem hX6_turnTo (l : Launch) (D : va_G) (cA : Nat → ClassId) (ro : Nat → Option Nat) (sz : Nat) (H0 : Heap) (ru : Nat) (a0 : Int32) (rF rT : Nat) (rr : rU) (hru : ro ru = some 5) (hr2 : rr.1 = 2) (hy1 : -1300000 ≤ a0.toInt) (hy2 : a0.toInt ≤ 1300000) : Met l yX6_turnTo (gW yX6_turnTo cX6_turnTo 5 none) { frames := 1, cells := 0, slots := 0, locals := 27 } (zs_PB D cA ro sz H0 (fun H => jRo D ro H ru rF rT rr) [.ref ru, .int a0]) (fun _ st oc t => oc = .returned none ∧ zh_ok D cA RTg ro sz H0 t.heap [] ∧ zc_kept D RTg ro kC st.heap t.heap ∧ jRo D ro t.heap ru rF rT rr ∧ jAt D t.heap ru a0.toInt ∧ ∀ p9 : Nat, p9 ∉ [ru] → t.heap[p9]? = st.heap[p9]?) 0 0 (zy_fr sz) := by
  refine zy_ofW (cc := cX6_turnTo) (maxL := 5) (ret := none) (by decide +kernel) rfl ?_
  intro p e s m args below meth c s1 B hml hv
  obtain ⟨rfl, hh, ⟨hKn, hBQ⟩, hJ⟩ := hv
  have hx := B.exec
  have hb := B.bytes
  have hr := B.returns
  have hlk := B.notSynchronized
  have hts0 := atoms_spec (ws := gW yX6_turnTo cX6_turnTo 5 none) B.pre
  have h2 : ∀ w ∈ gT, w.before ([.ref ru, .int a0] : List Value).toArray s = true := fun w hw => hts0 w (List.mem_cons_of_mem _ hw)
  have hown : s.vm.findClass RX6 = some m.cls := findClass_of_methodNamed B.named
  have hl := lv_entry [.ref ru, .int a0] (n := 5) (Nat.le_of_ble_eq_true rfl)
  rw [lg_entry_eq]
  generalize (lg_sl [.ref ru, .int a0] ++ List.replicate (5 - (lg_sl [.ref ru, .int a0]).length) Slot.unset).toArray = ls at hl ⊢
  have b_a0 := zn_i32 a0
  have hD := zD_all h2 hKn.1
  have hcl5 := fun (idx k : Nat) (t : zt_T) (h : (idx, 5, k) ∈ gfX6) (hk : fsX6[k]? = some t) => zf_clause (ro := ro) (ms := kC) h2 hown hKn.1 gfX6_ok (by decide +kernel) idx 5 k 5 0 fsX6 t h rfl hk
  have kp0 : zc_kept D RTg ro kC s.heap s.heap := zc_kept.refl
  obtain ⟨-, r6F, r6T, ⟨hF3, hF4, nn, a1, b1, f0, f1, f2, hnn, ha1, hb1⟩, ⟨tn, yv, ca, cb, cv, cd, f5, f6, f7, f8, f9, f10, hcc⟩, hw⟩ := id hJ
  obtain ⟨hb2, jF, jT⟩ := hb1 hr2
  have jFT : jRd D s.heap rF rr.2.2.2.1 ∧ jRd D s.heap rT rr.2.2.2.2 := ⟨jF, jT⟩
  have ha2 := ha1 (by omega)
  have hwA : -1439 ≤ rr.2.1 ∧ rr.2.1 ≤ 1439 := hw.2.2.1 (by omega)
  obtain ⟨⟨hwB1, hwB2⟩, hw41, hw42⟩ := hw.2.2.2 hr2
  have fr0 : ∀ p9 : Nat, p9 ∉ [ru] → s.heap[p9]? = s.heap[p9]? := fun _ _ => rfl
  refine lv_aload_n hx hb (eX6_turnTo (0, .aload_n 0, 1) (List.mem_of_getElem? (i := 0) rfl)) rfl (lv_at hl 0 rfl) ?_
  refine tz_get (r := 5) (k := 5) (t := (0, 0, 1)) hx hb hh hru rfl rfl (hcl5 31 5 (0, 0, 1) (by decide) rfl).1 f5 (eX6_turnTo (1, .getfield 31, 3) (List.mem_of_getElem? (i := 1) rfl)) ?_
  refine ff_if_eq hx hb (eX6_turnTo (4, .ifCond .eq 12, 3) (List.mem_of_getElem? (i := 2) rfl)) (tgt := 16) rfl (fun c1 => ?_) (fun c1 => ?_)
  · skip
    refine lv_iload_n hx hb (eX6_turnTo (16, .iload_n 1, 1) (List.mem_of_getElem? (i := 8) rfl)) rfl (lv_at hl 1 rfl) ?_
    refine zu_S (vs := [.int a0]) (rest := []) hx hb hml hown hts0 zu_BT (hX2_yearStart l a0 (by omega) (by omega)) ⟨rfl, rfl⟩ ⟨by decide, by decide⟩ ⟨by decide, by decide⟩ (tb_2 193 rfl rfl) (tb_1 13 rfl rfl) (tb_4 130 rfl rfl) (tb_2 192 rfl rfl) (show yX2_yearStart.cls ≠ "java/lang/invoke/MethodHandle" ∧ yX2_yearStart.cls ≠ "java/lang/invoke/VarHandle" ∧ (parseMethodDescriptor yX2_yearStart.desc).map (fun d => d.parameters.length) = some 1 by decide +kernel) rfl (fun _ _ _ => trivial) hl.1 (Nat.le_of_ble_eq_true rfl) (eX6_turnTo (17, .invokestatic 123, 3) (List.mem_of_getElem? (i := 9) rfl)) (fun w2 f2 => ?_)
    obtain ⟨v2, rfl, e2⟩ := f2
    have g2 := ysI_bd (y := a0.toInt) (by omega) (by omega)
    refine lv_lstore_n hx hb (eX6_turnTo (20, .lstore_n 2, 1) (List.mem_of_getElem? (i := 10) rfl)) rfl hl (by decide) rfl (fun ls3 hl3 => ?_)
    refine lv_iload_n hx hb (eX6_turnTo (21, .iload_n 1, 1) (List.mem_of_getElem? (i := 11) rfl)) rfl (lv_at hl3 2 rfl) ?_
    refine zu_S (vs := [.int a0]) (rest := []) hx hb hml hown hts0 zu_BT (hX2_isLeapYear l a0) ⟨rfl, rfl⟩ ⟨by decide, by decide⟩ ⟨by decide, by decide⟩ (tb_2 120 rfl rfl) (tb_1 13 rfl rfl) (tb_4 131 rfl rfl) (tb_2 119 rfl rfl) (show yX2_isLeapYear.cls ≠ "java/lang/invoke/MethodHandle" ∧ yX2_isLeapYear.cls ≠ "java/lang/invoke/VarHandle" ∧ (parseMethodDescriptor yX2_isLeapYear.desc).map (fun d => d.parameters.length) = some 1 by decide +kernel) rfl (fun _ _ _ => trivial) hl3.1 (Nat.le_of_ble_eq_true rfl) (eX6_turnTo (22, .invokestatic 128, 3) (List.mem_of_getElem? (i := 12) rfl)) (fun w4 f4 => ?_)
    obtain ⟨v4, rfl, e4⟩ := f4
    have g4 := lpI_bd a0.toInt
    refine lv_istore hx hb (eX6_turnTo (25, .istore 4, 2) (List.mem_of_getElem? (i := 13) rfl)) hl3 (by decide) rfl (fun ls5 hl5 => ?_)
    refine lv_aload_n hx hb (eX6_turnTo (27, .aload_n 0, 1) (List.mem_of_getElem? (i := 14) rfl)) rfl (lv_at hl5 2 rfl) ?_
    refine lv_iload_n hx hb (eX6_turnTo (28, .iload_n 1, 1) (List.mem_of_getElem? (i := 15) rfl)) rfl (lv_at hl5 3 rfl) ?_
    refine tz_put (r := 5) (k := 6) (t := (0, (-2147483648), 2147483647)) hx hb hD hh hru rfl rfl ((hcl5 35 6 (0, (-2147483648), 2147483647) (by decide) rfl).2 (by decide)) (tz_i (zn_i32 _).1 (zn_i32 _).2) (eX6_turnTo (29, .putfield 35, 3) (List.mem_of_getElem? (i := 16) rfl)) (fun H6 lo6 hh6 hf6 hk6 _ hq6 => ?_)
    have mf6_ru_0 := (hk6.1 ru 5 0 5 0 fsX6 hru rfl (by decide) (by decide)).trans f0
    have mf6_ru_1 := (hk6.1 ru 5 1 5 0 fsX6 hru rfl (by decide) (by decide)).trans f1
    have mf6_ru_2 := (hk6.1 ru 5 2 5 0 fsX6 hru rfl (by decide) (by decide)).trans f2
    have mf6_ru_3 := (hk6.1 ru 5 3 5 0 fsX6 hru rfl (by decide) (by decide)).trans hF3
    have mf6_ru_4 := (hk6.1 ru 5 4 5 0 fsX6 hru rfl (by decide) (by decide)).trans hF4
    have mf6_ru_5 := (hk6.1 ru 5 5 5 0 fsX6 hru rfl (by decide) (by decide)).trans f5
    have mf6_ru_7 := (hk6.1 ru 5 7 5 0 fsX6 hru rfl (by decide) (by decide)).trans f7
    have mf6_ru_8 := (hk6.1 ru 5 8 5 0 fsX6 hru rfl (by decide) (by decide)).trans f8
    have mf6_ru_9 := (hk6.1 ru 5 9 5 0 fsX6 hru rfl (by decide) (by decide)).trans f9
    have mf6_ru_10 := (hk6.1 ru 5 10 5 0 fsX6 hru rfl (by decide) (by decide)).trans f10
    have kp6 := kp0.trans (hk6.mono (ms' := kC) (fun x hx => by cases List.mem_singleton.mp hx; decide))
    have jm6 := (show _ ∧ _ from ⟨(jFT).1.kept r6F hk6 (by decide), (jFT).2.kept r6T hk6 (by decide)⟩)
    have fr6 : ∀ p9 : Nat, p9 ∉ [ru] → H6[p9]? = s.heap[p9]? := fun p9 h9 => (hq6 p9 (fun e9 => h9 (by rw [e9]; exact List.mem_cons_self))).trans (fr0 p9 h9)
    refine lv_aload_n hx hb (eX6_turnTo (32, .aload_n 0, 1) (List.mem_of_getElem? (i := 17) rfl)) rfl (lv_at hl5 2 rfl) ?_
    refine lv_lload_n hx hb (eX6_turnTo (33, .lload_n 2, 1) (List.mem_of_getElem? (i := 18) rfl)) rfl (lv_at hl5 1 rfl) ?_
    refine ff_ldc2 (n := 1440) hx hb hown h2 (clX6_ok 131 1440 (List.mem_of_getElem? (i := 0) rfl)) (eX6_turnTo (34, .ldc2_w 131, 3) (List.mem_of_getElem? (i := 19) rfl)) (fun v7 e7 => ?_)
    refine ff_lmulR hx hb (eX6_turnTo (37, .lmul, 1) (List.mem_of_getElem? (i := 20) rfl)) (e7) (by omega) (by omega) (fun v8 e8 => ?_)
    refine lv_aload_n hx hb (eX6_turnTo (38, .aload_n 0, 1) (List.mem_of_getElem? (i := 21) rfl)) rfl (lv_at hl5 2 rfl) ?_
    refine tz_get (r := 5) (k := 1) (t := (0, (-2147483648), 2147483647)) hx hb hh6 hru rfl rfl (hcl5 15 1 (0, (-2147483648), 2147483647) (by decide) rfl).1 mf6_ru_1 (eX6_turnTo (39, .getfield 15, 3) (List.mem_of_getElem? (i := 22) rfl)) ?_
    refine ff_i2l hx hb (eX6_turnTo (42, .i2l, 1) (List.mem_of_getElem? (i := 23) rfl)) (fun v9 e9 => ?_)
    refine ff_lsub hx hb (eX6_turnTo (43, .lsub, 1) (List.mem_of_getElem? (i := 24) rfl)) (by omega) (by omega) (fun v10 e10 => ?_)
    refine tz_put (r := 5) (k := 7) (t := (1, (-9223372036854775808), 9223372036854775807)) hx hb hD hh6 hru rfl rfl ((hcl5 38 7 (1, (-9223372036854775808), 9223372036854775807) (by decide) rfl).2 (by decide)) (tz_l (zn_i64 _).1 (zn_i64 _).2) (eX6_turnTo (44, .putfield 38, 3) (List.mem_of_getElem? (i := 25) rfl)) (fun H11 lo11 hh11 hf11 hk11 _ hq11 => ?_)
    have mf11_ru_0 := (hk11.1 ru 5 0 5 0 fsX6 hru rfl (by decide) (by decide)).trans mf6_ru_0
    have mf11_ru_1 := (hk11.1 ru 5 1 5 0 fsX6 hru rfl (by decide) (by decide)).trans mf6_ru_1
    have mf11_ru_2 := (hk11.1 ru 5 2 5 0 fsX6 hru rfl (by decide) (by decide)).trans mf6_ru_2
    have mf11_ru_3 := (hk11.1 ru 5 3 5 0 fsX6 hru rfl (by decide) (by decide)).trans mf6_ru_3
    have mf11_ru_4 := (hk11.1 ru 5 4 5 0 fsX6 hru rfl (by decide) (by decide)).trans mf6_ru_4
    have mf11_ru_5 := (hk11.1 ru 5 5 5 0 fsX6 hru rfl (by decide) (by decide)).trans mf6_ru_5
    have mf11_ru_8 := (hk11.1 ru 5 8 5 0 fsX6 hru rfl (by decide) (by decide)).trans mf6_ru_8
    have mf11_ru_9 := (hk11.1 ru 5 9 5 0 fsX6 hru rfl (by decide) (by decide)).trans mf6_ru_9
    have mf11_ru_10 := (hk11.1 ru 5 10 5 0 fsX6 hru rfl (by decide) (by decide)).trans mf6_ru_10
    have mf11_ru_6 := (hk11.1 ru 5 6 5 0 fsX6 hru rfl (by decide) (by decide)).trans hf6
    have kp11 := kp6.trans (hk11.mono (ms' := kC) (fun x hx => by cases List.mem_singleton.mp hx; decide))
    have jm11 := (show _ ∧ _ from ⟨(jm6).1.kept r6F hk11 (by decide), (jm6).2.kept r6T hk11 (by decide)⟩)
    have fr11 : ∀ p9 : Nat, p9 ∉ [ru] → H11[p9]? = s.heap[p9]? := fun p9 h9 => (hq11 p9 (fun e9 => h9 (by rw [e9]; exact List.mem_cons_self))).trans (fr6 p9 h9)
    refine lv_aload_n hx hb (eX6_turnTo (47, .aload_n 0, 1) (List.mem_of_getElem? (i := 26) rfl)) rfl (lv_at hl5 2 rfl) ?_
    refine lv_aload_n hx hb (eX6_turnTo (48, .aload_n 0, 1) (List.mem_of_getElem? (i := 27) rfl)) rfl (lv_at hl5 2 rfl) ?_
    refine tz_get (r := 5) (k := 7) (t := (1, (-9223372036854775808), 9223372036854775807)) hx hb hh11 hru rfl rfl (hcl5 38 7 (1, (-9223372036854775808), 9223372036854775807) (by decide) rfl).1 hf11 (eX6_turnTo (49, .getfield 38, 3) (List.mem_of_getElem? (i := 28) rfl)) ?_
    refine lv_iload hx hb (eX6_turnTo (52, .iload 4, 2) (List.mem_of_getElem? (i := 29) rfl)) (lv_at hl5 0 rfl) ?_
    refine ff_if_eq hx hb (eX6_turnTo (54, .ifCond .eq 9, 3) (List.mem_of_getElem? (i := 30) rfl)) (tgt := 63) rfl (fun c12 => ?_) (fun c12 => ?_)
    · skip
      refine ff_sipush hx hb (eX6_turnTo (63, .sipush 365, 3) (List.mem_of_getElem? (i := 33) rfl)) (by decide) (by decide) (fun v13 e13 => ?_)
      refine ff_i2l hx hb (eX6_turnTo (66, .i2l, 1) (List.mem_of_getElem? (i := 34) rfl)) (fun v14 e14 => ?_)
      refine ff_ldc2 (n := 1440) hx hb hown h2 (clX6_ok 131 1440 (List.mem_of_getElem? (i := 0) rfl)) (eX6_turnTo (67, .ldc2_w 131, 3) (List.mem_of_getElem? (i := 35) rfl)) (fun v15 e15 => ?_)
      refine ff_lmulR hx hb (eX6_turnTo (70, .lmul, 1) (List.mem_of_getElem? (i := 36) rfl)) (e15) (by omega) (by omega) (fun v16 e16 => ?_)
      refine ff_ladd hx hb (eX6_turnTo (71, .ladd, 1) (List.mem_of_getElem? (i := 37) rfl)) (by omega) (by omega) (fun v17 e17 => ?_)
      refine tz_put (r := 5) (k := 8) (t := (1, (-9223372036854775808), 9223372036854775807)) hx hb hD hh11 hru rfl rfl ((hcl5 42 8 (1, (-9223372036854775808), 9223372036854775807) (by decide) rfl).2 (by decide)) (tz_l (zn_i64 _).1 (zn_i64 _).2) (eX6_turnTo (72, .putfield 42, 3) (List.mem_of_getElem? (i := 38) rfl)) (fun H18 lo18 hh18 hf18 hk18 _ hq18 => ?_)
      have mf18_ru_0 := (hk18.1 ru 5 0 5 0 fsX6 hru rfl (by decide) (by decide)).trans mf11_ru_0
      have mf18_ru_1 := (hk18.1 ru 5 1 5 0 fsX6 hru rfl (by decide) (by decide)).trans mf11_ru_1
      have mf18_ru_2 := (hk18.1 ru 5 2 5 0 fsX6 hru rfl (by decide) (by decide)).trans mf11_ru_2
      have mf18_ru_3 := (hk18.1 ru 5 3 5 0 fsX6 hru rfl (by decide) (by decide)).trans mf11_ru_3
      have mf18_ru_4 := (hk18.1 ru 5 4 5 0 fsX6 hru rfl (by decide) (by decide)).trans mf11_ru_4
      have mf18_ru_5 := (hk18.1 ru 5 5 5 0 fsX6 hru rfl (by decide) (by decide)).trans mf11_ru_5
      have mf18_ru_9 := (hk18.1 ru 5 9 5 0 fsX6 hru rfl (by decide) (by decide)).trans mf11_ru_9
      have mf18_ru_10 := (hk18.1 ru 5 10 5 0 fsX6 hru rfl (by decide) (by decide)).trans mf11_ru_10
      have mf18_ru_6 := (hk18.1 ru 5 6 5 0 fsX6 hru rfl (by decide) (by decide)).trans mf11_ru_6
      have mf18_ru_7 := (hk18.1 ru 5 7 5 0 fsX6 hru rfl (by decide) (by decide)).trans hf11
      have kp18 := kp11.trans (hk18.mono (ms' := kC) (fun x hx => by cases List.mem_singleton.mp hx; decide))
      have jm18 := (show _ ∧ _ from ⟨(jm11).1.kept r6F hk18 (by decide), (jm11).2.kept r6T hk18 (by decide)⟩)
      have fr18 : ∀ p9 : Nat, p9 ∉ [ru] → H18[p9]? = s.heap[p9]? := fun p9 h9 => (hq18 p9 (fun e9 => h9 (by rw [e9]; exact List.mem_cons_self))).trans (fr11 p9 h9)
      refine lv_aload_n hx hb (eX6_turnTo (75, .aload_n 0, 1) (List.mem_of_getElem? (i := 39) rfl)) rfl (lv_at hl5 2 rfl) ?_
      refine lv_aload_n hx hb (eX6_turnTo (76, .aload_n 0, 1) (List.mem_of_getElem? (i := 40) rfl)) rfl (lv_at hl5 2 rfl) ?_
      refine tz_get (r := 5) (k := 3) (t := (16, 0, 0)) hx hb hh18 hru rfl rfl (hcl5 24 3 (16, 0, 0) (by decide) rfl).1 mf18_ru_3 (eX6_turnTo (77, .getfield 24, 3) (List.mem_of_getElem? (i := 41) rfl)) ?_
      refine lv_lload_n hx hb (eX6_turnTo (80, .lload_n 2, 1) (List.mem_of_getElem? (i := 42) rfl)) rfl (lv_at hl5 1 rfl) ?_
      refine lv_iload hx hb (eX6_turnTo (81, .iload 4, 2) (List.mem_of_getElem? (i := 43) rfl)) (lv_at hl5 0 rfl) ?_
      refine tz_rowV (As := [.long v2, .int v4]) (st := [.ref ru]) (b := rF) (C := RX7) (Ts := gT) hx hb hml hown h2 (fun _ h => h) (hX7_minuteOf l D cA ro sz H0 rF v2 v4 rr.2.2.2.1 r6F hw41 (by omega) (by omega) (by omega) (by omega)) ⟨rfl, rfl⟩ ⟨by decide, by decide⟩ ⟨by decide, by decide⟩ (tb_4 135 rfl rfl) (tb_1 4 rfl rfl) (tb_4 132 rfl rfl) (tb_4 133 rfl rfl) (tb_4 134 rfl rfl) (show yX7_minuteOf.cls ≠ "java/lang/invoke/MethodHandle" ∧ yX7_minuteOf.cls ≠ "java/lang/invoke/VarHandle" ∧ (parseMethodDescriptor yX7_minuteOf.desc).map (fun d => d.parameters.length) = some 2 by decide +kernel) zs_blindB (zs_ob hh18 r6F (show RTg[6]? = some (0, 6, 0, fsX7) from rfl) (zCX7 hKn.1)) (fun U hU hW => ⟨rfl, by rw [hU]; exact hh18.l0, ⟨zKb s U hW.alike hKn, hBQ.alike hW.alike⟩, by rw [hU]; exact jm18.1⟩) hh18.2.2.1 hl5.1 (Nat.le_of_ble_eq_true rfl) (eX6_turnTo (83, .invokevirtual 133, 3) (List.mem_of_getElem? (i := 44) rfl)) (fun r19 s19 t19 lo19 g19 f19 l19 => ?_)
      obtain ⟨z19, v19, q19, e19⟩ := f19
      cases q19
      rw [z19, g19]
      have hh19 : zh_ok D cA RTg ro sz H0 H18 lo19 := ⟨hh18.1, hh18.2.1, l19, hh18.2.2.2⟩
      have hmb19 := mmF_bd (ys := v2.toInt) (lp := v4.toInt) hw41 (by omega) (by omega)
      refine W.eq (g2 := F0 m 86 ls5 [.long v19, .ref ru]) rfl ?_
      refine lv_aload_n hx hb (eX6_turnTo (86, .aload_n 0, 1) (List.mem_of_getElem? (i := 45) rfl)) rfl (lv_at hl5 2 rfl) ?_
      refine tz_get (r := 5) (k := 1) (t := (0, (-2147483648), 2147483647)) hx hb hh19 hru rfl rfl (hcl5 15 1 (0, (-2147483648), 2147483647) (by decide) rfl).1 mf18_ru_1 (eX6_turnTo (87, .getfield 15, 3) (List.mem_of_getElem? (i := 46) rfl)) ?_
      refine ff_i2l hx hb (eX6_turnTo (90, .i2l, 1) (List.mem_of_getElem? (i := 47) rfl)) (fun v20 e20 => ?_)
      refine ff_lsub hx hb (eX6_turnTo (91, .lsub, 1) (List.mem_of_getElem? (i := 48) rfl)) (by omega) (by omega) (fun v21 e21 => ?_)
      refine tz_put (r := 5) (k := 9) (t := (1, (-9223372036854775808), 9223372036854775807)) hx hb hD hh19 hru rfl rfl ((hcl5 45 9 (1, (-9223372036854775808), 9223372036854775807) (by decide) rfl).2 (by decide)) (tz_l (zn_i64 _).1 (zn_i64 _).2) (eX6_turnTo (92, .putfield 45, 3) (List.mem_of_getElem? (i := 49) rfl)) (fun H22 lo22 hh22 hf22 hk22 _ hq22 => ?_)
      have mf22_ru_0 := (hk22.1 ru 5 0 5 0 fsX6 hru rfl (by decide) (by decide)).trans mf18_ru_0
      have mf22_ru_1 := (hk22.1 ru 5 1 5 0 fsX6 hru rfl (by decide) (by decide)).trans mf18_ru_1
      have mf22_ru_2 := (hk22.1 ru 5 2 5 0 fsX6 hru rfl (by decide) (by decide)).trans mf18_ru_2
      have mf22_ru_3 := (hk22.1 ru 5 3 5 0 fsX6 hru rfl (by decide) (by decide)).trans mf18_ru_3
      have mf22_ru_4 := (hk22.1 ru 5 4 5 0 fsX6 hru rfl (by decide) (by decide)).trans mf18_ru_4
      have mf22_ru_5 := (hk22.1 ru 5 5 5 0 fsX6 hru rfl (by decide) (by decide)).trans mf18_ru_5
      have mf22_ru_10 := (hk22.1 ru 5 10 5 0 fsX6 hru rfl (by decide) (by decide)).trans mf18_ru_10
      have mf22_ru_6 := (hk22.1 ru 5 6 5 0 fsX6 hru rfl (by decide) (by decide)).trans mf18_ru_6
      have mf22_ru_7 := (hk22.1 ru 5 7 5 0 fsX6 hru rfl (by decide) (by decide)).trans mf18_ru_7
      have mf22_ru_8 := (hk22.1 ru 5 8 5 0 fsX6 hru rfl (by decide) (by decide)).trans hf18
      have kp22 := kp18.trans (hk22.mono (ms' := kC) (fun x hx => by cases List.mem_singleton.mp hx; decide))
      have jm22 := (show _ ∧ _ from ⟨(jm18).1.kept r6F hk22 (by decide), (jm18).2.kept r6T hk22 (by decide)⟩)
      have fr22 : ∀ p9 : Nat, p9 ∉ [ru] → H22[p9]? = s.heap[p9]? := fun p9 h9 => (hq22 p9 (fun e9 => h9 (by rw [e9]; exact List.mem_cons_self))).trans (fr18 p9 h9)
      refine lv_aload_n hx hb (eX6_turnTo (95, .aload_n 0, 1) (List.mem_of_getElem? (i := 50) rfl)) rfl (lv_at hl5 2 rfl) ?_
      refine lv_aload_n hx hb (eX6_turnTo (96, .aload_n 0, 1) (List.mem_of_getElem? (i := 51) rfl)) rfl (lv_at hl5 2 rfl) ?_
      refine tz_get (r := 5) (k := 4) (t := (16, 0, 0)) hx hb hh22 hru rfl rfl (hcl5 28 4 (16, 0, 0) (by decide) rfl).1 mf22_ru_4 (eX6_turnTo (97, .getfield 28, 3) (List.mem_of_getElem? (i := 52) rfl)) ?_
      refine lv_lload_n hx hb (eX6_turnTo (100, .lload_n 2, 1) (List.mem_of_getElem? (i := 53) rfl)) rfl (lv_at hl5 1 rfl) ?_
      refine lv_iload hx hb (eX6_turnTo (101, .iload 4, 2) (List.mem_of_getElem? (i := 54) rfl)) (lv_at hl5 0 rfl) ?_
      refine tz_rowV (As := [.long v2, .int v4]) (st := [.ref ru]) (b := rT) (C := RX7) (Ts := gT) hx hb hml hown h2 (fun _ h => h) (hX7_minuteOf l D cA ro sz H0 rT v2 v4 rr.2.2.2.2 r6T hw42 (by omega) (by omega) (by omega) (by omega)) ⟨rfl, rfl⟩ ⟨by decide, by decide⟩ ⟨by decide, by decide⟩ (tb_4 135 rfl rfl) (tb_1 4 rfl rfl) (tb_4 132 rfl rfl) (tb_4 133 rfl rfl) (tb_4 134 rfl rfl) (show yX7_minuteOf.cls ≠ "java/lang/invoke/MethodHandle" ∧ yX7_minuteOf.cls ≠ "java/lang/invoke/VarHandle" ∧ (parseMethodDescriptor yX7_minuteOf.desc).map (fun d => d.parameters.length) = some 2 by decide +kernel) zs_blindB (zs_ob hh22 r6T (show RTg[6]? = some (0, 6, 0, fsX7) from rfl) (zCX7 hKn.1)) (fun U hU hW => ⟨rfl, by rw [hU]; exact hh22.l0, ⟨zKb s U hW.alike hKn, hBQ.alike hW.alike⟩, by rw [hU]; exact jm22.2⟩) hh22.2.2.1 hl5.1 (Nat.le_of_ble_eq_true rfl) (eX6_turnTo (103, .invokevirtual 133, 3) (List.mem_of_getElem? (i := 55) rfl)) (fun r23 s23 t23 lo23 g23 f23 l23 => ?_)
      obtain ⟨z23, v23, q23, e23⟩ := f23
      cases q23
      rw [z23, g23]
      have hh23 : zh_ok D cA RTg ro sz H0 H22 lo23 := ⟨hh22.1, hh22.2.1, l23, hh22.2.2.2⟩
      have hmb23 := mmF_bd (ys := v2.toInt) (lp := v4.toInt) hw42 (by omega) (by omega)
      refine W.eq (g2 := F0 m 106 ls5 [.long v23, .ref ru]) rfl ?_
      refine lv_aload_n hx hb (eX6_turnTo (106, .aload_n 0, 1) (List.mem_of_getElem? (i := 56) rfl)) rfl (lv_at hl5 2 rfl) ?_
      refine tz_get (r := 5) (k := 2) (t := (0, (-2147483648), 2147483647)) hx hb hh23 hru rfl rfl (hcl5 18 2 (0, (-2147483648), 2147483647) (by decide) rfl).1 mf22_ru_2 (eX6_turnTo (107, .getfield 18, 3) (List.mem_of_getElem? (i := 57) rfl)) ?_
      refine ff_i2l hx hb (eX6_turnTo (110, .i2l, 1) (List.mem_of_getElem? (i := 58) rfl)) (fun v24 e24 => ?_)
      refine ff_lsub hx hb (eX6_turnTo (111, .lsub, 1) (List.mem_of_getElem? (i := 59) rfl)) (by omega) (by omega) (fun v25 e25 => ?_)
      refine tz_put (r := 5) (k := 10) (t := (1, (-9223372036854775808), 9223372036854775807)) hx hb hD hh23 hru rfl rfl ((hcl5 48 10 (1, (-9223372036854775808), 9223372036854775807) (by decide) rfl).2 (by decide)) (tz_l (zn_i64 _).1 (zn_i64 _).2) (eX6_turnTo (112, .putfield 48, 3) (List.mem_of_getElem? (i := 60) rfl)) (fun H26 lo26 hh26 hf26 hk26 _ hq26 => ?_)
      have mf26_ru_0 := (hk26.1 ru 5 0 5 0 fsX6 hru rfl (by decide) (by decide)).trans mf22_ru_0
      have mf26_ru_1 := (hk26.1 ru 5 1 5 0 fsX6 hru rfl (by decide) (by decide)).trans mf22_ru_1
      have mf26_ru_2 := (hk26.1 ru 5 2 5 0 fsX6 hru rfl (by decide) (by decide)).trans mf22_ru_2
      have mf26_ru_3 := (hk26.1 ru 5 3 5 0 fsX6 hru rfl (by decide) (by decide)).trans mf22_ru_3
      have mf26_ru_4 := (hk26.1 ru 5 4 5 0 fsX6 hru rfl (by decide) (by decide)).trans mf22_ru_4
      have mf26_ru_5 := (hk26.1 ru 5 5 5 0 fsX6 hru rfl (by decide) (by decide)).trans mf22_ru_5
      have mf26_ru_6 := (hk26.1 ru 5 6 5 0 fsX6 hru rfl (by decide) (by decide)).trans mf22_ru_6
      have mf26_ru_7 := (hk26.1 ru 5 7 5 0 fsX6 hru rfl (by decide) (by decide)).trans mf22_ru_7
      have mf26_ru_8 := (hk26.1 ru 5 8 5 0 fsX6 hru rfl (by decide) (by decide)).trans mf22_ru_8
      have mf26_ru_9 := (hk26.1 ru 5 9 5 0 fsX6 hru rfl (by decide) (by decide)).trans hf22
      have kp26 := kp22.trans (hk26.mono (ms' := kC) (fun x hx => by cases List.mem_singleton.mp hx; decide))
      have jm26 := (show _ ∧ _ from ⟨(jm22).1.kept r6F hk26 (by decide), (jm22).2.kept r6T hk26 (by decide)⟩)
      have fr26 : ∀ p9 : Nat, p9 ∉ [ru] → H26[p9]? = s.heap[p9]? := fun p9 h9 => (hq26 p9 (fun e9 => h9 (by rw [e9]; exact List.mem_cons_self))).trans (fr22 p9 h9)
      refine lv_aload_n hx hb (eX6_turnTo (115, .aload_n 0, 1) (List.mem_of_getElem? (i := 61) rfl)) rfl (lv_at hl5 2 rfl) ?_
      refine ff_iconst hx hb (eX6_turnTo (116, .iconst 1, 1) (List.mem_of_getElem? (i := 62) rfl)) (by decide) (by decide) (fun v27 e27 => ?_)
      refine tz_put (r := 5) (k := 5) (t := (0, 0, 1)) hx hb hD hh26 hru rfl rfl ((hcl5 31 5 (0, 0, 1) (by decide) rfl).2 (by decide)) (tz_i (by omega) (by omega)) (eX6_turnTo (117, .putfield 31, 3) (List.mem_of_getElem? (i := 63) rfl)) (fun H28 lo28 hh28 hf28 hk28 _ hq28 => ?_)
      have mf28_ru_0 := (hk28.1 ru 5 0 5 0 fsX6 hru rfl (by decide) (by decide)).trans mf26_ru_0
      have mf28_ru_1 := (hk28.1 ru 5 1 5 0 fsX6 hru rfl (by decide) (by decide)).trans mf26_ru_1
      have mf28_ru_2 := (hk28.1 ru 5 2 5 0 fsX6 hru rfl (by decide) (by decide)).trans mf26_ru_2
      have mf28_ru_3 := (hk28.1 ru 5 3 5 0 fsX6 hru rfl (by decide) (by decide)).trans mf26_ru_3
      have mf28_ru_4 := (hk28.1 ru 5 4 5 0 fsX6 hru rfl (by decide) (by decide)).trans mf26_ru_4
      have mf28_ru_6 := (hk28.1 ru 5 6 5 0 fsX6 hru rfl (by decide) (by decide)).trans mf26_ru_6
      have mf28_ru_7 := (hk28.1 ru 5 7 5 0 fsX6 hru rfl (by decide) (by decide)).trans mf26_ru_7
      have mf28_ru_8 := (hk28.1 ru 5 8 5 0 fsX6 hru rfl (by decide) (by decide)).trans mf26_ru_8
      have mf28_ru_9 := (hk28.1 ru 5 9 5 0 fsX6 hru rfl (by decide) (by decide)).trans mf26_ru_9
      have mf28_ru_10 := (hk28.1 ru 5 10 5 0 fsX6 hru rfl (by decide) (by decide)).trans hf26
      have kp28 := kp26.trans (hk28.mono (ms' := kC) (fun x hx => by cases List.mem_singleton.mp hx; decide))
      have jm28 := (show _ ∧ _ from ⟨(jm26).1.kept r6F hk28 (by decide), (jm26).2.kept r6T hk28 (by decide)⟩)
      have fr28 : ∀ p9 : Nat, p9 ∉ [ru] → H28[p9]? = s.heap[p9]? := fun p9 h9 => (hq28 p9 (fun e9 => h9 (by rw [e9]; exact List.mem_cons_self))).trans (fr26 p9 h9)
      have hys : v2.toInt = ysI a0.toInt := by omega
      have hlp : v4.toInt = lpI a0.toInt := by omega
      have hfm : v21.toInt = fmF rr a0.toInt := by unfold fmF; rw [← hys, ← hlp]; omega
      have htm : v25.toInt = tmF rr a0.toInt := by unfold tmF; rw [← hys, ← hlp]; omega
      exact W.vret hx hb hr (fun t ht hW => ⟨rfl, by rw [ht]; exact hh28.l0, by rw [ht]; exact kp28, by rw [ht]; exact ⟨hru, r6F, r6T, ⟨mf28_ru_3, mf28_ru_4, nn, a1, b1, mf28_ru_0, mf28_ru_1, mf28_ru_2, hnn, ha1, fun _ => ⟨hb2, jm28⟩⟩, ⟨_, _, _, _, _, _, hf28, mf28_ru_6, mf28_ru_7, mf28_ru_8, mf28_ru_9, mf28_ru_10, Or.inr ⟨by omega, hr2, by omega, by omega, hfm, htm⟩⟩, hw⟩, by rw [ht]; exact ⟨_, _, hf28, mf28_ru_6, by omega, rfl⟩, by rw [ht]; exact fr28⟩) hh28.2.2.1 (eX6_turnTo (120, .return_, 1) (List.mem_of_getElem? (i := 64) rfl))
    · skip
      refine ff_sipush hx hb (eX6_turnTo (57, .sipush 366, 3) (List.mem_of_getElem? (i := 31) rfl)) (by decide) (by decide) (fun v29 e29 => ?_)
      refine lv_goto hx hb (eX6_turnTo (60, .goto 6, 3) (List.mem_of_getElem? (i := 32) rfl)) (tgt := 66) rfl ?_
      refine ff_i2l hx hb (eX6_turnTo (66, .i2l, 1) (List.mem_of_getElem? (i := 34) rfl)) (fun v30 e30 => ?_)
      refine ff_ldc2 (n := 1440) hx hb hown h2 (clX6_ok 131 1440 (List.mem_of_getElem? (i := 0) rfl)) (eX6_turnTo (67, .ldc2_w 131, 3) (List.mem_of_getElem? (i := 35) rfl)) (fun v31 e31 => ?_)
      refine ff_lmulR hx hb (eX6_turnTo (70, .lmul, 1) (List.mem_of_getElem? (i := 36) rfl)) (e31) (by omega) (by omega) (fun v32 e32 => ?_)
      refine ff_ladd hx hb (eX6_turnTo (71, .ladd, 1) (List.mem_of_getElem? (i := 37) rfl)) (by omega) (by omega) (fun v33 e33 => ?_)
      refine tz_put (r := 5) (k := 8) (t := (1, (-9223372036854775808), 9223372036854775807)) hx hb hD hh11 hru rfl rfl ((hcl5 42 8 (1, (-9223372036854775808), 9223372036854775807) (by decide) rfl).2 (by decide)) (tz_l (zn_i64 _).1 (zn_i64 _).2) (eX6_turnTo (72, .putfield 42, 3) (List.mem_of_getElem? (i := 38) rfl)) (fun H34 lo34 hh34 hf34 hk34 _ hq34 => ?_)
      have mf34_ru_0 := (hk34.1 ru 5 0 5 0 fsX6 hru rfl (by decide) (by decide)).trans mf11_ru_0
      have mf34_ru_1 := (hk34.1 ru 5 1 5 0 fsX6 hru rfl (by decide) (by decide)).trans mf11_ru_1
      have mf34_ru_2 := (hk34.1 ru 5 2 5 0 fsX6 hru rfl (by decide) (by decide)).trans mf11_ru_2
      have mf34_ru_3 := (hk34.1 ru 5 3 5 0 fsX6 hru rfl (by decide) (by decide)).trans mf11_ru_3
      have mf34_ru_4 := (hk34.1 ru 5 4 5 0 fsX6 hru rfl (by decide) (by decide)).trans mf11_ru_4
      have mf34_ru_5 := (hk34.1 ru 5 5 5 0 fsX6 hru rfl (by decide) (by decide)).trans mf11_ru_5
      have mf34_ru_9 := (hk34.1 ru 5 9 5 0 fsX6 hru rfl (by decide) (by decide)).trans mf11_ru_9
      have mf34_ru_10 := (hk34.1 ru 5 10 5 0 fsX6 hru rfl (by decide) (by decide)).trans mf11_ru_10
      have mf34_ru_6 := (hk34.1 ru 5 6 5 0 fsX6 hru rfl (by decide) (by decide)).trans mf11_ru_6
      have mf34_ru_7 := (hk34.1 ru 5 7 5 0 fsX6 hru rfl (by decide) (by decide)).trans hf11
      have kp34 := kp11.trans (hk34.mono (ms' := kC) (fun x hx => by cases List.mem_singleton.mp hx; decide))
      have jm34 := (show _ ∧ _ from ⟨(jm11).1.kept r6F hk34 (by decide), (jm11).2.kept r6T hk34 (by decide)⟩)
      have fr34 : ∀ p9 : Nat, p9 ∉ [ru] → H34[p9]? = s.heap[p9]? := fun p9 h9 => (hq34 p9 (fun e9 => h9 (by rw [e9]; exact List.mem_cons_self))).trans (fr11 p9 h9)
      refine lv_aload_n hx hb (eX6_turnTo (75, .aload_n 0, 1) (List.mem_of_getElem? (i := 39) rfl)) rfl (lv_at hl5 2 rfl) ?_
      refine lv_aload_n hx hb (eX6_turnTo (76, .aload_n 0, 1) (List.mem_of_getElem? (i := 40) rfl)) rfl (lv_at hl5 2 rfl) ?_
      refine tz_get (r := 5) (k := 3) (t := (16, 0, 0)) hx hb hh34 hru rfl rfl (hcl5 24 3 (16, 0, 0) (by decide) rfl).1 mf34_ru_3 (eX6_turnTo (77, .getfield 24, 3) (List.mem_of_getElem? (i := 41) rfl)) ?_
      refine lv_lload_n hx hb (eX6_turnTo (80, .lload_n 2, 1) (List.mem_of_getElem? (i := 42) rfl)) rfl (lv_at hl5 1 rfl) ?_
      refine lv_iload hx hb (eX6_turnTo (81, .iload 4, 2) (List.mem_of_getElem? (i := 43) rfl)) (lv_at hl5 0 rfl) ?_
      refine tz_rowV (As := [.long v2, .int v4]) (st := [.ref ru]) (b := rF) (C := RX7) (Ts := gT) hx hb hml hown h2 (fun _ h => h) (hX7_minuteOf l D cA ro sz H0 rF v2 v4 rr.2.2.2.1 r6F hw41 (by omega) (by omega) (by omega) (by omega)) ⟨rfl, rfl⟩ ⟨by decide, by decide⟩ ⟨by decide, by decide⟩ (tb_4 135 rfl rfl) (tb_1 4 rfl rfl) (tb_4 132 rfl rfl) (tb_4 133 rfl rfl) (tb_4 134 rfl rfl) (show yX7_minuteOf.cls ≠ "java/lang/invoke/MethodHandle" ∧ yX7_minuteOf.cls ≠ "java/lang/invoke/VarHandle" ∧ (parseMethodDescriptor yX7_minuteOf.desc).map (fun d => d.parameters.length) = some 2 by decide +kernel) zs_blindB (zs_ob hh34 r6F (show RTg[6]? = some (0, 6, 0, fsX7) from rfl) (zCX7 hKn.1)) (fun U hU hW => ⟨rfl, by rw [hU]; exact hh34.l0, ⟨zKb s U hW.alike hKn, hBQ.alike hW.alike⟩, by rw [hU]; exact jm34.1⟩) hh34.2.2.1 hl5.1 (Nat.le_of_ble_eq_true rfl) (eX6_turnTo (83, .invokevirtual 133, 3) (List.mem_of_getElem? (i := 44) rfl)) (fun r35 s35 t35 lo35 g35 f35 l35 => ?_)
      obtain ⟨z35, v35, q35, e35⟩ := f35
      cases q35
      rw [z35, g35]
      have hh35 : zh_ok D cA RTg ro sz H0 H34 lo35 := ⟨hh34.1, hh34.2.1, l35, hh34.2.2.2⟩
      have hmb35 := mmF_bd (ys := v2.toInt) (lp := v4.toInt) hw41 (by omega) (by omega)
      refine W.eq (g2 := F0 m 86 ls5 [.long v35, .ref ru]) rfl ?_
      refine lv_aload_n hx hb (eX6_turnTo (86, .aload_n 0, 1) (List.mem_of_getElem? (i := 45) rfl)) rfl (lv_at hl5 2 rfl) ?_
      refine tz_get (r := 5) (k := 1) (t := (0, (-2147483648), 2147483647)) hx hb hh35 hru rfl rfl (hcl5 15 1 (0, (-2147483648), 2147483647) (by decide) rfl).1 mf34_ru_1 (eX6_turnTo (87, .getfield 15, 3) (List.mem_of_getElem? (i := 46) rfl)) ?_
      refine ff_i2l hx hb (eX6_turnTo (90, .i2l, 1) (List.mem_of_getElem? (i := 47) rfl)) (fun v36 e36 => ?_)
      refine ff_lsub hx hb (eX6_turnTo (91, .lsub, 1) (List.mem_of_getElem? (i := 48) rfl)) (by omega) (by omega) (fun v37 e37 => ?_)
      refine tz_put (r := 5) (k := 9) (t := (1, (-9223372036854775808), 9223372036854775807)) hx hb hD hh35 hru rfl rfl ((hcl5 45 9 (1, (-9223372036854775808), 9223372036854775807) (by decide) rfl).2 (by decide)) (tz_l (zn_i64 _).1 (zn_i64 _).2) (eX6_turnTo (92, .putfield 45, 3) (List.mem_of_getElem? (i := 49) rfl)) (fun H38 lo38 hh38 hf38 hk38 _ hq38 => ?_)
      have mf38_ru_0 := (hk38.1 ru 5 0 5 0 fsX6 hru rfl (by decide) (by decide)).trans mf34_ru_0
      have mf38_ru_1 := (hk38.1 ru 5 1 5 0 fsX6 hru rfl (by decide) (by decide)).trans mf34_ru_1
      have mf38_ru_2 := (hk38.1 ru 5 2 5 0 fsX6 hru rfl (by decide) (by decide)).trans mf34_ru_2
      have mf38_ru_3 := (hk38.1 ru 5 3 5 0 fsX6 hru rfl (by decide) (by decide)).trans mf34_ru_3
      have mf38_ru_4 := (hk38.1 ru 5 4 5 0 fsX6 hru rfl (by decide) (by decide)).trans mf34_ru_4
      have mf38_ru_5 := (hk38.1 ru 5 5 5 0 fsX6 hru rfl (by decide) (by decide)).trans mf34_ru_5
      have mf38_ru_10 := (hk38.1 ru 5 10 5 0 fsX6 hru rfl (by decide) (by decide)).trans mf34_ru_10
      have mf38_ru_6 := (hk38.1 ru 5 6 5 0 fsX6 hru rfl (by decide) (by decide)).trans mf34_ru_6
      have mf38_ru_7 := (hk38.1 ru 5 7 5 0 fsX6 hru rfl (by decide) (by decide)).trans mf34_ru_7
      have mf38_ru_8 := (hk38.1 ru 5 8 5 0 fsX6 hru rfl (by decide) (by decide)).trans hf34
      have kp38 := kp34.trans (hk38.mono (ms' := kC) (fun x hx => by cases List.mem_singleton.mp hx; decide))
      have jm38 := (show _ ∧ _ from ⟨(jm34).1.kept r6F hk38 (by decide), (jm34).2.kept r6T hk38 (by decide)⟩)
      have fr38 : ∀ p9 : Nat, p9 ∉ [ru] → H38[p9]? = s.heap[p9]? := fun p9 h9 => (hq38 p9 (fun e9 => h9 (by rw [e9]; exact List.mem_cons_self))).trans (fr34 p9 h9)
      refine lv_aload_n hx hb (eX6_turnTo (95, .aload_n 0, 1) (List.mem_of_getElem? (i := 50) rfl)) rfl (lv_at hl5 2 rfl) ?_
      refine lv_aload_n hx hb (eX6_turnTo (96, .aload_n 0, 1) (List.mem_of_getElem? (i := 51) rfl)) rfl (lv_at hl5 2 rfl) ?_
      refine tz_get (r := 5) (k := 4) (t := (16, 0, 0)) hx hb hh38 hru rfl rfl (hcl5 28 4 (16, 0, 0) (by decide) rfl).1 mf38_ru_4 (eX6_turnTo (97, .getfield 28, 3) (List.mem_of_getElem? (i := 52) rfl)) ?_
      refine lv_lload_n hx hb (eX6_turnTo (100, .lload_n 2, 1) (List.mem_of_getElem? (i := 53) rfl)) rfl (lv_at hl5 1 rfl) ?_
      refine lv_iload hx hb (eX6_turnTo (101, .iload 4, 2) (List.mem_of_getElem? (i := 54) rfl)) (lv_at hl5 0 rfl) ?_
      refine tz_rowV (As := [.long v2, .int v4]) (st := [.ref ru]) (b := rT) (C := RX7) (Ts := gT) hx hb hml hown h2 (fun _ h => h) (hX7_minuteOf l D cA ro sz H0 rT v2 v4 rr.2.2.2.2 r6T hw42 (by omega) (by omega) (by omega) (by omega)) ⟨rfl, rfl⟩ ⟨by decide, by decide⟩ ⟨by decide, by decide⟩ (tb_4 135 rfl rfl) (tb_1 4 rfl rfl) (tb_4 132 rfl rfl) (tb_4 133 rfl rfl) (tb_4 134 rfl rfl) (show yX7_minuteOf.cls ≠ "java/lang/invoke/MethodHandle" ∧ yX7_minuteOf.cls ≠ "java/lang/invoke/VarHandle" ∧ (parseMethodDescriptor yX7_minuteOf.desc).map (fun d => d.parameters.length) = some 2 by decide +kernel) zs_blindB (zs_ob hh38 r6T (show RTg[6]? = some (0, 6, 0, fsX7) from rfl) (zCX7 hKn.1)) (fun U hU hW => ⟨rfl, by rw [hU]; exact hh38.l0, ⟨zKb s U hW.alike hKn, hBQ.alike hW.alike⟩, by rw [hU]; exact jm38.2⟩) hh38.2.2.1 hl5.1 (Nat.le_of_ble_eq_true rfl) (eX6_turnTo (103, .invokevirtual 133, 3) (List.mem_of_getElem? (i := 55) rfl)) (fun r39 s39 t39 lo39 g39 f39 l39 => ?_)
      obtain ⟨z39, v39, q39, e39⟩ := f39
      cases q39
      rw [z39, g39]
      have hh39 : zh_ok D cA RTg ro sz H0 H38 lo39 := ⟨hh38.1, hh38.2.1, l39, hh38.2.2.2⟩
      have hmb39 := mmF_bd (ys := v2.toInt) (lp := v4.toInt) hw42 (by omega) (by omega)
      refine W.eq (g2 := F0 m 106 ls5 [.long v39, .ref ru]) rfl ?_
      refine lv_aload_n hx hb (eX6_turnTo (106, .aload_n 0, 1) (List.mem_of_getElem? (i := 56) rfl)) rfl (lv_at hl5 2 rfl) ?_
      refine tz_get (r := 5) (k := 2) (t := (0, (-2147483648), 2147483647)) hx hb hh39 hru rfl rfl (hcl5 18 2 (0, (-2147483648), 2147483647) (by decide) rfl).1 mf38_ru_2 (eX6_turnTo (107, .getfield 18, 3) (List.mem_of_getElem? (i := 57) rfl)) ?_
      refine ff_i2l hx hb (eX6_turnTo (110, .i2l, 1) (List.mem_of_getElem? (i := 58) rfl)) (fun v40 e40 => ?_)
      refine ff_lsub hx hb (eX6_turnTo (111, .lsub, 1) (List.mem_of_getElem? (i := 59) rfl)) (by omega) (by omega) (fun v41 e41 => ?_)
      refine tz_put (r := 5) (k := 10) (t := (1, (-9223372036854775808), 9223372036854775807)) hx hb hD hh39 hru rfl rfl ((hcl5 48 10 (1, (-9223372036854775808), 9223372036854775807) (by decide) rfl).2 (by decide)) (tz_l (zn_i64 _).1 (zn_i64 _).2) (eX6_turnTo (112, .putfield 48, 3) (List.mem_of_getElem? (i := 60) rfl)) (fun H42 lo42 hh42 hf42 hk42 _ hq42 => ?_)
      have mf42_ru_0 := (hk42.1 ru 5 0 5 0 fsX6 hru rfl (by decide) (by decide)).trans mf38_ru_0
      have mf42_ru_1 := (hk42.1 ru 5 1 5 0 fsX6 hru rfl (by decide) (by decide)).trans mf38_ru_1
      have mf42_ru_2 := (hk42.1 ru 5 2 5 0 fsX6 hru rfl (by decide) (by decide)).trans mf38_ru_2
      have mf42_ru_3 := (hk42.1 ru 5 3 5 0 fsX6 hru rfl (by decide) (by decide)).trans mf38_ru_3
      have mf42_ru_4 := (hk42.1 ru 5 4 5 0 fsX6 hru rfl (by decide) (by decide)).trans mf38_ru_4
      have mf42_ru_5 := (hk42.1 ru 5 5 5 0 fsX6 hru rfl (by decide) (by decide)).trans mf38_ru_5
      have mf42_ru_6 := (hk42.1 ru 5 6 5 0 fsX6 hru rfl (by decide) (by decide)).trans mf38_ru_6
      have mf42_ru_7 := (hk42.1 ru 5 7 5 0 fsX6 hru rfl (by decide) (by decide)).trans mf38_ru_7
      have mf42_ru_8 := (hk42.1 ru 5 8 5 0 fsX6 hru rfl (by decide) (by decide)).trans mf38_ru_8
      have mf42_ru_9 := (hk42.1 ru 5 9 5 0 fsX6 hru rfl (by decide) (by decide)).trans hf38
      have kp42 := kp38.trans (hk42.mono (ms' := kC) (fun x hx => by cases List.mem_singleton.mp hx; decide))
      have jm42 := (show _ ∧ _ from ⟨(jm38).1.kept r6F hk42 (by decide), (jm38).2.kept r6T hk42 (by decide)⟩)
      have fr42 : ∀ p9 : Nat, p9 ∉ [ru] → H42[p9]? = s.heap[p9]? := fun p9 h9 => (hq42 p9 (fun e9 => h9 (by rw [e9]; exact List.mem_cons_self))).trans (fr38 p9 h9)
      refine lv_aload_n hx hb (eX6_turnTo (115, .aload_n 0, 1) (List.mem_of_getElem? (i := 61) rfl)) rfl (lv_at hl5 2 rfl) ?_
      refine ff_iconst hx hb (eX6_turnTo (116, .iconst 1, 1) (List.mem_of_getElem? (i := 62) rfl)) (by decide) (by decide) (fun v43 e43 => ?_)
      refine tz_put (r := 5) (k := 5) (t := (0, 0, 1)) hx hb hD hh42 hru rfl rfl ((hcl5 31 5 (0, 0, 1) (by decide) rfl).2 (by decide)) (tz_i (by omega) (by omega)) (eX6_turnTo (117, .putfield 31, 3) (List.mem_of_getElem? (i := 63) rfl)) (fun H44 lo44 hh44 hf44 hk44 _ hq44 => ?_)
      have mf44_ru_0 := (hk44.1 ru 5 0 5 0 fsX6 hru rfl (by decide) (by decide)).trans mf42_ru_0
      have mf44_ru_1 := (hk44.1 ru 5 1 5 0 fsX6 hru rfl (by decide) (by decide)).trans mf42_ru_1
      have mf44_ru_2 := (hk44.1 ru 5 2 5 0 fsX6 hru rfl (by decide) (by decide)).trans mf42_ru_2
      have mf44_ru_3 := (hk44.1 ru 5 3 5 0 fsX6 hru rfl (by decide) (by decide)).trans mf42_ru_3
      have mf44_ru_4 := (hk44.1 ru 5 4 5 0 fsX6 hru rfl (by decide) (by decide)).trans mf42_ru_4
      have mf44_ru_6 := (hk44.1 ru 5 6 5 0 fsX6 hru rfl (by decide) (by decide)).trans mf42_ru_6
      have mf44_ru_7 := (hk44.1 ru 5 7 5 0 fsX6 hru rfl (by decide) (by decide)).trans mf42_ru_7
      have mf44_ru_8 := (hk44.1 ru 5 8 5 0 fsX6 hru rfl (by decide) (by decide)).trans mf42_ru_8
      have mf44_ru_9 := (hk44.1 ru 5 9 5 0 fsX6 hru rfl (by decide) (by decide)).trans mf42_ru_9
      have mf44_ru_10 := (hk44.1 ru 5 10 5 0 fsX6 hru rfl (by decide) (by decide)).trans hf42
      have kp44 := kp42.trans (hk44.mono (ms' := kC) (fun x hx => by cases List.mem_singleton.mp hx; decide))
      have jm44 := (show _ ∧ _ from ⟨(jm42).1.kept r6F hk44 (by decide), (jm42).2.kept r6T hk44 (by decide)⟩)
      have fr44 : ∀ p9 : Nat, p9 ∉ [ru] → H44[p9]? = s.heap[p9]? := fun p9 h9 => (hq44 p9 (fun e9 => h9 (by rw [e9]; exact List.mem_cons_self))).trans (fr42 p9 h9)
      have hys : v2.toInt = ysI a0.toInt := by omega
      have hlp : v4.toInt = lpI a0.toInt := by omega
      have hfm : v37.toInt = fmF rr a0.toInt := by unfold fmF; rw [← hys, ← hlp]; omega
      have htm : v41.toInt = tmF rr a0.toInt := by unfold tmF; rw [← hys, ← hlp]; omega
      exact W.vret hx hb hr (fun t ht hW => ⟨rfl, by rw [ht]; exact hh44.l0, by rw [ht]; exact kp44, by rw [ht]; exact ⟨hru, r6F, r6T, ⟨mf44_ru_3, mf44_ru_4, nn, a1, b1, mf44_ru_0, mf44_ru_1, mf44_ru_2, hnn, ha1, fun _ => ⟨hb2, jm44⟩⟩, ⟨_, _, _, _, _, _, hf44, mf44_ru_6, mf44_ru_7, mf44_ru_8, mf44_ru_9, mf44_ru_10, Or.inr ⟨by omega, hr2, by omega, by omega, hfm, htm⟩⟩, hw⟩, by rw [ht]; exact ⟨_, _, hf44, mf44_ru_6, by omega, rfl⟩, by rw [ht]; exact fr44⟩) hh44.2.2.1 (eX6_turnTo (120, .return_, 1) (List.mem_of_getElem? (i := 64) rfl))
  · skip
    refine lv_aload_n hx hb (eX6_turnTo (7, .aload_n 0, 1) (List.mem_of_getElem? (i := 3) rfl)) rfl (lv_at hl 0 rfl) ?_
    refine tz_get (r := 5) (k := 6) (t := (0, (-2147483648), 2147483647)) hx hb hh hru rfl rfl (hcl5 35 6 (0, (-2147483648), 2147483647) (by decide) rfl).1 f6 (eX6_turnTo (8, .getfield 35, 3) (List.mem_of_getElem? (i := 4) rfl)) ?_
    refine lv_iload_n hx hb (eX6_turnTo (11, .iload_n 1, 1) (List.mem_of_getElem? (i := 5) rfl)) rfl (lv_at hl 1 rfl) ?_
    refine ff_icmp_ne hx hb (eX6_turnTo (12, .if_icmp .ne 4, 3) (List.mem_of_getElem? (i := 6) rfl)) (tgt := 16) rfl (fun c45 => ?_) (fun c45 => ?_)
    · skip
      refine lv_iload_n hx hb (eX6_turnTo (16, .iload_n 1, 1) (List.mem_of_getElem? (i := 8) rfl)) rfl (lv_at hl 1 rfl) ?_
      refine zu_S (vs := [.int a0]) (rest := []) hx hb hml hown hts0 zu_BT (hX2_yearStart l a0 (by omega) (by omega)) ⟨rfl, rfl⟩ ⟨by decide, by decide⟩ ⟨by decide, by decide⟩ (tb_2 193 rfl rfl) (tb_1 13 rfl rfl) (tb_4 130 rfl rfl) (tb_2 192 rfl rfl) (show yX2_yearStart.cls ≠ "java/lang/invoke/MethodHandle" ∧ yX2_yearStart.cls ≠ "java/lang/invoke/VarHandle" ∧ (parseMethodDescriptor yX2_yearStart.desc).map (fun d => d.parameters.length) = some 1 by decide +kernel) rfl (fun _ _ _ => trivial) hl.1 (Nat.le_of_ble_eq_true rfl) (eX6_turnTo (17, .invokestatic 123, 3) (List.mem_of_getElem? (i := 9) rfl)) (fun w46 f46 => ?_)
      obtain ⟨v46, rfl, e46⟩ := f46
      have g46 := ysI_bd (y := a0.toInt) (by omega) (by omega)
      refine lv_lstore_n hx hb (eX6_turnTo (20, .lstore_n 2, 1) (List.mem_of_getElem? (i := 10) rfl)) rfl hl (by decide) rfl (fun ls47 hl47 => ?_)
      refine lv_iload_n hx hb (eX6_turnTo (21, .iload_n 1, 1) (List.mem_of_getElem? (i := 11) rfl)) rfl (lv_at hl47 2 rfl) ?_
      refine zu_S (vs := [.int a0]) (rest := []) hx hb hml hown hts0 zu_BT (hX2_isLeapYear l a0) ⟨rfl, rfl⟩ ⟨by decide, by decide⟩ ⟨by decide, by decide⟩ (tb_2 120 rfl rfl) (tb_1 13 rfl rfl) (tb_4 131 rfl rfl) (tb_2 119 rfl rfl) (show yX2_isLeapYear.cls ≠ "java/lang/invoke/MethodHandle" ∧ yX2_isLeapYear.cls ≠ "java/lang/invoke/VarHandle" ∧ (parseMethodDescriptor yX2_isLeapYear.desc).map (fun d => d.parameters.length) = some 1 by decide +kernel) rfl (fun _ _ _ => trivial) hl47.1 (Nat.le_of_ble_eq_true rfl) (eX6_turnTo (22, .invokestatic 128, 3) (List.mem_of_getElem? (i := 12) rfl)) (fun w48 f48 => ?_)
      obtain ⟨v48, rfl, e48⟩ := f48
      have g48 := lpI_bd a0.toInt
      refine lv_istore hx hb (eX6_turnTo (25, .istore 4, 2) (List.mem_of_getElem? (i := 13) rfl)) hl47 (by decide) rfl (fun ls49 hl49 => ?_)
      refine lv_aload_n hx hb (eX6_turnTo (27, .aload_n 0, 1) (List.mem_of_getElem? (i := 14) rfl)) rfl (lv_at hl49 2 rfl) ?_
      refine lv_iload_n hx hb (eX6_turnTo (28, .iload_n 1, 1) (List.mem_of_getElem? (i := 15) rfl)) rfl (lv_at hl49 3 rfl) ?_
      refine tz_put (r := 5) (k := 6) (t := (0, (-2147483648), 2147483647)) hx hb hD hh hru rfl rfl ((hcl5 35 6 (0, (-2147483648), 2147483647) (by decide) rfl).2 (by decide)) (tz_i (zn_i32 _).1 (zn_i32 _).2) (eX6_turnTo (29, .putfield 35, 3) (List.mem_of_getElem? (i := 16) rfl)) (fun H50 lo50 hh50 hf50 hk50 _ hq50 => ?_)
      have mf50_ru_0 := (hk50.1 ru 5 0 5 0 fsX6 hru rfl (by decide) (by decide)).trans f0
      have mf50_ru_1 := (hk50.1 ru 5 1 5 0 fsX6 hru rfl (by decide) (by decide)).trans f1
      have mf50_ru_2 := (hk50.1 ru 5 2 5 0 fsX6 hru rfl (by decide) (by decide)).trans f2
      have mf50_ru_3 := (hk50.1 ru 5 3 5 0 fsX6 hru rfl (by decide) (by decide)).trans hF3
      have mf50_ru_4 := (hk50.1 ru 5 4 5 0 fsX6 hru rfl (by decide) (by decide)).trans hF4
      have mf50_ru_5 := (hk50.1 ru 5 5 5 0 fsX6 hru rfl (by decide) (by decide)).trans f5
      have mf50_ru_7 := (hk50.1 ru 5 7 5 0 fsX6 hru rfl (by decide) (by decide)).trans f7
      have mf50_ru_8 := (hk50.1 ru 5 8 5 0 fsX6 hru rfl (by decide) (by decide)).trans f8
      have mf50_ru_9 := (hk50.1 ru 5 9 5 0 fsX6 hru rfl (by decide) (by decide)).trans f9
      have mf50_ru_10 := (hk50.1 ru 5 10 5 0 fsX6 hru rfl (by decide) (by decide)).trans f10
      have kp50 := kp0.trans (hk50.mono (ms' := kC) (fun x hx => by cases List.mem_singleton.mp hx; decide))
      have jm50 := (show _ ∧ _ from ⟨(jFT).1.kept r6F hk50 (by decide), (jFT).2.kept r6T hk50 (by decide)⟩)
      have fr50 : ∀ p9 : Nat, p9 ∉ [ru] → H50[p9]? = s.heap[p9]? := fun p9 h9 => (hq50 p9 (fun e9 => h9 (by rw [e9]; exact List.mem_cons_self))).trans (fr0 p9 h9)
      refine lv_aload_n hx hb (eX6_turnTo (32, .aload_n 0, 1) (List.mem_of_getElem? (i := 17) rfl)) rfl (lv_at hl49 2 rfl) ?_
      refine lv_lload_n hx hb (eX6_turnTo (33, .lload_n 2, 1) (List.mem_of_getElem? (i := 18) rfl)) rfl (lv_at hl49 1 rfl) ?_
      refine ff_ldc2 (n := 1440) hx hb hown h2 (clX6_ok 131 1440 (List.mem_of_getElem? (i := 0) rfl)) (eX6_turnTo (34, .ldc2_w 131, 3) (List.mem_of_getElem? (i := 19) rfl)) (fun v51 e51 => ?_)
      refine ff_lmulR hx hb (eX6_turnTo (37, .lmul, 1) (List.mem_of_getElem? (i := 20) rfl)) (e51) (by omega) (by omega) (fun v52 e52 => ?_)
      refine lv_aload_n hx hb (eX6_turnTo (38, .aload_n 0, 1) (List.mem_of_getElem? (i := 21) rfl)) rfl (lv_at hl49 2 rfl) ?_
      refine tz_get (r := 5) (k := 1) (t := (0, (-2147483648), 2147483647)) hx hb hh50 hru rfl rfl (hcl5 15 1 (0, (-2147483648), 2147483647) (by decide) rfl).1 mf50_ru_1 (eX6_turnTo (39, .getfield 15, 3) (List.mem_of_getElem? (i := 22) rfl)) ?_
      refine ff_i2l hx hb (eX6_turnTo (42, .i2l, 1) (List.mem_of_getElem? (i := 23) rfl)) (fun v53 e53 => ?_)
      refine ff_lsub hx hb (eX6_turnTo (43, .lsub, 1) (List.mem_of_getElem? (i := 24) rfl)) (by omega) (by omega) (fun v54 e54 => ?_)
      refine tz_put (r := 5) (k := 7) (t := (1, (-9223372036854775808), 9223372036854775807)) hx hb hD hh50 hru rfl rfl ((hcl5 38 7 (1, (-9223372036854775808), 9223372036854775807) (by decide) rfl).2 (by decide)) (tz_l (zn_i64 _).1 (zn_i64 _).2) (eX6_turnTo (44, .putfield 38, 3) (List.mem_of_getElem? (i := 25) rfl)) (fun H55 lo55 hh55 hf55 hk55 _ hq55 => ?_)
      have mf55_ru_0 := (hk55.1 ru 5 0 5 0 fsX6 hru rfl (by decide) (by decide)).trans mf50_ru_0
      have mf55_ru_1 := (hk55.1 ru 5 1 5 0 fsX6 hru rfl (by decide) (by decide)).trans mf50_ru_1
      have mf55_ru_2 := (hk55.1 ru 5 2 5 0 fsX6 hru rfl (by decide) (by decide)).trans mf50_ru_2
      have mf55_ru_3 := (hk55.1 ru 5 3 5 0 fsX6 hru rfl (by decide) (by decide)).trans mf50_ru_3
      have mf55_ru_4 := (hk55.1 ru 5 4 5 0 fsX6 hru rfl (by decide) (by decide)).trans mf50_ru_4
      have mf55_ru_5 := (hk55.1 ru 5 5 5 0 fsX6 hru rfl (by decide) (by decide)).trans mf50_ru_5
      have mf55_ru_8 := (hk55.1 ru 5 8 5 0 fsX6 hru rfl (by decide) (by decide)).trans mf50_ru_8
      have mf55_ru_9 := (hk55.1 ru 5 9 5 0 fsX6 hru rfl (by decide) (by decide)).trans mf50_ru_9
      have mf55_ru_10 := (hk55.1 ru 5 10 5 0 fsX6 hru rfl (by decide) (by decide)).trans mf50_ru_10
      have mf55_ru_6 := (hk55.1 ru 5 6 5 0 fsX6 hru rfl (by decide) (by decide)).trans hf50
      have kp55 := kp50.trans (hk55.mono (ms' := kC) (fun x hx => by cases List.mem_singleton.mp hx; decide))
      have jm55 := (show _ ∧ _ from ⟨(jm50).1.kept r6F hk55 (by decide), (jm50).2.kept r6T hk55 (by decide)⟩)
      have fr55 : ∀ p9 : Nat, p9 ∉ [ru] → H55[p9]? = s.heap[p9]? := fun p9 h9 => (hq55 p9 (fun e9 => h9 (by rw [e9]; exact List.mem_cons_self))).trans (fr50 p9 h9)
      refine lv_aload_n hx hb (eX6_turnTo (47, .aload_n 0, 1) (List.mem_of_getElem? (i := 26) rfl)) rfl (lv_at hl49 2 rfl) ?_
      refine lv_aload_n hx hb (eX6_turnTo (48, .aload_n 0, 1) (List.mem_of_getElem? (i := 27) rfl)) rfl (lv_at hl49 2 rfl) ?_
      refine tz_get (r := 5) (k := 7) (t := (1, (-9223372036854775808), 9223372036854775807)) hx hb hh55 hru rfl rfl (hcl5 38 7 (1, (-9223372036854775808), 9223372036854775807) (by decide) rfl).1 hf55 (eX6_turnTo (49, .getfield 38, 3) (List.mem_of_getElem? (i := 28) rfl)) ?_
      refine lv_iload hx hb (eX6_turnTo (52, .iload 4, 2) (List.mem_of_getElem? (i := 29) rfl)) (lv_at hl49 0 rfl) ?_
      refine ff_if_eq hx hb (eX6_turnTo (54, .ifCond .eq 9, 3) (List.mem_of_getElem? (i := 30) rfl)) (tgt := 63) rfl (fun c56 => ?_) (fun c56 => ?_)
      · skip
        refine ff_sipush hx hb (eX6_turnTo (63, .sipush 365, 3) (List.mem_of_getElem? (i := 33) rfl)) (by decide) (by decide) (fun v57 e57 => ?_)
        refine ff_i2l hx hb (eX6_turnTo (66, .i2l, 1) (List.mem_of_getElem? (i := 34) rfl)) (fun v58 e58 => ?_)
        refine ff_ldc2 (n := 1440) hx hb hown h2 (clX6_ok 131 1440 (List.mem_of_getElem? (i := 0) rfl)) (eX6_turnTo (67, .ldc2_w 131, 3) (List.mem_of_getElem? (i := 35) rfl)) (fun v59 e59 => ?_)
        refine ff_lmulR hx hb (eX6_turnTo (70, .lmul, 1) (List.mem_of_getElem? (i := 36) rfl)) (e59) (by omega) (by omega) (fun v60 e60 => ?_)
        refine ff_ladd hx hb (eX6_turnTo (71, .ladd, 1) (List.mem_of_getElem? (i := 37) rfl)) (by omega) (by omega) (fun v61 e61 => ?_)
        refine tz_put (r := 5) (k := 8) (t := (1, (-9223372036854775808), 9223372036854775807)) hx hb hD hh55 hru rfl rfl ((hcl5 42 8 (1, (-9223372036854775808), 9223372036854775807) (by decide) rfl).2 (by decide)) (tz_l (zn_i64 _).1 (zn_i64 _).2) (eX6_turnTo (72, .putfield 42, 3) (List.mem_of_getElem? (i := 38) rfl)) (fun H62 lo62 hh62 hf62 hk62 _ hq62 => ?_)
        have mf62_ru_0 := (hk62.1 ru 5 0 5 0 fsX6 hru rfl (by decide) (by decide)).trans mf55_ru_0
        have mf62_ru_1 := (hk62.1 ru 5 1 5 0 fsX6 hru rfl (by decide) (by decide)).trans mf55_ru_1
        have mf62_ru_2 := (hk62.1 ru 5 2 5 0 fsX6 hru rfl (by decide) (by decide)).trans mf55_ru_2
        have mf62_ru_3 := (hk62.1 ru 5 3 5 0 fsX6 hru rfl (by decide) (by decide)).trans mf55_ru_3
        have mf62_ru_4 := (hk62.1 ru 5 4 5 0 fsX6 hru rfl (by decide) (by decide)).trans mf55_ru_4
        have mf62_ru_5 := (hk62.1 ru 5 5 5 0 fsX6 hru rfl (by decide) (by decide)).trans mf55_ru_5
        have mf62_ru_9 := (hk62.1 ru 5 9 5 0 fsX6 hru rfl (by decide) (by decide)).trans mf55_ru_9
        have mf62_ru_10 := (hk62.1 ru 5 10 5 0 fsX6 hru rfl (by decide) (by decide)).trans mf55_ru_10
        have mf62_ru_6 := (hk62.1 ru 5 6 5 0 fsX6 hru rfl (by decide) (by decide)).trans mf55_ru_6
        have mf62_ru_7 := (hk62.1 ru 5 7 5 0 fsX6 hru rfl (by decide) (by decide)).trans hf55
        have kp62 := kp55.trans (hk62.mono (ms' := kC) (fun x hx => by cases List.mem_singleton.mp hx; decide))
        have jm62 := (show _ ∧ _ from ⟨(jm55).1.kept r6F hk62 (by decide), (jm55).2.kept r6T hk62 (by decide)⟩)
        have fr62 : ∀ p9 : Nat, p9 ∉ [ru] → H62[p9]? = s.heap[p9]? := fun p9 h9 => (hq62 p9 (fun e9 => h9 (by rw [e9]; exact List.mem_cons_self))).trans (fr55 p9 h9)
        refine lv_aload_n hx hb (eX6_turnTo (75, .aload_n 0, 1) (List.mem_of_getElem? (i := 39) rfl)) rfl (lv_at hl49 2 rfl) ?_
        refine lv_aload_n hx hb (eX6_turnTo (76, .aload_n 0, 1) (List.mem_of_getElem? (i := 40) rfl)) rfl (lv_at hl49 2 rfl) ?_
        refine tz_get (r := 5) (k := 3) (t := (16, 0, 0)) hx hb hh62 hru rfl rfl (hcl5 24 3 (16, 0, 0) (by decide) rfl).1 mf62_ru_3 (eX6_turnTo (77, .getfield 24, 3) (List.mem_of_getElem? (i := 41) rfl)) ?_
        refine lv_lload_n hx hb (eX6_turnTo (80, .lload_n 2, 1) (List.mem_of_getElem? (i := 42) rfl)) rfl (lv_at hl49 1 rfl) ?_
        refine lv_iload hx hb (eX6_turnTo (81, .iload 4, 2) (List.mem_of_getElem? (i := 43) rfl)) (lv_at hl49 0 rfl) ?_
        refine tz_rowV (As := [.long v46, .int v48]) (st := [.ref ru]) (b := rF) (C := RX7) (Ts := gT) hx hb hml hown h2 (fun _ h => h) (hX7_minuteOf l D cA ro sz H0 rF v46 v48 rr.2.2.2.1 r6F hw41 (by omega) (by omega) (by omega) (by omega)) ⟨rfl, rfl⟩ ⟨by decide, by decide⟩ ⟨by decide, by decide⟩ (tb_4 135 rfl rfl) (tb_1 4 rfl rfl) (tb_4 132 rfl rfl) (tb_4 133 rfl rfl) (tb_4 134 rfl rfl) (show yX7_minuteOf.cls ≠ "java/lang/invoke/MethodHandle" ∧ yX7_minuteOf.cls ≠ "java/lang/invoke/VarHandle" ∧ (parseMethodDescriptor yX7_minuteOf.desc).map (fun d => d.parameters.length) = some 2 by decide +kernel) zs_blindB (zs_ob hh62 r6F (show RTg[6]? = some (0, 6, 0, fsX7) from rfl) (zCX7 hKn.1)) (fun U hU hW => ⟨rfl, by rw [hU]; exact hh62.l0, ⟨zKb s U hW.alike hKn, hBQ.alike hW.alike⟩, by rw [hU]; exact jm62.1⟩) hh62.2.2.1 hl49.1 (Nat.le_of_ble_eq_true rfl) (eX6_turnTo (83, .invokevirtual 133, 3) (List.mem_of_getElem? (i := 44) rfl)) (fun r63 s63 t63 lo63 g63 f63 l63 => ?_)
        obtain ⟨z63, v63, q63, e63⟩ := f63
        cases q63
        rw [z63, g63]
        have hh63 : zh_ok D cA RTg ro sz H0 H62 lo63 := ⟨hh62.1, hh62.2.1, l63, hh62.2.2.2⟩
        have hmb63 := mmF_bd (ys := v46.toInt) (lp := v48.toInt) hw41 (by omega) (by omega)
        refine W.eq (g2 := F0 m 86 ls49 [.long v63, .ref ru]) rfl ?_
        refine lv_aload_n hx hb (eX6_turnTo (86, .aload_n 0, 1) (List.mem_of_getElem? (i := 45) rfl)) rfl (lv_at hl49 2 rfl) ?_
        refine tz_get (r := 5) (k := 1) (t := (0, (-2147483648), 2147483647)) hx hb hh63 hru rfl rfl (hcl5 15 1 (0, (-2147483648), 2147483647) (by decide) rfl).1 mf62_ru_1 (eX6_turnTo (87, .getfield 15, 3) (List.mem_of_getElem? (i := 46) rfl)) ?_
        refine ff_i2l hx hb (eX6_turnTo (90, .i2l, 1) (List.mem_of_getElem? (i := 47) rfl)) (fun v64 e64 => ?_)
        refine ff_lsub hx hb (eX6_turnTo (91, .lsub, 1) (List.mem_of_getElem? (i := 48) rfl)) (by omega) (by omega) (fun v65 e65 => ?_)
        refine tz_put (r := 5) (k := 9) (t := (1, (-9223372036854775808), 9223372036854775807)) hx hb hD hh63 hru rfl rfl ((hcl5 45 9 (1, (-9223372036854775808), 9223372036854775807) (by decide) rfl).2 (by decide)) (tz_l (zn_i64 _).1 (zn_i64 _).2) (eX6_turnTo (92, .putfield 45, 3) (List.mem_of_getElem? (i := 49) rfl)) (fun H66 lo66 hh66 hf66 hk66 _ hq66 => ?_)
        have mf66_ru_0 := (hk66.1 ru 5 0 5 0 fsX6 hru rfl (by decide) (by decide)).trans mf62_ru_0
        have mf66_ru_1 := (hk66.1 ru 5 1 5 0 fsX6 hru rfl (by decide) (by decide)).trans mf62_ru_1
        have mf66_ru_2 := (hk66.1 ru 5 2 5 0 fsX6 hru rfl (by decide) (by decide)).trans mf62_ru_2
        have mf66_ru_3 := (hk66.1 ru 5 3 5 0 fsX6 hru rfl (by decide) (by decide)).trans mf62_ru_3
        have mf66_ru_4 := (hk66.1 ru 5 4 5 0 fsX6 hru rfl (by decide) (by decide)).trans mf62_ru_4
        have mf66_ru_5 := (hk66.1 ru 5 5 5 0 fsX6 hru rfl (by decide) (by decide)).trans mf62_ru_5
        have mf66_ru_10 := (hk66.1 ru 5 10 5 0 fsX6 hru rfl (by decide) (by decide)).trans mf62_ru_10
        have mf66_ru_6 := (hk66.1 ru 5 6 5 0 fsX6 hru rfl (by decide) (by decide)).trans mf62_ru_6
        have mf66_ru_7 := (hk66.1 ru 5 7 5 0 fsX6 hru rfl (by decide) (by decide)).trans mf62_ru_7
        have mf66_ru_8 := (hk66.1 ru 5 8 5 0 fsX6 hru rfl (by decide) (by decide)).trans hf62
        have kp66 := kp62.trans (hk66.mono (ms' := kC) (fun x hx => by cases List.mem_singleton.mp hx; decide))
        have jm66 := (show _ ∧ _ from ⟨(jm62).1.kept r6F hk66 (by decide), (jm62).2.kept r6T hk66 (by decide)⟩)
        have fr66 : ∀ p9 : Nat, p9 ∉ [ru] → H66[p9]? = s.heap[p9]? := fun p9 h9 => (hq66 p9 (fun e9 => h9 (by rw [e9]; exact List.mem_cons_self))).trans (fr62 p9 h9)
        refine lv_aload_n hx hb (eX6_turnTo (95, .aload_n 0, 1) (List.mem_of_getElem? (i := 50) rfl)) rfl (lv_at hl49 2 rfl) ?_
        refine lv_aload_n hx hb (eX6_turnTo (96, .aload_n 0, 1) (List.mem_of_getElem? (i := 51) rfl)) rfl (lv_at hl49 2 rfl) ?_
        refine tz_get (r := 5) (k := 4) (t := (16, 0, 0)) hx hb hh66 hru rfl rfl (hcl5 28 4 (16, 0, 0) (by decide) rfl).1 mf66_ru_4 (eX6_turnTo (97, .getfield 28, 3) (List.mem_of_getElem? (i := 52) rfl)) ?_
        refine lv_lload_n hx hb (eX6_turnTo (100, .lload_n 2, 1) (List.mem_of_getElem? (i := 53) rfl)) rfl (lv_at hl49 1 rfl) ?_
        refine lv_iload hx hb (eX6_turnTo (101, .iload 4, 2) (List.mem_of_getElem? (i := 54) rfl)) (lv_at hl49 0 rfl) ?_
        refine tz_rowV (As := [.long v46, .int v48]) (st := [.ref ru]) (b := rT) (C := RX7) (Ts := gT) hx hb hml hown h2 (fun _ h => h) (hX7_minuteOf l D cA ro sz H0 rT v46 v48 rr.2.2.2.2 r6T hw42 (by omega) (by omega) (by omega) (by omega)) ⟨rfl, rfl⟩ ⟨by decide, by decide⟩ ⟨by decide, by decide⟩ (tb_4 135 rfl rfl) (tb_1 4 rfl rfl) (tb_4 132 rfl rfl) (tb_4 133 rfl rfl) (tb_4 134 rfl rfl) (show yX7_minuteOf.cls ≠ "java/lang/invoke/MethodHandle" ∧ yX7_minuteOf.cls ≠ "java/lang/invoke/VarHandle" ∧ (parseMethodDescriptor yX7_minuteOf.desc).map (fun d => d.parameters.length) = some 2 by decide +kernel) zs_blindB (zs_ob hh66 r6T (show RTg[6]? = some (0, 6, 0, fsX7) from rfl) (zCX7 hKn.1)) (fun U hU hW => ⟨rfl, by rw [hU]; exact hh66.l0, ⟨zKb s U hW.alike hKn, hBQ.alike hW.alike⟩, by rw [hU]; exact jm66.2⟩) hh66.2.2.1 hl49.1 (Nat.le_of_ble_eq_true rfl) (eX6_turnTo (103, .invokevirtual 133, 3) (List.mem_of_getElem? (i := 55) rfl)) (fun r67 s67 t67 lo67 g67 f67 l67 => ?_)
        obtain ⟨z67, v67, q67, e67⟩ := f67
        cases q67
        rw [z67, g67]
        have hh67 : zh_ok D cA RTg ro sz H0 H66 lo67 := ⟨hh66.1, hh66.2.1, l67, hh66.2.2.2⟩
        have hmb67 := mmF_bd (ys := v46.toInt) (lp := v48.toInt) hw42 (by omega) (by omega)
        refine W.eq (g2 := F0 m 106 ls49 [.long v67, .ref ru]) rfl ?_
        refine lv_aload_n hx hb (eX6_turnTo (106, .aload_n 0, 1) (List.mem_of_getElem? (i := 56) rfl)) rfl (lv_at hl49 2 rfl) ?_
        refine tz_get (r := 5) (k := 2) (t := (0, (-2147483648), 2147483647)) hx hb hh67 hru rfl rfl (hcl5 18 2 (0, (-2147483648), 2147483647) (by decide) rfl).1 mf66_ru_2 (eX6_turnTo (107, .getfield 18, 3) (List.mem_of_getElem? (i := 57) rfl)) ?_
        refine ff_i2l hx hb (eX6_turnTo (110, .i2l, 1) (List.mem_of_getElem? (i := 58) rfl)) (fun v68 e68 => ?_)
        refine ff_lsub hx hb (eX6_turnTo (111, .lsub, 1) (List.mem_of_getElem? (i := 59) rfl)) (by omega) (by omega) (fun v69 e69 => ?_)
        refine tz_put (r := 5) (k := 10) (t := (1, (-9223372036854775808), 9223372036854775807)) hx hb hD hh67 hru rfl rfl ((hcl5 48 10 (1, (-9223372036854775808), 9223372036854775807) (by decide) rfl).2 (by decide)) (tz_l (zn_i64 _).1 (zn_i64 _).2) (eX6_turnTo (112, .putfield 48, 3) (List.mem_of_getElem? (i := 60) rfl)) (fun H70 lo70 hh70 hf70 hk70 _ hq70 => ?_)
        have mf70_ru_0 := (hk70.1 ru 5 0 5 0 fsX6 hru rfl (by decide) (by decide)).trans mf66_ru_0
        have mf70_ru_1 := (hk70.1 ru 5 1 5 0 fsX6 hru rfl (by decide) (by decide)).trans mf66_ru_1
        have mf70_ru_2 := (hk70.1 ru 5 2 5 0 fsX6 hru rfl (by decide) (by decide)).trans mf66_ru_2
        have mf70_ru_3 := (hk70.1 ru 5 3 5 0 fsX6 hru rfl (by decide) (by decide)).trans mf66_ru_3
        have mf70_ru_4 := (hk70.1 ru 5 4 5 0 fsX6 hru rfl (by decide) (by decide)).trans mf66_ru_4
        have mf70_ru_5 := (hk70.1 ru 5 5 5 0 fsX6 hru rfl (by decide) (by decide)).trans mf66_ru_5
        have mf70_ru_6 := (hk70.1 ru 5 6 5 0 fsX6 hru rfl (by decide) (by decide)).trans mf66_ru_6
        have mf70_ru_7 := (hk70.1 ru 5 7 5 0 fsX6 hru rfl (by decide) (by decide)).trans mf66_ru_7
        have mf70_ru_8 := (hk70.1 ru 5 8 5 0 fsX6 hru rfl (by decide) (by decide)).trans mf66_ru_8
        have mf70_ru_9 := (hk70.1 ru 5 9 5 0 fsX6 hru rfl (by decide) (by decide)).trans hf66
        have kp70 := kp66.trans (hk70.mono (ms' := kC) (fun x hx => by cases List.mem_singleton.mp hx; decide))
        have jm70 := (show _ ∧ _ from ⟨(jm66).1.kept r6F hk70 (by decide), (jm66).2.kept r6T hk70 (by decide)⟩)
        have fr70 : ∀ p9 : Nat, p9 ∉ [ru] → H70[p9]? = s.heap[p9]? := fun p9 h9 => (hq70 p9 (fun e9 => h9 (by rw [e9]; exact List.mem_cons_self))).trans (fr66 p9 h9)
        refine lv_aload_n hx hb (eX6_turnTo (115, .aload_n 0, 1) (List.mem_of_getElem? (i := 61) rfl)) rfl (lv_at hl49 2 rfl) ?_
        refine ff_iconst hx hb (eX6_turnTo (116, .iconst 1, 1) (List.mem_of_getElem? (i := 62) rfl)) (by decide) (by decide) (fun v71 e71 => ?_)
        refine tz_put (r := 5) (k := 5) (t := (0, 0, 1)) hx hb hD hh70 hru rfl rfl ((hcl5 31 5 (0, 0, 1) (by decide) rfl).2 (by decide)) (tz_i (by omega) (by omega)) (eX6_turnTo (117, .putfield 31, 3) (List.mem_of_getElem? (i := 63) rfl)) (fun H72 lo72 hh72 hf72 hk72 _ hq72 => ?_)
        have mf72_ru_0 := (hk72.1 ru 5 0 5 0 fsX6 hru rfl (by decide) (by decide)).trans mf70_ru_0
        have mf72_ru_1 := (hk72.1 ru 5 1 5 0 fsX6 hru rfl (by decide) (by decide)).trans mf70_ru_1
        have mf72_ru_2 := (hk72.1 ru 5 2 5 0 fsX6 hru rfl (by decide) (by decide)).trans mf70_ru_2
        have mf72_ru_3 := (hk72.1 ru 5 3 5 0 fsX6 hru rfl (by decide) (by decide)).trans mf70_ru_3
        have mf72_ru_4 := (hk72.1 ru 5 4 5 0 fsX6 hru rfl (by decide) (by decide)).trans mf70_ru_4
        have mf72_ru_6 := (hk72.1 ru 5 6 5 0 fsX6 hru rfl (by decide) (by decide)).trans mf70_ru_6
        have mf72_ru_7 := (hk72.1 ru 5 7 5 0 fsX6 hru rfl (by decide) (by decide)).trans mf70_ru_7
        have mf72_ru_8 := (hk72.1 ru 5 8 5 0 fsX6 hru rfl (by decide) (by decide)).trans mf70_ru_8
        have mf72_ru_9 := (hk72.1 ru 5 9 5 0 fsX6 hru rfl (by decide) (by decide)).trans mf70_ru_9
        have mf72_ru_10 := (hk72.1 ru 5 10 5 0 fsX6 hru rfl (by decide) (by decide)).trans hf70
        have kp72 := kp70.trans (hk72.mono (ms' := kC) (fun x hx => by cases List.mem_singleton.mp hx; decide))
        have jm72 := (show _ ∧ _ from ⟨(jm70).1.kept r6F hk72 (by decide), (jm70).2.kept r6T hk72 (by decide)⟩)
        have fr72 : ∀ p9 : Nat, p9 ∉ [ru] → H72[p9]? = s.heap[p9]? := fun p9 h9 => (hq72 p9 (fun e9 => h9 (by rw [e9]; exact List.mem_cons_self))).trans (fr70 p9 h9)
        have hys : v46.toInt = ysI a0.toInt := by omega
        have hlp : v48.toInt = lpI a0.toInt := by omega
        have hfm : v65.toInt = fmF rr a0.toInt := by unfold fmF; rw [← hys, ← hlp]; omega
        have htm : v69.toInt = tmF rr a0.toInt := by unfold tmF; rw [← hys, ← hlp]; omega
        exact W.vret hx hb hr (fun t ht hW => ⟨rfl, by rw [ht]; exact hh72.l0, by rw [ht]; exact kp72, by rw [ht]; exact ⟨hru, r6F, r6T, ⟨mf72_ru_3, mf72_ru_4, nn, a1, b1, mf72_ru_0, mf72_ru_1, mf72_ru_2, hnn, ha1, fun _ => ⟨hb2, jm72⟩⟩, ⟨_, _, _, _, _, _, hf72, mf72_ru_6, mf72_ru_7, mf72_ru_8, mf72_ru_9, mf72_ru_10, Or.inr ⟨by omega, hr2, by omega, by omega, hfm, htm⟩⟩, hw⟩, by rw [ht]; exact ⟨_, _, hf72, mf72_ru_6, by omega, rfl⟩, by rw [ht]; exact fr72⟩) hh72.2.2.1 (eX6_turnTo (120, .return_, 1) (List.mem_of_getElem? (i := 64) rfl))
      · skip
        refine ff_sipush hx hb (eX6_turnTo (57, .sipush 366, 3) (List.mem_of_getElem? (i := 31) rfl)) (by decide) (by decide) (fun v73 e73 => ?_)
        refine lv_goto hx hb (eX6_turnTo (60, .goto 6, 3) (List.mem_of_getElem? (i := 32) rfl)) (tgt := 66) rfl ?_
        refine ff_i2l hx hb (eX6_turnTo (66, .i2l, 1) (List.mem_of_getElem? (i := 34) rfl)) (fun v74 e74 => ?_)
        refine ff_ldc2 (n := 1440) hx hb hown h2 (clX6_ok 131 1440 (List.mem_of_getElem? (i := 0) rfl)) (eX6_turnTo (67, .ldc2_w 131, 3) (List.mem_of_getElem? (i := 35) rfl)) (fun v75 e75 => ?_)
        refine ff_lmulR hx hb (eX6_turnTo (70, .lmul, 1) (List.mem_of_getElem? (i := 36) rfl)) (e75) (by omega) (by omega) (fun v76 e76 => ?_)
        refine ff_ladd hx hb (eX6_turnTo (71, .ladd, 1) (List.mem_of_getElem? (i := 37) rfl)) (by omega) (by omega) (fun v77 e77 => ?_)
        refine tz_put (r := 5) (k := 8) (t := (1, (-9223372036854775808), 9223372036854775807)) hx hb hD hh55 hru rfl rfl ((hcl5 42 8 (1, (-9223372036854775808), 9223372036854775807) (by decide) rfl).2 (by decide)) (tz_l (zn_i64 _).1 (zn_i64 _).2) (eX6_turnTo (72, .putfield 42, 3) (List.mem_of_getElem? (i := 38) rfl)) (fun H78 lo78 hh78 hf78 hk78 _ hq78 => ?_)
        have mf78_ru_0 := (hk78.1 ru 5 0 5 0 fsX6 hru rfl (by decide) (by decide)).trans mf55_ru_0
        have mf78_ru_1 := (hk78.1 ru 5 1 5 0 fsX6 hru rfl (by decide) (by decide)).trans mf55_ru_1
        have mf78_ru_2 := (hk78.1 ru 5 2 5 0 fsX6 hru rfl (by decide) (by decide)).trans mf55_ru_2
        have mf78_ru_3 := (hk78.1 ru 5 3 5 0 fsX6 hru rfl (by decide) (by decide)).trans mf55_ru_3
        have mf78_ru_4 := (hk78.1 ru 5 4 5 0 fsX6 hru rfl (by decide) (by decide)).trans mf55_ru_4
        have mf78_ru_5 := (hk78.1 ru 5 5 5 0 fsX6 hru rfl (by decide) (by decide)).trans mf55_ru_5
        have mf78_ru_9 := (hk78.1 ru 5 9 5 0 fsX6 hru rfl (by decide) (by decide)).trans mf55_ru_9
        have mf78_ru_10 := (hk78.1 ru 5 10 5 0 fsX6 hru rfl (by decide) (by decide)).trans mf55_ru_10
        have mf78_ru_6 := (hk78.1 ru 5 6 5 0 fsX6 hru rfl (by decide) (by decide)).trans mf55_ru_6
        have mf78_ru_7 := (hk78.1 ru 5 7 5 0 fsX6 hru rfl (by decide) (by decide)).trans hf55
        have kp78 := kp55.trans (hk78.mono (ms' := kC) (fun x hx => by cases List.mem_singleton.mp hx; decide))
        have jm78 := (show _ ∧ _ from ⟨(jm55).1.kept r6F hk78 (by decide), (jm55).2.kept r6T hk78 (by decide)⟩)
        have fr78 : ∀ p9 : Nat, p9 ∉ [ru] → H78[p9]? = s.heap[p9]? := fun p9 h9 => (hq78 p9 (fun e9 => h9 (by rw [e9]; exact List.mem_cons_self))).trans (fr55 p9 h9)
        refine lv_aload_n hx hb (eX6_turnTo (75, .aload_n 0, 1) (List.mem_of_getElem? (i := 39) rfl)) rfl (lv_at hl49 2 rfl) ?_
        refine lv_aload_n hx hb (eX6_turnTo (76, .aload_n 0, 1) (List.mem_of_getElem? (i := 40) rfl)) rfl (lv_at hl49 2 rfl) ?_
        refine tz_get (r := 5) (k := 3) (t := (16, 0, 0)) hx hb hh78 hru rfl rfl (hcl5 24 3 (16, 0, 0) (by decide) rfl).1 mf78_ru_3 (eX6_turnTo (77, .getfield 24, 3) (List.mem_of_getElem? (i := 41) rfl)) ?_
        refine lv_lload_n hx hb (eX6_turnTo (80, .lload_n 2, 1) (List.mem_of_getElem? (i := 42) rfl)) rfl (lv_at hl49 1 rfl) ?_
        refine lv_iload hx hb (eX6_turnTo (81, .iload 4, 2) (List.mem_of_getElem? (i := 43) rfl)) (lv_at hl49 0 rfl) ?_
        refine tz_rowV (As := [.long v46, .int v48]) (st := [.ref ru]) (b := rF) (C := RX7) (Ts := gT) hx hb hml hown h2 (fun _ h => h) (hX7_minuteOf l D cA ro sz H0 rF v46 v48 rr.2.2.2.1 r6F hw41 (by omega) (by omega) (by omega) (by omega)) ⟨rfl, rfl⟩ ⟨by decide, by decide⟩ ⟨by decide, by decide⟩ (tb_4 135 rfl rfl) (tb_1 4 rfl rfl) (tb_4 132 rfl rfl) (tb_4 133 rfl rfl) (tb_4 134 rfl rfl) (show yX7_minuteOf.cls ≠ "java/lang/invoke/MethodHandle" ∧ yX7_minuteOf.cls ≠ "java/lang/invoke/VarHandle" ∧ (parseMethodDescriptor yX7_minuteOf.desc).map (fun d => d.parameters.length) = some 2 by decide +kernel) zs_blindB (zs_ob hh78 r6F (show RTg[6]? = some (0, 6, 0, fsX7) from rfl) (zCX7 hKn.1)) (fun U hU hW => ⟨rfl, by rw [hU]; exact hh78.l0, ⟨zKb s U hW.alike hKn, hBQ.alike hW.alike⟩, by rw [hU]; exact jm78.1⟩) hh78.2.2.1 hl49.1 (Nat.le_of_ble_eq_true rfl) (eX6_turnTo (83, .invokevirtual 133, 3) (List.mem_of_getElem? (i := 44) rfl)) (fun r79 s79 t79 lo79 g79 f79 l79 => ?_)
        obtain ⟨z79, v79, q79, e79⟩ := f79
        cases q79
        rw [z79, g79]
        have hh79 : zh_ok D cA RTg ro sz H0 H78 lo79 := ⟨hh78.1, hh78.2.1, l79, hh78.2.2.2⟩
        have hmb79 := mmF_bd (ys := v46.toInt) (lp := v48.toInt) hw41 (by omega) (by omega)
        refine W.eq (g2 := F0 m 86 ls49 [.long v79, .ref ru]) rfl ?_
        refine lv_aload_n hx hb (eX6_turnTo (86, .aload_n 0, 1) (List.mem_of_getElem? (i := 45) rfl)) rfl (lv_at hl49 2 rfl) ?_
        refine tz_get (r := 5) (k := 1) (t := (0, (-2147483648), 2147483647)) hx hb hh79 hru rfl rfl (hcl5 15 1 (0, (-2147483648), 2147483647) (by decide) rfl).1 mf78_ru_1 (eX6_turnTo (87, .getfield 15, 3) (List.mem_of_getElem? (i := 46) rfl)) ?_
        refine ff_i2l hx hb (eX6_turnTo (90, .i2l, 1) (List.mem_of_getElem? (i := 47) rfl)) (fun v80 e80 => ?_)
        refine ff_lsub hx hb (eX6_turnTo (91, .lsub, 1) (List.mem_of_getElem? (i := 48) rfl)) (by omega) (by omega) (fun v81 e81 => ?_)
        refine tz_put (r := 5) (k := 9) (t := (1, (-9223372036854775808), 9223372036854775807)) hx hb hD hh79 hru rfl rfl ((hcl5 45 9 (1, (-9223372036854775808), 9223372036854775807) (by decide) rfl).2 (by decide)) (tz_l (zn_i64 _).1 (zn_i64 _).2) (eX6_turnTo (92, .putfield 45, 3) (List.mem_of_getElem? (i := 49) rfl)) (fun H82 lo82 hh82 hf82 hk82 _ hq82 => ?_)
        have mf82_ru_0 := (hk82.1 ru 5 0 5 0 fsX6 hru rfl (by decide) (by decide)).trans mf78_ru_0
        have mf82_ru_1 := (hk82.1 ru 5 1 5 0 fsX6 hru rfl (by decide) (by decide)).trans mf78_ru_1
        have mf82_ru_2 := (hk82.1 ru 5 2 5 0 fsX6 hru rfl (by decide) (by decide)).trans mf78_ru_2
        have mf82_ru_3 := (hk82.1 ru 5 3 5 0 fsX6 hru rfl (by decide) (by decide)).trans mf78_ru_3
        have mf82_ru_4 := (hk82.1 ru 5 4 5 0 fsX6 hru rfl (by decide) (by decide)).trans mf78_ru_4
        have mf82_ru_5 := (hk82.1 ru 5 5 5 0 fsX6 hru rfl (by decide) (by decide)).trans mf78_ru_5
        have mf82_ru_10 := (hk82.1 ru 5 10 5 0 fsX6 hru rfl (by decide) (by decide)).trans mf78_ru_10
        have mf82_ru_6 := (hk82.1 ru 5 6 5 0 fsX6 hru rfl (by decide) (by decide)).trans mf78_ru_6
        have mf82_ru_7 := (hk82.1 ru 5 7 5 0 fsX6 hru rfl (by decide) (by decide)).trans mf78_ru_7
        have mf82_ru_8 := (hk82.1 ru 5 8 5 0 fsX6 hru rfl (by decide) (by decide)).trans hf78
        have kp82 := kp78.trans (hk82.mono (ms' := kC) (fun x hx => by cases List.mem_singleton.mp hx; decide))
        have jm82 := (show _ ∧ _ from ⟨(jm78).1.kept r6F hk82 (by decide), (jm78).2.kept r6T hk82 (by decide)⟩)
        have fr82 : ∀ p9 : Nat, p9 ∉ [ru] → H82[p9]? = s.heap[p9]? := fun p9 h9 => (hq82 p9 (fun e9 => h9 (by rw [e9]; exact List.mem_cons_self))).trans (fr78 p9 h9)
        refine lv_aload_n hx hb (eX6_turnTo (95, .aload_n 0, 1) (List.mem_of_getElem? (i := 50) rfl)) rfl (lv_at hl49 2 rfl) ?_
        refine lv_aload_n hx hb (eX6_turnTo (96, .aload_n 0, 1) (List.mem_of_getElem? (i := 51) rfl)) rfl (lv_at hl49 2 rfl) ?_
        refine tz_get (r := 5) (k := 4) (t := (16, 0, 0)) hx hb hh82 hru rfl rfl (hcl5 28 4 (16, 0, 0) (by decide) rfl).1 mf82_ru_4 (eX6_turnTo (97, .getfield 28, 3) (List.mem_of_getElem? (i := 52) rfl)) ?_
        refine lv_lload_n hx hb (eX6_turnTo (100, .lload_n 2, 1) (List.mem_of_getElem? (i := 53) rfl)) rfl (lv_at hl49 1 rfl) ?_
        refine lv_iload hx hb (eX6_turnTo (101, .iload 4, 2) (List.mem_of_getElem? (i := 54) rfl)) (lv_at hl49 0 rfl) ?_
        refine tz_rowV (As := [.long v46, .int v48]) (st := [.ref ru]) (b := rT) (C := RX7) (Ts := gT) hx hb hml hown h2 (fun _ h => h) (hX7_minuteOf l D cA ro sz H0 rT v46 v48 rr.2.2.2.2 r6T hw42 (by omega) (by omega) (by omega) (by omega)) ⟨rfl, rfl⟩ ⟨by decide, by decide⟩ ⟨by decide, by decide⟩ (tb_4 135 rfl rfl) (tb_1 4 rfl rfl) (tb_4 132 rfl rfl) (tb_4 133 rfl rfl) (tb_4 134 rfl rfl) (show yX7_minuteOf.cls ≠ "java/lang/invoke/MethodHandle" ∧ yX7_minuteOf.cls ≠ "java/lang/invoke/VarHandle" ∧ (parseMethodDescriptor yX7_minuteOf.desc).map (fun d => d.parameters.length) = some 2 by decide +kernel) zs_blindB (zs_ob hh82 r6T (show RTg[6]? = some (0, 6, 0, fsX7) from rfl) (zCX7 hKn.1)) (fun U hU hW => ⟨rfl, by rw [hU]; exact hh82.l0, ⟨zKb s U hW.alike hKn, hBQ.alike hW.alike⟩, by rw [hU]; exact jm82.2⟩) hh82.2.2.1 hl49.1 (Nat.le_of_ble_eq_true rfl) (eX6_turnTo (103, .invokevirtual 133, 3) (List.mem_of_getElem? (i := 55) rfl)) (fun r83 s83 t83 lo83 g83 f83 l83 => ?_)
        obtain ⟨z83, v83, q83, e83⟩ := f83
        cases q83
        rw [z83, g83]
        have hh83 : zh_ok D cA RTg ro sz H0 H82 lo83 := ⟨hh82.1, hh82.2.1, l83, hh82.2.2.2⟩
        have hmb83 := mmF_bd (ys := v46.toInt) (lp := v48.toInt) hw42 (by omega) (by omega)
        refine W.eq (g2 := F0 m 106 ls49 [.long v83, .ref ru]) rfl ?_
        refine lv_aload_n hx hb (eX6_turnTo (106, .aload_n 0, 1) (List.mem_of_getElem? (i := 56) rfl)) rfl (lv_at hl49 2 rfl) ?_
        refine tz_get (r := 5) (k := 2) (t := (0, (-2147483648), 2147483647)) hx hb hh83 hru rfl rfl (hcl5 18 2 (0, (-2147483648), 2147483647) (by decide) rfl).1 mf82_ru_2 (eX6_turnTo (107, .getfield 18, 3) (List.mem_of_getElem? (i := 57) rfl)) ?_
        refine ff_i2l hx hb (eX6_turnTo (110, .i2l, 1) (List.mem_of_getElem? (i := 58) rfl)) (fun v84 e84 => ?_)
        refine ff_lsub hx hb (eX6_turnTo (111, .lsub, 1) (List.mem_of_getElem? (i := 59) rfl)) (by omega) (by omega) (fun v85 e85 => ?_)
        refine tz_put (r := 5) (k := 10) (t := (1, (-9223372036854775808), 9223372036854775807)) hx hb hD hh83 hru rfl rfl ((hcl5 48 10 (1, (-9223372036854775808), 9223372036854775807) (by decide) rfl).2 (by decide)) (tz_l (zn_i64 _).1 (zn_i64 _).2) (eX6_turnTo (112, .putfield 48, 3) (List.mem_of_getElem? (i := 60) rfl)) (fun H86 lo86 hh86 hf86 hk86 _ hq86 => ?_)
        have mf86_ru_0 := (hk86.1 ru 5 0 5 0 fsX6 hru rfl (by decide) (by decide)).trans mf82_ru_0
        have mf86_ru_1 := (hk86.1 ru 5 1 5 0 fsX6 hru rfl (by decide) (by decide)).trans mf82_ru_1
        have mf86_ru_2 := (hk86.1 ru 5 2 5 0 fsX6 hru rfl (by decide) (by decide)).trans mf82_ru_2
        have mf86_ru_3 := (hk86.1 ru 5 3 5 0 fsX6 hru rfl (by decide) (by decide)).trans mf82_ru_3
        have mf86_ru_4 := (hk86.1 ru 5 4 5 0 fsX6 hru rfl (by decide) (by decide)).trans mf82_ru_4
        have mf86_ru_5 := (hk86.1 ru 5 5 5 0 fsX6 hru rfl (by decide) (by decide)).trans mf82_ru_5
        have mf86_ru_6 := (hk86.1 ru 5 6 5 0 fsX6 hru rfl (by decide) (by decide)).trans mf82_ru_6
        have mf86_ru_7 := (hk86.1 ru 5 7 5 0 fsX6 hru rfl (by decide) (by decide)).trans mf82_ru_7
        have mf86_ru_8 := (hk86.1 ru 5 8 5 0 fsX6 hru rfl (by decide) (by decide)).trans mf82_ru_8
        have mf86_ru_9 := (hk86.1 ru 5 9 5 0 fsX6 hru rfl (by decide) (by decide)).trans hf82
        have kp86 := kp82.trans (hk86.mono (ms' := kC) (fun x hx => by cases List.mem_singleton.mp hx; decide))
        have jm86 := (show _ ∧ _ from ⟨(jm82).1.kept r6F hk86 (by decide), (jm82).2.kept r6T hk86 (by decide)⟩)
        have fr86 : ∀ p9 : Nat, p9 ∉ [ru] → H86[p9]? = s.heap[p9]? := fun p9 h9 => (hq86 p9 (fun e9 => h9 (by rw [e9]; exact List.mem_cons_self))).trans (fr82 p9 h9)
        refine lv_aload_n hx hb (eX6_turnTo (115, .aload_n 0, 1) (List.mem_of_getElem? (i := 61) rfl)) rfl (lv_at hl49 2 rfl) ?_
        refine ff_iconst hx hb (eX6_turnTo (116, .iconst 1, 1) (List.mem_of_getElem? (i := 62) rfl)) (by decide) (by decide) (fun v87 e87 => ?_)
        refine tz_put (r := 5) (k := 5) (t := (0, 0, 1)) hx hb hD hh86 hru rfl rfl ((hcl5 31 5 (0, 0, 1) (by decide) rfl).2 (by decide)) (tz_i (by omega) (by omega)) (eX6_turnTo (117, .putfield 31, 3) (List.mem_of_getElem? (i := 63) rfl)) (fun H88 lo88 hh88 hf88 hk88 _ hq88 => ?_)
        have mf88_ru_0 := (hk88.1 ru 5 0 5 0 fsX6 hru rfl (by decide) (by decide)).trans mf86_ru_0
        have mf88_ru_1 := (hk88.1 ru 5 1 5 0 fsX6 hru rfl (by decide) (by decide)).trans mf86_ru_1
        have mf88_ru_2 := (hk88.1 ru 5 2 5 0 fsX6 hru rfl (by decide) (by decide)).trans mf86_ru_2
        have mf88_ru_3 := (hk88.1 ru 5 3 5 0 fsX6 hru rfl (by decide) (by decide)).trans mf86_ru_3
        have mf88_ru_4 := (hk88.1 ru 5 4 5 0 fsX6 hru rfl (by decide) (by decide)).trans mf86_ru_4
        have mf88_ru_6 := (hk88.1 ru 5 6 5 0 fsX6 hru rfl (by decide) (by decide)).trans mf86_ru_6
        have mf88_ru_7 := (hk88.1 ru 5 7 5 0 fsX6 hru rfl (by decide) (by decide)).trans mf86_ru_7
        have mf88_ru_8 := (hk88.1 ru 5 8 5 0 fsX6 hru rfl (by decide) (by decide)).trans mf86_ru_8
        have mf88_ru_9 := (hk88.1 ru 5 9 5 0 fsX6 hru rfl (by decide) (by decide)).trans mf86_ru_9
        have mf88_ru_10 := (hk88.1 ru 5 10 5 0 fsX6 hru rfl (by decide) (by decide)).trans hf86
        have kp88 := kp86.trans (hk88.mono (ms' := kC) (fun x hx => by cases List.mem_singleton.mp hx; decide))
        have jm88 := (show _ ∧ _ from ⟨(jm86).1.kept r6F hk88 (by decide), (jm86).2.kept r6T hk88 (by decide)⟩)
        have fr88 : ∀ p9 : Nat, p9 ∉ [ru] → H88[p9]? = s.heap[p9]? := fun p9 h9 => (hq88 p9 (fun e9 => h9 (by rw [e9]; exact List.mem_cons_self))).trans (fr86 p9 h9)
        have hys : v46.toInt = ysI a0.toInt := by omega
        have hlp : v48.toInt = lpI a0.toInt := by omega
        have hfm : v81.toInt = fmF rr a0.toInt := by unfold fmF; rw [← hys, ← hlp]; omega
        have htm : v85.toInt = tmF rr a0.toInt := by unfold tmF; rw [← hys, ← hlp]; omega
        exact W.vret hx hb hr (fun t ht hW => ⟨rfl, by rw [ht]; exact hh88.l0, by rw [ht]; exact kp88, by rw [ht]; exact ⟨hru, r6F, r6T, ⟨mf88_ru_3, mf88_ru_4, nn, a1, b1, mf88_ru_0, mf88_ru_1, mf88_ru_2, hnn, ha1, fun _ => ⟨hb2, jm88⟩⟩, ⟨_, _, _, _, _, _, hf88, mf88_ru_6, mf88_ru_7, mf88_ru_8, mf88_ru_9, mf88_ru_10, Or.inr ⟨by omega, hr2, by omega, by omega, hfm, htm⟩⟩, hw⟩, by rw [ht]; exact ⟨_, _, hf88, mf88_ru_6, by omega, rfl⟩, by rw [ht]; exact fr88⟩) hh88.2.2.1 (eX6_turnTo (120, .return_, 1) (List.mem_of_getElem? (i := 64) rfl))
    · skip
      exact W.vret hx hb hr (fun t ht hW => ⟨rfl, by rw [ht]; exact hh.l0, by rw [ht]; exact kp0, by rw [ht]; exact hJ, by rw [ht]; exact ⟨tn, yv, f5, f6, by omega, by omega⟩, by rw [ht]; exact fr0⟩) hh.2.2.1 (eX6_turnTo (15, .return_, 1) (List.mem_of_getElem? (i := 7) rfl))
set_option maxRecDepth 100000 in
set_option maxHeartbeats 4000000 in
theorem hX6_offsetAt (l : Launch) (D : va_G) (cA : Nat → ClassId) (ro : Nat → Option Nat) (sz : Nat) (H0 : Heap) (ru : Nat) (m0 : Int64) (rF rT : Nat) (rr : rU) (hru : ro ru = some 5) (hr1 : 1 ≤ rr.1) (hm1 : -533500000000 ≤ m0.toInt) (hm2 : m0.toInt ≤ 533500000000) : Met l yX6_offsetAt (gW yX6_offsetAt cX6_offsetAt 3 (some .int)) { frames := 2, cells := 0, slots := 0, locals := 51 } (zs_PB D cA ro sz H0 (fun H => jRo D ro H ru rF rT rr) [.ref ru, .long m0]) (kq_Q D cA ro sz H0 ru rF rT rr (roF rr m0.toInt)) 0 0 (zy_fr sz) := by
  refine zy_ofW (cc := cX6_offsetAt) (maxL := 3) (ret := (some .int)) (by decide +kernel) rfl ?_
  intro p e s m args below meth c s1 B hml hv
  obtain ⟨rfl, hh, ⟨hKn, hBQ⟩, hJ⟩ := hv
  have hx := B.exec
  have hb := B.bytes
  have hr := B.returns
  have hlk := B.notSynchronized
  have hts0 := atoms_spec (ws := gW yX6_offsetAt cX6_offsetAt 3 (some .int)) B.pre
  have h2 : ∀ w ∈ gT, w.before ([.ref ru, .long m0] : List Value).toArray s = true := fun w hw => hts0 w (List.mem_cons_of_mem _ hw)
  have hown : s.vm.findClass RX6 = some m.cls := findClass_of_methodNamed B.named
  have hl := lv_entry [.ref ru, .long m0] (n := 3) (Nat.le_of_ble_eq_true rfl)
  rw [lg_entry_eq]
  generalize (lg_sl [.ref ru, .long m0] ++ List.replicate (3 - (lg_sl [.ref ru, .long m0]).length) Slot.unset).toArray = ls at hl ⊢
  have b_m0 := zn_i64 m0
  have hD := zD_all h2 hKn.1
  have hcl5 := fun (idx k : Nat) (t : zt_T) (h : (idx, 5, k) ∈ gfX6) (hk : fsX6[k]? = some t) => zf_clause (ro := ro) (ms := kC) h2 hown hKn.1 gfX6_ok (by decide +kernel) idx 5 k 5 0 fsX6 t h rfl hk
  have kp0 : zc_kept D RTg ro kC s.heap s.heap := zc_kept.refl
  obtain ⟨-, r6F, r6T, ⟨hF3, hF4, nn, a1, b1, f0, f1, f2, hnn, ha1, hb1⟩, ⟨tn, yv, ca, cb, cv, cd, f5, f6, f7, f8, f9, f10, hcc⟩, hw⟩ := id hJ
  have ha2 := ha1 (by omega)
  have hwA : -1439 ≤ rr.2.1 ∧ rr.2.1 ≤ 1439 := hw.2.2.1 (by omega)
  have hwC := hw.2.1
  have fr0 : ∀ p9 : Nat, p9 ∉ [ru] → s.heap[p9]? = s.heap[p9]? := fun _ _ => rfl
  refine lv_aload_n hx hb (eX6_offsetAt (0, .aload_n 0, 1) (List.mem_of_getElem? (i := 0) rfl)) rfl (lv_at hl 0 rfl) ?_
  refine tz_get (r := 5) (k := 0) (t := (0, (-2147483648), 2147483647)) hx hb hh hru rfl rfl (hcl5 9 0 (0, (-2147483648), 2147483647) (by decide) rfl).1 f0 (eX6_offsetAt (1, .getfield 9, 3) (List.mem_of_getElem? (i := 1) rfl)) ?_
  refine ff_iconst hx hb (eX6_offsetAt (4, .iconst 2, 1) (List.mem_of_getElem? (i := 2) rfl)) (by decide) (by decide) (fun v1 e1 => ?_)
  refine ff_icmp_ge hx hb (eX6_offsetAt (5, .if_icmp .ge 8, 3) (List.mem_of_getElem? (i := 3) rfl)) (tgt := 13) rfl (fun c2 => ?_) (fun c2 => ?_)
  · skip
    have hr2 : rr.1 = 2 := by omega
    refine lv_aload_n hx hb (eX6_offsetAt (13, .aload_n 0, 1) (List.mem_of_getElem? (i := 7) rfl)) rfl (lv_at hl 0 rfl) ?_
    refine lv_lload_n hx hb (eX6_offsetAt (14, .lload_n 1, 1) (List.mem_of_getElem? (i := 8) rfl)) rfl (lv_at hl 1 rfl) ?_
    refine lv_aload_n hx hb (eX6_offsetAt (15, .aload_n 0, 1) (List.mem_of_getElem? (i := 9) rfl)) rfl (lv_at hl 0 rfl) ?_
    refine tz_get (r := 5) (k := 1) (t := (0, (-2147483648), 2147483647)) hx hb hh hru rfl rfl (hcl5 15 1 (0, (-2147483648), 2147483647) (by decide) rfl).1 f1 (eX6_offsetAt (16, .getfield 15, 3) (List.mem_of_getElem? (i := 10) rfl)) ?_
    refine ff_i2l hx hb (eX6_offsetAt (19, .i2l, 1) (List.mem_of_getElem? (i := 11) rfl)) (fun v3 e3 => ?_)
    refine ff_ladd hx hb (eX6_offsetAt (20, .ladd, 1) (List.mem_of_getElem? (i := 12) rfl)) (by omega) (by omega) (fun v4 e4 => ?_)
    refine ff_ldc2 (n := 1440) hx hb hown h2 (clX6_ok 131 1440 (List.mem_of_getElem? (i := 0) rfl)) (eX6_offsetAt (21, .ldc2_w 131, 3) (List.mem_of_getElem? (i := 13) rfl)) (fun v5 e5 => ?_)
    refine zu_S (vs := [.long v4, .long v5]) (rest := [.ref ru]) hx hb hml hown hts0 zu_BT (hJ9_fd1440 l v4 v5 (by omega) (by omega) (by omega)) ⟨rfl, rfl⟩ ⟨by decide, by decide⟩ ⟨by decide, by decide⟩ (tb_3 39 rfl rfl) (tb_1 18 rfl rfl) (tb_4 124 rfl rfl) (tb_3 38 rfl rfl) (show yJ9_floorDiv_f86c9.cls ≠ "java/lang/invoke/MethodHandle" ∧ yJ9_floorDiv_f86c9.cls ≠ "java/lang/invoke/VarHandle" ∧ (parseMethodDescriptor yJ9_floorDiv_f86c9.desc).map (fun d => d.parameters.length) = some 2 by decide +kernel) rfl (fun _ _ _ => trivial) hl.1 (Nat.le_of_ble_eq_true rfl) (eX6_offsetAt (24, .invokestatic 137, 3) (List.mem_of_getElem? (i := 14) rfl)) (fun w6 f6 => ?_)
    obtain ⟨v6, rfl, e6⟩ := f6
    refine zu_S (vs := [.long v6]) (rest := [.ref ru]) hx hb hml hown hts0 zu_BT (hX2_yearOf l v6 (by omega) (by omega)) ⟨rfl, rfl⟩ ⟨by decide, by decide⟩ ⟨by decide, by decide⟩ (tb_2 218 rfl rfl) (tb_1 13 rfl rfl) (tb_4 125 rfl rfl) (tb_2 217 rfl rfl) (show yX2_yearOf.cls ≠ "java/lang/invoke/MethodHandle" ∧ yX2_yearOf.cls ≠ "java/lang/invoke/VarHandle" ∧ (parseMethodDescriptor yX2_yearOf.desc).map (fun d => d.parameters.length) = some 1 by decide +kernel) rfl (fun _ _ _ => trivial) hl.1 (Nat.le_of_ble_eq_true rfl) (eX6_offsetAt (27, .invokestatic 143, 3) (List.mem_of_getElem? (i := 15) rfl)) (fun w7 f7 => ?_)
    obtain ⟨v7, rfl, e7⟩ := f7
    have g7 := (show yrI ((m0.toInt + rr.2.1) / 1440) = v7.toInt from yrI_eq (by rw [show (m0.toInt + rr.2.1) / 1440 = v6.toInt by omega]; exact e7.1))
    refine tz_rowV (As := [.int v7]) (st := []) (b := ru) (C := RX6) (Ts := gT) hx hb hml hown h2 (fun _ h => h) (hX6_turnTo l D cA ro sz H0 ru v7 rF rT rr hru hr2 (by omega) (by omega)) ⟨rfl, rfl⟩ ⟨by decide, by decide⟩ ⟨by decide, by decide⟩ (tb_4 129 rfl rfl) (tb_1 3 rfl rfl) (tb_4 126 rfl rfl) (tb_4 127 rfl rfl) (tb_4 128 rfl rfl) (show yX6_turnTo.cls ≠ "java/lang/invoke/MethodHandle" ∧ yX6_turnTo.cls ≠ "java/lang/invoke/VarHandle" ∧ (parseMethodDescriptor yX6_turnTo.desc).map (fun d => d.parameters.length) = some 1 by decide +kernel) zs_blindB (zs_ob hh hru (show RTg[5]? = some (0, 5, 0, fsX6) from rfl) (zCX6 hKn.1)) (fun U hU hW => ⟨rfl, by rw [hU]; exact hh.l0, ⟨zKb s U hW.alike hKn, hBQ.alike hW.alike⟩, by rw [hU]; exact hJ⟩) hh.2.2.1 hl.1 (Nat.le_of_ble_eq_true rfl) (eX6_offsetAt (30, .invokevirtual 147, 3) (List.mem_of_getElem? (i := 16) rfl)) (fun r8 s8 t8 lo8 g8 f8 l8 => ?_)
    obtain ⟨q8, z8, c8, j8, ja8, fx8⟩ := f8
    cases q8
    rw [g8] at c8 fx8
    have fr8 : ∀ p9 : Nat, p9 ∉ [ru] → t8.heap[p9]? = s.heap[p9]? := fun p9 h9 => (fx8 p9 (fun q => h9 (by rw [List.mem_singleton.mp q]; exact List.mem_cons_self))).trans (fr0 p9 h9)
    have hh8 : zh_ok D cA RTg ro sz H0 t8.heap lo8 := ⟨z8.1, z8.2.1, l8, z8.2.2.2⟩
    have kp8 := kp0.trans (c8.mono (ms' := kC) (by decide))
    have mf8_ru_0 := (c8.1 ru 5 0 5 0 fsX6 hru rfl (by decide) (by decide)).trans f0
    have mf8_ru_1 := (c8.1 ru 5 1 5 0 fsX6 hru rfl (by decide) (by decide)).trans f1
    have mf8_ru_2 := (c8.1 ru 5 2 5 0 fsX6 hru rfl (by decide) (by decide)).trans f2
    have mf8_ru_3 := (c8.1 ru 5 3 5 0 fsX6 hru rfl (by decide) (by decide)).trans hF3
    have mf8_ru_4 := (c8.1 ru 5 4 5 0 fsX6 hru rfl (by decide) (by decide)).trans hF4
    refine W.eq (g2 := F0 m 33 ls []) rfl ?_
    refine lv_aload_n hx hb (eX6_offsetAt (33, .aload_n 0, 1) (List.mem_of_getElem? (i := 17) rfl)) rfl (lv_at hl 0 rfl) ?_
    refine lv_lload_n hx hb (eX6_offsetAt (34, .lload_n 1, 1) (List.mem_of_getElem? (i := 18) rfl)) rfl (lv_at hl 1 rfl) ?_
    refine tz_rowV (As := [.long m0]) (st := []) (b := ru) (C := RX6) (Ts := gT) hx hb hml hown h2 (fun _ h => h) (hX6_offsetInYear l D cA ro sz H0 ru m0 rF rT rr v7.toInt hru) ⟨rfl, rfl⟩ ⟨by decide, by decide⟩ ⟨by decide, by decide⟩ (tb_4 144 rfl rfl) (tb_1 3 rfl rfl) (tb_4 141 rfl rfl) (tb_4 142 rfl rfl) (tb_4 143 rfl rfl) (show yX6_offsetInYear.cls ≠ "java/lang/invoke/MethodHandle" ∧ yX6_offsetInYear.cls ≠ "java/lang/invoke/VarHandle" ∧ (parseMethodDescriptor yX6_offsetInYear.desc).map (fun d => d.parameters.length) = some 1 by decide +kernel) zs_blind (zs_ob hh8 hru (show RTg[5]? = some (0, 5, 0, fsX6) from rfl) (zCX6 hKn.1)) (fun U hU hW => ⟨rfl, by rw [hU]; exact hh8.l0, zKb s U hW.alike hKn, by rw [hU]; exact ⟨j8, ja8⟩⟩) hh8.2.2.1 hl.1 (Nat.le_of_ble_eq_true rfl) (eX6_offsetAt (35, .invokevirtual 150, 3) (List.mem_of_getElem? (i := 19) rfl)) (fun r9 s9 t9 lo9 g9 f9 l9 => ?_)
    obtain ⟨z9, v9, q9, e9⟩ := f9
    cases q9
    rw [z9, g9]
    have hh9 : zh_ok D cA RTg ro sz H0 t8.heap lo9 := ⟨hh8.1, hh8.2.1, l9, hh8.2.2.2⟩
    refine W.eq (g2 := F0 m 38 ls [.int v9]) rfl ?_
    exact W.zret hx hb hr rfl (fun t ht hW => ⟨_, rfl, by unfold roF; rw [if_neg (by omega), g7]; omega, by rw [ht]; exact hh9.l0, by rw [ht]; exact kp8, by rw [ht]; exact j8, by rw [ht]; exact fr8⟩) hh9.2.2.1 (eX6_offsetAt (38, .ireturn, 1) (List.mem_of_getElem? (i := 20) rfl))
  · skip
    refine lv_aload_n hx hb (eX6_offsetAt (8, .aload_n 0, 1) (List.mem_of_getElem? (i := 4) rfl)) rfl (lv_at hl 0 rfl) ?_
    refine tz_get (r := 5) (k := 1) (t := (0, (-2147483648), 2147483647)) hx hb hh hru rfl rfl (hcl5 15 1 (0, (-2147483648), 2147483647) (by decide) rfl).1 f1 (eX6_offsetAt (9, .getfield 15, 3) (List.mem_of_getElem? (i := 5) rfl)) ?_
    exact W.zret hx hb hr rfl (fun t ht hW => ⟨_, rfl, by unfold roF; rw [if_pos (by omega)]; omega, by rw [ht]; exact hh.l0, by rw [ht]; exact kp0, by rw [ht]; exact hJ, by rw [ht]; exact fr0⟩) hh.2.2.1 (eX6_offsetAt (12, .ireturn, 1) (List.mem_of_getElem? (i := 6) rfl))
set_option maxRecDepth 100000 in
set_option maxHeartbeats 4000000 in
theorem hX10_isByRule (l : Launch) (D : va_G) (cA : Nat → ClassId) (ro : Nat → Option Nat) (sz : Nat) (H0 : Heap) (zq : Nat) (t0 : Int64) (zA zB : Nat) (ze : zE) (lp : Nat) (L : List Int) (ru rF rT : Nat) (rr : rU) (hq9 : ro zq = some 9)  : Met l yX10_isByRule (gW yX10_isByRule cX10_isByRule 3 (some .boolean)) { frames := 0, cells := 0, slots := 0, locals := 0 } (zs_P D cA ro sz H0 (fun H => jZR D cA ro H zq zA zB ze lp L ru rF rT rr) [.ref zq, .long t0]) (fun _ st oc t => t.heap = st.heap ∧ ∃ r : Int32, oc = .returned (some (.int r)) ∧ ((r.toInt = 1 ∧ 0 < rr.1 ∧ byR ze.2 t0.toInt) ∨ (r.toInt = 0 ∧ ¬ (0 < rr.1 ∧ byR ze.2 t0.toInt)))) 0 0 (zy_fr sz) := by
  refine zy_ofW (cc := cX10_isByRule) (maxL := 3) (ret := (some .boolean)) (by decide +kernel) rfl ?_
  intro p e s m args below meth c s1 B hml hv
  obtain ⟨rfl, hh, hKn, hJ⟩ := hv
  have hx := B.exec
  have hb := B.bytes
  have hr := B.returns
  have hlk := B.notSynchronized
  have hts0 := atoms_spec (ws := gW yX10_isByRule cX10_isByRule 3 (some .boolean)) B.pre
  have h2 : ∀ w ∈ gT, w.before ([.ref zq, .long t0] : List Value).toArray s = true := fun w hw => hts0 w (List.mem_cons_of_mem _ hw)
  have hown : s.vm.findClass RX10 = some m.cls := findClass_of_methodNamed B.named
  have hl := lv_entry [.ref zq, .long t0] (n := 3) (Nat.le_of_ble_eq_true rfl)
  rw [lg_entry_eq]
  generalize (lg_sl [.ref zq, .long t0] ++ List.replicate (3 - (lg_sl [.ref zq, .long t0]).length) Slot.unset).toArray = ls at hl ⊢
  have b_t0 := zn_i64 t0
  have hD := zD_all h2 hKn.1
  have hcl9 := fun (idx k : Nat) (t : zt_T) (h : (idx, 9, k) ∈ gfX10) (hk : fsX10[k]? = some t) => zf_clause (ro := ro) (ms := []) h2 hown hKn.1 gfX10_ok (by decide +kernel) idx 9 k 9 0 fsX10 t h rfl hk
  have hcl5 := fun (idx k : Nat) (t : zt_T) (h : (idx, 5, k) ∈ gfX10) (hk : fsX6[k]? = some t) => zf_clause (ro := ro) (ms := []) h2 hown hKn.1 gfX10_ok (by decide +kernel) idx 5 k 5 0 fsX6 t h rfl hk
  have kp0 : zc_kept D RTg ro [] s.heap s.heap := zc_kept.refl
  obtain ⟨hzo, fzl, rl4, hlp, fzu, hro⟩ := id hJ
  obtain ⟨-, rA, rB, f2, f3, ⟨k0, f0, hk0⟩, n, y, w, f4, hn, cA1, cB1, hc⟩ := id hzo
  obtain ⟨n9, g9, n1, n2⟩ := zh_fT (k := 4) (t := (0, 0, 60)) hh hq9 (show RTg[9]? = some (0, 9, 0, fsX10) from rfl) rfl
  cases f4.symm.trans g9
  dsimp only at n1 n2
  clear g9
  obtain ⟨hru, r6F, r6T, ⟨hF3, hF4, nn, a1, b1, u0, u1, u2, hnn, ha1, hb1⟩, hcc, hw⟩ := id hro
  have hwN := hw.1
  have hwC := hw.2.1
  have fr0 : ∀ p9 : Nat, p9 ∉ [ru] → s.heap[p9]? = s.heap[p9]? := fun _ _ => rfl
  obtain ⟨-, xA, dA, hA⟩ := zh_arr hh rA (show RTg[14]? = some (1, 1, 60, [(1, (-9223372036854775808), 9223372036854775807)]) from rfl)
  have hyA : ∀ i, i < 60 → zt_ok ro (y i) (1, (-9223372036854775808), 9223372036854775807) := zs_arr (cA1.symm.trans dA) hA
  obtain ⟨-, xB, dB, hB⟩ := zh_arr hh rB (show RTg[15]? = some (1, 0, 60, [(0, (-2147483648), 2147483647)]) from rfl)
  have hyB : ∀ i, i < 60 → zt_ok ro (w i) (0, (-2147483648), 2147483647) := zs_arr (cB1.symm.trans dB) hB
  refine lv_aload_n hx hb (eX10_isByRule (0, .aload_n 0, 1) (List.mem_of_getElem? (i := 0) rfl)) rfl (lv_at hl 0 rfl) ?_
  refine tz_get (r := 9) (k := 5) (t := (14, 0, 0)) hx hb hh hq9 rfl rfl (hcl9 26 5 (14, 0, 0) (by decide) rfl).1 fzu (eX10_isByRule (1, .getfield 26, 3) (List.mem_of_getElem? (i := 1) rfl)) ?_
  refine tz_get (r := 5) (k := 0) (t := (0, (-2147483648), 2147483647)) hx hb hh hru rfl rfl (hcl5 37 0 (0, (-2147483648), 2147483647) (by decide) rfl).1 u0 (eX10_isByRule (4, .getfield 37, 3) (List.mem_of_getElem? (i := 2) rfl)) ?_
  refine ff_if_le hx hb (eX10_isByRule (7, .ifCond .le 40, 3) (List.mem_of_getElem? (i := 3) rfl)) (tgt := 47) rfl (fun c1 => ?_) (fun c1 => ?_)
  · skip
    refine ff_iconst hx hb (eX10_isByRule (47, .iconst 0, 1) (List.mem_of_getElem? (i := 24) rfl)) (by decide) (by decide) (fun v2 e2 => ?_)
    exact W.zret hx hb hr (zn_bool (by omega) (by omega)) (fun t ht hW => ⟨ht, _, rfl, Or.inr ⟨by omega, fun g => by have g1 := g.1; omega⟩⟩) hh.2.2.1 (eX10_isByRule (48, .ireturn, 1) (List.mem_of_getElem? (i := 25) rfl))
  · skip
    refine lv_aload_n hx hb (eX10_isByRule (10, .aload_n 0, 1) (List.mem_of_getElem? (i := 4) rfl)) rfl (lv_at hl 0 rfl) ?_
    refine tz_get (r := 9) (k := 4) (t := (0, 0, 60)) hx hb hh hq9 rfl rfl (hcl9 19 4 (0, 0, 60) (by decide) rfl).1 f4 (eX10_isByRule (11, .getfield 19, 3) (List.mem_of_getElem? (i := 5) rfl)) ?_
    refine ff_iconst hx hb (eX10_isByRule (14, .iconst 1, 1) (List.mem_of_getElem? (i := 6) rfl)) (by decide) (by decide) (fun v3 e3 => ?_)
    refine ff_icmp_lt hx hb (eX10_isByRule (15, .if_icmp .lt 28, 3) (List.mem_of_getElem? (i := 7) rfl)) (tgt := 43) rfl (fun c4 => ?_) (fun c4 => ?_)
    · skip
      refine ff_iconst hx hb (eX10_isByRule (43, .iconst 1, 1) (List.mem_of_getElem? (i := 22) rfl)) (by decide) (by decide) (fun v5 e5 => ?_)
      refine lv_goto hx hb (eX10_isByRule (44, .goto 4, 3) (List.mem_of_getElem? (i := 23) rfl)) (tgt := 48) rfl ?_
      exact W.zret hx hb hr (zn_bool (by omega) (by omega)) (fun t ht hW => ⟨ht, _, rfl, Or.inl ⟨by omega, by omega, byR_none (by omega)⟩⟩) hh.2.2.1 (eX10_isByRule (48, .ireturn, 1) (List.mem_of_getElem? (i := 25) rfl))
    · skip
      refine lv_aload_n hx hb (eX10_isByRule (18, .aload_n 0, 1) (List.mem_of_getElem? (i := 8) rfl)) rfl (lv_at hl 0 rfl) ?_
      refine tz_get (r := 9) (k := 4) (t := (0, 0, 60)) hx hb hh hq9 rfl rfl (hcl9 19 4 (0, 0, 60) (by decide) rfl).1 f4 (eX10_isByRule (19, .getfield 19, 3) (List.mem_of_getElem? (i := 9) rfl)) ?_
      refine ff_bipush hx hb (eX10_isByRule (22, .bipush 60, 2) (List.mem_of_getElem? (i := 10) rfl)) (by decide) (by decide) (fun v6 e6 => ?_)
      refine ff_icmp_gt hx hb (eX10_isByRule (24, .if_icmp .gt 19, 3) (List.mem_of_getElem? (i := 11) rfl)) (tgt := 43) rfl (fun c7 => (by exfalso; omega)) (fun c7 => ?_)
      refine lv_lload_n hx hb (eX10_isByRule (27, .lload_n 1, 1) (List.mem_of_getElem? (i := 12) rfl)) rfl (lv_at hl 1 rfl) ?_
      refine lv_aload_n hx hb (eX10_isByRule (28, .aload_n 0, 1) (List.mem_of_getElem? (i := 13) rfl)) rfl (lv_at hl 0 rfl) ?_
      refine tz_get (r := 9) (k := 2) (t := (32, 0, 0)) hx hb hh hq9 rfl rfl (hcl9 9 2 (32, 0, 0) (by decide) rfl).1 f2 (eX10_isByRule (29, .getfield 9, 3) (List.mem_of_getElem? (i := 14) rfl)) ?_
      refine lv_aload_n hx hb (eX10_isByRule (32, .aload_n 0, 1) (List.mem_of_getElem? (i := 15) rfl)) rfl (lv_at hl 0 rfl) ?_
      refine tz_get (r := 9) (k := 4) (t := (0, 0, 60)) hx hb hh hq9 rfl rfl (hcl9 19 4 (0, 0, 60) (by decide) rfl).1 f4 (eX10_isByRule (33, .getfield 19, 3) (List.mem_of_getElem? (i := 16) rfl)) ?_
      refine ff_iconst hx hb (eX10_isByRule (36, .iconst 1, 1) (List.mem_of_getElem? (i := 17) rfl)) (by decide) (by decide) (fun v8 e8 => ?_)
      refine ff_isub hx hb (eX10_isByRule (37, .isub, 1) (List.mem_of_getElem? (i := 18) rfl)) (by omega) (by omega) (fun v9 e9 => ?_)
      refine tz_lald hx hb (zAr hKn.1 1 (by decide)) cA1 (by omega) (by omega) (eX10_isByRule (38, .laload, 1) (List.mem_of_getElem? (i := 19) rfl)) ?_
      obtain ⟨tv, ov, hy1, -, hC1⟩ := hc (ze.2.length - 1) (by omega)
      rw [show v9.toNatClampNeg = ze.2.length - 1 by show v9.toInt.toNat = _; omega, hy1]
      refine ff_lcmp hx hb (eX10_isByRule (39, .lcmp, 1) (List.mem_of_getElem? (i := 20) rfl)) (fun v11 e11 => ?_)
      refine ff_if_lt hx hb (eX10_isByRule (40, .ifCond .lt 7, 3) (List.mem_of_getElem? (i := 21) rfl)) (tgt := 47) rfl (fun c12 => ?_) (fun c12 => ?_)
      · skip
        refine ff_iconst hx hb (eX10_isByRule (47, .iconst 0, 1) (List.mem_of_getElem? (i := 24) rfl)) (by decide) (by decide) (fun v13 e13 => ?_)
        exact W.zret hx hb hr (zn_bool (by omega) (by omega)) (fun t ht hW => ⟨ht, _, rfl, Or.inr ⟨by omega, fun g => by have g1 : tv.toInt ≤ t0.toInt := (byR_some hC1).mp g.2; omega⟩⟩) hh.2.2.1 (eX10_isByRule (48, .ireturn, 1) (List.mem_of_getElem? (i := 25) rfl))
      · skip
        refine ff_iconst hx hb (eX10_isByRule (43, .iconst 1, 1) (List.mem_of_getElem? (i := 22) rfl)) (by decide) (by decide) (fun v14 e14 => ?_)
        refine lv_goto hx hb (eX10_isByRule (44, .goto 4, 3) (List.mem_of_getElem? (i := 23) rfl)) (tgt := 48) rfl ?_
        exact W.zret hx hb hr (zn_bool (by omega) (by omega)) (fun t ht hW => ⟨ht, _, rfl, Or.inl ⟨by omega, by omega, (byR_some hC1).mpr (by show tv.toInt ≤ t0.toInt; omega)⟩⟩) hh.2.2.1 (eX10_isByRule (48, .ireturn, 1) (List.mem_of_getElem? (i := 25) rfl))
set_option maxRecDepth 100000 in
set_option maxHeartbeats 4000000 in
theorem hX10_offsetAt (l : Launch) (D : va_G) (cA : Nat → ClassId) (ro : Nat → Option Nat) (sz : Nat) (H0 : Heap) (zq : Nat) (t0 : Int64) (zA zB : Nat) (ze : zE) (lp : Nat) (L : List Int) (ru rF rT : Nat) (rr : rU) (hq9 : ro zq = some 9) (hjL : L.length ≤ 40) (ht1 : -32000000000000 ≤ t0.toInt) (ht2 : t0.toInt ≤ 32000000000000) : Met l yX10_offsetAt (gW yX10_offsetAt cX10_offsetAt 5 (some .int)) { frames := 3, cells := 0, slots := 0, locals := 73 } (zs_PB D cA ro sz H0 (fun H => jZR D cA ro H zq zA zB ze lp L ru rF rT rr) [.ref zq, .long t0]) (kz_Q D cA ro sz H0 zq zA zB ze lp L ru rF rT rr (ofF L ze rr t0.toInt)) 0 0 (zy_fr sz) := by
  refine zy_ofW (cc := cX10_offsetAt) (maxL := 5) (ret := (some .int)) (by decide +kernel) rfl ?_
  intro p e s m args below meth c s1 B hml hv
  obtain ⟨rfl, hh, ⟨hKn, hBQ⟩, hJ⟩ := hv
  have hx := B.exec
  have hb := B.bytes
  have hr := B.returns
  have hlk := B.notSynchronized
  have hts0 := atoms_spec (ws := gW yX10_offsetAt cX10_offsetAt 5 (some .int)) B.pre
  have h2 : ∀ w ∈ gT, w.before ([.ref zq, .long t0] : List Value).toArray s = true := fun w hw => hts0 w (List.mem_cons_of_mem _ hw)
  have hown : s.vm.findClass RX10 = some m.cls := findClass_of_methodNamed B.named
  have hl := lv_entry [.ref zq, .long t0] (n := 5) (Nat.le_of_ble_eq_true rfl)
  rw [lg_entry_eq]
  generalize (lg_sl [.ref zq, .long t0] ++ List.replicate (5 - (lg_sl [.ref zq, .long t0]).length) Slot.unset).toArray = ls at hl ⊢
  have b_t0 := zn_i64 t0
  have hD := zD_all h2 hKn.1
  have hcl9 := fun (idx k : Nat) (t : zt_T) (h : (idx, 9, k) ∈ gfX10) (hk : fsX10[k]? = some t) => zf_clause (ro := ro) (ms := kC) h2 hown hKn.1 gfX10_ok (by decide +kernel) idx 9 k 9 0 fsX10 t h rfl hk
  have hcl5 := fun (idx k : Nat) (t : zt_T) (h : (idx, 5, k) ∈ gfX10) (hk : fsX6[k]? = some t) => zf_clause (ro := ro) (ms := kC) h2 hown hKn.1 gfX10_ok (by decide +kernel) idx 5 k 5 0 fsX6 t h rfl hk
  have kp0 : zc_kept D RTg ro kC s.heap s.heap := zc_kept.refl
  obtain ⟨hzo, fzl, rl4, hlp, fzu, hro⟩ := id hJ
  obtain ⟨-, rA, rB, f2, f3, ⟨k0, f0, hk0⟩, n, y, w, f4, hn, cA1, cB1, hc⟩ := id hzo
  obtain ⟨n9, g9, n1, n2⟩ := zh_fT (k := 4) (t := (0, 0, 60)) hh hq9 (show RTg[9]? = some (0, 9, 0, fsX10) from rfl) rfl
  cases f4.symm.trans g9
  dsimp only at n1 n2
  clear g9
  obtain ⟨hru, r6F, r6T, ⟨hF3, hF4, nn, a1, b1, u0, u1, u2, hnn, ha1, hb1⟩, hcc, hw⟩ := id hro
  have hwN := hw.1
  have hwC := hw.2.1
  have fr0 : ∀ p9 : Nat, p9 ∉ [ru] → s.heap[p9]? = s.heap[p9]? := fun _ _ => rfl
  obtain ⟨-, xA, dA, hA⟩ := zh_arr hh rA (show RTg[14]? = some (1, 1, 60, [(1, (-9223372036854775808), 9223372036854775807)]) from rfl)
  have hyA : ∀ i, i < 60 → zt_ok ro (y i) (1, (-9223372036854775808), 9223372036854775807) := zs_arr (cA1.symm.trans dA) hA
  obtain ⟨-, xB, dB, hB⟩ := zh_arr hh rB (show RTg[15]? = some (1, 0, 60, [(0, (-2147483648), 2147483647)]) from rfl)
  have hyB : ∀ i, i < 60 → zt_ok ro (w i) (0, (-2147483648), 2147483647) := zs_arr (cB1.symm.trans dB) hB
  refine lv_aload_n hx hb (eX10_offsetAt (0, .aload_n 0, 1) (List.mem_of_getElem? (i := 0) rfl)) rfl (lv_at hl 0 rfl) ?_
  refine lv_lload_n hx hb (eX10_offsetAt (1, .lload_n 1, 1) (List.mem_of_getElem? (i := 1) rfl)) rfl (lv_at hl 1 rfl) ?_
  refine tz_rowV (As := [.long t0]) (st := []) (b := zq) (C := RX10) (Ts := gT) hx hb hml hown h2 (fun _ h => h) (hX10_isByRule l D cA ro sz H0 zq t0 zA zB ze lp L ru rF rT rr hq9) ⟨rfl, rfl⟩ ⟨by decide, by decide⟩ ⟨by decide, by decide⟩ (tb_4 117 rfl rfl) (tb_1 20 rfl rfl) (tb_4 114 rfl rfl) (tb_4 115 rfl rfl) (tb_4 116 rfl rfl) (show yX10_isByRule.cls ≠ "java/lang/invoke/MethodHandle" ∧ yX10_isByRule.cls ≠ "java/lang/invoke/VarHandle" ∧ (parseMethodDescriptor yX10_isByRule.desc).map (fun d => d.parameters.length) = some 1 by decide +kernel) zs_blind (zs_ob hh hq9 (show RTg[9]? = some (0, 9, 0, fsX10) from rfl) (zCX10 hKn.1)) (fun U hU hW => ⟨rfl, by rw [hU]; exact hh.l0, zKb s U hW.alike hKn, by rw [hU]; exact hJ⟩) hh.2.2.1 hl.1 (Nat.le_of_ble_eq_true rfl) (eX10_offsetAt (2, .invokevirtual 40, 3) (List.mem_of_getElem? (i := 2) rfl)) (fun r1 s1 t1 lo1 g1 f1 l1 => ?_)
  obtain ⟨z1, v1, q1, e1⟩ := f1
  cases q1
  rw [z1, g1]
  have hh1 : zh_ok D cA RTg ro sz H0 s.heap lo1 := ⟨hh.1, hh.2.1, l1, hh.2.2.2⟩
  refine W.eq (g2 := F0 m 5 ls [.int v1]) rfl ?_
  refine ff_if_eq hx hb (eX10_offsetAt (5, .ifCond .eq 19, 3) (List.mem_of_getElem? (i := 3) rfl)) (tgt := 24) rfl (fun c2 => ?_) (fun c2 => ?_)
  · skip
    have hby : ¬ (0 < rr.1 ∧ byR ze.2 t0.toInt) := by rcases e1 with h | h; exfalso; omega; exact h.2
    refine lv_aload_n hx hb (eX10_offsetAt (24, .aload_n 0, 1) (List.mem_of_getElem? (i := 12) rfl)) rfl (lv_at hl 0 rfl) ?_
    refine tz_get (r := 9) (k := 0) (t := (0, (-2147483648), 2147483647)) hx hb hh1 hq9 rfl rfl (hcl9 30 0 (0, (-2147483648), 2147483647) (by decide) rfl).1 f0 (eX10_offsetAt (25, .getfield 30, 3) (List.mem_of_getElem? (i := 13) rfl)) ?_
    refine lv_istore_n hx hb (eX10_offsetAt (28, .istore_n 3, 1) (List.mem_of_getElem? (i := 14) rfl)) rfl hl (by decide) rfl (fun ls3 hl3 => ?_)
    refine ff_iconst hx hb (eX10_offsetAt (29, .iconst 0, 1) (List.mem_of_getElem? (i := 15) rfl)) (by decide) (by decide) (fun v4 e4 => ?_)
    refine lv_istore hx hb (eX10_offsetAt (30, .istore 4, 2) (List.mem_of_getElem? (i := 16) rfl)) hl3 (by decide) rfl (fun ls5 hl5 => ?_)
    have loop : ∀ (n0 i : Nat) (iv ov : Int32) (ls : Array Slot) (lo0 : List Loc), zh_ok D cA RTg ro sz H0 s.heap lo0 → i + n0 = ze.2.length → iv.toInt = (i : Int) → tbF ov.toInt (ze.2.drop i) t0.toInt = tbF ze.1 ze.2 t0.toInt → lv_has ls 5 [(4, .int iv), (3, .int ov), (0, .ref zq), (1, .long t0)] → W p l e (headSpec (gW yX10_offsetAt cX10_offsetAt 5 (some .int)) { frames := 3, cells := 0, slots := 0, locals := 73 }).room s m ([.ref zq, .long t0] : List Value).toArray below meth c s.heap lo0 0 0 (MQ below (kz_Q D cA ro sz H0 zq zA zB ze lp L ru rF rT rr (ofF L ze rr t0.toInt)) ([.ref zq, .long t0] : List Value).toArray s 0 0 (zy_fr sz)) (F0 m 32 ls []) := by
      intro n0
      induction n0 with
      | zero =>
        intro i iv ov ls lo0 hh0 hi hiv hov hl
        rw [List.drop_eq_nil_of_le (show ze.2.length ≤ i by omega)] at hov
        have hov : ov.toInt = tbF ze.1 ze.2 t0.toInt := hov
        refine lv_iload hx hb (eX10_offsetAt (32, .iload 4, 2) (List.mem_of_getElem? (i := 17) rfl)) (lv_at hl 0 rfl) ?_
        refine lv_aload_n hx hb (eX10_offsetAt (34, .aload_n 0, 1) (List.mem_of_getElem? (i := 18) rfl)) rfl (lv_at hl 2 rfl) ?_
        refine tz_get (r := 9) (k := 4) (t := (0, 0, 60)) hx hb hh0 hq9 rfl rfl (hcl9 19 4 (0, 0, 60) (by decide) rfl).1 f4 (eX10_offsetAt (35, .getfield 19, 3) (List.mem_of_getElem? (i := 19) rfl)) ?_
        refine ff_icmp_ge hx hb (eX10_offsetAt (38, .if_icmp .ge 29, 3) (List.mem_of_getElem? (i := 20) rfl)) (tgt := 67) rfl (fun c6 => ?_) (fun c6 => (by exfalso; omega))
        refine lv_iload_n hx hb (eX10_offsetAt (67, .iload_n 3, 1) (List.mem_of_getElem? (i := 35) rfl)) rfl (lv_at hl 1 rfl) ?_
        exact W.zret hx hb hr rfl (fun t ht hW => ⟨_, rfl, by unfold ofF; rw [if_neg hby]; exact hov, by rw [ht]; exact hh0.l0, by rw [ht]; exact kp0, by rw [ht]; exact hJ, by rw [ht]; exact fr0⟩) hh0.2.2.1 (eX10_offsetAt (68, .ireturn, 1) (List.mem_of_getElem? (i := 36) rfl))
      | succ n0 ih =>
        intro i iv ov ls lo0 hh0 hi hiv hov hl
        obtain ⟨tv, wv, hy1, hw1, hC1⟩ := hc i (by omega)
        rw [List.drop_eq_getElem_cons (show i < ze.2.length by omega), (List.getElem?_eq_some_iff.mp hC1).2] at hov
        have hov : (if tv.toInt ≤ t0.toInt then tbF wv.toInt (ze.2.drop (i + 1)) t0.toInt else ov.toInt) = tbF ze.1 ze.2 t0.toInt := hov
        refine lv_iload hx hb (eX10_offsetAt (32, .iload 4, 2) (List.mem_of_getElem? (i := 17) rfl)) (lv_at hl 0 rfl) ?_
        refine lv_aload_n hx hb (eX10_offsetAt (34, .aload_n 0, 1) (List.mem_of_getElem? (i := 18) rfl)) rfl (lv_at hl 2 rfl) ?_
        refine tz_get (r := 9) (k := 4) (t := (0, 0, 60)) hx hb hh0 hq9 rfl rfl (hcl9 19 4 (0, 0, 60) (by decide) rfl).1 f4 (eX10_offsetAt (35, .getfield 19, 3) (List.mem_of_getElem? (i := 19) rfl)) ?_
        refine ff_icmp_ge hx hb (eX10_offsetAt (38, .if_icmp .ge 29, 3) (List.mem_of_getElem? (i := 20) rfl)) (tgt := 67) rfl (fun c7 => (by exfalso; omega)) (fun c7 => ?_)
        refine lv_aload_n hx hb (eX10_offsetAt (41, .aload_n 0, 1) (List.mem_of_getElem? (i := 21) rfl)) rfl (lv_at hl 2 rfl) ?_
        refine tz_get (r := 9) (k := 2) (t := (32, 0, 0)) hx hb hh0 hq9 rfl rfl (hcl9 9 2 (32, 0, 0) (by decide) rfl).1 f2 (eX10_offsetAt (42, .getfield 9, 3) (List.mem_of_getElem? (i := 22) rfl)) ?_
        refine lv_iload hx hb (eX10_offsetAt (45, .iload 4, 2) (List.mem_of_getElem? (i := 23) rfl)) (lv_at hl 0 rfl) ?_
        refine tz_lald hx hb (zAr hKn.1 1 (by decide)) cA1 (by omega) (by omega) (eX10_offsetAt (47, .laload, 1) (List.mem_of_getElem? (i := 24) rfl)) ?_
        rw [show iv.toNatClampNeg = i by show iv.toInt.toNat = i; omega, hy1]
        refine lv_lload_n hx hb (eX10_offsetAt (48, .lload_n 1, 1) (List.mem_of_getElem? (i := 25) rfl)) rfl (lv_at hl 3 rfl) ?_
        refine ff_lcmp hx hb (eX10_offsetAt (49, .lcmp, 1) (List.mem_of_getElem? (i := 26) rfl)) (fun v9 e9 => ?_)
        refine ff_if_gt hx hb (eX10_offsetAt (50, .ifCond .gt 17, 3) (List.mem_of_getElem? (i := 27) rfl)) (tgt := 67) rfl (fun c10 => ?_) (fun c10 => ?_)
        · skip
          refine lv_iload_n hx hb (eX10_offsetAt (67, .iload_n 3, 1) (List.mem_of_getElem? (i := 35) rfl)) rfl (lv_at hl 1 rfl) ?_
          exact W.zret hx hb hr rfl (fun t ht hW => ⟨_, rfl, by unfold ofF; rw [if_neg hby]; rw [if_neg (by omega)] at hov; exact hov, by rw [ht]; exact hh0.l0, by rw [ht]; exact kp0, by rw [ht]; exact hJ, by rw [ht]; exact fr0⟩) hh0.2.2.1 (eX10_offsetAt (68, .ireturn, 1) (List.mem_of_getElem? (i := 36) rfl))
        · skip
          refine lv_aload_n hx hb (eX10_offsetAt (53, .aload_n 0, 1) (List.mem_of_getElem? (i := 28) rfl)) rfl (lv_at hl 2 rfl) ?_
          refine tz_get (r := 9) (k := 3) (t := (34, 0, 0)) hx hb hh0 hq9 rfl rfl (hcl9 15 3 (34, 0, 0) (by decide) rfl).1 f3 (eX10_offsetAt (54, .getfield 15, 3) (List.mem_of_getElem? (i := 29) rfl)) ?_
          refine lv_iload hx hb (eX10_offsetAt (57, .iload 4, 2) (List.mem_of_getElem? (i := 30) rfl)) (lv_at hl 0 rfl) ?_
          refine tz_iald hx hb (zAr hKn.1 0 (by decide)) cB1 (by omega) (by omega) (eX10_offsetAt (59, .iaload, 1) (List.mem_of_getElem? (i := 31) rfl)) ?_
          rw [show iv.toNatClampNeg = i by show iv.toInt.toNat = i; omega, hw1]
          refine lv_istore_n hx hb (eX10_offsetAt (60, .istore_n 3, 1) (List.mem_of_getElem? (i := 32) rfl)) rfl hl (by decide) rfl (fun ls11 hl11 => ?_)
          refine ff_iinc (k := 1) hx hb (eX10_offsetAt (61, .iinc 4 1, 3) (List.mem_of_getElem? (i := 33) rfl)) hl11 rfl (by decide) (by decide) (by decide) (by omega) (by omega) (fun v12 e12 ls12 hl12 => ?_)
          refine lv_goto hx hb (eX10_offsetAt (64, .goto (-32), 3) (List.mem_of_getElem? (i := 34) rfl)) (tgt := 32) rfl ?_
          exact ih (i + 1) v12 wv ls12 _ hh0 (by omega) (by omega) (by rw [if_pos (by omega)] at hov; exact hov) (lv_sub hl12 [0, 1, 2, 3] rfl)
    exact loop ze.2.length 0 v4 k0 ls5 _ hh1 (by omega) (by omega) (by rw [List.drop_zero, show k0.toInt = ze.1 by omega]) (lv_sub hl5 [0, 1, 2, 3] rfl)
  · skip
    have hby : 0 < rr.1 ∧ byR ze.2 t0.toInt := by rcases e1 with h | h; exact h.2; exfalso; omega
    have hr1 := hby.1
    refine lv_aload_n hx hb (eX10_offsetAt (8, .aload_n 0, 1) (List.mem_of_getElem? (i := 4) rfl)) rfl (lv_at hl 0 rfl) ?_
    refine tz_get (r := 9) (k := 5) (t := (14, 0, 0)) hx hb hh1 hq9 rfl rfl (hcl9 26 5 (14, 0, 0) (by decide) rfl).1 fzu (eX10_offsetAt (9, .getfield 26, 3) (List.mem_of_getElem? (i := 5) rfl)) ?_
    refine lv_aload_n hx hb (eX10_offsetAt (12, .aload_n 0, 1) (List.mem_of_getElem? (i := 6) rfl)) rfl (lv_at hl 0 rfl) ?_
    refine tz_get (r := 9) (k := 1) (t := (12, 0, 0)) hx hb hh1 hq9 rfl rfl (hcl9 33 1 (12, 0, 0) (by decide) rfl).1 fzl (eX10_offsetAt (13, .getfield 33, 3) (List.mem_of_getElem? (i := 7) rfl)) ?_
    refine lv_lload_n hx hb (eX10_offsetAt (16, .lload_n 1, 1) (List.mem_of_getElem? (i := 8) rfl)) rfl (lv_at hl 1 rfl) ?_
    refine tz_rowV (As := [.long t0]) (st := [.ref ru]) (b := lp) (C := RX5) (Ts := gT) hx hb hml hown h2 (fun _ h => h) (hX5_minuteAt l D cA ro sz H0 lp t0 L rl4 (by omega) (by omega)) ⟨rfl, rfl⟩ ⟨by decide, by decide⟩ ⟨by decide, by decide⟩ (tb_3 151 rfl rfl) (tb_1 2 rfl rfl) (tb_4 118 rfl rfl) (tb_3 149 rfl rfl) (tb_3 150 rfl rfl) (show yX5_minuteAt.cls ≠ "java/lang/invoke/MethodHandle" ∧ yX5_minuteAt.cls ≠ "java/lang/invoke/VarHandle" ∧ (parseMethodDescriptor yX5_minuteAt.desc).map (fun d => d.parameters.length) = some 1 by decide +kernel) zs_blind (zs_ob hh1 rl4 (show RTg[4]? = some (0, 4, 0, fsX5) from rfl) (zCX5 hKn.1)) (fun U hU hW => ⟨rfl, by rw [hU]; exact hh1.l0, zKb s U hW.alike hKn, by rw [hU]; exact hlp⟩) hh1.2.2.1 hl.1 (Nat.le_of_ble_eq_true rfl) (eX10_offsetAt (17, .invokevirtual 44, 3) (List.mem_of_getElem? (i := 9) rfl)) (fun r13 s13 t13 lo13 g13 f13 l13 => ?_)
    obtain ⟨z13, v13, q13, e13⟩ := f13
    cases q13
    rw [z13, g13]
    have hh13 : zh_ok D cA RTg ro sz H0 s.heap lo13 := ⟨hh1.1, hh1.2.1, l13, hh1.2.2.2⟩
    have hmm := mtI_eq hjL e13
    have hmb := mtI_bd hjL ht1 ht2
    refine W.eq (g2 := F0 m 20 ls [.long v13, .ref ru]) rfl ?_
    refine tz_rowV (As := [.long v13]) (st := []) (b := ru) (C := RX6) (Ts := gT) hx hb hml hown h2 (fun _ h => h) (hX6_offsetAt l D cA ro sz H0 ru v13 rF rT rr hru (by omega) (by omega) (by omega)) ⟨rfl, rfl⟩ ⟨by decide, by decide⟩ ⟨by decide, by decide⟩ (tb_4 122 rfl rfl) (tb_1 3 rfl rfl) (tb_4 119 rfl rfl) (tb_4 120 rfl rfl) (tb_4 121 rfl rfl) (show yX6_offsetAt.cls ≠ "java/lang/invoke/MethodHandle" ∧ yX6_offsetAt.cls ≠ "java/lang/invoke/VarHandle" ∧ (parseMethodDescriptor yX6_offsetAt.desc).map (fun d => d.parameters.length) = some 1 by decide +kernel) zs_blindB (zs_ob hh13 hru (show RTg[5]? = some (0, 5, 0, fsX6) from rfl) (zCX6 hKn.1)) (fun U hU hW => ⟨rfl, by rw [hU]; exact hh13.l0, ⟨zKb s U hW.alike hKn, hBQ.alike hW.alike⟩, by rw [hU]; exact hro⟩) hh13.2.2.1 hl.1 (Nat.le_of_ble_eq_true rfl) (eX10_offsetAt (20, .invokevirtual 50, 3) (List.mem_of_getElem? (i := 10) rfl)) (fun r14 s14 t14 lo14 g14 f14 l14 => ?_)
    obtain ⟨v14, q14, e14, z14, c14, j14, fx14⟩ := f14
    cases q14
    rw [g14] at c14 fx14
    have fr14 : ∀ p9 : Nat, p9 ∉ [ru] → t14.heap[p9]? = s.heap[p9]? := fun p9 h9 => (fx14 p9 (fun q => h9 (by rw [List.mem_singleton.mp q]; exact List.mem_cons_self))).trans (fr0 p9 h9)
    have hh14 : zh_ok D cA RTg ro sz H0 t14.heap lo14 := ⟨z14.1, z14.2.1, l14, z14.2.2.2⟩
    have kp14 := kp0.trans (c14.mono (ms' := kC) (by decide))
    have jz14 := jZR.upd c14 (by decide) j14 hJ
    have mf14_zq_0 := (c14.1 zq 9 0 9 0 fsX10 hq9 rfl (by decide) (by decide)).trans f0
    have mf14_zq_1 := (c14.1 zq 9 1 9 0 fsX10 hq9 rfl (by decide) (by decide)).trans fzl
    have mf14_zq_2 := (c14.1 zq 9 2 9 0 fsX10 hq9 rfl (by decide) (by decide)).trans f2
    have mf14_zq_3 := (c14.1 zq 9 3 9 0 fsX10 hq9 rfl (by decide) (by decide)).trans f3
    have mf14_zq_4 := (c14.1 zq 9 4 9 0 fsX10 hq9 rfl (by decide) (by decide)).trans f4
    have mf14_zq_5 := (c14.1 zq 9 5 9 0 fsX10 hq9 rfl (by decide) (by decide)).trans fzu
    have mf14_ru_0 := (c14.1 ru 5 0 5 0 fsX6 hru rfl (by decide) (by decide)).trans u0
    have mf14_ru_1 := (c14.1 ru 5 1 5 0 fsX6 hru rfl (by decide) (by decide)).trans u1
    have mf14_ru_2 := (c14.1 ru 5 2 5 0 fsX6 hru rfl (by decide) (by decide)).trans u2
    refine W.eq (g2 := F0 m 23 ls [.int v14]) rfl ?_
    exact W.zret hx hb hr rfl (fun t ht hW => ⟨_, rfl, by unfold ofF; rw [if_pos hby, ← hmm]; omega, by rw [ht]; exact hh14.l0, by rw [ht]; exact kp14, by rw [ht]; exact jz14, by rw [ht]; exact fr14⟩) hh14.2.2.1 (eX10_offsetAt (23, .ireturn, 1) (List.mem_of_getElem? (i := 11) rfl))
