theorem rmG_bd {y : Int} {d : rD} (h : dW d) (h1 : -1300000 ≤ y) (h2 : y ≤ 1300000) : ysI y - 10 ≤ rmG y d ∧ rmG y d ≤ ysI y + 500 := by
  have hp := plF_bd (ys := ysI y) (lp := lpI y) h
  rw [← pl_rm h.1]
  omega
def rvG (y : Int) (d : rD) : Int := 1440 * rmG y d + d.2.2.2.2
theorem rv_mm {y : Int} {d : rD} (h : dW d) : rvG y d = mmF (ysI y) (lpI y) d := by
  unfold rvG mmF
  rw [← pl_rm h.1]
set_option maxRecDepth 100000 in
set_option maxHeartbeats 4000000 in
theorem hX12_ruleMinute (l : Launch) (D : va_G) (cA : Nat → ClassId) (ro : Nat → Option Nat) (sz : Nat) (H0 : Heap) (a : Nat) (zi : Int32) (wh : Int32) (y0 : Int64) (i0 w0 : Nat) (dd : rD) (zB : Nat → Value) (bB : Nat) (ha : ro a = some 11) (hi0 : zi.toInt = (i0 : Int)) (hi8 : i0 < 8) (hw0 : wh.toInt = (w0 : Int)) (hw1 : w0 ≤ 1) (hdn : dN zB (10 * i0 + 5 * w0) dd) (hdw : dW dd) (hy1 : -1300000 ≤ y0.toInt) (hy2 : y0.toInt ≤ 1300000) : Met l yX12_ruleMinute (gW yX12_ruleMinute cX12_ruleMinute 12 (some .long)) { frames := 2, cells := 0, slots := 0, locals := 56 } (zs_P D cA ro sz H0 (fun H => zh_f D H a 11 11 = .ref bB ∧ ro bB = some 29 ∧ H[bB]? = some (arrV (cA 0) 80 zB)) [.ref a, .int zi, .int wh, .long y0]) (fun _ st oc t => t.heap = st.heap ∧ ∃ r : Int64, oc = .returned (some (.long r)) ∧ r.toInt = rvG y0.toInt dd) 0 0 (zy_fr sz) := by
  refine zy_ofW (cc := cX12_ruleMinute) (maxL := 12) (ret := (some .long)) (by decide +kernel) rfl ?_
  intro p e s m args below meth c s1 B hml hv
  obtain ⟨rfl, hh, hKn, hJ⟩ := hv
  have hx := B.exec
  have hb := B.bytes
  have hr := B.returns
  have hlk := B.notSynchronized
  have hts0 := atoms_spec (ws := gW yX12_ruleMinute cX12_ruleMinute 12 (some .long)) B.pre
  have h2 : ∀ w ∈ gT, w.before ([.ref a, .int zi, .int wh, .long y0] : List Value).toArray s = true := fun w hw => hts0 w (List.mem_cons_of_mem _ hw)
  have hown : s.vm.findClass RX12 = some m.cls := findClass_of_methodNamed B.named
  have hl := lv_entry [.ref a, .int zi, .int wh, .long y0] (n := 12) (Nat.le_of_ble_eq_true rfl)
  rw [lg_entry_eq]
  generalize (lg_sl [.ref a, .int zi, .int wh, .long y0] ++ List.replicate (12 - (lg_sl [.ref a, .int zi, .int wh, .long y0]).length) Slot.unset).toArray = ls at hl ⊢
  have b_zi := zn_i32 zi
  have b_wh := zn_i32 wh
  have b_y0 := zn_i64 y0
  have hD := zD_all h2 hKn.1
  have hcl11 := fun (idx k : Nat) (t : zt_T) (h : (idx, 11, k) ∈ gfX12) (hk : fsX12[k]? = some t) => zf_clause (ro := ro) (ms := []) h2 hown hKn.1 gfX12_ok (by decide +kernel) idx 11 k 11 0 fsX12 t h rfl hk
  have kp0 : zc_kept D RTg ro [] s.heap s.heap := zc_kept.refl
  obtain ⟨fqB, rqB, cqB⟩ := id hJ
  obtain ⟨kv, nv, wv, dv, mv, g0, g1, g2, g3, g4, hq9⟩ := id hdn
  have hq1 : kv.toInt = dd.1 := by rw [← hq9]
  have hq2 : nv.toInt = dd.2.1 := by rw [← hq9]
  have hq3 : wv.toInt = dd.2.2.1 := by rw [← hq9]
  have hq4 : dv.toInt = dd.2.2.2.1 := by rw [← hq9]
  have hq5 : mv.toInt = dd.2.2.2.2 := by rw [← hq9]
  obtain ⟨hok, hm1, hm2⟩ := id hdw
  unfold rdOK at hok
  have hyb := ysI_bd (y := y0.toInt) (by omega) (by omega)
  refine ff_bipush hx hb (eX12_ruleMinute (0, .bipush 10, 2) (List.mem_of_getElem? (i := 0) rfl)) (by decide) (by decide) (fun v1 e1 => ?_)
  refine lv_iload_n hx hb (eX12_ruleMinute (2, .iload_n 1, 1) (List.mem_of_getElem? (i := 1) rfl)) rfl (lv_at hl 1 rfl) ?_
  refine ff_imulL hx hb (eX12_ruleMinute (3, .imul, 1) (List.mem_of_getElem? (i := 2) rfl)) (e1) (by omega) (by omega) (fun v2 e2 => ?_)
  refine ff_iconst hx hb (eX12_ruleMinute (4, .iconst 5, 1) (List.mem_of_getElem? (i := 3) rfl)) (by decide) (by decide) (fun v3 e3 => ?_)
  refine lv_iload_n hx hb (eX12_ruleMinute (5, .iload_n 2, 1) (List.mem_of_getElem? (i := 4) rfl)) rfl (lv_at hl 2 rfl) ?_
  refine ff_imulL hx hb (eX12_ruleMinute (6, .imul, 1) (List.mem_of_getElem? (i := 5) rfl)) (e3) (by omega) (by omega) (fun v4 e4 => ?_)
  refine ff_iadd hx hb (eX12_ruleMinute (7, .iadd, 1) (List.mem_of_getElem? (i := 6) rfl)) (by omega) (by omega) (fun v5 e5 => ?_)
  refine lv_istore hx hb (eX12_ruleMinute (8, .istore 5, 2) (List.mem_of_getElem? (i := 7) rfl)) hl (by decide) rfl (fun ls6 hl6 => ?_)
  have jn227 : ∀ (vday : Int64) (ls : Array Slot) (lo0 : List Loc), vday.toInt = rmG y0.toInt dd → zh_ok D cA RTg ro sz H0 s.heap lo0 → lv_has ls 12 [(7, .long vday), (5, .int v5), (0, .ref a), (1, .int zi), (2, .int wh), (3, .long y0)] → W p l e (headSpec (gW yX12_ruleMinute cX12_ruleMinute 12 (some .long)) { frames := 2, cells := 0, slots := 0, locals := 56 }).room s m ([.ref a, .int zi, .int wh, .long y0] : List Value).toArray below meth c s.heap lo0 0 0 (MQ below (fun _ st oc t => t.heap = st.heap ∧ ∃ r : Int64, oc = .returned (some (.long r)) ∧ r.toInt = rvG y0.toInt dd) ([.ref a, .int zi, .int wh, .long y0] : List Value).toArray s 0 0 (zy_fr sz)) (F0 m 227 ls []) := by
    intro vday ls lo0 hv7 hh0 hl
    have hrb := rmG_bd (y := y0.toInt) hdw (by omega) (by omega)
    rw [← hv7] at hrb
    clear hok
    refine lv_lload hx hb (eX12_ruleMinute (227, .lload 7, 2) (List.mem_of_getElem? (i := 128) rfl)) (lv_at hl 0 rfl) ?_
    refine ff_ldc2 (n := 1440) hx hb hown h2 (clX12_ok 180 1440 (List.mem_of_getElem? (i := 21) rfl)) (eX12_ruleMinute (229, .ldc2_w 180, 3) (List.mem_of_getElem? (i := 129) rfl)) (fun v7 e7 => ?_)
    refine ff_lmulR hx hb (eX12_ruleMinute (232, .lmul, 1) (List.mem_of_getElem? (i := 130) rfl)) (e7) (by omega) (by omega) (fun v8 e8 => ?_)
    refine lv_aload_n hx hb (eX12_ruleMinute (233, .aload_n 0, 1) (List.mem_of_getElem? (i := 131) rfl)) rfl (lv_at hl 2 rfl) ?_
    refine tz_get (r := 11) (k := 11) (t := (62, 0, 0)) hx hb hh0 ha rfl rfl (hcl11 37 11 (62, 0, 0) (by decide) rfl).1 fqB (eX12_ruleMinute (234, .getfield 37, 3) (List.mem_of_getElem? (i := 132) rfl)) ?_
    refine lv_iload hx hb (eX12_ruleMinute (237, .iload 5, 2) (List.mem_of_getElem? (i := 133) rfl)) (lv_at hl 1 rfl) ?_
    refine ff_iconst hx hb (eX12_ruleMinute (239, .iconst 4, 1) (List.mem_of_getElem? (i := 134) rfl)) (by decide) (by decide) (fun v9 e9 => ?_)
    refine ff_iadd hx hb (eX12_ruleMinute (240, .iadd, 1) (List.mem_of_getElem? (i := 135) rfl)) (by omega) (by omega) (fun v10 e10 => ?_)
    refine tz_iald hx hb (zAr hKn.1 0 (by decide)) cqB (by omega) (by omega) (eX12_ruleMinute (241, .iaload, 1) (List.mem_of_getElem? (i := 136) rfl)) ?_
    rw [show v10.toNatClampNeg = 10 * i0 + 5 * w0 + 4 by show v10.toInt.toNat = _; omega, g4]
    refine ff_i2l hx hb (eX12_ruleMinute (242, .i2l, 1) (List.mem_of_getElem? (i := 137) rfl)) (fun v11 e11 => ?_)
    refine ff_ladd hx hb (eX12_ruleMinute (243, .ladd, 1) (List.mem_of_getElem? (i := 138) rfl)) (by omega) (by omega) (fun v12 e12 => ?_)
    exact W.lret hx hb hr (fun t ht hW => ⟨ht, _, rfl, by unfold rvG; rw [← hv7]; omega⟩) hh0.2.2.1 (eX12_ruleMinute (244, .lreturn, 1) (List.mem_of_getElem? (i := 139) rfl))
  refine lv_aload_n hx hb (eX12_ruleMinute (10, .aload_n 0, 1) (List.mem_of_getElem? (i := 8) rfl)) rfl (lv_at hl6 1 rfl) ?_
  refine tz_get (r := 11) (k := 11) (t := (62, 0, 0)) hx hb hh ha rfl rfl (hcl11 37 11 (62, 0, 0) (by decide) rfl).1 fqB (eX12_ruleMinute (11, .getfield 37, 3) (List.mem_of_getElem? (i := 9) rfl)) ?_
  refine lv_iload hx hb (eX12_ruleMinute (14, .iload 5, 2) (List.mem_of_getElem? (i := 10) rfl)) (lv_at hl6 0 rfl) ?_
  refine ff_iconst hx hb (eX12_ruleMinute (16, .iconst 1, 1) (List.mem_of_getElem? (i := 11) rfl)) (by decide) (by decide) (fun v13 e13 => ?_)
  refine ff_iadd hx hb (eX12_ruleMinute (17, .iadd, 1) (List.mem_of_getElem? (i := 12) rfl)) (by omega) (by omega) (fun v14 e14 => ?_)
  refine tz_iald hx hb (zAr hKn.1 0 (by decide)) cqB (by omega) (by omega) (eX12_ruleMinute (18, .iaload, 1) (List.mem_of_getElem? (i := 13) rfl)) ?_
  rw [show v14.toNatClampNeg = 10 * i0 + 5 * w0 + 1 by show v14.toInt.toNat = _; omega, g1]
  refine lv_istore hx hb (eX12_ruleMinute (19, .istore 6, 2) (List.mem_of_getElem? (i := 14) rfl)) hl6 (by decide) rfl (fun ls15 hl15 => ?_)
  refine lv_aload_n hx hb (eX12_ruleMinute (21, .aload_n 0, 1) (List.mem_of_getElem? (i := 15) rfl)) rfl (lv_at hl15 2 rfl) ?_
  refine tz_get (r := 11) (k := 11) (t := (62, 0, 0)) hx hb hh ha rfl rfl (hcl11 37 11 (62, 0, 0) (by decide) rfl).1 fqB (eX12_ruleMinute (22, .getfield 37, 3) (List.mem_of_getElem? (i := 16) rfl)) ?_
  refine lv_iload hx hb (eX12_ruleMinute (25, .iload 5, 2) (List.mem_of_getElem? (i := 17) rfl)) (lv_at hl15 1 rfl) ?_
  refine tz_iald hx hb (zAr hKn.1 0 (by decide)) cqB (by omega) (by omega) (eX12_ruleMinute (27, .iaload, 1) (List.mem_of_getElem? (i := 18) rfl)) ?_
  rw [show v5.toNatClampNeg = 10 * i0 + 5 * w0 by show v5.toInt.toNat = _; omega, g0]
  refine ff_if_ne hx hb (eX12_ruleMinute (28, .ifCond .ne 109, 3) (List.mem_of_getElem? (i := 19) rfl)) (tgt := 137) rfl (fun c16 => ?_) (fun c16 => ?_)
  · skip
    refine lv_aload_n hx hb (eX12_ruleMinute (137, .aload_n 0, 1) (List.mem_of_getElem? (i := 81) rfl)) rfl (lv_at hl15 2 rfl) ?_
    refine tz_get (r := 11) (k := 11) (t := (62, 0, 0)) hx hb hh ha rfl rfl (hcl11 37 11 (62, 0, 0) (by decide) rfl).1 fqB (eX12_ruleMinute (138, .getfield 37, 3) (List.mem_of_getElem? (i := 82) rfl)) ?_
    refine lv_iload hx hb (eX12_ruleMinute (141, .iload 5, 2) (List.mem_of_getElem? (i := 83) rfl)) (lv_at hl15 1 rfl) ?_
    refine tz_iald hx hb (zAr hKn.1 0 (by decide)) cqB (by omega) (by omega) (eX12_ruleMinute (143, .iaload, 1) (List.mem_of_getElem? (i := 84) rfl)) ?_
    rw [show v5.toNatClampNeg = 10 * i0 + 5 * w0 by show v5.toInt.toNat = _; omega, g0]
    refine ff_iconst hx hb (eX12_ruleMinute (144, .iconst 1, 1) (List.mem_of_getElem? (i := 85) rfl)) (by decide) (by decide) (fun v17 e17 => ?_)
    refine ff_icmp_ne hx hb (eX12_ruleMinute (145, .if_icmp .ne 40, 3) (List.mem_of_getElem? (i := 86) rfl)) (tgt := 185) rfl (fun c18 => ?_) (fun c18 => ?_)
    · skip
      refine lv_lload_n hx hb (eX12_ruleMinute (185, .lload_n 3, 1) (List.mem_of_getElem? (i := 108) rfl)) rfl (lv_at hl15 5 rfl) ?_
      refine zu_S (vs := [.long y0]) (rest := []) hx hb hml hown hts0 zu_BT (hX12_isLeapYear l y0) ⟨rfl, rfl⟩ ⟨by decide, by decide⟩ ⟨by decide, by decide⟩ (tb_7 54 rfl rfl) (tb_1 12 rfl rfl) (tb_7 52 rfl rfl) (tb_7 53 rfl rfl) (show yX12_isLeapYear.cls ≠ "java/lang/invoke/MethodHandle" ∧ yX12_isLeapYear.cls ≠ "java/lang/invoke/VarHandle" ∧ (parseMethodDescriptor yX12_isLeapYear.desc).map (fun d => d.parameters.length) = some 1 by decide +kernel) rfl (fun _ _ _ => trivial) hl15.1 (Nat.le_of_ble_eq_true rfl) (eX12_ruleMinute (186, .invokestatic 95, 3) (List.mem_of_getElem? (i := 109) rfl)) (fun w19 f19 => ?_)
      obtain ⟨v19, rfl, e19⟩ := f19
      have g19 := lpI_bd y0.toInt
      refine ff_if_eq hx hb (eX12_ruleMinute (189, .ifCond .eq 9, 3) (List.mem_of_getElem? (i := 110) rfl)) (tgt := 198) rfl (fun c20 => ?_) (fun c20 => ?_)
      · skip
        refine ff_sipush hx hb (eX12_ruleMinute (198, .sipush 364, 3) (List.mem_of_getElem? (i := 113) rfl)) (by decide) (by decide) (fun v21 e21 => ?_)
        refine lv_istore hx hb (eX12_ruleMinute (201, .istore 9, 2) (List.mem_of_getElem? (i := 114) rfl)) hl15 (by decide) rfl (fun ls22 hl22 => ?_)
        refine lv_lload_n hx hb (eX12_ruleMinute (203, .lload_n 3, 1) (List.mem_of_getElem? (i := 115) rfl)) rfl (lv_at hl22 6 rfl) ?_
        refine ff_iconst hx hb (eX12_ruleMinute (204, .iconst 1, 1) (List.mem_of_getElem? (i := 116) rfl)) (by decide) (by decide) (fun v23 e23 => ?_)
        refine ff_iconst hx hb (eX12_ruleMinute (205, .iconst 1, 1) (List.mem_of_getElem? (i := 117) rfl)) (by decide) (by decide) (fun v24 e24 => ?_)
        refine zu_S (vs := [.long y0, .int v23, .int v24]) (rest := []) hx hb hml hown hts0 zu_BT (hX12_dayOfW l y0 v23 v24 (by omega) (by omega) (by omega) (by omega) (by omega) (by omega)) ⟨rfl, rfl⟩ ⟨by decide, by decide⟩ ⟨by decide, by decide⟩ (tb_6 135 rfl rfl) (tb_1 12 rfl rfl) (tb_6 133 rfl rfl) (tb_6 134 rfl rfl) (show yX12_dayOf.cls ≠ "java/lang/invoke/MethodHandle" ∧ yX12_dayOf.cls ≠ "java/lang/invoke/VarHandle" ∧ (parseMethodDescriptor yX12_dayOf.desc).map (fun d => d.parameters.length) = some 3 by decide +kernel) rfl (fun _ _ _ => trivial) hl22.1 (Nat.le_of_ble_eq_true rfl) (eX12_ruleMinute (206, .invokestatic 70, 3) (List.mem_of_getElem? (i := 118) rfl)) (fun w25 f25 => ?_)
        obtain ⟨v25, rfl, e25⟩ := f25
        have g25 := (show v25.toInt = ysI y0.toInt by rw [e25, show v23.toInt = 1 by omega, show v24.toInt = 1 by omega, nu_cu]; show ysI y0.toInt + cuI y0.toInt 1 + 1 - 1 = _; rw [show cuI y0.toInt 1 = 0 by simp [cuI, bm]]; omega)
        refine lv_iload hx hb (eX12_ruleMinute (209, .iload 6, 2) (List.mem_of_getElem? (i := 119) rfl)) (lv_at hl22 1 rfl) ?_
        refine lv_iload hx hb (eX12_ruleMinute (211, .iload 9, 2) (List.mem_of_getElem? (i := 120) rfl)) (lv_at hl22 0 rfl) ?_
        refine ff_icmp_ge hx hb (eX12_ruleMinute (213, .if_icmp .ge 8, 3) (List.mem_of_getElem? (i := 121) rfl)) (tgt := 221) rfl (fun c26 => ?_) (fun c26 => ?_)
        · skip
          refine lv_iload hx hb (eX12_ruleMinute (221, .iload 9, 2) (List.mem_of_getElem? (i := 124) rfl)) (lv_at hl22 0 rfl) ?_
          refine ff_i2l hx hb (eX12_ruleMinute (223, .i2l, 1) (List.mem_of_getElem? (i := 125) rfl)) (fun v27 e27 => ?_)
          refine ff_ladd hx hb (eX12_ruleMinute (224, .ladd, 1) (List.mem_of_getElem? (i := 126) rfl)) (by omega) (by omega) (fun v28 e28 => ?_)
          refine lv_lstore hx hb (eX12_ruleMinute (225, .lstore 7, 2) (List.mem_of_getElem? (i := 127) rfl)) hl22 (by decide) rfl (fun ls29 hl29 => ?_)
          exact jn227 v28 ls29 _ (by unfold rmG; rw [if_neg (show ¬ dd.1 = 0 by omega)]; first | (rw [if_pos (show dd.1 = 1 by omega)]; split <;> omega) | (rw [if_neg (show ¬ dd.1 = 1 by omega)]; split <;> split <;> omega)) hh (lv_sub hl29 [0, 3, 4, 5, 6, 7] rfl)
        · skip
          refine lv_iload hx hb (eX12_ruleMinute (216, .iload 6, 2) (List.mem_of_getElem? (i := 122) rfl)) (lv_at hl22 1 rfl) ?_
          refine lv_goto hx hb (eX12_ruleMinute (218, .goto 5, 3) (List.mem_of_getElem? (i := 123) rfl)) (tgt := 223) rfl ?_
          refine ff_i2l hx hb (eX12_ruleMinute (223, .i2l, 1) (List.mem_of_getElem? (i := 125) rfl)) (fun v30 e30 => ?_)
          refine ff_ladd hx hb (eX12_ruleMinute (224, .ladd, 1) (List.mem_of_getElem? (i := 126) rfl)) (by omega) (by omega) (fun v31 e31 => ?_)
          refine lv_lstore hx hb (eX12_ruleMinute (225, .lstore 7, 2) (List.mem_of_getElem? (i := 127) rfl)) hl22 (by decide) rfl (fun ls32 hl32 => ?_)
          exact jn227 v31 ls32 _ (by unfold rmG; rw [if_neg (show ¬ dd.1 = 0 by omega)]; first | (rw [if_pos (show dd.1 = 1 by omega)]; split <;> omega) | (rw [if_neg (show ¬ dd.1 = 1 by omega)]; split <;> split <;> omega)) hh (lv_sub hl32 [0, 3, 4, 5, 6, 7] rfl)
      · skip
        refine ff_sipush hx hb (eX12_ruleMinute (192, .sipush 365, 3) (List.mem_of_getElem? (i := 111) rfl)) (by decide) (by decide) (fun v33 e33 => ?_)
        refine lv_goto hx hb (eX12_ruleMinute (195, .goto 6, 3) (List.mem_of_getElem? (i := 112) rfl)) (tgt := 201) rfl ?_
        refine lv_istore hx hb (eX12_ruleMinute (201, .istore 9, 2) (List.mem_of_getElem? (i := 114) rfl)) hl15 (by decide) rfl (fun ls34 hl34 => ?_)
        refine lv_lload_n hx hb (eX12_ruleMinute (203, .lload_n 3, 1) (List.mem_of_getElem? (i := 115) rfl)) rfl (lv_at hl34 6 rfl) ?_
        refine ff_iconst hx hb (eX12_ruleMinute (204, .iconst 1, 1) (List.mem_of_getElem? (i := 116) rfl)) (by decide) (by decide) (fun v35 e35 => ?_)
        refine ff_iconst hx hb (eX12_ruleMinute (205, .iconst 1, 1) (List.mem_of_getElem? (i := 117) rfl)) (by decide) (by decide) (fun v36 e36 => ?_)
        refine zu_S (vs := [.long y0, .int v35, .int v36]) (rest := []) hx hb hml hown hts0 zu_BT (hX12_dayOfW l y0 v35 v36 (by omega) (by omega) (by omega) (by omega) (by omega) (by omega)) ⟨rfl, rfl⟩ ⟨by decide, by decide⟩ ⟨by decide, by decide⟩ (tb_6 135 rfl rfl) (tb_1 12 rfl rfl) (tb_6 133 rfl rfl) (tb_6 134 rfl rfl) (show yX12_dayOf.cls ≠ "java/lang/invoke/MethodHandle" ∧ yX12_dayOf.cls ≠ "java/lang/invoke/VarHandle" ∧ (parseMethodDescriptor yX12_dayOf.desc).map (fun d => d.parameters.length) = some 3 by decide +kernel) rfl (fun _ _ _ => trivial) hl34.1 (Nat.le_of_ble_eq_true rfl) (eX12_ruleMinute (206, .invokestatic 70, 3) (List.mem_of_getElem? (i := 118) rfl)) (fun w37 f37 => ?_)
        obtain ⟨v37, rfl, e37⟩ := f37
        have g37 := (show v37.toInt = ysI y0.toInt by rw [e37, show v35.toInt = 1 by omega, show v36.toInt = 1 by omega, nu_cu]; show ysI y0.toInt + cuI y0.toInt 1 + 1 - 1 = _; rw [show cuI y0.toInt 1 = 0 by simp [cuI, bm]]; omega)
        refine lv_iload hx hb (eX12_ruleMinute (209, .iload 6, 2) (List.mem_of_getElem? (i := 119) rfl)) (lv_at hl34 1 rfl) ?_
        refine lv_iload hx hb (eX12_ruleMinute (211, .iload 9, 2) (List.mem_of_getElem? (i := 120) rfl)) (lv_at hl34 0 rfl) ?_
        refine ff_icmp_ge hx hb (eX12_ruleMinute (213, .if_icmp .ge 8, 3) (List.mem_of_getElem? (i := 121) rfl)) (tgt := 221) rfl (fun c38 => ?_) (fun c38 => ?_)
        · skip
          refine lv_iload hx hb (eX12_ruleMinute (221, .iload 9, 2) (List.mem_of_getElem? (i := 124) rfl)) (lv_at hl34 0 rfl) ?_
          refine ff_i2l hx hb (eX12_ruleMinute (223, .i2l, 1) (List.mem_of_getElem? (i := 125) rfl)) (fun v39 e39 => ?_)
          refine ff_ladd hx hb (eX12_ruleMinute (224, .ladd, 1) (List.mem_of_getElem? (i := 126) rfl)) (by omega) (by omega) (fun v40 e40 => ?_)
          refine lv_lstore hx hb (eX12_ruleMinute (225, .lstore 7, 2) (List.mem_of_getElem? (i := 127) rfl)) hl34 (by decide) rfl (fun ls41 hl41 => ?_)
          exact jn227 v40 ls41 _ (by unfold rmG; rw [if_neg (show ¬ dd.1 = 0 by omega)]; first | (rw [if_pos (show dd.1 = 1 by omega)]; split <;> omega) | (rw [if_neg (show ¬ dd.1 = 1 by omega)]; split <;> split <;> omega)) hh (lv_sub hl41 [0, 3, 4, 5, 6, 7] rfl)
        · skip
          refine lv_iload hx hb (eX12_ruleMinute (216, .iload 6, 2) (List.mem_of_getElem? (i := 122) rfl)) (lv_at hl34 1 rfl) ?_
          refine lv_goto hx hb (eX12_ruleMinute (218, .goto 5, 3) (List.mem_of_getElem? (i := 123) rfl)) (tgt := 223) rfl ?_
          refine ff_i2l hx hb (eX12_ruleMinute (223, .i2l, 1) (List.mem_of_getElem? (i := 125) rfl)) (fun v42 e42 => ?_)
          refine ff_ladd hx hb (eX12_ruleMinute (224, .ladd, 1) (List.mem_of_getElem? (i := 126) rfl)) (by omega) (by omega) (fun v43 e43 => ?_)
          refine lv_lstore hx hb (eX12_ruleMinute (225, .lstore 7, 2) (List.mem_of_getElem? (i := 127) rfl)) hl34 (by decide) rfl (fun ls44 hl44 => ?_)
          exact jn227 v43 ls44 _ (by unfold rmG; rw [if_neg (show ¬ dd.1 = 0 by omega)]; first | (rw [if_pos (show dd.1 = 1 by omega)]; split <;> omega) | (rw [if_neg (show ¬ dd.1 = 1 by omega)]; split <;> split <;> omega)) hh (lv_sub hl44 [0, 3, 4, 5, 6, 7] rfl)
    · skip
      refine lv_lload_n hx hb (eX12_ruleMinute (148, .lload_n 3, 1) (List.mem_of_getElem? (i := 87) rfl)) rfl (lv_at hl15 5 rfl) ?_
      refine ff_iconst hx hb (eX12_ruleMinute (149, .iconst 1, 1) (List.mem_of_getElem? (i := 88) rfl)) (by decide) (by decide) (fun v45 e45 => ?_)
      refine ff_iconst hx hb (eX12_ruleMinute (150, .iconst 1, 1) (List.mem_of_getElem? (i := 89) rfl)) (by decide) (by decide) (fun v46 e46 => ?_)
      refine zu_S (vs := [.long y0, .int v45, .int v46]) (rest := []) hx hb hml hown hts0 zu_BT (hX12_dayOfW l y0 v45 v46 (by omega) (by omega) (by omega) (by omega) (by omega) (by omega)) ⟨rfl, rfl⟩ ⟨by decide, by decide⟩ ⟨by decide, by decide⟩ (tb_6 135 rfl rfl) (tb_1 12 rfl rfl) (tb_6 133 rfl rfl) (tb_6 134 rfl rfl) (show yX12_dayOf.cls ≠ "java/lang/invoke/MethodHandle" ∧ yX12_dayOf.cls ≠ "java/lang/invoke/VarHandle" ∧ (parseMethodDescriptor yX12_dayOf.desc).map (fun d => d.parameters.length) = some 3 by decide +kernel) rfl (fun _ _ _ => trivial) hl15.1 (Nat.le_of_ble_eq_true rfl) (eX12_ruleMinute (151, .invokestatic 70, 3) (List.mem_of_getElem? (i := 90) rfl)) (fun w47 f47 => ?_)
      obtain ⟨v47, rfl, e47⟩ := f47
      have g47 := (show v47.toInt = ysI y0.toInt by rw [e47, show v45.toInt = 1 by omega, show v46.toInt = 1 by omega, nu_cu]; show ysI y0.toInt + cuI y0.toInt 1 + 1 - 1 = _; rw [show cuI y0.toInt 1 = 0 by simp [cuI, bm]]; omega)
      refine lv_iload hx hb (eX12_ruleMinute (154, .iload 6, 2) (List.mem_of_getElem? (i := 91) rfl)) (lv_at hl15 0 rfl) ?_
      refine ff_i2l hx hb (eX12_ruleMinute (156, .i2l, 1) (List.mem_of_getElem? (i := 92) rfl)) (fun v48 e48 => ?_)
      refine ff_ladd hx hb (eX12_ruleMinute (157, .ladd, 1) (List.mem_of_getElem? (i := 93) rfl)) (by omega) (by omega) (fun v49 e49 => ?_)
      refine ff_lconst hx hb (eX12_ruleMinute (158, .lconst 1, 1) (List.mem_of_getElem? (i := 94) rfl)) rfl (fun v50 e50 => ?_)
      refine ff_lsub hx hb (eX12_ruleMinute (159, .lsub, 1) (List.mem_of_getElem? (i := 95) rfl)) (by omega) (by omega) (fun v51 e51 => ?_)
      refine lv_lload_n hx hb (eX12_ruleMinute (160, .lload_n 3, 1) (List.mem_of_getElem? (i := 96) rfl)) rfl (lv_at hl15 5 rfl) ?_
      refine zu_S (vs := [.long y0]) (rest := [.long v51]) hx hb hml hown hts0 zu_BT (hX12_isLeapYear l y0) ⟨rfl, rfl⟩ ⟨by decide, by decide⟩ ⟨by decide, by decide⟩ (tb_7 54 rfl rfl) (tb_1 12 rfl rfl) (tb_7 52 rfl rfl) (tb_7 53 rfl rfl) (show yX12_isLeapYear.cls ≠ "java/lang/invoke/MethodHandle" ∧ yX12_isLeapYear.cls ≠ "java/lang/invoke/VarHandle" ∧ (parseMethodDescriptor yX12_isLeapYear.desc).map (fun d => d.parameters.length) = some 1 by decide +kernel) rfl (fun _ _ _ => trivial) hl15.1 (Nat.le_of_ble_eq_true rfl) (eX12_ruleMinute (161, .invokestatic 95, 3) (List.mem_of_getElem? (i := 97) rfl)) (fun w52 f52 => ?_)
      obtain ⟨v52, rfl, e52⟩ := f52
      have g52 := lpI_bd y0.toInt
      refine ff_if_eq hx hb (eX12_ruleMinute (164, .ifCond .eq 14, 3) (List.mem_of_getElem? (i := 98) rfl)) (tgt := 178) rfl (fun c53 => ?_) (fun c53 => ?_)
      · skip
        refine ff_lconst hx hb (eX12_ruleMinute (178, .lconst 0, 1) (List.mem_of_getElem? (i := 104) rfl)) rfl (fun v54 e54 => ?_)
        refine ff_ladd hx hb (eX12_ruleMinute (179, .ladd, 1) (List.mem_of_getElem? (i := 105) rfl)) (by omega) (by omega) (fun v55 e55 => ?_)
        refine lv_lstore hx hb (eX12_ruleMinute (180, .lstore 7, 2) (List.mem_of_getElem? (i := 106) rfl)) hl15 (by decide) rfl (fun ls56 hl56 => ?_)
        refine lv_goto hx hb (eX12_ruleMinute (182, .goto 45, 3) (List.mem_of_getElem? (i := 107) rfl)) (tgt := 227) rfl ?_
        exact jn227 v55 ls56 _ (by unfold rmG; rw [if_neg (show ¬ dd.1 = 0 by omega)]; first | (rw [if_pos (show dd.1 = 1 by omega)]; split <;> omega) | (rw [if_neg (show ¬ dd.1 = 1 by omega)]; split <;> split <;> omega)) hh (lv_sub hl56 [0, 2, 3, 4, 5, 6] rfl)
      · skip
        refine lv_iload hx hb (eX12_ruleMinute (167, .iload 6, 2) (List.mem_of_getElem? (i := 99) rfl)) (lv_at hl15 0 rfl) ?_
        refine ff_bipush hx hb (eX12_ruleMinute (169, .bipush 60, 2) (List.mem_of_getElem? (i := 100) rfl)) (by decide) (by decide) (fun v57 e57 => ?_)
        refine ff_icmp_lt hx hb (eX12_ruleMinute (171, .if_icmp .lt 7, 3) (List.mem_of_getElem? (i := 101) rfl)) (tgt := 178) rfl (fun c58 => ?_) (fun c58 => ?_)
        · skip
          refine ff_lconst hx hb (eX12_ruleMinute (178, .lconst 0, 1) (List.mem_of_getElem? (i := 104) rfl)) rfl (fun v59 e59 => ?_)
          refine ff_ladd hx hb (eX12_ruleMinute (179, .ladd, 1) (List.mem_of_getElem? (i := 105) rfl)) (by omega) (by omega) (fun v60 e60 => ?_)
          refine lv_lstore hx hb (eX12_ruleMinute (180, .lstore 7, 2) (List.mem_of_getElem? (i := 106) rfl)) hl15 (by decide) rfl (fun ls61 hl61 => ?_)
          refine lv_goto hx hb (eX12_ruleMinute (182, .goto 45, 3) (List.mem_of_getElem? (i := 107) rfl)) (tgt := 227) rfl ?_
          exact jn227 v60 ls61 _ (by unfold rmG; rw [if_neg (show ¬ dd.1 = 0 by omega)]; first | (rw [if_pos (show dd.1 = 1 by omega)]; split <;> omega) | (rw [if_neg (show ¬ dd.1 = 1 by omega)]; split <;> split <;> omega)) hh (lv_sub hl61 [0, 2, 3, 4, 5, 6] rfl)
        · skip
          refine ff_lconst hx hb (eX12_ruleMinute (174, .lconst 1, 1) (List.mem_of_getElem? (i := 102) rfl)) rfl (fun v62 e62 => ?_)
          refine lv_goto hx hb (eX12_ruleMinute (175, .goto 4, 3) (List.mem_of_getElem? (i := 103) rfl)) (tgt := 179) rfl ?_
          refine ff_ladd hx hb (eX12_ruleMinute (179, .ladd, 1) (List.mem_of_getElem? (i := 105) rfl)) (by omega) (by omega) (fun v63 e63 => ?_)
          refine lv_lstore hx hb (eX12_ruleMinute (180, .lstore 7, 2) (List.mem_of_getElem? (i := 106) rfl)) hl15 (by decide) rfl (fun ls64 hl64 => ?_)
          refine lv_goto hx hb (eX12_ruleMinute (182, .goto 45, 3) (List.mem_of_getElem? (i := 107) rfl)) (tgt := 227) rfl ?_
          exact jn227 v63 ls64 _ (by unfold rmG; rw [if_neg (show ¬ dd.1 = 0 by omega)]; first | (rw [if_pos (show dd.1 = 1 by omega)]; split <;> omega) | (rw [if_neg (show ¬ dd.1 = 1 by omega)]; split <;> split <;> omega)) hh (lv_sub hl64 [0, 2, 3, 4, 5, 6] rfl)
  · skip
    have hk0 : dd.1 = 0 ∧ 1 ≤ dd.2.1 ∧ dd.2.1 ≤ 12 ∧ 1 ≤ dd.2.2.1 ∧ dd.2.2.1 ≤ 5 ∧ 0 ≤ dd.2.2.2.1 ∧ dd.2.2.2.1 ≤ 6 := by omega
    clear hok
    refine lv_aload_n hx hb (eX12_ruleMinute (31, .aload_n 0, 1) (List.mem_of_getElem? (i := 20) rfl)) rfl (lv_at hl15 2 rfl) ?_
    refine tz_get (r := 11) (k := 11) (t := (62, 0, 0)) hx hb hh ha rfl rfl (hcl11 37 11 (62, 0, 0) (by decide) rfl).1 fqB (eX12_ruleMinute (32, .getfield 37, 3) (List.mem_of_getElem? (i := 21) rfl)) ?_
    refine lv_iload hx hb (eX12_ruleMinute (35, .iload 5, 2) (List.mem_of_getElem? (i := 22) rfl)) (lv_at hl15 1 rfl) ?_
    refine ff_iconst hx hb (eX12_ruleMinute (37, .iconst 3, 1) (List.mem_of_getElem? (i := 23) rfl)) (by decide) (by decide) (fun v65 e65 => ?_)
    refine ff_iadd hx hb (eX12_ruleMinute (38, .iadd, 1) (List.mem_of_getElem? (i := 24) rfl)) (by omega) (by omega) (fun v66 e66 => ?_)
    refine tz_iald hx hb (zAr hKn.1 0 (by decide)) cqB (by omega) (by omega) (eX12_ruleMinute (39, .iaload, 1) (List.mem_of_getElem? (i := 25) rfl)) ?_
    rw [show v66.toNatClampNeg = 10 * i0 + 5 * w0 + 3 by show v66.toInt.toNat = _; omega, g3]
    refine ff_if_ne hx hb (eX12_ruleMinute (40, .ifCond .ne 8, 3) (List.mem_of_getElem? (i := 26) rfl)) (tgt := 48) rfl (fun c67 => ?_) (fun c67 => ?_)
    · skip
      refine lv_aload_n hx hb (eX12_ruleMinute (48, .aload_n 0, 1) (List.mem_of_getElem? (i := 29) rfl)) rfl (lv_at hl15 2 rfl) ?_
      refine tz_get (r := 11) (k := 11) (t := (62, 0, 0)) hx hb hh ha rfl rfl (hcl11 37 11 (62, 0, 0) (by decide) rfl).1 fqB (eX12_ruleMinute (49, .getfield 37, 3) (List.mem_of_getElem? (i := 30) rfl)) ?_
      refine lv_iload hx hb (eX12_ruleMinute (52, .iload 5, 2) (List.mem_of_getElem? (i := 31) rfl)) (lv_at hl15 1 rfl) ?_
      refine ff_iconst hx hb (eX12_ruleMinute (54, .iconst 3, 1) (List.mem_of_getElem? (i := 32) rfl)) (by decide) (by decide) (fun v68 e68 => ?_)
      refine ff_iadd hx hb (eX12_ruleMinute (55, .iadd, 1) (List.mem_of_getElem? (i := 33) rfl)) (by omega) (by omega) (fun v69 e69 => ?_)
      refine tz_iald hx hb (zAr hKn.1 0 (by decide)) cqB (by omega) (by omega) (eX12_ruleMinute (56, .iaload, 1) (List.mem_of_getElem? (i := 34) rfl)) ?_
      rw [show v69.toNatClampNeg = 10 * i0 + 5 * w0 + 3 by show v69.toInt.toNat = _; omega, g3]
      refine lv_istore hx hb (eX12_ruleMinute (57, .istore 9, 2) (List.mem_of_getElem? (i := 35) rfl)) hl15 (by decide) rfl (fun ls70 hl70 => ?_)
      refine lv_lload_n hx hb (eX12_ruleMinute (59, .lload_n 3, 1) (List.mem_of_getElem? (i := 36) rfl)) rfl (lv_at hl70 6 rfl) ?_
      refine lv_iload hx hb (eX12_ruleMinute (60, .iload 6, 2) (List.mem_of_getElem? (i := 37) rfl)) (lv_at hl70 1 rfl) ?_
      refine ff_iconst hx hb (eX12_ruleMinute (62, .iconst 1, 1) (List.mem_of_getElem? (i := 38) rfl)) (by decide) (by decide) (fun v71 e71 => ?_)
      refine zu_S (vs := [.long y0, .int nv, .int v71]) (rest := []) hx hb hml hown hts0 zu_BT (hX12_dayOfW l y0 nv v71 (by omega) (by omega) (by omega) (by omega) (by omega) (by omega)) ⟨rfl, rfl⟩ ⟨by decide, by decide⟩ ⟨by decide, by decide⟩ (tb_6 135 rfl rfl) (tb_1 12 rfl rfl) (tb_6 133 rfl rfl) (tb_6 134 rfl rfl) (show yX12_dayOf.cls ≠ "java/lang/invoke/MethodHandle" ∧ yX12_dayOf.cls ≠ "java/lang/invoke/VarHandle" ∧ (parseMethodDescriptor yX12_dayOf.desc).map (fun d => d.parameters.length) = some 3 by decide +kernel) rfl (fun _ _ _ => trivial) hl70.1 (Nat.le_of_ble_eq_true rfl) (eX12_ruleMinute (63, .invokestatic 70, 3) (List.mem_of_getElem? (i := 39) rfl)) (fun w72 f72 => ?_)
      obtain ⟨v72, rfl, e72⟩ := f72
      have g72 := (show v72.toInt = nuI y0.toInt dd.2.1 1 ∧ -1001000000 ≤ v72.toInt ∧ v72.toInt ≤ 1001000000 by have h9 : v72.toInt = nuI y0.toInt dd.2.1 1 := (by rw [e72, show nv.toInt = dd.2.1 by omega, show v71.toInt = 1 by omega]); have h8 := nu_cu y0.toInt dd.2.1 1; have h7 := cu_lo (y := y0.toInt) (m := dd.2.1) (by omega) (by omega); have h6 := lpI_bd y0.toInt; have h5 := mlI_bd y0.toInt dd.2.1; omega)
      refine lv_lstore hx hb (eX12_ruleMinute (66, .lstore 10, 2) (List.mem_of_getElem? (i := 40) rfl)) hl70 (by decide) rfl (fun ls73 hl73 => ?_)
      refine lv_lload hx hb (eX12_ruleMinute (68, .lload 10, 2) (List.mem_of_getElem? (i := 41) rfl)) (lv_at hl73 0 rfl) ?_
      refine lv_iload hx hb (eX12_ruleMinute (70, .iload 9, 2) (List.mem_of_getElem? (i := 42) rfl)) (lv_at hl73 1 rfl) ?_
      refine lv_lload hx hb (eX12_ruleMinute (72, .lload 10, 2) (List.mem_of_getElem? (i := 43) rfl)) (lv_at hl73 0 rfl) ?_
      refine zu_S (vs := [.long v72]) (rest := [.int dv, .long v72]) hx hb hml hown hts0 zu_BT (hX12_weekdayOf l v72 (by omega) (by omega)) ⟨rfl, rfl⟩ ⟨by decide, by decide⟩ ⟨by decide, by decide⟩ (tb_7 80 rfl rfl) (tb_1 12 rfl rfl) (tb_7 78 rfl rfl) (tb_7 79 rfl rfl) (show yX12_weekdayOf.cls ≠ "java/lang/invoke/MethodHandle" ∧ yX12_weekdayOf.cls ≠ "java/lang/invoke/VarHandle" ∧ (parseMethodDescriptor yX12_weekdayOf.desc).map (fun d => d.parameters.length) = some 1 by decide +kernel) rfl (fun _ _ _ => trivial) hl73.1 (Nat.le_of_ble_eq_true rfl) (eX12_ruleMinute (74, .invokestatic 138, 3) (List.mem_of_getElem? (i := 44) rfl)) (fun w74 f74 => ?_)
      obtain ⟨v74, rfl, e74⟩ := f74
      refine ff_isub hx hb (eX12_ruleMinute (77, .isub, 1) (List.mem_of_getElem? (i := 45) rfl)) (by omega) (by omega) (fun v75 e75 => ?_)
      refine ff_bipush hx hb (eX12_ruleMinute (78, .bipush 7, 2) (List.mem_of_getElem? (i := 46) rfl)) (by decide) (by decide) (fun v76 e76 => ?_)
      refine ff_iadd hx hb (eX12_ruleMinute (80, .iadd, 1) (List.mem_of_getElem? (i := 47) rfl)) (by omega) (by omega) (fun v77 e77 => ?_)
      refine ff_bipush hx hb (eX12_ruleMinute (81, .bipush 7, 2) (List.mem_of_getElem? (i := 48) rfl)) (by decide) (by decide) (fun v78 e78 => ?_)
      refine ff_irem hx hb (eX12_ruleMinute (83, .irem, 1) (List.mem_of_getElem? (i := 49) rfl)) (e78) (by decide) (fun v79 e79 => ?_)
      refine ff_i2l hx hb (eX12_ruleMinute (84, .i2l, 1) (List.mem_of_getElem? (i := 50) rfl)) (fun v80 e80 => ?_)
      refine ff_ladd hx hb (eX12_ruleMinute (85, .ladd, 1) (List.mem_of_getElem? (i := 51) rfl)) (by omega) (by omega) (fun v81 e81 => ?_)
      refine ff_ldc2 (n := 7) hx hb hown h2 (clX12_ok 136 7 (List.mem_of_getElem? (i := 16) rfl)) (eX12_ruleMinute (86, .ldc2_w 136, 3) (List.mem_of_getElem? (i := 52) rfl)) (fun v82 e82 => ?_)
      refine lv_aload_n hx hb (eX12_ruleMinute (89, .aload_n 0, 1) (List.mem_of_getElem? (i := 53) rfl)) rfl (lv_at hl73 4 rfl) ?_
      refine tz_get (r := 11) (k := 11) (t := (62, 0, 0)) hx hb hh ha rfl rfl (hcl11 37 11 (62, 0, 0) (by decide) rfl).1 fqB (eX12_ruleMinute (90, .getfield 37, 3) (List.mem_of_getElem? (i := 54) rfl)) ?_
      refine lv_iload hx hb (eX12_ruleMinute (93, .iload 5, 2) (List.mem_of_getElem? (i := 55) rfl)) (lv_at hl73 3 rfl) ?_
      refine ff_iconst hx hb (eX12_ruleMinute (95, .iconst 2, 1) (List.mem_of_getElem? (i := 56) rfl)) (by decide) (by decide) (fun v83 e83 => ?_)
      refine ff_iadd hx hb (eX12_ruleMinute (96, .iadd, 1) (List.mem_of_getElem? (i := 57) rfl)) (by omega) (by omega) (fun v84 e84 => ?_)
      refine tz_iald hx hb (zAr hKn.1 0 (by decide)) cqB (by omega) (by omega) (eX12_ruleMinute (97, .iaload, 1) (List.mem_of_getElem? (i := 58) rfl)) ?_
      rw [show v84.toNatClampNeg = 10 * i0 + 5 * w0 + 2 by show v84.toInt.toNat = _; omega, g2]
      refine ff_iconst hx hb (eX12_ruleMinute (98, .iconst 1, 1) (List.mem_of_getElem? (i := 59) rfl)) (by decide) (by decide) (fun v85 e85 => ?_)
      refine ff_isub hx hb (eX12_ruleMinute (99, .isub, 1) (List.mem_of_getElem? (i := 60) rfl)) (by omega) (by omega) (fun v86 e86 => ?_)
      refine ff_i2l hx hb (eX12_ruleMinute (100, .i2l, 1) (List.mem_of_getElem? (i := 61) rfl)) (fun v87 e87 => ?_)
      refine ff_lmulL hx hb (eX12_ruleMinute (101, .lmul, 1) (List.mem_of_getElem? (i := 62) rfl)) (e82) (by omega) (by omega) (fun v88 e88 => ?_)
      refine ff_ladd hx hb (eX12_ruleMinute (102, .ladd, 1) (List.mem_of_getElem? (i := 63) rfl)) (by omega) (by omega) (fun v89 e89 => ?_)
      refine lv_lstore hx hb (eX12_ruleMinute (103, .lstore 7, 2) (List.mem_of_getElem? (i := 64) rfl)) hl73 (by decide) rfl (fun ls90 hl90 => ?_)
      refine lv_lload hx hb (eX12_ruleMinute (105, .lload 7, 2) (List.mem_of_getElem? (i := 65) rfl)) (lv_at hl90 0 rfl) ?_
      refine lv_lload hx hb (eX12_ruleMinute (107, .lload 10, 2) (List.mem_of_getElem? (i := 66) rfl)) (lv_at hl90 1 rfl) ?_
      refine lv_lload_n hx hb (eX12_ruleMinute (109, .lload_n 3, 1) (List.mem_of_getElem? (i := 67) rfl)) rfl (lv_at hl90 8 rfl) ?_
      refine lv_iload hx hb (eX12_ruleMinute (110, .iload 6, 2) (List.mem_of_getElem? (i := 68) rfl)) (lv_at hl90 3 rfl) ?_
      refine zu_S (vs := [.long y0, .int nv]) (rest := [.long v72, .long v89]) hx hb hml hown hts0 zu_BT (hX12_daysOf l y0 nv (by omega) (by omega)) ⟨rfl, rfl⟩ ⟨by decide, by decide⟩ ⟨by decide, by decide⟩ (tb_7 51 rfl rfl) (tb_1 12 rfl rfl) (tb_7 49 rfl rfl) (tb_7 50 rfl rfl) (show yX12_daysOf.cls ≠ "java/lang/invoke/MethodHandle" ∧ yX12_daysOf.cls ≠ "java/lang/invoke/VarHandle" ∧ (parseMethodDescriptor yX12_daysOf.desc).map (fun d => d.parameters.length) = some 2 by decide +kernel) rfl (fun _ _ _ => trivial) hl90.1 (Nat.le_of_ble_eq_true rfl) (eX12_ruleMinute (112, .invokestatic 155, 3) (List.mem_of_getElem? (i := 69) rfl)) (fun w91 f91 => ?_)
      obtain ⟨v91, rfl, e91⟩ := f91
      have g91 := (show v91.toInt = mlI y0.toInt dd.2.1 ∧ 0 ≤ mlI y0.toInt dd.2.1 ∧ mlI y0.toInt dd.2.1 ≤ 31 by rw [← show nv.toInt = dd.2.1 by omega]; have h9 := mlI_bd y0.toInt nv.toInt; exact ⟨e91, by omega, by omega⟩)
      refine ff_i2l hx hb (eX12_ruleMinute (115, .i2l, 1) (List.mem_of_getElem? (i := 70) rfl)) (fun v92 e92 => ?_)
      refine ff_ladd hx hb (eX12_ruleMinute (116, .ladd, 1) (List.mem_of_getElem? (i := 71) rfl)) (by omega) (by omega) (fun v93 e93 => ?_)
      refine ff_lcmp hx hb (eX12_ruleMinute (117, .lcmp, 1) (List.mem_of_getElem? (i := 72) rfl)) (fun v94 e94 => ?_)
      refine ff_if_lt hx hb (eX12_ruleMinute (118, .ifCond .lt 12, 3) (List.mem_of_getElem? (i := 73) rfl)) (tgt := 130) rfl (fun c95 => ?_) (fun c95 => ?_)
      · skip
        refine lv_lload hx hb (eX12_ruleMinute (130, .lload 7, 2) (List.mem_of_getElem? (i := 78) rfl)) (lv_at hl90 0 rfl) ?_
        refine lv_lstore hx hb (eX12_ruleMinute (132, .lstore 7, 2) (List.mem_of_getElem? (i := 79) rfl)) hl90 (by decide) rfl (fun ls96 hl96 => ?_)
        refine lv_goto hx hb (eX12_ruleMinute (134, .goto 93, 3) (List.mem_of_getElem? (i := 80) rfl)) (tgt := 227) rfl ?_
        exact jn227 v89 ls96 _ (by unfold rmG; rw [if_pos hk0.1]; unfold mdG wqG; (first | rw [if_pos (show dd.2.2.2.1 = 0 by omega)] | rw [if_neg (show ¬ dd.2.2.2.1 = 0 by omega)]); split <;> omega) hh (lv_sub hl96 [0, 4, 5, 6, 7, 8] rfl)
      · skip
        refine lv_lload hx hb (eX12_ruleMinute (121, .lload 7, 2) (List.mem_of_getElem? (i := 74) rfl)) (lv_at hl90 0 rfl) ?_
        refine ff_ldc2 (n := 7) hx hb hown h2 (clX12_ok 136 7 (List.mem_of_getElem? (i := 16) rfl)) (eX12_ruleMinute (123, .ldc2_w 136, 3) (List.mem_of_getElem? (i := 75) rfl)) (fun v97 e97 => ?_)
        refine ff_lsub hx hb (eX12_ruleMinute (126, .lsub, 1) (List.mem_of_getElem? (i := 76) rfl)) (by omega) (by omega) (fun v98 e98 => ?_)
        refine lv_goto hx hb (eX12_ruleMinute (127, .goto 5, 3) (List.mem_of_getElem? (i := 77) rfl)) (tgt := 132) rfl ?_
        refine lv_lstore hx hb (eX12_ruleMinute (132, .lstore 7, 2) (List.mem_of_getElem? (i := 79) rfl)) hl90 (by decide) rfl (fun ls99 hl99 => ?_)
        refine lv_goto hx hb (eX12_ruleMinute (134, .goto 93, 3) (List.mem_of_getElem? (i := 80) rfl)) (tgt := 227) rfl ?_
        exact jn227 v98 ls99 _ (by unfold rmG; rw [if_pos hk0.1]; unfold mdG wqG; (first | rw [if_pos (show dd.2.2.2.1 = 0 by omega)] | rw [if_neg (show ¬ dd.2.2.2.1 = 0 by omega)]); split <;> omega) hh (lv_sub hl99 [0, 4, 5, 6, 7, 8] rfl)
    · skip
      refine ff_bipush hx hb (eX12_ruleMinute (43, .bipush 7, 2) (List.mem_of_getElem? (i := 27) rfl)) (by decide) (by decide) (fun v100 e100 => ?_)
      refine lv_goto hx hb (eX12_ruleMinute (45, .goto 12, 3) (List.mem_of_getElem? (i := 28) rfl)) (tgt := 57) rfl ?_
      refine lv_istore hx hb (eX12_ruleMinute (57, .istore 9, 2) (List.mem_of_getElem? (i := 35) rfl)) hl15 (by decide) rfl (fun ls101 hl101 => ?_)
      refine lv_lload_n hx hb (eX12_ruleMinute (59, .lload_n 3, 1) (List.mem_of_getElem? (i := 36) rfl)) rfl (lv_at hl101 6 rfl) ?_
      refine lv_iload hx hb (eX12_ruleMinute (60, .iload 6, 2) (List.mem_of_getElem? (i := 37) rfl)) (lv_at hl101 1 rfl) ?_
      refine ff_iconst hx hb (eX12_ruleMinute (62, .iconst 1, 1) (List.mem_of_getElem? (i := 38) rfl)) (by decide) (by decide) (fun v102 e102 => ?_)
      refine zu_S (vs := [.long y0, .int nv, .int v102]) (rest := []) hx hb hml hown hts0 zu_BT (hX12_dayOfW l y0 nv v102 (by omega) (by omega) (by omega) (by omega) (by omega) (by omega)) ⟨rfl, rfl⟩ ⟨by decide, by decide⟩ ⟨by decide, by decide⟩ (tb_6 135 rfl rfl) (tb_1 12 rfl rfl) (tb_6 133 rfl rfl) (tb_6 134 rfl rfl) (show yX12_dayOf.cls ≠ "java/lang/invoke/MethodHandle" ∧ yX12_dayOf.cls ≠ "java/lang/invoke/VarHandle" ∧ (parseMethodDescriptor yX12_dayOf.desc).map (fun d => d.parameters.length) = some 3 by decide +kernel) rfl (fun _ _ _ => trivial) hl101.1 (Nat.le_of_ble_eq_true rfl) (eX12_ruleMinute (63, .invokestatic 70, 3) (List.mem_of_getElem? (i := 39) rfl)) (fun w103 f103 => ?_)
      obtain ⟨v103, rfl, e103⟩ := f103
      have g103 := (show v103.toInt = nuI y0.toInt dd.2.1 1 ∧ -1001000000 ≤ v103.toInt ∧ v103.toInt ≤ 1001000000 by have h9 : v103.toInt = nuI y0.toInt dd.2.1 1 := (by rw [e103, show nv.toInt = dd.2.1 by omega, show v102.toInt = 1 by omega]); have h8 := nu_cu y0.toInt dd.2.1 1; have h7 := cu_lo (y := y0.toInt) (m := dd.2.1) (by omega) (by omega); have h6 := lpI_bd y0.toInt; have h5 := mlI_bd y0.toInt dd.2.1; omega)
      refine lv_lstore hx hb (eX12_ruleMinute (66, .lstore 10, 2) (List.mem_of_getElem? (i := 40) rfl)) hl101 (by decide) rfl (fun ls104 hl104 => ?_)
      refine lv_lload hx hb (eX12_ruleMinute (68, .lload 10, 2) (List.mem_of_getElem? (i := 41) rfl)) (lv_at hl104 0 rfl) ?_
      refine lv_iload hx hb (eX12_ruleMinute (70, .iload 9, 2) (List.mem_of_getElem? (i := 42) rfl)) (lv_at hl104 1 rfl) ?_
      refine lv_lload hx hb (eX12_ruleMinute (72, .lload 10, 2) (List.mem_of_getElem? (i := 43) rfl)) (lv_at hl104 0 rfl) ?_
      refine zu_S (vs := [.long v103]) (rest := [.int v100, .long v103]) hx hb hml hown hts0 zu_BT (hX12_weekdayOf l v103 (by omega) (by omega)) ⟨rfl, rfl⟩ ⟨by decide, by decide⟩ ⟨by decide, by decide⟩ (tb_7 80 rfl rfl) (tb_1 12 rfl rfl) (tb_7 78 rfl rfl) (tb_7 79 rfl rfl) (show yX12_weekdayOf.cls ≠ "java/lang/invoke/MethodHandle" ∧ yX12_weekdayOf.cls ≠ "java/lang/invoke/VarHandle" ∧ (parseMethodDescriptor yX12_weekdayOf.desc).map (fun d => d.parameters.length) = some 1 by decide +kernel) rfl (fun _ _ _ => trivial) hl104.1 (Nat.le_of_ble_eq_true rfl) (eX12_ruleMinute (74, .invokestatic 138, 3) (List.mem_of_getElem? (i := 44) rfl)) (fun w105 f105 => ?_)
      obtain ⟨v105, rfl, e105⟩ := f105
      refine ff_isub hx hb (eX12_ruleMinute (77, .isub, 1) (List.mem_of_getElem? (i := 45) rfl)) (by omega) (by omega) (fun v106 e106 => ?_)
      refine ff_bipush hx hb (eX12_ruleMinute (78, .bipush 7, 2) (List.mem_of_getElem? (i := 46) rfl)) (by decide) (by decide) (fun v107 e107 => ?_)
      refine ff_iadd hx hb (eX12_ruleMinute (80, .iadd, 1) (List.mem_of_getElem? (i := 47) rfl)) (by omega) (by omega) (fun v108 e108 => ?_)
      refine ff_bipush hx hb (eX12_ruleMinute (81, .bipush 7, 2) (List.mem_of_getElem? (i := 48) rfl)) (by decide) (by decide) (fun v109 e109 => ?_)
      refine ff_irem hx hb (eX12_ruleMinute (83, .irem, 1) (List.mem_of_getElem? (i := 49) rfl)) (e109) (by decide) (fun v110 e110 => ?_)
      refine ff_i2l hx hb (eX12_ruleMinute (84, .i2l, 1) (List.mem_of_getElem? (i := 50) rfl)) (fun v111 e111 => ?_)
      refine ff_ladd hx hb (eX12_ruleMinute (85, .ladd, 1) (List.mem_of_getElem? (i := 51) rfl)) (by omega) (by omega) (fun v112 e112 => ?_)
      refine ff_ldc2 (n := 7) hx hb hown h2 (clX12_ok 136 7 (List.mem_of_getElem? (i := 16) rfl)) (eX12_ruleMinute (86, .ldc2_w 136, 3) (List.mem_of_getElem? (i := 52) rfl)) (fun v113 e113 => ?_)
      refine lv_aload_n hx hb (eX12_ruleMinute (89, .aload_n 0, 1) (List.mem_of_getElem? (i := 53) rfl)) rfl (lv_at hl104 4 rfl) ?_
      refine tz_get (r := 11) (k := 11) (t := (62, 0, 0)) hx hb hh ha rfl rfl (hcl11 37 11 (62, 0, 0) (by decide) rfl).1 fqB (eX12_ruleMinute (90, .getfield 37, 3) (List.mem_of_getElem? (i := 54) rfl)) ?_
      refine lv_iload hx hb (eX12_ruleMinute (93, .iload 5, 2) (List.mem_of_getElem? (i := 55) rfl)) (lv_at hl104 3 rfl) ?_
      refine ff_iconst hx hb (eX12_ruleMinute (95, .iconst 2, 1) (List.mem_of_getElem? (i := 56) rfl)) (by decide) (by decide) (fun v114 e114 => ?_)
      refine ff_iadd hx hb (eX12_ruleMinute (96, .iadd, 1) (List.mem_of_getElem? (i := 57) rfl)) (by omega) (by omega) (fun v115 e115 => ?_)
      refine tz_iald hx hb (zAr hKn.1 0 (by decide)) cqB (by omega) (by omega) (eX12_ruleMinute (97, .iaload, 1) (List.mem_of_getElem? (i := 58) rfl)) ?_
      rw [show v115.toNatClampNeg = 10 * i0 + 5 * w0 + 2 by show v115.toInt.toNat = _; omega, g2]
      refine ff_iconst hx hb (eX12_ruleMinute (98, .iconst 1, 1) (List.mem_of_getElem? (i := 59) rfl)) (by decide) (by decide) (fun v116 e116 => ?_)
      refine ff_isub hx hb (eX12_ruleMinute (99, .isub, 1) (List.mem_of_getElem? (i := 60) rfl)) (by omega) (by omega) (fun v117 e117 => ?_)
      refine ff_i2l hx hb (eX12_ruleMinute (100, .i2l, 1) (List.mem_of_getElem? (i := 61) rfl)) (fun v118 e118 => ?_)
      refine ff_lmulL hx hb (eX12_ruleMinute (101, .lmul, 1) (List.mem_of_getElem? (i := 62) rfl)) (e113) (by omega) (by omega) (fun v119 e119 => ?_)
      refine ff_ladd hx hb (eX12_ruleMinute (102, .ladd, 1) (List.mem_of_getElem? (i := 63) rfl)) (by omega) (by omega) (fun v120 e120 => ?_)
      refine lv_lstore hx hb (eX12_ruleMinute (103, .lstore 7, 2) (List.mem_of_getElem? (i := 64) rfl)) hl104 (by decide) rfl (fun ls121 hl121 => ?_)
      refine lv_lload hx hb (eX12_ruleMinute (105, .lload 7, 2) (List.mem_of_getElem? (i := 65) rfl)) (lv_at hl121 0 rfl) ?_
      refine lv_lload hx hb (eX12_ruleMinute (107, .lload 10, 2) (List.mem_of_getElem? (i := 66) rfl)) (lv_at hl121 1 rfl) ?_
      refine lv_lload_n hx hb (eX12_ruleMinute (109, .lload_n 3, 1) (List.mem_of_getElem? (i := 67) rfl)) rfl (lv_at hl121 8 rfl) ?_
      refine lv_iload hx hb (eX12_ruleMinute (110, .iload 6, 2) (List.mem_of_getElem? (i := 68) rfl)) (lv_at hl121 3 rfl) ?_
      refine zu_S (vs := [.long y0, .int nv]) (rest := [.long v103, .long v120]) hx hb hml hown hts0 zu_BT (hX12_daysOf l y0 nv (by omega) (by omega)) ⟨rfl, rfl⟩ ⟨by decide, by decide⟩ ⟨by decide, by decide⟩ (tb_7 51 rfl rfl) (tb_1 12 rfl rfl) (tb_7 49 rfl rfl) (tb_7 50 rfl rfl) (show yX12_daysOf.cls ≠ "java/lang/invoke/MethodHandle" ∧ yX12_daysOf.cls ≠ "java/lang/invoke/VarHandle" ∧ (parseMethodDescriptor yX12_daysOf.desc).map (fun d => d.parameters.length) = some 2 by decide +kernel) rfl (fun _ _ _ => trivial) hl121.1 (Nat.le_of_ble_eq_true rfl) (eX12_ruleMinute (112, .invokestatic 155, 3) (List.mem_of_getElem? (i := 69) rfl)) (fun w122 f122 => ?_)
      obtain ⟨v122, rfl, e122⟩ := f122
      have g122 := (show v122.toInt = mlI y0.toInt dd.2.1 ∧ 0 ≤ mlI y0.toInt dd.2.1 ∧ mlI y0.toInt dd.2.1 ≤ 31 by rw [← show nv.toInt = dd.2.1 by omega]; have h9 := mlI_bd y0.toInt nv.toInt; exact ⟨e122, by omega, by omega⟩)
      refine ff_i2l hx hb (eX12_ruleMinute (115, .i2l, 1) (List.mem_of_getElem? (i := 70) rfl)) (fun v123 e123 => ?_)
      refine ff_ladd hx hb (eX12_ruleMinute (116, .ladd, 1) (List.mem_of_getElem? (i := 71) rfl)) (by omega) (by omega) (fun v124 e124 => ?_)
      refine ff_lcmp hx hb (eX12_ruleMinute (117, .lcmp, 1) (List.mem_of_getElem? (i := 72) rfl)) (fun v125 e125 => ?_)
      refine ff_if_lt hx hb (eX12_ruleMinute (118, .ifCond .lt 12, 3) (List.mem_of_getElem? (i := 73) rfl)) (tgt := 130) rfl (fun c126 => ?_) (fun c126 => ?_)
      · skip
        refine lv_lload hx hb (eX12_ruleMinute (130, .lload 7, 2) (List.mem_of_getElem? (i := 78) rfl)) (lv_at hl121 0 rfl) ?_
        refine lv_lstore hx hb (eX12_ruleMinute (132, .lstore 7, 2) (List.mem_of_getElem? (i := 79) rfl)) hl121 (by decide) rfl (fun ls127 hl127 => ?_)
        refine lv_goto hx hb (eX12_ruleMinute (134, .goto 93, 3) (List.mem_of_getElem? (i := 80) rfl)) (tgt := 227) rfl ?_
        exact jn227 v120 ls127 _ (by unfold rmG; rw [if_pos hk0.1]; unfold mdG wqG; (first | rw [if_pos (show dd.2.2.2.1 = 0 by omega)] | rw [if_neg (show ¬ dd.2.2.2.1 = 0 by omega)]); split <;> omega) hh (lv_sub hl127 [0, 4, 5, 6, 7, 8] rfl)
      · skip
        refine lv_lload hx hb (eX12_ruleMinute (121, .lload 7, 2) (List.mem_of_getElem? (i := 74) rfl)) (lv_at hl121 0 rfl) ?_
        refine ff_ldc2 (n := 7) hx hb hown h2 (clX12_ok 136 7 (List.mem_of_getElem? (i := 16) rfl)) (eX12_ruleMinute (123, .ldc2_w 136, 3) (List.mem_of_getElem? (i := 75) rfl)) (fun v128 e128 => ?_)
        refine ff_lsub hx hb (eX12_ruleMinute (126, .lsub, 1) (List.mem_of_getElem? (i := 76) rfl)) (by omega) (by omega) (fun v129 e129 => ?_)
        refine lv_goto hx hb (eX12_ruleMinute (127, .goto 5, 3) (List.mem_of_getElem? (i := 77) rfl)) (tgt := 132) rfl ?_
        refine lv_lstore hx hb (eX12_ruleMinute (132, .lstore 7, 2) (List.mem_of_getElem? (i := 79) rfl)) hl121 (by decide) rfl (fun ls130 hl130 => ?_)
        refine lv_goto hx hb (eX12_ruleMinute (134, .goto 93, 3) (List.mem_of_getElem? (i := 80) rfl)) (tgt := 227) rfl ?_
        exact jn227 v129 ls130 _ (by unfold rmG; rw [if_pos hk0.1]; unfold mdG wqG; (first | rw [if_pos (show dd.2.2.2.1 = 0 by omega)] | rw [if_neg (show ¬ dd.2.2.2.1 = 0 by omega)]); split <;> omega) hh (lv_sub hl130 [0, 4, 5, 6, 7, 8] rfl)
theorem isY_w {n y : Int} (h : isY n y) (h1 : -400000000 ≤ n) (h2 : n ≤ 400000000) : -1200000 ≤ y ∧ y ≤ 1200000 := by
  obtain ⟨g1, g2⟩ := h
  have e1 : ysI (-1200000) = -439010528 := by decide
  have e2 : ysI 1200001 = 437574313 ∨ 430000000 ≤ ysI 1200001 := Or.inr (by decide)
  constructor
  · apply Decidable.byContradiction
    intro q
    have := ys_mono (y := y + 1) (y' := -1200000) (by omega)
    omega
  · apply Decidable.byContradiction
    intro q
    have := ys_mono (y := 1200001) (y' := y) (by omega)
    omega
theorem hX12_civilQ (l : Launch) (D : va_G) (cA : Nat → ClassId) (ro : Nat → Option Nat) (sz : Nat) (H0 : Heap) (a : Nat) (n : Int64) (R : List rU) (ha : ro a = some 11) (hn1 : -400000000 ≤ n.toInt) (hn2 : n.toInt ≤ 400000000) : Met l yX12_civil (gW yX12_civil cX12_civil 14 none) { frames := 1, cells := 0, slots := 0, locals := 25 } (zs_P D cA ro sz H0 (fun H => jRQ D cA ro H a R) [.ref a, .long n]) (zg_cvQ D cA ro sz H0 a n.toInt) 0 0 (zy_fr sz) := met_weak (hX12_civil l D cA ro sz H0 a n ha hn1 hn2) (fun _ _ h => ⟨h.1, h.2.1, h.2.2.1⟩)
set_option maxRecDepth 100000 in
set_option maxHeartbeats 4000000 in
theorem hX12_ruleOffset (l : Launch) (D : va_G) (cA : Nat → ClassId) (ro : Nat → Option Nat) (sz : Nat) (H0 : Heap) (a : Nat) (zi : Int32) (m0 : Int64) (R : List rU) (i0 : Nat) (rr : rU) (ha : ro a = some 11) (hi0 : zi.toInt = (i0 : Int)) (hi8 : i0 < 8) (hrr : R[i0]? = some rr) (hr1 : 1 ≤ rr.1) (hm1 : -533500000000 ≤ m0.toInt) (hm2 : m0.toInt ≤ 533500000000) : Met l yX12_ruleOffset (gW yX12_ruleOffset cX12_ruleOffset 11 (some .int)) { frames := 3, cells := 0, slots := 0, locals := 87 } (zs_P D cA ro sz H0 (fun H => jRQ D cA ro H a R) [.ref a, .int zi, .long m0]) (fun _ st oc t => ∃ r : Int32, oc = .returned (some (.int r)) ∧ r.toInt = roF rr m0.toInt ∧ zh_ok D cA RTg ro sz H0 t.heap [] ∧ zc_kept D RTg ro [(11, 18), (11, 19), (11, 20)] st.heap t.heap) 0 0 (zy_fr sz) := by
  refine zy_ofW (cc := cX12_ruleOffset) (maxL := 11) (ret := (some .int)) (by decide +kernel) rfl ?_
  intro p e s m args below meth c s1 B hml hv
  obtain ⟨rfl, hh, hKn, hJ⟩ := hv
  have hx := B.exec
  have hb := B.bytes
  have hr := B.returns
  have hlk := B.notSynchronized
  have hts0 := atoms_spec (ws := gW yX12_ruleOffset cX12_ruleOffset 11 (some .int)) B.pre
  have h2 : ∀ w ∈ gT, w.before ([.ref a, .int zi, .long m0] : List Value).toArray s = true := fun w hw => hts0 w (List.mem_cons_of_mem _ hw)
  have hown : s.vm.findClass RX12 = some m.cls := findClass_of_methodNamed B.named
  have hl := lv_entry [.ref a, .int zi, .long m0] (n := 11) (Nat.le_of_ble_eq_true rfl)
  rw [lg_entry_eq]
  generalize (lg_sl [.ref a, .int zi, .long m0] ++ List.replicate (11 - (lg_sl [.ref a, .int zi, .long m0]).length) Slot.unset).toArray = ls at hl ⊢
  have b_zi := zn_i32 zi
  have b_m0 := zn_i64 m0
  have hD := zD_all h2 hKn.1
  have hcl11 := fun (idx k : Nat) (t : zt_T) (h : (idx, 11, k) ∈ gfX12) (hk : fsX12[k]? = some t) => zf_clause (ro := ro) (ms := [(11, 18), (11, 19), (11, 20)]) h2 hown hKn.1 gfX12_ok (by decide +kernel) idx 11 k 11 0 fsX12 t h rfl hk
  have kp0 : zc_kept D RTg ro [(11, 18), (11, 19), (11, 20)] s.heap s.heap := zc_kept.refl
  obtain ⟨b8, b9, bA, bB, z8, z9, zA, zB, ⟨fq8, rq8, cq8⟩, ⟨fq9, rq9, cq9⟩, ⟨fqA, rqA, cqA⟩, ⟨fqB, rqB, cqB⟩, hrp, hrw⟩ := id hJ
  have hlt := (List.getElem?_eq_some_iff.mp hrr).1
  obtain ⟨⟨nn, ez8, hnn⟩, h9, hA⟩ := hrp i0 rr hrr
  obtain ⟨na, ez9, hna⟩ := h9 hr1
  have hwr := hrw rr (List.mem_of_getElem? hrr)
  have hwA : -1439 ≤ rr.2.1 ∧ rr.2.1 ≤ 1439 := hwr.2.2.1 hr1
  have hwC := hwr.2.1
  obtain ⟨-, xb8, db8, hb8⟩ := zh_arr hh rq8 (show RTg[26]? = some (1, 0, 8, [(0, 0, 2)]) from rfl)
  have hyb8 : ∀ i, i < 8 → zt_ok ro (z8 i) (0, 0, 2) := zs_arr (cq8.symm.trans db8) hb8
  obtain ⟨-, xb9, db9, hb9⟩ := zh_arr hh rq9 (show RTg[27]? = some (1, 0, 8, [(0, (-1000000), 1000000)]) from rfl)
  have hyb9 : ∀ i, i < 8 → zt_ok ro (z9 i) (0, (-1000000), 1000000) := zs_arr (cq9.symm.trans db9) hb9
  obtain ⟨-, xbA, dbA, hbA⟩ := zh_arr hh rqA (show RTg[28]? = some (1, 0, 8, [(0, (-1000000), 1000000)]) from rfl)
  have hybA : ∀ i, i < 8 → zt_ok ro (zA i) (0, (-1000000), 1000000) := zs_arr (cqA.symm.trans dbA) hbA
  obtain ⟨-, xbB, dbB, hbB⟩ := zh_arr hh rqB (show RTg[29]? = some (1, 0, 80, [(0, (-1000000), 1000000)]) from rfl)
  have hybB : ∀ i, i < 80 → zt_ok ro (zB i) (0, (-1000000), 1000000) := zs_arr (cqB.symm.trans dbB) hbB
  refine lv_aload_n hx hb (eX12_ruleOffset (0, .aload_n 0, 1) (List.mem_of_getElem? (i := 0) rfl)) rfl (lv_at hl 0 rfl) ?_
  refine tz_get (r := 11) (k := 8) (t := (56, 0, 0)) hx hb hh ha rfl rfl (hcl11 28 8 (56, 0, 0) (by decide) rfl).1 fq8 (eX12_ruleOffset (1, .getfield 28, 3) (List.mem_of_getElem? (i := 1) rfl)) ?_
  refine lv_iload_n hx hb (eX12_ruleOffset (4, .iload_n 1, 1) (List.mem_of_getElem? (i := 2) rfl)) rfl (lv_at hl 1 rfl) ?_
  refine tz_iald hx hb (zAr hKn.1 0 (by decide)) cq8 (by omega) (by omega) (eX12_ruleOffset (5, .iaload, 1) (List.mem_of_getElem? (i := 3) rfl)) ?_
  rw [show zi.toNatClampNeg = i0 by show zi.toInt.toNat = _; omega, ez8]
  refine ff_iconst hx hb (eX12_ruleOffset (6, .iconst 1, 1) (List.mem_of_getElem? (i := 4) rfl)) (by decide) (by decide) (fun v1 e1 => ?_)
  refine ff_icmp_ne hx hb (eX12_ruleOffset (7, .if_icmp .ne 10, 3) (List.mem_of_getElem? (i := 5) rfl)) (tgt := 17) rfl (fun c2 => ?_) (fun c2 => ?_)
  · skip
    have hr2 : rr.1 = 2 := by omega
    obtain ⟨⟨nb, ezA, hnb⟩, hdn0, hdn1⟩ := hA hr2
    obtain ⟨⟨hwB1, hwB2⟩, hdw0, hdw1⟩ := hwr.2.2.2 hr2
    refine lv_aload_n hx hb (eX12_ruleOffset (17, .aload_n 0, 1) (List.mem_of_getElem? (i := 11) rfl)) rfl (lv_at hl 0 rfl) ?_
    refine lv_lload_n hx hb (eX12_ruleOffset (18, .lload_n 2, 1) (List.mem_of_getElem? (i := 12) rfl)) rfl (lv_at hl 2 rfl) ?_
    refine lv_aload_n hx hb (eX12_ruleOffset (19, .aload_n 0, 1) (List.mem_of_getElem? (i := 13) rfl)) rfl (lv_at hl 0 rfl) ?_
    refine tz_get (r := 11) (k := 9) (t := (58, 0, 0)) hx hb hh ha rfl rfl (hcl11 31 9 (58, 0, 0) (by decide) rfl).1 fq9 (eX12_ruleOffset (20, .getfield 31, 3) (List.mem_of_getElem? (i := 14) rfl)) ?_
    refine lv_iload_n hx hb (eX12_ruleOffset (23, .iload_n 1, 1) (List.mem_of_getElem? (i := 15) rfl)) rfl (lv_at hl 1 rfl) ?_
    refine tz_iald hx hb (zAr hKn.1 0 (by decide)) cq9 (by omega) (by omega) (eX12_ruleOffset (24, .iaload, 1) (List.mem_of_getElem? (i := 16) rfl)) ?_
    rw [show zi.toNatClampNeg = i0 by show zi.toInt.toNat = _; omega, ez9]
    refine ff_i2l hx hb (eX12_ruleOffset (25, .i2l, 1) (List.mem_of_getElem? (i := 17) rfl)) (fun v3 e3 => ?_)
    refine ff_ladd hx hb (eX12_ruleOffset (26, .ladd, 1) (List.mem_of_getElem? (i := 18) rfl)) (by omega) (by omega) (fun v4 e4 => ?_)
    refine ff_ldc2 (n := 1440) hx hb hown h2 (clX12_ok 180 1440 (List.mem_of_getElem? (i := 21) rfl)) (eX12_ruleOffset (27, .ldc2_w 180, 3) (List.mem_of_getElem? (i := 19) rfl)) (fun v5 e5 => ?_)
    refine zu_S (vs := [.long v4, .long v5]) (rest := [.ref a]) hx hb hml hown hts0 zu_BT (hX12_down1440 l v4 v5 (by omega) (by omega) (by omega)) ⟨rfl, rfl⟩ ⟨by decide, by decide⟩ ⟨by decide, by decide⟩ (tb_6 139 rfl rfl) (tb_1 12 rfl rfl) (tb_6 137 rfl rfl) (tb_6 138 rfl rfl) (show yX12_down.cls ≠ "java/lang/invoke/MethodHandle" ∧ yX12_down.cls ≠ "java/lang/invoke/VarHandle" ∧ (parseMethodDescriptor yX12_down.desc).map (fun d => d.parameters.length) = some 2 by decide +kernel) rfl (fun _ _ _ => trivial) hl.1 (Nat.le_of_ble_eq_true rfl) (eX12_ruleOffset (30, .invokestatic 99, 3) (List.mem_of_getElem? (i := 20) rfl)) (fun w6 f6 => ?_)
    obtain ⟨v6, rfl, e6⟩ := f6
    refine tz_rowV (As := [.long v6]) (st := []) (b := a) (C := RX12) (Ts := gT) hx hb hml hown h2 (fun _ h => h) (hX12_civilQ l D cA ro sz H0 a v6 R ha (by omega) (by omega)) ⟨rfl, rfl⟩ ⟨by decide, by decide⟩ ⟨by decide, by decide⟩ (tb_7 71 rfl rfl) (tb_1 12 rfl rfl) (tb_7 68 rfl rfl) (tb_7 70 rfl rfl) (tb_0 6 rfl rfl) (show yX12_civil.cls ≠ "java/lang/invoke/MethodHandle" ∧ yX12_civil.cls ≠ "java/lang/invoke/VarHandle" ∧ (parseMethodDescriptor yX12_civil.desc).map (fun d => d.parameters.length) = some 1 by decide +kernel) zs_blind (zs_ob hh ha (show RTg[11]? = some (0, 11, 0, fsX12) from rfl) (zCX12 hKn.1)) (fun U hU hW => ⟨rfl, by rw [hU]; exact hh.l0, zKb s U hW.alike hKn, by rw [hU]; exact hJ⟩) hh.2.2.1 hl.1 (Nat.le_of_ble_eq_true rfl) (eX12_ruleOffset (33, .invokevirtual 146, 3) (List.mem_of_getElem? (i := 21) rfl)) (fun r7 s7 t7 lo7 g7 f7 l7 => ?_)
    obtain ⟨q7, z7, -, c7, y7, m7, d7, fy, -, -, hcv⟩ := f7
    cases q7
    rw [g7] at c7
    have hh7 : zh_ok D cA RTg ro sz H0 t7.heap lo7 := ⟨z7.1, z7.2.1, l7, z7.2.2.2⟩
    have kp7 := kp0.trans (c7.mono (ms' := [(11, 18), (11, 19), (11, 20)]) (by decide))
    have mf7_a_8 := (c7.1 a 11 8 11 0 fsX12 ha rfl (by decide) (by decide)).trans fq8
    have mf7_a_9 := (c7.1 a 11 9 11 0 fsX12 ha rfl (by decide) (by decide)).trans fq9
    have mf7_a_10 := (c7.1 a 11 10 11 0 fsX12 ha rfl (by decide) (by decide)).trans fqA
    have mf7_a_11 := (c7.1 a 11 11 11 0 fsX12 ha rfl (by decide) (by decide)).trans fqB
    have mc7_b8 := (c7.2 b8 26 0 0 8 _ rq8 rfl (by decide)).trans cq8
    have mc7_b9 := (c7.2 b9 27 0 0 8 _ rq9 rfl (by decide)).trans cq9
    have mc7_bA := (c7.2 bA 28 0 0 8 _ rqA rfl (by decide)).trans cqA
    have mc7_bB := (c7.2 bB 29 0 0 80 _ rqB rfl (by decide)).trans cqB
    have hiy := nu_isY hcv.1 hcv.2.1 hcv.2.2.1 hcv.2.2.2.1
    rw [hcv.2.2.2.2] at hiy
    have hyw := isY_w hiy (by omega) (by omega)
    have hyr : yrI ((m0.toInt + rr.2.1) / 1440) = y7.toInt := yrI_eq (by rw [show (m0.toInt + rr.2.1) / 1440 = v6.toInt by omega]; exact hiy)
    have hysb := ysI_bd (y := y7.toInt) (by omega) (by omega)
    refine W.eq (g2 := F0 m 36 ls []) rfl ?_
    refine lv_aload_n hx hb (eX12_ruleOffset (36, .aload_n 0, 1) (List.mem_of_getElem? (i := 22) rfl)) rfl (lv_at hl 0 rfl) ?_
    refine tz_get (r := 11) (k := 18) (t := (1, (-9223372036854775808), 9223372036854775807)) hx hb hh7 ha rfl rfl (hcl11 127 18 (1, (-9223372036854775808), 9223372036854775807) (by decide) rfl).1 fy (eX12_ruleOffset (37, .getfield 127, 3) (List.mem_of_getElem? (i := 23) rfl)) ?_
    refine lv_lstore hx hb (eX12_ruleOffset (40, .lstore 4, 2) (List.mem_of_getElem? (i := 24) rfl)) hl (by decide) rfl (fun ls8 hl8 => ?_)
    refine lv_aload_n hx hb (eX12_ruleOffset (42, .aload_n 0, 1) (List.mem_of_getElem? (i := 25) rfl)) rfl (lv_at hl8 1 rfl) ?_
    refine lv_iload_n hx hb (eX12_ruleOffset (43, .iload_n 1, 1) (List.mem_of_getElem? (i := 26) rfl)) rfl (lv_at hl8 2 rfl) ?_
    refine ff_iconst hx hb (eX12_ruleOffset (44, .iconst 0, 1) (List.mem_of_getElem? (i := 27) rfl)) (by decide) (by decide) (fun v9 e9 => ?_)
    refine lv_lload hx hb (eX12_ruleOffset (45, .lload 4, 2) (List.mem_of_getElem? (i := 28) rfl)) (lv_at hl8 0 rfl) ?_
    refine tz_rowV (As := [.int zi, .int v9, .long y7]) (st := []) (b := a) (C := RX12) (Ts := gT) hx hb hml hown h2 (fun _ h => h) (hX12_ruleMinute l D cA ro sz H0 a zi v9 y7 i0 0 rr.2.2.2.1 zB bB ha hi0 hi8 (by omega) (by decide) hdn0 hdw0 (by omega) (by omega)) ⟨rfl, rfl⟩ ⟨by decide, by decide⟩ ⟨by decide, by decide⟩ (tb_7 178 rfl rfl) (tb_1 12 rfl rfl) (tb_7 175 rfl rfl) (tb_7 177 rfl rfl) (tb_0 18 rfl rfl) (show yX12_ruleMinute.cls ≠ "java/lang/invoke/MethodHandle" ∧ yX12_ruleMinute.cls ≠ "java/lang/invoke/VarHandle" ∧ (parseMethodDescriptor yX12_ruleMinute.desc).map (fun d => d.parameters.length) = some 3 by decide +kernel) zs_blind (zs_ob hh7 ha (show RTg[11]? = some (0, 11, 0, fsX12) from rfl) (zCX12 hKn.1)) (fun U hU hW => ⟨rfl, by rw [hU]; exact hh7.l0, zKb s U hW.alike hKn, by rw [hU]; exact ⟨mf7_a_11, rqB, mc7_bB⟩⟩) hh7.2.2.1 hl8.1 (Nat.le_of_ble_eq_true rfl) (eX12_ruleOffset (47, .invokevirtual 225, 3) (List.mem_of_getElem? (i := 29) rfl)) (fun r10 s10 t10 lo10 g10 f10 l10 => ?_)
    obtain ⟨z10, v10, q10, e10⟩ := f10
    cases q10
    rw [z10, g10]
    have hh10 : zh_ok D cA RTg ro sz H0 t7.heap lo10 := ⟨hh7.1, hh7.2.1, l10, hh7.2.2.2⟩
    rw [rv_mm hdw0] at e10
    have hmb0 := mmF_bd (lp := lpI y7.toInt) hdw0 hysb.1 hysb.2
    refine W.eq (g2 := F0 m 50 ls8 [.long v10]) rfl ?_
    refine lv_aload_n hx hb (eX12_ruleOffset (50, .aload_n 0, 1) (List.mem_of_getElem? (i := 30) rfl)) rfl (lv_at hl8 1 rfl) ?_
    refine tz_get (r := 11) (k := 9) (t := (58, 0, 0)) hx hb hh10 ha rfl rfl (hcl11 31 9 (58, 0, 0) (by decide) rfl).1 mf7_a_9 (eX12_ruleOffset (51, .getfield 31, 3) (List.mem_of_getElem? (i := 31) rfl)) ?_
    refine lv_iload_n hx hb (eX12_ruleOffset (54, .iload_n 1, 1) (List.mem_of_getElem? (i := 32) rfl)) rfl (lv_at hl8 2 rfl) ?_
    refine tz_iald hx hb (zAr hKn.1 0 (by decide)) mc7_b9 (by omega) (by omega) (eX12_ruleOffset (55, .iaload, 1) (List.mem_of_getElem? (i := 33) rfl)) ?_
    rw [show zi.toNatClampNeg = i0 by show zi.toInt.toNat = _; omega, ez9]
    refine ff_i2l hx hb (eX12_ruleOffset (56, .i2l, 1) (List.mem_of_getElem? (i := 34) rfl)) (fun v11 e11 => ?_)
    refine ff_lsub hx hb (eX12_ruleOffset (57, .lsub, 1) (List.mem_of_getElem? (i := 35) rfl)) (by omega) (by omega) (fun v12 e12 => ?_)
    refine lv_lstore hx hb (eX12_ruleOffset (58, .lstore 6, 2) (List.mem_of_getElem? (i := 36) rfl)) hl8 (by decide) rfl (fun ls13 hl13 => ?_)
    refine lv_aload_n hx hb (eX12_ruleOffset (60, .aload_n 0, 1) (List.mem_of_getElem? (i := 37) rfl)) rfl (lv_at hl13 2 rfl) ?_
    refine lv_iload_n hx hb (eX12_ruleOffset (61, .iload_n 1, 1) (List.mem_of_getElem? (i := 38) rfl)) rfl (lv_at hl13 3 rfl) ?_
    refine ff_iconst hx hb (eX12_ruleOffset (62, .iconst 1, 1) (List.mem_of_getElem? (i := 39) rfl)) (by decide) (by decide) (fun v14 e14 => ?_)
    refine lv_lload hx hb (eX12_ruleOffset (63, .lload 4, 2) (List.mem_of_getElem? (i := 40) rfl)) (lv_at hl13 1 rfl) ?_
    refine tz_rowV (As := [.int zi, .int v14, .long y7]) (st := []) (b := a) (C := RX12) (Ts := gT) hx hb hml hown h2 (fun _ h => h) (hX12_ruleMinute l D cA ro sz H0 a zi v14 y7 i0 1 rr.2.2.2.2 zB bB ha hi0 hi8 (by omega) (by decide) hdn1 hdw1 (by omega) (by omega)) ⟨rfl, rfl⟩ ⟨by decide, by decide⟩ ⟨by decide, by decide⟩ (tb_7 178 rfl rfl) (tb_1 12 rfl rfl) (tb_7 175 rfl rfl) (tb_7 177 rfl rfl) (tb_0 18 rfl rfl) (show yX12_ruleMinute.cls ≠ "java/lang/invoke/MethodHandle" ∧ yX12_ruleMinute.cls ≠ "java/lang/invoke/VarHandle" ∧ (parseMethodDescriptor yX12_ruleMinute.desc).map (fun d => d.parameters.length) = some 3 by decide +kernel) zs_blind (zs_ob hh10 ha (show RTg[11]? = some (0, 11, 0, fsX12) from rfl) (zCX12 hKn.1)) (fun U hU hW => ⟨rfl, by rw [hU]; exact hh10.l0, zKb s U hW.alike hKn, by rw [hU]; exact ⟨mf7_a_11, rqB, mc7_bB⟩⟩) hh10.2.2.1 hl13.1 (Nat.le_of_ble_eq_true rfl) (eX12_ruleOffset (65, .invokevirtual 225, 3) (List.mem_of_getElem? (i := 41) rfl)) (fun r15 s15 t15 lo15 g15 f15 l15 => ?_)
    obtain ⟨z15, v15, q15, e15⟩ := f15
    cases q15
    rw [z15, g15]
    have hh15 : zh_ok D cA RTg ro sz H0 t7.heap lo15 := ⟨hh10.1, hh10.2.1, l15, hh10.2.2.2⟩
    rw [rv_mm hdw1] at e15
    have hmb1 := mmF_bd (lp := lpI y7.toInt) hdw1 hysb.1 hysb.2
    refine W.eq (g2 := F0 m 68 ls13 [.long v15]) rfl ?_
    refine lv_aload_n hx hb (eX12_ruleOffset (68, .aload_n 0, 1) (List.mem_of_getElem? (i := 42) rfl)) rfl (lv_at hl13 2 rfl) ?_
    refine tz_get (r := 11) (k := 10) (t := (60, 0, 0)) hx hb hh15 ha rfl rfl (hcl11 34 10 (60, 0, 0) (by decide) rfl).1 mf7_a_10 (eX12_ruleOffset (69, .getfield 34, 3) (List.mem_of_getElem? (i := 43) rfl)) ?_
    refine lv_iload_n hx hb (eX12_ruleOffset (72, .iload_n 1, 1) (List.mem_of_getElem? (i := 44) rfl)) rfl (lv_at hl13 3 rfl) ?_
    refine tz_iald hx hb (zAr hKn.1 0 (by decide)) mc7_bA (by omega) (by omega) (eX12_ruleOffset (73, .iaload, 1) (List.mem_of_getElem? (i := 45) rfl)) ?_
    rw [show zi.toNatClampNeg = i0 by show zi.toInt.toNat = _; omega, ezA]
    refine ff_i2l hx hb (eX12_ruleOffset (74, .i2l, 1) (List.mem_of_getElem? (i := 46) rfl)) (fun v16 e16 => ?_)
    refine ff_lsub hx hb (eX12_ruleOffset (75, .lsub, 1) (List.mem_of_getElem? (i := 47) rfl)) (by omega) (by omega) (fun v17 e17 => ?_)
    refine lv_lstore hx hb (eX12_ruleOffset (76, .lstore 8, 2) (List.mem_of_getElem? (i := 48) rfl)) hl13 (by decide) rfl (fun ls18 hl18 => ?_)
    have hfm : v12.toInt = fmF rr y7.toInt := by unfold fmF; omega
    have htm : v17.toInt = tmF rr y7.toInt := by unfold tmF; omega
    clear hmb0 hmb1
    refine lv_lload hx hb (eX12_ruleOffset (78, .lload 6, 2) (List.mem_of_getElem? (i := 49) rfl)) (lv_at hl18 1 rfl) ?_
    refine lv_lload hx hb (eX12_ruleOffset (80, .lload 8, 2) (List.mem_of_getElem? (i := 50) rfl)) (lv_at hl18 0 rfl) ?_
    refine ff_lcmp hx hb (eX12_ruleOffset (82, .lcmp, 1) (List.mem_of_getElem? (i := 51) rfl)) (fun v19 e19 => ?_)
    refine ff_if_ge hx hb (eX12_ruleOffset (83, .ifCond .ge 25, 3) (List.mem_of_getElem? (i := 52) rfl)) (tgt := 108) rfl (fun c20 => ?_) (fun c20 => ?_)
    · skip
      refine lv_lload_n hx hb (eX12_ruleOffset (108, .lload_n 2, 1) (List.mem_of_getElem? (i := 65) rfl)) rfl (lv_at hl18 5 rfl) ?_
      refine lv_lload hx hb (eX12_ruleOffset (109, .lload 6, 2) (List.mem_of_getElem? (i := 66) rfl)) (lv_at hl18 1 rfl) ?_
      refine ff_lcmp hx hb (eX12_ruleOffset (111, .lcmp, 1) (List.mem_of_getElem? (i := 67) rfl)) (fun v21 e21 => ?_)
      refine ff_if_ge hx hb (eX12_ruleOffset (112, .ifCond .ge 10, 3) (List.mem_of_getElem? (i := 68) rfl)) (tgt := 122) rfl (fun c22 => ?_) (fun c22 => ?_)
      · skip
        refine ff_iconst hx hb (eX12_ruleOffset (122, .iconst 1, 1) (List.mem_of_getElem? (i := 73) rfl)) (by decide) (by decide) (fun v23 e23 => ?_)
        refine lv_goto hx hb (eX12_ruleOffset (123, .goto 4, 3) (List.mem_of_getElem? (i := 74) rfl)) (tgt := 127) rfl ?_
        refine lv_istore hx hb (eX12_ruleOffset (127, .istore 10, 2) (List.mem_of_getElem? (i := 76) rfl)) hl18 (by decide) rfl (fun ls24 hl24 => ?_)
        refine lv_iload hx hb (eX12_ruleOffset (129, .iload 10, 2) (List.mem_of_getElem? (i := 77) rfl)) (lv_at hl24 0 rfl) ?_
        refine ff_if_eq hx hb (eX12_ruleOffset (131, .ifCond .eq 12, 3) (List.mem_of_getElem? (i := 78) rfl)) (tgt := 143) rfl (fun c25 => (by exfalso; omega)) (fun c25 => ?_)
        refine lv_aload_n hx hb (eX12_ruleOffset (134, .aload_n 0, 1) (List.mem_of_getElem? (i := 79) rfl)) rfl (lv_at hl24 4 rfl) ?_
        refine tz_get (r := 11) (k := 10) (t := (60, 0, 0)) hx hb hh15 ha rfl rfl (hcl11 34 10 (60, 0, 0) (by decide) rfl).1 mf7_a_10 (eX12_ruleOffset (135, .getfield 34, 3) (List.mem_of_getElem? (i := 80) rfl)) ?_
        refine lv_iload_n hx hb (eX12_ruleOffset (138, .iload_n 1, 1) (List.mem_of_getElem? (i := 81) rfl)) rfl (lv_at hl24 5 rfl) ?_
        refine tz_iald hx hb (zAr hKn.1 0 (by decide)) mc7_bA (by omega) (by omega) (eX12_ruleOffset (139, .iaload, 1) (List.mem_of_getElem? (i := 82) rfl)) ?_
        rw [show zi.toNatClampNeg = i0 by show zi.toInt.toNat = _; omega, ezA]
        refine lv_goto hx hb (eX12_ruleOffset (140, .goto 9, 3) (List.mem_of_getElem? (i := 83) rfl)) (tgt := 149) rfl ?_
        exact W.zret hx hb hr rfl (fun t ht hW => ⟨_, rfl, by unfold roF; rw [if_neg (by omega), hyr]; unfold oyF; rw [← hfm, ← htm]; first | (rw [if_pos (inB_iff.mpr (by omega))]; omega) | (rw [if_neg (fun q => by have q9 := inB_iff.mp q; omega)]; omega), by rw [ht]; exact hh15.l0, by rw [ht]; exact kp7⟩) hh15.2.2.1 (eX12_ruleOffset (149, .ireturn, 1) (List.mem_of_getElem? (i := 88) rfl))
      · skip
        refine lv_lload_n hx hb (eX12_ruleOffset (115, .lload_n 2, 1) (List.mem_of_getElem? (i := 69) rfl)) rfl (lv_at hl18 5 rfl) ?_
        refine lv_lload hx hb (eX12_ruleOffset (116, .lload 8, 2) (List.mem_of_getElem? (i := 70) rfl)) (lv_at hl18 0 rfl) ?_
        refine ff_lcmp hx hb (eX12_ruleOffset (118, .lcmp, 1) (List.mem_of_getElem? (i := 71) rfl)) (fun v26 e26 => ?_)
        refine ff_if_ge hx hb (eX12_ruleOffset (119, .ifCond .ge 7, 3) (List.mem_of_getElem? (i := 72) rfl)) (tgt := 126) rfl (fun c27 => ?_) (fun c27 => ?_)
        · skip
          refine ff_iconst hx hb (eX12_ruleOffset (126, .iconst 0, 1) (List.mem_of_getElem? (i := 75) rfl)) (by decide) (by decide) (fun v28 e28 => ?_)
          refine lv_istore hx hb (eX12_ruleOffset (127, .istore 10, 2) (List.mem_of_getElem? (i := 76) rfl)) hl18 (by decide) rfl (fun ls29 hl29 => ?_)
          refine lv_iload hx hb (eX12_ruleOffset (129, .iload 10, 2) (List.mem_of_getElem? (i := 77) rfl)) (lv_at hl29 0 rfl) ?_
          refine ff_if_eq hx hb (eX12_ruleOffset (131, .ifCond .eq 12, 3) (List.mem_of_getElem? (i := 78) rfl)) (tgt := 143) rfl (fun c30 => ?_) (fun c30 => (by exfalso; omega))
          refine lv_aload_n hx hb (eX12_ruleOffset (143, .aload_n 0, 1) (List.mem_of_getElem? (i := 84) rfl)) rfl (lv_at hl29 4 rfl) ?_
          refine tz_get (r := 11) (k := 9) (t := (58, 0, 0)) hx hb hh15 ha rfl rfl (hcl11 31 9 (58, 0, 0) (by decide) rfl).1 mf7_a_9 (eX12_ruleOffset (144, .getfield 31, 3) (List.mem_of_getElem? (i := 85) rfl)) ?_
          refine lv_iload_n hx hb (eX12_ruleOffset (147, .iload_n 1, 1) (List.mem_of_getElem? (i := 86) rfl)) rfl (lv_at hl29 5 rfl) ?_
          refine tz_iald hx hb (zAr hKn.1 0 (by decide)) mc7_b9 (by omega) (by omega) (eX12_ruleOffset (148, .iaload, 1) (List.mem_of_getElem? (i := 87) rfl)) ?_
          rw [show zi.toNatClampNeg = i0 by show zi.toInt.toNat = _; omega, ez9]
          exact W.zret hx hb hr rfl (fun t ht hW => ⟨_, rfl, by unfold roF; rw [if_neg (by omega), hyr]; unfold oyF; rw [← hfm, ← htm]; first | (rw [if_pos (inB_iff.mpr (by omega))]; omega) | (rw [if_neg (fun q => by have q9 := inB_iff.mp q; omega)]; omega), by rw [ht]; exact hh15.l0, by rw [ht]; exact kp7⟩) hh15.2.2.1 (eX12_ruleOffset (149, .ireturn, 1) (List.mem_of_getElem? (i := 88) rfl))
        · skip
          refine ff_iconst hx hb (eX12_ruleOffset (122, .iconst 1, 1) (List.mem_of_getElem? (i := 73) rfl)) (by decide) (by decide) (fun v31 e31 => ?_)
          refine lv_goto hx hb (eX12_ruleOffset (123, .goto 4, 3) (List.mem_of_getElem? (i := 74) rfl)) (tgt := 127) rfl ?_
          refine lv_istore hx hb (eX12_ruleOffset (127, .istore 10, 2) (List.mem_of_getElem? (i := 76) rfl)) hl18 (by decide) rfl (fun ls32 hl32 => ?_)
          refine lv_iload hx hb (eX12_ruleOffset (129, .iload 10, 2) (List.mem_of_getElem? (i := 77) rfl)) (lv_at hl32 0 rfl) ?_
          refine ff_if_eq hx hb (eX12_ruleOffset (131, .ifCond .eq 12, 3) (List.mem_of_getElem? (i := 78) rfl)) (tgt := 143) rfl (fun c33 => (by exfalso; omega)) (fun c33 => ?_)
          refine lv_aload_n hx hb (eX12_ruleOffset (134, .aload_n 0, 1) (List.mem_of_getElem? (i := 79) rfl)) rfl (lv_at hl32 4 rfl) ?_
          refine tz_get (r := 11) (k := 10) (t := (60, 0, 0)) hx hb hh15 ha rfl rfl (hcl11 34 10 (60, 0, 0) (by decide) rfl).1 mf7_a_10 (eX12_ruleOffset (135, .getfield 34, 3) (List.mem_of_getElem? (i := 80) rfl)) ?_
          refine lv_iload_n hx hb (eX12_ruleOffset (138, .iload_n 1, 1) (List.mem_of_getElem? (i := 81) rfl)) rfl (lv_at hl32 5 rfl) ?_
          refine tz_iald hx hb (zAr hKn.1 0 (by decide)) mc7_bA (by omega) (by omega) (eX12_ruleOffset (139, .iaload, 1) (List.mem_of_getElem? (i := 82) rfl)) ?_
          rw [show zi.toNatClampNeg = i0 by show zi.toInt.toNat = _; omega, ezA]
          refine lv_goto hx hb (eX12_ruleOffset (140, .goto 9, 3) (List.mem_of_getElem? (i := 83) rfl)) (tgt := 149) rfl ?_
          exact W.zret hx hb hr rfl (fun t ht hW => ⟨_, rfl, by unfold roF; rw [if_neg (by omega), hyr]; unfold oyF; rw [← hfm, ← htm]; first | (rw [if_pos (inB_iff.mpr (by omega))]; omega) | (rw [if_neg (fun q => by have q9 := inB_iff.mp q; omega)]; omega), by rw [ht]; exact hh15.l0, by rw [ht]; exact kp7⟩) hh15.2.2.1 (eX12_ruleOffset (149, .ireturn, 1) (List.mem_of_getElem? (i := 88) rfl))
    · skip
      refine lv_lload_n hx hb (eX12_ruleOffset (86, .lload_n 2, 1) (List.mem_of_getElem? (i := 53) rfl)) rfl (lv_at hl18 5 rfl) ?_
      refine lv_lload hx hb (eX12_ruleOffset (87, .lload 6, 2) (List.mem_of_getElem? (i := 54) rfl)) (lv_at hl18 1 rfl) ?_
      refine ff_lcmp hx hb (eX12_ruleOffset (89, .lcmp, 1) (List.mem_of_getElem? (i := 55) rfl)) (fun v34 e34 => ?_)
      refine ff_if_lt hx hb (eX12_ruleOffset (90, .ifCond .lt 14, 3) (List.mem_of_getElem? (i := 56) rfl)) (tgt := 104) rfl (fun c35 => ?_) (fun c35 => ?_)
      · skip
        refine ff_iconst hx hb (eX12_ruleOffset (104, .iconst 0, 1) (List.mem_of_getElem? (i := 63) rfl)) (by decide) (by decide) (fun v36 e36 => ?_)
        refine lv_goto hx hb (eX12_ruleOffset (105, .goto 22, 3) (List.mem_of_getElem? (i := 64) rfl)) (tgt := 127) rfl ?_
        refine lv_istore hx hb (eX12_ruleOffset (127, .istore 10, 2) (List.mem_of_getElem? (i := 76) rfl)) hl18 (by decide) rfl (fun ls37 hl37 => ?_)
        refine lv_iload hx hb (eX12_ruleOffset (129, .iload 10, 2) (List.mem_of_getElem? (i := 77) rfl)) (lv_at hl37 0 rfl) ?_
        refine ff_if_eq hx hb (eX12_ruleOffset (131, .ifCond .eq 12, 3) (List.mem_of_getElem? (i := 78) rfl)) (tgt := 143) rfl (fun c38 => ?_) (fun c38 => (by exfalso; omega))
        refine lv_aload_n hx hb (eX12_ruleOffset (143, .aload_n 0, 1) (List.mem_of_getElem? (i := 84) rfl)) rfl (lv_at hl37 4 rfl) ?_
        refine tz_get (r := 11) (k := 9) (t := (58, 0, 0)) hx hb hh15 ha rfl rfl (hcl11 31 9 (58, 0, 0) (by decide) rfl).1 mf7_a_9 (eX12_ruleOffset (144, .getfield 31, 3) (List.mem_of_getElem? (i := 85) rfl)) ?_
        refine lv_iload_n hx hb (eX12_ruleOffset (147, .iload_n 1, 1) (List.mem_of_getElem? (i := 86) rfl)) rfl (lv_at hl37 5 rfl) ?_
        refine tz_iald hx hb (zAr hKn.1 0 (by decide)) mc7_b9 (by omega) (by omega) (eX12_ruleOffset (148, .iaload, 1) (List.mem_of_getElem? (i := 87) rfl)) ?_
        rw [show zi.toNatClampNeg = i0 by show zi.toInt.toNat = _; omega, ez9]
        exact W.zret hx hb hr rfl (fun t ht hW => ⟨_, rfl, by unfold roF; rw [if_neg (by omega), hyr]; unfold oyF; rw [← hfm, ← htm]; first | (rw [if_pos (inB_iff.mpr (by omega))]; omega) | (rw [if_neg (fun q => by have q9 := inB_iff.mp q; omega)]; omega), by rw [ht]; exact hh15.l0, by rw [ht]; exact kp7⟩) hh15.2.2.1 (eX12_ruleOffset (149, .ireturn, 1) (List.mem_of_getElem? (i := 88) rfl))
      · skip
        refine lv_lload_n hx hb (eX12_ruleOffset (93, .lload_n 2, 1) (List.mem_of_getElem? (i := 57) rfl)) rfl (lv_at hl18 5 rfl) ?_
        refine lv_lload hx hb (eX12_ruleOffset (94, .lload 8, 2) (List.mem_of_getElem? (i := 58) rfl)) (lv_at hl18 0 rfl) ?_
        refine ff_lcmp hx hb (eX12_ruleOffset (96, .lcmp, 1) (List.mem_of_getElem? (i := 59) rfl)) (fun v39 e39 => ?_)
        refine ff_if_ge hx hb (eX12_ruleOffset (97, .ifCond .ge 7, 3) (List.mem_of_getElem? (i := 60) rfl)) (tgt := 104) rfl (fun c40 => ?_) (fun c40 => ?_)
        · skip
          refine ff_iconst hx hb (eX12_ruleOffset (104, .iconst 0, 1) (List.mem_of_getElem? (i := 63) rfl)) (by decide) (by decide) (fun v41 e41 => ?_)
          refine lv_goto hx hb (eX12_ruleOffset (105, .goto 22, 3) (List.mem_of_getElem? (i := 64) rfl)) (tgt := 127) rfl ?_
          refine lv_istore hx hb (eX12_ruleOffset (127, .istore 10, 2) (List.mem_of_getElem? (i := 76) rfl)) hl18 (by decide) rfl (fun ls42 hl42 => ?_)
          refine lv_iload hx hb (eX12_ruleOffset (129, .iload 10, 2) (List.mem_of_getElem? (i := 77) rfl)) (lv_at hl42 0 rfl) ?_
          refine ff_if_eq hx hb (eX12_ruleOffset (131, .ifCond .eq 12, 3) (List.mem_of_getElem? (i := 78) rfl)) (tgt := 143) rfl (fun c43 => ?_) (fun c43 => (by exfalso; omega))
          refine lv_aload_n hx hb (eX12_ruleOffset (143, .aload_n 0, 1) (List.mem_of_getElem? (i := 84) rfl)) rfl (lv_at hl42 4 rfl) ?_
          refine tz_get (r := 11) (k := 9) (t := (58, 0, 0)) hx hb hh15 ha rfl rfl (hcl11 31 9 (58, 0, 0) (by decide) rfl).1 mf7_a_9 (eX12_ruleOffset (144, .getfield 31, 3) (List.mem_of_getElem? (i := 85) rfl)) ?_
          refine lv_iload_n hx hb (eX12_ruleOffset (147, .iload_n 1, 1) (List.mem_of_getElem? (i := 86) rfl)) rfl (lv_at hl42 5 rfl) ?_
          refine tz_iald hx hb (zAr hKn.1 0 (by decide)) mc7_b9 (by omega) (by omega) (eX12_ruleOffset (148, .iaload, 1) (List.mem_of_getElem? (i := 87) rfl)) ?_
          rw [show zi.toNatClampNeg = i0 by show zi.toInt.toNat = _; omega, ez9]
          exact W.zret hx hb hr rfl (fun t ht hW => ⟨_, rfl, by unfold roF; rw [if_neg (by omega), hyr]; unfold oyF; rw [← hfm, ← htm]; first | (rw [if_pos (inB_iff.mpr (by omega))]; omega) | (rw [if_neg (fun q => by have q9 := inB_iff.mp q; omega)]; omega), by rw [ht]; exact hh15.l0, by rw [ht]; exact kp7⟩) hh15.2.2.1 (eX12_ruleOffset (149, .ireturn, 1) (List.mem_of_getElem? (i := 88) rfl))
        · skip
          refine ff_iconst hx hb (eX12_ruleOffset (100, .iconst 1, 1) (List.mem_of_getElem? (i := 61) rfl)) (by decide) (by decide) (fun v44 e44 => ?_)
          refine lv_goto hx hb (eX12_ruleOffset (101, .goto 26, 3) (List.mem_of_getElem? (i := 62) rfl)) (tgt := 127) rfl ?_
          refine lv_istore hx hb (eX12_ruleOffset (127, .istore 10, 2) (List.mem_of_getElem? (i := 76) rfl)) hl18 (by decide) rfl (fun ls45 hl45 => ?_)
          refine lv_iload hx hb (eX12_ruleOffset (129, .iload 10, 2) (List.mem_of_getElem? (i := 77) rfl)) (lv_at hl45 0 rfl) ?_
          refine ff_if_eq hx hb (eX12_ruleOffset (131, .ifCond .eq 12, 3) (List.mem_of_getElem? (i := 78) rfl)) (tgt := 143) rfl (fun c46 => (by exfalso; omega)) (fun c46 => ?_)
          refine lv_aload_n hx hb (eX12_ruleOffset (134, .aload_n 0, 1) (List.mem_of_getElem? (i := 79) rfl)) rfl (lv_at hl45 4 rfl) ?_
          refine tz_get (r := 11) (k := 10) (t := (60, 0, 0)) hx hb hh15 ha rfl rfl (hcl11 34 10 (60, 0, 0) (by decide) rfl).1 mf7_a_10 (eX12_ruleOffset (135, .getfield 34, 3) (List.mem_of_getElem? (i := 80) rfl)) ?_
          refine lv_iload_n hx hb (eX12_ruleOffset (138, .iload_n 1, 1) (List.mem_of_getElem? (i := 81) rfl)) rfl (lv_at hl45 5 rfl) ?_
          refine tz_iald hx hb (zAr hKn.1 0 (by decide)) mc7_bA (by omega) (by omega) (eX12_ruleOffset (139, .iaload, 1) (List.mem_of_getElem? (i := 82) rfl)) ?_
          rw [show zi.toNatClampNeg = i0 by show zi.toInt.toNat = _; omega, ezA]
          refine lv_goto hx hb (eX12_ruleOffset (140, .goto 9, 3) (List.mem_of_getElem? (i := 83) rfl)) (tgt := 149) rfl ?_
          exact W.zret hx hb hr rfl (fun t ht hW => ⟨_, rfl, by unfold roF; rw [if_neg (by omega), hyr]; unfold oyF; rw [← hfm, ← htm]; first | (rw [if_pos (inB_iff.mpr (by omega))]; omega) | (rw [if_neg (fun q => by have q9 := inB_iff.mp q; omega)]; omega), by rw [ht]; exact hh15.l0, by rw [ht]; exact kp7⟩) hh15.2.2.1 (eX12_ruleOffset (149, .ireturn, 1) (List.mem_of_getElem? (i := 88) rfl))
  · skip
    refine lv_aload_n hx hb (eX12_ruleOffset (10, .aload_n 0, 1) (List.mem_of_getElem? (i := 6) rfl)) rfl (lv_at hl 0 rfl) ?_
    refine tz_get (r := 11) (k := 9) (t := (58, 0, 0)) hx hb hh ha rfl rfl (hcl11 31 9 (58, 0, 0) (by decide) rfl).1 fq9 (eX12_ruleOffset (11, .getfield 31, 3) (List.mem_of_getElem? (i := 7) rfl)) ?_
    refine lv_iload_n hx hb (eX12_ruleOffset (14, .iload_n 1, 1) (List.mem_of_getElem? (i := 8) rfl)) rfl (lv_at hl 1 rfl) ?_
    refine tz_iald hx hb (zAr hKn.1 0 (by decide)) cq9 (by omega) (by omega) (eX12_ruleOffset (15, .iaload, 1) (List.mem_of_getElem? (i := 9) rfl)) ?_
    rw [show zi.toNatClampNeg = i0 by show zi.toInt.toNat = _; omega, ez9]
    exact W.zret hx hb hr rfl (fun t ht hW => ⟨_, rfl, by unfold roF; rw [if_pos (by omega)]; omega, by rw [ht]; exact hh.l0, by rw [ht]; exact kp0⟩) hh.2.2.1 (eX12_ruleOffset (16, .ireturn, 1) (List.mem_of_getElem? (i := 10) rfl))
set_option maxRecDepth 100000 in
set_option maxHeartbeats 4000000 in
theorem hX12_offsetAt (l : Launch) (D : va_G) (cA : Nat → ClassId) (ro : Nat → Option Nat) (sz : Nat) (H0 : Heap) (a : Nat) (zi : Int32) (t0 : Int64) (L : List Int) (Z : List zE) (R : List rU) (i0 : Nat) (ze : zE) (rr : rU) (ha : ro a = some 11) (hi0 : zi.toInt = (i0 : Int)) (hze : Z[i0]? = some ze) (hrr : R[i0]? = some rr) (ht1 : -32000000000000 ≤ t0.toInt) (ht2 : t0.toInt ≤ 32000000000000) : Met l yX12_offsetAt (gW yX12_offsetAt cX12_offsetAt 7 (some .int)) { frames := 4, cells := 0, slots := 0, locals := 117 } (zs_P D cA ro sz H0 (fun H => jRY D cA ro H a L (Z, R)) [.ref a, .int zi, .long t0]) (fun _ st oc t => ∃ r : Int32, oc = .returned (some (.int r)) ∧ r.toInt = ofF L ze rr t0.toInt ∧ zh_ok D cA RTg ro sz H0 t.heap [] ∧ zc_kept D RTg ro [(11, 18), (11, 19), (11, 20), (11, 21), (11, 22)] st.heap t.heap) 0 0 (zy_fr sz) := by
  refine zy_ofW (cc := cX12_offsetAt) (maxL := 7) (ret := (some .int)) (by decide +kernel) rfl ?_
  intro p e s m args below meth c s1 B hml hv
  obtain ⟨rfl, hh, hKn, hJ⟩ := hv
  have hx := B.exec
  have hb := B.bytes
  have hr := B.returns
  have hlk := B.notSynchronized
  have hts0 := atoms_spec (ws := gW yX12_offsetAt cX12_offsetAt 7 (some .int)) B.pre
  have h2 : ∀ w ∈ gT, w.before ([.ref a, .int zi, .long t0] : List Value).toArray s = true := fun w hw => hts0 w (List.mem_cons_of_mem _ hw)
  have hown : s.vm.findClass RX12 = some m.cls := findClass_of_methodNamed B.named
  have hl := lv_entry [.ref a, .int zi, .long t0] (n := 7) (Nat.le_of_ble_eq_true rfl)
  rw [lg_entry_eq]
  generalize (lg_sl [.ref a, .int zi, .long t0] ++ List.replicate (7 - (lg_sl [.ref a, .int zi, .long t0]).length) Slot.unset).toArray = ls at hl ⊢
  have b_zi := zn_i32 zi
  have b_t0 := zn_i64 t0
  have hD := zD_all h2 hKn.1
  have hcl11 := fun (idx k : Nat) (t : zt_T) (h : (idx, 11, k) ∈ gfX12) (hk : fsX12[k]? = some t) => zf_clause (ro := ro) (ms := [(11, 18), (11, 19), (11, 20), (11, 21), (11, 22)]) h2 hown hKn.1 gfX12_ok (by decide +kernel) idx 11 k 11 0 fsX12 t h rfl hk
  have kp0 : zc_kept D RTg ro [(11, 18), (11, 19), (11, 20), (11, 21), (11, 22)] s.heap s.heap := zc_kept.refl
  obtain ⟨hJz, hJq, hRl, hsr⟩ := id hJ
  have hJz : jRZ D cA ro s.heap a L Z := hJz
  have hJq : jRQ D cA ro s.heap a R := hJq
  have hRl : R.length = Z.length := hRl
  have hsr : ∀ e ∈ Z, srt e.2 := hsr
  obtain ⟨⟨la, n, z, fq2, r0, fq1, hn, hc, hz⟩, ⟨a4, a5, a6, a7, zq4, zq5, zq6, zq7, nz, ⟨fq4, rq4, cq4⟩, ⟨fq5, rq5, cq5⟩, ⟨fq6, rq6, cq6⟩, ⟨fq7, rq7, cq7⟩, fq3, hnz, hp⟩, hjl, hzw⟩ := id hJz
  have hjr := hJz.1
  have hjL := hjl.2.1
  have hzw1 := hzw.1
  obtain ⟨n9, g9, n1, n2⟩ := zh_fT (k := 1) (t := (0, 0, 40)) hh ha (show RTg[11]? = some (0, 11, 0, fsX12) from rfl) rfl
  cases fq1.symm.trans g9
  dsimp only at n1 n2
  clear g9
  obtain ⟨n9, g9, nz1, nz2⟩ := zh_fT (k := 3) (t := (0, 0, 8)) hh ha (show RTg[11]? = some (0, 11, 0, fsX12) from rfl) rfl
  cases fq3.symm.trans g9
  dsimp only at nz1 nz2
  clear g9
  obtain ⟨-, xla, dla, hla⟩ := zh_arr hh r0 (show RTg[21]? = some (1, 1, 40, [(1, (-9223372036854775808), 9223372036854775807)]) from rfl)
  have hyla : ∀ i, i < 40 → zt_ok ro (z i) (1, (-9223372036854775808), 9223372036854775807) := zs_arr (hc.symm.trans dla) hla
  obtain ⟨-, xa4, da4, ha4⟩ := zh_arr hh rq4 (show RTg[22]? = some (1, 0, 8, [(0, (-1439), 1439)]) from rfl)
  have hya4 : ∀ i, i < 8 → zt_ok ro (zq4 i) (0, (-1439), 1439) := zs_arr (cq4.symm.trans da4) ha4
  obtain ⟨-, xa5, da5, ha5⟩ := zh_arr hh rq5 (show RTg[23]? = some (1, 0, 8, [(0, 0, 60)]) from rfl)
  have hya5 : ∀ i, i < 8 → zt_ok ro (zq5 i) (0, 0, 60) := zs_arr (cq5.symm.trans da5) ha5
  obtain ⟨-, xa6, da6, ha6⟩ := zh_arr hh rq6 (show RTg[24]? = some (1, 1, 480, [(1, (-100000000000000), 100000000000000)]) from rfl)
  have hya6 : ∀ i, i < 480 → zt_ok ro (zq6 i) (1, (-100000000000000), 100000000000000) := zs_arr (cq6.symm.trans da6) ha6
  obtain ⟨-, xa7, da7, ha7⟩ := zh_arr hh rq7 (show RTg[25]? = some (1, 0, 480, [(0, (-1439), 1439)]) from rfl)
  have hya7 : ∀ i, i < 480 → zt_ok ro (zq7 i) (0, (-1439), 1439) := zs_arr (cq7.symm.trans da7) ha7
  obtain ⟨b8, b9, bA, bB, z8, z9, zA, zB, ⟨fq8, rq8, cq8⟩, ⟨fq9, rq9, cq9⟩, ⟨fqA, rqA, cqA⟩, ⟨fqB, rqB, cqB⟩, hrp, hrw⟩ := id hJq
  obtain ⟨-, xb8, db8, hb8⟩ := zh_arr hh rq8 (show RTg[26]? = some (1, 0, 8, [(0, 0, 2)]) from rfl)
  have hyb8 : ∀ i, i < 8 → zt_ok ro (z8 i) (0, 0, 2) := zs_arr (cq8.symm.trans db8) hb8
  obtain ⟨-, xb9, db9, hb9⟩ := zh_arr hh rq9 (show RTg[27]? = some (1, 0, 8, [(0, (-1000000), 1000000)]) from rfl)
  have hyb9 : ∀ i, i < 8 → zt_ok ro (z9 i) (0, (-1000000), 1000000) := zs_arr (cq9.symm.trans db9) hb9
  obtain ⟨-, xbA, dbA, hbA⟩ := zh_arr hh rqA (show RTg[28]? = some (1, 0, 8, [(0, (-1000000), 1000000)]) from rfl)
  have hybA : ∀ i, i < 8 → zt_ok ro (zA i) (0, (-1000000), 1000000) := zs_arr (cqA.symm.trans dbA) hbA
  obtain ⟨-, xbB, dbB, hbB⟩ := zh_arr hh rqB (show RTg[29]? = some (1, 0, 80, [(0, (-1000000), 1000000)]) from rfl)
  have hybB : ∀ i, i < 80 → zt_ok ro (zB i) (0, (-1000000), 1000000) := zs_arr (cqB.symm.trans dbB) hbB
  have hlt := (List.getElem?_eq_some_iff.mp hze).1
  have hle := hzw.2 ze (List.mem_of_getElem? hze)
  obtain ⟨⟨k4, ez4, hk4⟩, ⟨nc, ez5, hnc⟩, hcN⟩ := hp i0 ze hze
  obtain ⟨⟨nn, ez8, hnn⟩, -⟩ := hrp i0 rr hrr
  have hst := hsr ze (List.mem_of_getElem? hze)
  have hwr := hrw rr (List.mem_of_getElem? hrr)
  have hwN := hwr.1
  refine lv_aload_n hx hb (eX12_offsetAt (0, .aload_n 0, 1) (List.mem_of_getElem? (i := 0) rfl)) rfl (lv_at hl 0 rfl) ?_
  refine tz_get (r := 11) (k := 5) (t := (50, 0, 0)) hx hb hh ha rfl rfl (hcl11 19 5 (50, 0, 0) (by decide) rfl).1 fq5 (eX12_offsetAt (1, .getfield 19, 3) (List.mem_of_getElem? (i := 1) rfl)) ?_
  refine lv_iload_n hx hb (eX12_offsetAt (4, .iload_n 1, 1) (List.mem_of_getElem? (i := 2) rfl)) rfl (lv_at hl 1 rfl) ?_
  refine tz_iald hx hb (zAr hKn.1 0 (by decide)) cq5 (by omega) (by omega) (eX12_offsetAt (5, .iaload, 1) (List.mem_of_getElem? (i := 3) rfl)) ?_
  rw [show zi.toNatClampNeg = i0 by show zi.toInt.toNat = _; omega, ez5]
  refine lv_istore hx hb (eX12_offsetAt (6, .istore 4, 2) (List.mem_of_getElem? (i := 4) rfl)) hl (by decide) rfl (fun ls1 hl1 => ?_)
  refine lv_aload_n hx hb (eX12_offsetAt (8, .aload_n 0, 1) (List.mem_of_getElem? (i := 5) rfl)) rfl (lv_at hl1 1 rfl) ?_
  refine tz_get (r := 11) (k := 8) (t := (56, 0, 0)) hx hb hh ha rfl rfl (hcl11 28 8 (56, 0, 0) (by decide) rfl).1 fq8 (eX12_offsetAt (9, .getfield 28, 3) (List.mem_of_getElem? (i := 6) rfl)) ?_
  refine lv_iload_n hx hb (eX12_offsetAt (12, .iload_n 1, 1) (List.mem_of_getElem? (i := 7) rfl)) rfl (lv_at hl1 2 rfl) ?_
  refine tz_iald hx hb (zAr hKn.1 0 (by decide)) cq8 (by omega) (by omega) (eX12_offsetAt (13, .iaload, 1) (List.mem_of_getElem? (i := 8) rfl)) ?_
  rw [show zi.toNatClampNeg = i0 by show zi.toInt.toNat = _; omega, ez8]
  refine ff_if_le hx hb (eX12_offsetAt (14, .ifCond .le 42, 3) (List.mem_of_getElem? (i := 9) rfl)) (tgt := 56) rfl (fun c2 => ?_) (fun c2 => ?_)
  · skip
    have hby : ¬ (0 < rr.1 ∧ byR ze.2 t0.toInt) := fun g => by have g1 := g.1; omega
    refine lv_aload_n hx hb (eX12_offsetAt (56, .aload_n 0, 1) (List.mem_of_getElem? (i := 34) rfl)) rfl (lv_at hl1 1 rfl) ?_
    refine tz_get (r := 11) (k := 4) (t := (48, 0, 0)) hx hb hh ha rfl rfl (hcl11 15 4 (48, 0, 0) (by decide) rfl).1 fq4 (eX12_offsetAt (57, .getfield 15, 3) (List.mem_of_getElem? (i := 35) rfl)) ?_
    refine lv_iload_n hx hb (eX12_offsetAt (60, .iload_n 1, 1) (List.mem_of_getElem? (i := 36) rfl)) rfl (lv_at hl1 2 rfl) ?_
    refine tz_iald hx hb (zAr hKn.1 0 (by decide)) cq4 (by omega) (by omega) (eX12_offsetAt (61, .iaload, 1) (List.mem_of_getElem? (i := 37) rfl)) ?_
    rw [show zi.toNatClampNeg = i0 by show zi.toInt.toNat = _; omega, ez4]
    refine lv_istore hx hb (eX12_offsetAt (62, .istore 5, 2) (List.mem_of_getElem? (i := 38) rfl)) hl1 (by decide) rfl (fun ls3 hl3 => ?_)
    refine ff_bipush hx hb (eX12_offsetAt (64, .bipush 60, 2) (List.mem_of_getElem? (i := 39) rfl)) (by decide) (by decide) (fun v4 e4 => ?_)
    refine lv_iload_n hx hb (eX12_offsetAt (66, .iload_n 1, 1) (List.mem_of_getElem? (i := 40) rfl)) rfl (lv_at hl3 3 rfl) ?_
    refine ff_imulL hx hb (eX12_offsetAt (67, .imul, 1) (List.mem_of_getElem? (i := 41) rfl)) (e4) (by omega) (by omega) (fun v5 e5 => ?_)
    refine lv_istore hx hb (eX12_offsetAt (68, .istore 6, 2) (List.mem_of_getElem? (i := 42) rfl)) hl3 (by decide) rfl (fun ls6 hl6 => ?_)
    have loop : ∀ (n0 i : Nat) (iv ov : Int32) (ls : Array Slot) (lo0 : List Loc), zh_ok D cA RTg ro sz H0 s.heap lo0 → i + n0 = ze.2.length → iv.toInt = 60 * (i0 : Int) + (i : Int) → tbG ov.toInt (ze.2.drop i) t0.toInt = tbG ze.1 ze.2 t0.toInt → lv_has ls 7 [(6, .int iv), (5, .int ov), (0, .ref a), (1, .int zi), (2, .long t0), (4, .int nc)] → W p l e (headSpec (gW yX12_offsetAt cX12_offsetAt 7 (some .int)) { frames := 4, cells := 0, slots := 0, locals := 117 }).room s m ([.ref a, .int zi, .long t0] : List Value).toArray below meth c s.heap lo0 0 0 (MQ below (fun _ st oc t => ∃ r : Int32, oc = .returned (some (.int r)) ∧ r.toInt = ofF L ze rr t0.toInt ∧ zh_ok D cA RTg ro sz H0 t.heap [] ∧ zc_kept D RTg ro [(11, 18), (11, 19), (11, 20), (11, 21), (11, 22)] st.heap t.heap) ([.ref a, .int zi, .long t0] : List Value).toArray s 0 0 (zy_fr sz)) (F0 m 70 ls []) := by
      intro n0
      induction n0 with
      | zero =>
        intro i iv ov ls lo0 hh0 hi hiv hov hl
        rw [List.drop_eq_nil_of_le (show ze.2.length ≤ i by omega)] at hov
        have hov : ov.toInt = tbG ze.1 ze.2 t0.toInt := hov
        refine lv_iload hx hb (eX12_offsetAt (70, .iload 6, 2) (List.mem_of_getElem? (i := 43) rfl)) (lv_at hl 0 rfl) ?_
        refine ff_bipush hx hb (eX12_offsetAt (72, .bipush 60, 2) (List.mem_of_getElem? (i := 44) rfl)) (by decide) (by decide) (fun v7 e7 => ?_)
        refine lv_iload_n hx hb (eX12_offsetAt (74, .iload_n 1, 1) (List.mem_of_getElem? (i := 45) rfl)) rfl (lv_at hl 3 rfl) ?_
        refine ff_imulL hx hb (eX12_offsetAt (75, .imul, 1) (List.mem_of_getElem? (i := 46) rfl)) (e7) (by omega) (by omega) (fun v8 e8 => ?_)
        refine lv_iload hx hb (eX12_offsetAt (76, .iload 4, 2) (List.mem_of_getElem? (i := 47) rfl)) (lv_at hl 5 rfl) ?_
        refine ff_iadd hx hb (eX12_offsetAt (78, .iadd, 1) (List.mem_of_getElem? (i := 48) rfl)) (by omega) (by omega) (fun v9 e9 => ?_)
        refine ff_icmp_ge hx hb (eX12_offsetAt (79, .if_icmp .ge 35, 3) (List.mem_of_getElem? (i := 49) rfl)) (tgt := 114) rfl (fun c10 => ?_) (fun c10 => (by exfalso; omega))
        refine lv_iload hx hb (eX12_offsetAt (114, .iload 5, 2) (List.mem_of_getElem? (i := 66) rfl)) (lv_at hl 1 rfl) ?_
        exact W.zret hx hb hr rfl (fun t ht hW => ⟨_, rfl, by unfold ofF; rw [if_neg hby, tb_same hst]; exact hov, by rw [ht]; exact hh0.l0, by rw [ht]; exact kp0⟩) hh0.2.2.1 (eX12_offsetAt (116, .ireturn, 1) (List.mem_of_getElem? (i := 67) rfl))
      | succ n0 ih =>
        intro i iv ov ls lo0 hh0 hi hiv hov hl
        obtain ⟨tv, wv, hy1, hw1, hC1⟩ := hcN i (by omega)
        have hy2 : zq6 (60 * i0 + i) = .long tv := hy1
        have hw2 : zq7 (60 * i0 + i) = .int wv := hw1
        rw [List.drop_eq_getElem_cons (show i < ze.2.length by omega), (List.getElem?_eq_some_iff.mp hC1).2] at hov
        have hov : tbG (if tv.toInt ≤ t0.toInt then wv.toInt else ov.toInt) (ze.2.drop (i + 1)) t0.toInt = tbG ze.1 ze.2 t0.toInt := hov
        refine lv_iload hx hb (eX12_offsetAt (70, .iload 6, 2) (List.mem_of_getElem? (i := 43) rfl)) (lv_at hl 0 rfl) ?_
        refine ff_bipush hx hb (eX12_offsetAt (72, .bipush 60, 2) (List.mem_of_getElem? (i := 44) rfl)) (by decide) (by decide) (fun v11 e11 => ?_)
        refine lv_iload_n hx hb (eX12_offsetAt (74, .iload_n 1, 1) (List.mem_of_getElem? (i := 45) rfl)) rfl (lv_at hl 3 rfl) ?_
        refine ff_imulL hx hb (eX12_offsetAt (75, .imul, 1) (List.mem_of_getElem? (i := 46) rfl)) (e11) (by omega) (by omega) (fun v12 e12 => ?_)
        refine lv_iload hx hb (eX12_offsetAt (76, .iload 4, 2) (List.mem_of_getElem? (i := 47) rfl)) (lv_at hl 5 rfl) ?_
        refine ff_iadd hx hb (eX12_offsetAt (78, .iadd, 1) (List.mem_of_getElem? (i := 48) rfl)) (by omega) (by omega) (fun v13 e13 => ?_)
        refine ff_icmp_ge hx hb (eX12_offsetAt (79, .if_icmp .ge 35, 3) (List.mem_of_getElem? (i := 49) rfl)) (tgt := 114) rfl (fun c14 => (by exfalso; omega)) (fun c14 => ?_)
        refine lv_aload_n hx hb (eX12_offsetAt (82, .aload_n 0, 1) (List.mem_of_getElem? (i := 50) rfl)) rfl (lv_at hl 2 rfl) ?_
        refine tz_get (r := 11) (k := 6) (t := (52, 0, 0)) hx hb hh0 ha rfl rfl (hcl11 22 6 (52, 0, 0) (by decide) rfl).1 fq6 (eX12_offsetAt (83, .getfield 22, 3) (List.mem_of_getElem? (i := 51) rfl)) ?_
        refine lv_iload hx hb (eX12_offsetAt (86, .iload 6, 2) (List.mem_of_getElem? (i := 52) rfl)) (lv_at hl 0 rfl) ?_
        refine tz_lald hx hb (zAr hKn.1 1 (by decide)) cq6 (by omega) (by omega) (eX12_offsetAt (88, .laload, 1) (List.mem_of_getElem? (i := 53) rfl)) ?_
        rw [show iv.toNatClampNeg = 60 * i0 + i by show iv.toInt.toNat = _; omega, hy2]
        refine lv_lload_n hx hb (eX12_offsetAt (89, .lload_n 2, 1) (List.mem_of_getElem? (i := 54) rfl)) rfl (lv_at hl 4 rfl) ?_
        refine ff_lcmp hx hb (eX12_offsetAt (90, .lcmp, 1) (List.mem_of_getElem? (i := 55) rfl)) (fun v16 e16 => ?_)
        refine ff_if_gt hx hb (eX12_offsetAt (91, .ifCond .gt 13, 3) (List.mem_of_getElem? (i := 56) rfl)) (tgt := 104) rfl (fun c17 => ?_) (fun c17 => ?_)
        · skip
          refine lv_iload hx hb (eX12_offsetAt (104, .iload 5, 2) (List.mem_of_getElem? (i := 62) rfl)) (lv_at hl 1 rfl) ?_
          refine lv_istore hx hb (eX12_offsetAt (106, .istore 5, 2) (List.mem_of_getElem? (i := 63) rfl)) hl (by decide) rfl (fun ls18 hl18 => ?_)
          refine ff_iinc (k := 1) hx hb (eX12_offsetAt (108, .iinc 6 1, 3) (List.mem_of_getElem? (i := 64) rfl)) hl18 rfl (by decide) (by decide) (by decide) (by omega) (by omega) (fun v19 e19 ls19 hl19 => ?_)
          refine lv_goto hx hb (eX12_offsetAt (111, .goto (-41), 3) (List.mem_of_getElem? (i := 65) rfl)) (tgt := 70) rfl ?_
          exact ih (i + 1) v19 ov ls19 _ hh0 (by omega) (by omega) (by first | (rw [if_pos (by omega)] at hov; exact hov) | (rw [if_neg (by omega)] at hov; exact hov)) (lv_sub hl19 [0, 1, 2, 3, 4, 5] rfl)
        · skip
          refine lv_aload_n hx hb (eX12_offsetAt (94, .aload_n 0, 1) (List.mem_of_getElem? (i := 57) rfl)) rfl (lv_at hl 2 rfl) ?_
          refine tz_get (r := 11) (k := 7) (t := (54, 0, 0)) hx hb hh0 ha rfl rfl (hcl11 25 7 (54, 0, 0) (by decide) rfl).1 fq7 (eX12_offsetAt (95, .getfield 25, 3) (List.mem_of_getElem? (i := 58) rfl)) ?_
          refine lv_iload hx hb (eX12_offsetAt (98, .iload 6, 2) (List.mem_of_getElem? (i := 59) rfl)) (lv_at hl 0 rfl) ?_
          refine tz_iald hx hb (zAr hKn.1 0 (by decide)) cq7 (by omega) (by omega) (eX12_offsetAt (100, .iaload, 1) (List.mem_of_getElem? (i := 60) rfl)) ?_
          rw [show iv.toNatClampNeg = 60 * i0 + i by show iv.toInt.toNat = _; omega, hw2]
          refine lv_goto hx hb (eX12_offsetAt (101, .goto 5, 3) (List.mem_of_getElem? (i := 61) rfl)) (tgt := 106) rfl ?_
          refine lv_istore hx hb (eX12_offsetAt (106, .istore 5, 2) (List.mem_of_getElem? (i := 63) rfl)) hl (by decide) rfl (fun ls20 hl20 => ?_)
          refine ff_iinc (k := 1) hx hb (eX12_offsetAt (108, .iinc 6 1, 3) (List.mem_of_getElem? (i := 64) rfl)) hl20 rfl (by decide) (by decide) (by decide) (by omega) (by omega) (fun v21 e21 ls21 hl21 => ?_)
          refine lv_goto hx hb (eX12_offsetAt (111, .goto (-41), 3) (List.mem_of_getElem? (i := 65) rfl)) (tgt := 70) rfl ?_
          exact ih (i + 1) v21 wv ls21 _ hh0 (by omega) (by omega) (by first | (rw [if_pos (by omega)] at hov; exact hov) | (rw [if_neg (by omega)] at hov; exact hov)) (lv_sub hl21 [0, 1, 2, 3, 4, 5] rfl)
    exact loop ze.2.length 0 v5 k4 ls6 _ hh (by omega) (by omega) (by rw [List.drop_zero, show k4.toInt = ze.1 by omega]) (lv_sub hl6 [0, 1, 3, 4, 5, 2] rfl)
  · skip
    refine lv_iload hx hb (eX12_offsetAt (17, .iload 4, 2) (List.mem_of_getElem? (i := 10) rfl)) (lv_at hl1 0 rfl) ?_
    refine ff_if_eq hx hb (eX12_offsetAt (19, .ifCond .eq 22, 3) (List.mem_of_getElem? (i := 11) rfl)) (tgt := 41) rfl (fun c22 => ?_) (fun c22 => ?_)
    · skip
      have hby : 0 < rr.1 ∧ byR ze.2 t0.toInt := ⟨by omega, byR_none (by omega)⟩
      refine lv_aload_n hx hb (eX12_offsetAt (41, .aload_n 0, 1) (List.mem_of_getElem? (i := 25) rfl)) rfl (lv_at hl1 1 rfl) ?_
      refine lv_lload_n hx hb (eX12_offsetAt (42, .lload_n 2, 1) (List.mem_of_getElem? (i := 26) rfl)) rfl (lv_at hl1 3 rfl) ?_
      refine tz_rowV (As := [.long t0]) (st := []) (b := a) (C := RX12) (Ts := gT) hx hb hml hown h2 (fun _ h => h) (hX12_read0 l D cA ro sz H0 a t0 L ha (by omega) (by omega)) ⟨rfl, rfl⟩ ⟨by decide, by decide⟩ ⟨by decide, by decide⟩ (tb_7 145 rfl rfl) (tb_1 12 rfl rfl) (tb_7 142 rfl rfl) (tb_7 144 rfl rfl) (tb_0 14 rfl rfl) (show yX12_read0.cls ≠ "java/lang/invoke/MethodHandle" ∧ yX12_read0.cls ≠ "java/lang/invoke/VarHandle" ∧ (parseMethodDescriptor yX12_read0.desc).map (fun d => d.parameters.length) = some 1 by decide +kernel) zs_blind (zs_ob hh ha (show RTg[11]? = some (0, 11, 0, fsX12) from rfl) (zCX12 hKn.1)) (fun U hU hW => ⟨rfl, by rw [hU]; exact hh.l0, zKb s U hW.alike hKn, by rw [hU]; exact hjr⟩) hh.2.2.1 hl1.1 (Nat.le_of_ble_eq_true rfl) (eX12_offsetAt (43, .invokevirtual 210, 3) (List.mem_of_getElem? (i := 27) rfl)) (fun r23 s23 t23 lo23 g23 f23 l23 => ?_)
      obtain ⟨q23, z23, c23, M7, S7, fM, -, hrd, -⟩ := f23
      cases q23
      rw [g23] at c23
      have hh23 : zh_ok D cA RTg ro sz H0 t23.heap lo23 := ⟨z23.1, z23.2.1, l23, z23.2.2.2⟩
      have kp23 := kp0.trans (c23.mono (ms' := [(11, 18), (11, 19), (11, 20), (11, 21), (11, 22)]) (by decide))
      have hmm := mtI_eq hjL hrd
      have hmb := mtI_bd hjL ht1 ht2
      have jq23 := hJq.kept ha c23 (by decide)
      refine W.eq (g2 := F0 m 46 ls1 []) rfl ?_
      refine lv_aload_n hx hb (eX12_offsetAt (46, .aload_n 0, 1) (List.mem_of_getElem? (i := 28) rfl)) rfl (lv_at hl1 1 rfl) ?_
      refine lv_iload_n hx hb (eX12_offsetAt (47, .iload_n 1, 1) (List.mem_of_getElem? (i := 29) rfl)) rfl (lv_at hl1 2 rfl) ?_
      refine lv_aload_n hx hb (eX12_offsetAt (48, .aload_n 0, 1) (List.mem_of_getElem? (i := 30) rfl)) rfl (lv_at hl1 1 rfl) ?_
      refine tz_get (r := 11) (k := 21) (t := (1, (-9223372036854775808), 9223372036854775807)) hx hb hh23 ha rfl rfl (hcl11 195 21 (1, (-9223372036854775808), 9223372036854775807) (by decide) rfl).1 fM (eX12_offsetAt (49, .getfield 195, 3) (List.mem_of_getElem? (i := 31) rfl)) ?_
      refine tz_rowV (As := [.int zi, .long M7]) (st := []) (b := a) (C := RX12) (Ts := gT) hx hb hml hown h2 (fun _ h => h) (hX12_ruleOffset l D cA ro sz H0 a zi M7 R i0 rr ha hi0 (by omega) hrr (by omega) (by omega) (by omega)) ⟨rfl, rfl⟩ ⟨by decide, by decide⟩ ⟨by decide, by decide⟩ (tb_7 174 rfl rfl) (tb_1 12 rfl rfl) (tb_7 171 rfl rfl) (tb_7 173 rfl rfl) (tb_0 17 rfl rfl) (show yX12_ruleOffset.cls ≠ "java/lang/invoke/MethodHandle" ∧ yX12_ruleOffset.cls ≠ "java/lang/invoke/VarHandle" ∧ (parseMethodDescriptor yX12_ruleOffset.desc).map (fun d => d.parameters.length) = some 2 by decide +kernel) zs_blind (zs_ob hh23 ha (show RTg[11]? = some (0, 11, 0, fsX12) from rfl) (zCX12 hKn.1)) (fun U hU hW => ⟨rfl, by rw [hU]; exact hh23.l0, zKb s U hW.alike hKn, by rw [hU]; exact jq23⟩) hh23.2.2.1 hl1.1 (Nat.le_of_ble_eq_true rfl) (eX12_offsetAt (52, .invokevirtual 229, 3) (List.mem_of_getElem? (i := 32) rfl)) (fun r24 s24 t24 lo24 g24 f24 l24 => ?_)
      obtain ⟨v24, q24, e24, z24, c24⟩ := f24
      cases q24
      rw [g24] at c24
      have hh24 : zh_ok D cA RTg ro sz H0 t24.heap lo24 := ⟨z24.1, z24.2.1, l24, z24.2.2.2⟩
      have kp24 := kp23.trans (c24.mono (ms' := [(11, 18), (11, 19), (11, 20), (11, 21), (11, 22)]) (by decide))
      refine W.eq (g2 := F0 m 55 ls1 [.int v24]) rfl ?_
      exact W.zret hx hb hr rfl (fun t ht hW => ⟨_, rfl, by unfold ofF; rw [if_pos hby, ← hmm]; omega, by rw [ht]; exact hh24.l0, by rw [ht]; exact kp24⟩) hh24.2.2.1 (eX12_offsetAt (55, .ireturn, 1) (List.mem_of_getElem? (i := 33) rfl))
    · skip
      refine lv_lload_n hx hb (eX12_offsetAt (22, .lload_n 2, 1) (List.mem_of_getElem? (i := 12) rfl)) rfl (lv_at hl1 3 rfl) ?_
      refine lv_aload_n hx hb (eX12_offsetAt (23, .aload_n 0, 1) (List.mem_of_getElem? (i := 13) rfl)) rfl (lv_at hl1 1 rfl) ?_
      refine tz_get (r := 11) (k := 6) (t := (52, 0, 0)) hx hb hh ha rfl rfl (hcl11 22 6 (52, 0, 0) (by decide) rfl).1 fq6 (eX12_offsetAt (24, .getfield 22, 3) (List.mem_of_getElem? (i := 14) rfl)) ?_
      refine ff_bipush hx hb (eX12_offsetAt (27, .bipush 60, 2) (List.mem_of_getElem? (i := 15) rfl)) (by decide) (by decide) (fun v25 e25 => ?_)
      refine lv_iload_n hx hb (eX12_offsetAt (29, .iload_n 1, 1) (List.mem_of_getElem? (i := 16) rfl)) rfl (lv_at hl1 2 rfl) ?_
      refine ff_imulL hx hb (eX12_offsetAt (30, .imul, 1) (List.mem_of_getElem? (i := 17) rfl)) (e25) (by omega) (by omega) (fun v26 e26 => ?_)
      refine lv_iload hx hb (eX12_offsetAt (31, .iload 4, 2) (List.mem_of_getElem? (i := 18) rfl)) (lv_at hl1 0 rfl) ?_
      refine ff_iadd hx hb (eX12_offsetAt (33, .iadd, 1) (List.mem_of_getElem? (i := 19) rfl)) (by omega) (by omega) (fun v27 e27 => ?_)
      refine ff_iconst hx hb (eX12_offsetAt (34, .iconst 1, 1) (List.mem_of_getElem? (i := 20) rfl)) (by decide) (by decide) (fun v28 e28 => ?_)
      refine ff_isub hx hb (eX12_offsetAt (35, .isub, 1) (List.mem_of_getElem? (i := 21) rfl)) (by omega) (by omega) (fun v29 e29 => ?_)
      refine tz_lald hx hb (zAr hKn.1 1 (by decide)) cq6 (by omega) (by omega) (eX12_offsetAt (36, .laload, 1) (List.mem_of_getElem? (i := 22) rfl)) ?_
      obtain ⟨tv, ov, hy1, -, hC1⟩ := hcN (ze.2.length - 1) (by omega)
      have hy2 : zq6 (60 * i0 + (ze.2.length - 1)) = .long tv := hy1
      rw [show v29.toNatClampNeg = 60 * i0 + (ze.2.length - 1) by show v29.toInt.toNat = _; omega, hy2]
      refine ff_lcmp hx hb (eX12_offsetAt (37, .lcmp, 1) (List.mem_of_getElem? (i := 23) rfl)) (fun v31 e31 => ?_)
      refine ff_if_lt hx hb (eX12_offsetAt (38, .ifCond .lt 18, 3) (List.mem_of_getElem? (i := 24) rfl)) (tgt := 56) rfl (fun c32 => ?_) (fun c32 => ?_)
      · skip
        have hby : ¬ (0 < rr.1 ∧ byR ze.2 t0.toInt) := fun g => by have g1 : tv.toInt ≤ t0.toInt := (byR_some hC1).mp g.2; omega
        clear hy1 hy2 hC1
        refine lv_aload_n hx hb (eX12_offsetAt (56, .aload_n 0, 1) (List.mem_of_getElem? (i := 34) rfl)) rfl (lv_at hl1 1 rfl) ?_
        refine tz_get (r := 11) (k := 4) (t := (48, 0, 0)) hx hb hh ha rfl rfl (hcl11 15 4 (48, 0, 0) (by decide) rfl).1 fq4 (eX12_offsetAt (57, .getfield 15, 3) (List.mem_of_getElem? (i := 35) rfl)) ?_
        refine lv_iload_n hx hb (eX12_offsetAt (60, .iload_n 1, 1) (List.mem_of_getElem? (i := 36) rfl)) rfl (lv_at hl1 2 rfl) ?_
        refine tz_iald hx hb (zAr hKn.1 0 (by decide)) cq4 (by omega) (by omega) (eX12_offsetAt (61, .iaload, 1) (List.mem_of_getElem? (i := 37) rfl)) ?_
        rw [show zi.toNatClampNeg = i0 by show zi.toInt.toNat = _; omega, ez4]
        refine lv_istore hx hb (eX12_offsetAt (62, .istore 5, 2) (List.mem_of_getElem? (i := 38) rfl)) hl1 (by decide) rfl (fun ls33 hl33 => ?_)
        refine ff_bipush hx hb (eX12_offsetAt (64, .bipush 60, 2) (List.mem_of_getElem? (i := 39) rfl)) (by decide) (by decide) (fun v34 e34 => ?_)
        refine lv_iload_n hx hb (eX12_offsetAt (66, .iload_n 1, 1) (List.mem_of_getElem? (i := 40) rfl)) rfl (lv_at hl33 3 rfl) ?_
        refine ff_imulL hx hb (eX12_offsetAt (67, .imul, 1) (List.mem_of_getElem? (i := 41) rfl)) (e34) (by omega) (by omega) (fun v35 e35 => ?_)
        refine lv_istore hx hb (eX12_offsetAt (68, .istore 6, 2) (List.mem_of_getElem? (i := 42) rfl)) hl33 (by decide) rfl (fun ls36 hl36 => ?_)
        have loop : ∀ (n0 i : Nat) (iv ov : Int32) (ls : Array Slot) (lo0 : List Loc), zh_ok D cA RTg ro sz H0 s.heap lo0 → i + n0 = ze.2.length → iv.toInt = 60 * (i0 : Int) + (i : Int) → tbG ov.toInt (ze.2.drop i) t0.toInt = tbG ze.1 ze.2 t0.toInt → lv_has ls 7 [(6, .int iv), (5, .int ov), (0, .ref a), (1, .int zi), (2, .long t0), (4, .int nc)] → W p l e (headSpec (gW yX12_offsetAt cX12_offsetAt 7 (some .int)) { frames := 4, cells := 0, slots := 0, locals := 117 }).room s m ([.ref a, .int zi, .long t0] : List Value).toArray below meth c s.heap lo0 0 0 (MQ below (fun _ st oc t => ∃ r : Int32, oc = .returned (some (.int r)) ∧ r.toInt = ofF L ze rr t0.toInt ∧ zh_ok D cA RTg ro sz H0 t.heap [] ∧ zc_kept D RTg ro [(11, 18), (11, 19), (11, 20), (11, 21), (11, 22)] st.heap t.heap) ([.ref a, .int zi, .long t0] : List Value).toArray s 0 0 (zy_fr sz)) (F0 m 70 ls []) := by
          intro n0
          induction n0 with
          | zero =>
            intro i iv ov ls lo0 hh0 hi hiv hov hl
            rw [List.drop_eq_nil_of_le (show ze.2.length ≤ i by omega)] at hov
            have hov : ov.toInt = tbG ze.1 ze.2 t0.toInt := hov
            refine lv_iload hx hb (eX12_offsetAt (70, .iload 6, 2) (List.mem_of_getElem? (i := 43) rfl)) (lv_at hl 0 rfl) ?_
            refine ff_bipush hx hb (eX12_offsetAt (72, .bipush 60, 2) (List.mem_of_getElem? (i := 44) rfl)) (by decide) (by decide) (fun v37 e37 => ?_)
            refine lv_iload_n hx hb (eX12_offsetAt (74, .iload_n 1, 1) (List.mem_of_getElem? (i := 45) rfl)) rfl (lv_at hl 3 rfl) ?_
            refine ff_imulL hx hb (eX12_offsetAt (75, .imul, 1) (List.mem_of_getElem? (i := 46) rfl)) (e37) (by omega) (by omega) (fun v38 e38 => ?_)
            refine lv_iload hx hb (eX12_offsetAt (76, .iload 4, 2) (List.mem_of_getElem? (i := 47) rfl)) (lv_at hl 5 rfl) ?_
            refine ff_iadd hx hb (eX12_offsetAt (78, .iadd, 1) (List.mem_of_getElem? (i := 48) rfl)) (by omega) (by omega) (fun v39 e39 => ?_)
            refine ff_icmp_ge hx hb (eX12_offsetAt (79, .if_icmp .ge 35, 3) (List.mem_of_getElem? (i := 49) rfl)) (tgt := 114) rfl (fun c40 => ?_) (fun c40 => (by exfalso; omega))
            refine lv_iload hx hb (eX12_offsetAt (114, .iload 5, 2) (List.mem_of_getElem? (i := 66) rfl)) (lv_at hl 1 rfl) ?_
            exact W.zret hx hb hr rfl (fun t ht hW => ⟨_, rfl, by unfold ofF; rw [if_neg hby, tb_same hst]; exact hov, by rw [ht]; exact hh0.l0, by rw [ht]; exact kp0⟩) hh0.2.2.1 (eX12_offsetAt (116, .ireturn, 1) (List.mem_of_getElem? (i := 67) rfl))
          | succ n0 ih =>
            intro i iv ov ls lo0 hh0 hi hiv hov hl
            obtain ⟨tv, wv, hy1, hw1, hC1⟩ := hcN i (by omega)
            have hy2 : zq6 (60 * i0 + i) = .long tv := hy1
            have hw2 : zq7 (60 * i0 + i) = .int wv := hw1
            rw [List.drop_eq_getElem_cons (show i < ze.2.length by omega), (List.getElem?_eq_some_iff.mp hC1).2] at hov
            have hov : tbG (if tv.toInt ≤ t0.toInt then wv.toInt else ov.toInt) (ze.2.drop (i + 1)) t0.toInt = tbG ze.1 ze.2 t0.toInt := hov
            refine lv_iload hx hb (eX12_offsetAt (70, .iload 6, 2) (List.mem_of_getElem? (i := 43) rfl)) (lv_at hl 0 rfl) ?_
            refine ff_bipush hx hb (eX12_offsetAt (72, .bipush 60, 2) (List.mem_of_getElem? (i := 44) rfl)) (by decide) (by decide) (fun v41 e41 => ?_)
            refine lv_iload_n hx hb (eX12_offsetAt (74, .iload_n 1, 1) (List.mem_of_getElem? (i := 45) rfl)) rfl (lv_at hl 3 rfl) ?_
            refine ff_imulL hx hb (eX12_offsetAt (75, .imul, 1) (List.mem_of_getElem? (i := 46) rfl)) (e41) (by omega) (by omega) (fun v42 e42 => ?_)
            refine lv_iload hx hb (eX12_offsetAt (76, .iload 4, 2) (List.mem_of_getElem? (i := 47) rfl)) (lv_at hl 5 rfl) ?_
            refine ff_iadd hx hb (eX12_offsetAt (78, .iadd, 1) (List.mem_of_getElem? (i := 48) rfl)) (by omega) (by omega) (fun v43 e43 => ?_)
            refine ff_icmp_ge hx hb (eX12_offsetAt (79, .if_icmp .ge 35, 3) (List.mem_of_getElem? (i := 49) rfl)) (tgt := 114) rfl (fun c44 => (by exfalso; omega)) (fun c44 => ?_)
            refine lv_aload_n hx hb (eX12_offsetAt (82, .aload_n 0, 1) (List.mem_of_getElem? (i := 50) rfl)) rfl (lv_at hl 2 rfl) ?_
            refine tz_get (r := 11) (k := 6) (t := (52, 0, 0)) hx hb hh0 ha rfl rfl (hcl11 22 6 (52, 0, 0) (by decide) rfl).1 fq6 (eX12_offsetAt (83, .getfield 22, 3) (List.mem_of_getElem? (i := 51) rfl)) ?_
            refine lv_iload hx hb (eX12_offsetAt (86, .iload 6, 2) (List.mem_of_getElem? (i := 52) rfl)) (lv_at hl 0 rfl) ?_
            refine tz_lald hx hb (zAr hKn.1 1 (by decide)) cq6 (by omega) (by omega) (eX12_offsetAt (88, .laload, 1) (List.mem_of_getElem? (i := 53) rfl)) ?_
            rw [show iv.toNatClampNeg = 60 * i0 + i by show iv.toInt.toNat = _; omega, hy2]
            refine lv_lload_n hx hb (eX12_offsetAt (89, .lload_n 2, 1) (List.mem_of_getElem? (i := 54) rfl)) rfl (lv_at hl 4 rfl) ?_
            refine ff_lcmp hx hb (eX12_offsetAt (90, .lcmp, 1) (List.mem_of_getElem? (i := 55) rfl)) (fun v46 e46 => ?_)
            refine ff_if_gt hx hb (eX12_offsetAt (91, .ifCond .gt 13, 3) (List.mem_of_getElem? (i := 56) rfl)) (tgt := 104) rfl (fun c47 => ?_) (fun c47 => ?_)
            · skip
              refine lv_iload hx hb (eX12_offsetAt (104, .iload 5, 2) (List.mem_of_getElem? (i := 62) rfl)) (lv_at hl 1 rfl) ?_
              refine lv_istore hx hb (eX12_offsetAt (106, .istore 5, 2) (List.mem_of_getElem? (i := 63) rfl)) hl (by decide) rfl (fun ls48 hl48 => ?_)
              refine ff_iinc (k := 1) hx hb (eX12_offsetAt (108, .iinc 6 1, 3) (List.mem_of_getElem? (i := 64) rfl)) hl48 rfl (by decide) (by decide) (by decide) (by omega) (by omega) (fun v49 e49 ls49 hl49 => ?_)
              refine lv_goto hx hb (eX12_offsetAt (111, .goto (-41), 3) (List.mem_of_getElem? (i := 65) rfl)) (tgt := 70) rfl ?_
              exact ih (i + 1) v49 ov ls49 _ hh0 (by omega) (by omega) (by first | (rw [if_pos (by omega)] at hov; exact hov) | (rw [if_neg (by omega)] at hov; exact hov)) (lv_sub hl49 [0, 1, 2, 3, 4, 5] rfl)
            · skip
              refine lv_aload_n hx hb (eX12_offsetAt (94, .aload_n 0, 1) (List.mem_of_getElem? (i := 57) rfl)) rfl (lv_at hl 2 rfl) ?_
              refine tz_get (r := 11) (k := 7) (t := (54, 0, 0)) hx hb hh0 ha rfl rfl (hcl11 25 7 (54, 0, 0) (by decide) rfl).1 fq7 (eX12_offsetAt (95, .getfield 25, 3) (List.mem_of_getElem? (i := 58) rfl)) ?_
              refine lv_iload hx hb (eX12_offsetAt (98, .iload 6, 2) (List.mem_of_getElem? (i := 59) rfl)) (lv_at hl 0 rfl) ?_
              refine tz_iald hx hb (zAr hKn.1 0 (by decide)) cq7 (by omega) (by omega) (eX12_offsetAt (100, .iaload, 1) (List.mem_of_getElem? (i := 60) rfl)) ?_
              rw [show iv.toNatClampNeg = 60 * i0 + i by show iv.toInt.toNat = _; omega, hw2]
              refine lv_goto hx hb (eX12_offsetAt (101, .goto 5, 3) (List.mem_of_getElem? (i := 61) rfl)) (tgt := 106) rfl ?_
              refine lv_istore hx hb (eX12_offsetAt (106, .istore 5, 2) (List.mem_of_getElem? (i := 63) rfl)) hl (by decide) rfl (fun ls50 hl50 => ?_)
              refine ff_iinc (k := 1) hx hb (eX12_offsetAt (108, .iinc 6 1, 3) (List.mem_of_getElem? (i := 64) rfl)) hl50 rfl (by decide) (by decide) (by decide) (by omega) (by omega) (fun v51 e51 ls51 hl51 => ?_)
              refine lv_goto hx hb (eX12_offsetAt (111, .goto (-41), 3) (List.mem_of_getElem? (i := 65) rfl)) (tgt := 70) rfl ?_
              exact ih (i + 1) v51 wv ls51 _ hh0 (by omega) (by omega) (by first | (rw [if_pos (by omega)] at hov; exact hov) | (rw [if_neg (by omega)] at hov; exact hov)) (lv_sub hl51 [0, 1, 2, 3, 4, 5] rfl)
        exact loop ze.2.length 0 v35 k4 ls36 _ hh (by omega) (by omega) (by rw [List.drop_zero, show k4.toInt = ze.1 by omega]) (lv_sub hl36 [0, 1, 3, 4, 5, 2] rfl)
      · skip
        have hby : 0 < rr.1 ∧ byR ze.2 t0.toInt := ⟨by omega, (byR_some hC1).mpr (by show tv.toInt ≤ t0.toInt; omega)⟩
        refine lv_aload_n hx hb (eX12_offsetAt (41, .aload_n 0, 1) (List.mem_of_getElem? (i := 25) rfl)) rfl (lv_at hl1 1 rfl) ?_
        refine lv_lload_n hx hb (eX12_offsetAt (42, .lload_n 2, 1) (List.mem_of_getElem? (i := 26) rfl)) rfl (lv_at hl1 3 rfl) ?_
        refine tz_rowV (As := [.long t0]) (st := []) (b := a) (C := RX12) (Ts := gT) hx hb hml hown h2 (fun _ h => h) (hX12_read0 l D cA ro sz H0 a t0 L ha (by omega) (by omega)) ⟨rfl, rfl⟩ ⟨by decide, by decide⟩ ⟨by decide, by decide⟩ (tb_7 145 rfl rfl) (tb_1 12 rfl rfl) (tb_7 142 rfl rfl) (tb_7 144 rfl rfl) (tb_0 14 rfl rfl) (show yX12_read0.cls ≠ "java/lang/invoke/MethodHandle" ∧ yX12_read0.cls ≠ "java/lang/invoke/VarHandle" ∧ (parseMethodDescriptor yX12_read0.desc).map (fun d => d.parameters.length) = some 1 by decide +kernel) zs_blind (zs_ob hh ha (show RTg[11]? = some (0, 11, 0, fsX12) from rfl) (zCX12 hKn.1)) (fun U hU hW => ⟨rfl, by rw [hU]; exact hh.l0, zKb s U hW.alike hKn, by rw [hU]; exact hjr⟩) hh.2.2.1 hl1.1 (Nat.le_of_ble_eq_true rfl) (eX12_offsetAt (43, .invokevirtual 210, 3) (List.mem_of_getElem? (i := 27) rfl)) (fun r52 s52 t52 lo52 g52 f52 l52 => ?_)
        obtain ⟨q52, z52, c52, M7, S7, fM, -, hrd, -⟩ := f52
        cases q52
        rw [g52] at c52
        have hh52 : zh_ok D cA RTg ro sz H0 t52.heap lo52 := ⟨z52.1, z52.2.1, l52, z52.2.2.2⟩
        have kp52 := kp0.trans (c52.mono (ms' := [(11, 18), (11, 19), (11, 20), (11, 21), (11, 22)]) (by decide))
        have hmm := mtI_eq hjL hrd
        have hmb := mtI_bd hjL ht1 ht2
        have jq52 := hJq.kept ha c52 (by decide)
        refine W.eq (g2 := F0 m 46 ls1 []) rfl ?_
        refine lv_aload_n hx hb (eX12_offsetAt (46, .aload_n 0, 1) (List.mem_of_getElem? (i := 28) rfl)) rfl (lv_at hl1 1 rfl) ?_
        refine lv_iload_n hx hb (eX12_offsetAt (47, .iload_n 1, 1) (List.mem_of_getElem? (i := 29) rfl)) rfl (lv_at hl1 2 rfl) ?_
        refine lv_aload_n hx hb (eX12_offsetAt (48, .aload_n 0, 1) (List.mem_of_getElem? (i := 30) rfl)) rfl (lv_at hl1 1 rfl) ?_
        refine tz_get (r := 11) (k := 21) (t := (1, (-9223372036854775808), 9223372036854775807)) hx hb hh52 ha rfl rfl (hcl11 195 21 (1, (-9223372036854775808), 9223372036854775807) (by decide) rfl).1 fM (eX12_offsetAt (49, .getfield 195, 3) (List.mem_of_getElem? (i := 31) rfl)) ?_
        refine tz_rowV (As := [.int zi, .long M7]) (st := []) (b := a) (C := RX12) (Ts := gT) hx hb hml hown h2 (fun _ h => h) (hX12_ruleOffset l D cA ro sz H0 a zi M7 R i0 rr ha hi0 (by omega) hrr (by omega) (by omega) (by omega)) ⟨rfl, rfl⟩ ⟨by decide, by decide⟩ ⟨by decide, by decide⟩ (tb_7 174 rfl rfl) (tb_1 12 rfl rfl) (tb_7 171 rfl rfl) (tb_7 173 rfl rfl) (tb_0 17 rfl rfl) (show yX12_ruleOffset.cls ≠ "java/lang/invoke/MethodHandle" ∧ yX12_ruleOffset.cls ≠ "java/lang/invoke/VarHandle" ∧ (parseMethodDescriptor yX12_ruleOffset.desc).map (fun d => d.parameters.length) = some 2 by decide +kernel) zs_blind (zs_ob hh52 ha (show RTg[11]? = some (0, 11, 0, fsX12) from rfl) (zCX12 hKn.1)) (fun U hU hW => ⟨rfl, by rw [hU]; exact hh52.l0, zKb s U hW.alike hKn, by rw [hU]; exact jq52⟩) hh52.2.2.1 hl1.1 (Nat.le_of_ble_eq_true rfl) (eX12_offsetAt (52, .invokevirtual 229, 3) (List.mem_of_getElem? (i := 32) rfl)) (fun r53 s53 t53 lo53 g53 f53 l53 => ?_)
        obtain ⟨v53, q53, e53, z53, c53⟩ := f53
        cases q53
        rw [g53] at c53
        have hh53 : zh_ok D cA RTg ro sz H0 t53.heap lo53 := ⟨z53.1, z53.2.1, l53, z53.2.2.2⟩
        have kp53 := kp52.trans (c53.mono (ms' := [(11, 18), (11, 19), (11, 20), (11, 21), (11, 22)]) (by decide))
        refine W.eq (g2 := F0 m 55 ls1 [.int v53]) rfl ?_
        exact W.zret hx hb hr rfl (fun t ht hW => ⟨_, rfl, by unfold ofF; rw [if_pos hby, ← hmm]; omega, by rw [ht]; exact hh53.l0, by rw [ht]; exact kp53⟩) hh53.2.2.1 (eX12_offsetAt (55, .ireturn, 1) (List.mem_of_getElem? (i := 33) rfl))
set_option maxRecDepth 100000 in
set_option maxHeartbeats 4000000 in
theorem hX12_offset (l : Launch) (D : va_G) (cA : Nat → ClassId) (ro : Nat → Option Nat) (sz : Nat) (H0 : Heap) (a : Nat) (zi : Int32) (t0 : Int64) (L : List Int) (Z : List zE) (R : List rU) (ha : ro a = some 11)  : Met l yX12_offset (gW yX12_offset cX12_offset 4 (some .int)) { frames := 5, cells := 0, slots := 0, locals := 143 } (zs_P D cA ro sz H0 (fun H => jRY D cA ro H a L (Z, R)) [.ref a, .int zi, .long t0]) (yy_QR D cA ro sz H0 a vI (spOY zi.toInt t0.toInt L (Z, R))) 0 0 (zy_fr sz) := by
  refine zy_ofW (cc := cX12_offset) (maxL := 4) (ret := (some .int)) (by decide +kernel) rfl ?_
  intro p e s m args below meth c s1 B hml hv
  obtain ⟨rfl, hh, hKn, hJ⟩ := hv
  have hx := B.exec
  have hb := B.bytes
  have hr := B.returns
  have hlk := B.notSynchronized
  have hts0 := atoms_spec (ws := gW yX12_offset cX12_offset 4 (some .int)) B.pre
  have h2 : ∀ w ∈ gT, w.before ([.ref a, .int zi, .long t0] : List Value).toArray s = true := fun w hw => hts0 w (List.mem_cons_of_mem _ hw)
  have hown : s.vm.findClass RX12 = some m.cls := findClass_of_methodNamed B.named
  have hl := lv_entry [.ref a, .int zi, .long t0] (n := 4) (Nat.le_of_ble_eq_true rfl)
  rw [lg_entry_eq]
  generalize (lg_sl [.ref a, .int zi, .long t0] ++ List.replicate (4 - (lg_sl [.ref a, .int zi, .long t0]).length) Slot.unset).toArray = ls at hl ⊢
  have b_zi := zn_i32 zi
  have b_t0 := zn_i64 t0
  have hD := zD_all h2 hKn.1
  have hcl11 := fun (idx k : Nat) (t : zt_T) (h : (idx, 11, k) ∈ gfX12) (hk : fsX12[k]? = some t) => zf_clause (ro := ro) (ms := yMr) h2 hown hKn.1 gfX12_ok (by decide +kernel) idx 11 k 11 0 fsX12 t h rfl hk
  have kp0 : zc_kept D RTg ro yMr s.heap s.heap := zc_kept.refl
  obtain ⟨hJz, hJq, hRl, hsr⟩ := id hJ
  have hJz : jRZ D cA ro s.heap a L Z := hJz
  have hJq : jRQ D cA ro s.heap a R := hJq
  have hRl : R.length = Z.length := hRl
  have hsr : ∀ e ∈ Z, srt e.2 := hsr
  obtain ⟨⟨la, n, z, fq2, r0, fq1, hn, hc, hz⟩, ⟨a4, a5, a6, a7, zq4, zq5, zq6, zq7, nz, ⟨fq4, rq4, cq4⟩, ⟨fq5, rq5, cq5⟩, ⟨fq6, rq6, cq6⟩, ⟨fq7, rq7, cq7⟩, fq3, hnz, hp⟩, hjl, hzw⟩ := id hJz
  have hjr := hJz.1
  have hjL := hjl.2.1
  have hzw1 := hzw.1
  obtain ⟨n9, g9, n1, n2⟩ := zh_fT (k := 1) (t := (0, 0, 40)) hh ha (show RTg[11]? = some (0, 11, 0, fsX12) from rfl) rfl
  cases fq1.symm.trans g9
  dsimp only at n1 n2
  clear g9
  obtain ⟨n9, g9, nz1, nz2⟩ := zh_fT (k := 3) (t := (0, 0, 8)) hh ha (show RTg[11]? = some (0, 11, 0, fsX12) from rfl) rfl
  cases fq3.symm.trans g9
  dsimp only at nz1 nz2
  clear g9
  obtain ⟨-, xla, dla, hla⟩ := zh_arr hh r0 (show RTg[21]? = some (1, 1, 40, [(1, (-9223372036854775808), 9223372036854775807)]) from rfl)
  have hyla : ∀ i, i < 40 → zt_ok ro (z i) (1, (-9223372036854775808), 9223372036854775807) := zs_arr (hc.symm.trans dla) hla
  obtain ⟨-, xa4, da4, ha4⟩ := zh_arr hh rq4 (show RTg[22]? = some (1, 0, 8, [(0, (-1439), 1439)]) from rfl)
  have hya4 : ∀ i, i < 8 → zt_ok ro (zq4 i) (0, (-1439), 1439) := zs_arr (cq4.symm.trans da4) ha4
  obtain ⟨-, xa5, da5, ha5⟩ := zh_arr hh rq5 (show RTg[23]? = some (1, 0, 8, [(0, 0, 60)]) from rfl)
  have hya5 : ∀ i, i < 8 → zt_ok ro (zq5 i) (0, 0, 60) := zs_arr (cq5.symm.trans da5) ha5
  obtain ⟨-, xa6, da6, ha6⟩ := zh_arr hh rq6 (show RTg[24]? = some (1, 1, 480, [(1, (-100000000000000), 100000000000000)]) from rfl)
  have hya6 : ∀ i, i < 480 → zt_ok ro (zq6 i) (1, (-100000000000000), 100000000000000) := zs_arr (cq6.symm.trans da6) ha6
  obtain ⟨-, xa7, da7, ha7⟩ := zh_arr hh rq7 (show RTg[25]? = some (1, 0, 480, [(0, (-1439), 1439)]) from rfl)
  have hya7 : ∀ i, i < 480 → zt_ok ro (zq7 i) (0, (-1439), 1439) := zs_arr (cq7.symm.trans da7) ha7
  obtain ⟨b8, b9, bA, bB, z8, z9, zA, zB, ⟨fq8, rq8, cq8⟩, ⟨fq9, rq9, cq9⟩, ⟨fqA, rqA, cqA⟩, ⟨fqB, rqB, cqB⟩, hrp, hrw⟩ := id hJq
  obtain ⟨-, xb8, db8, hb8⟩ := zh_arr hh rq8 (show RTg[26]? = some (1, 0, 8, [(0, 0, 2)]) from rfl)
  have hyb8 : ∀ i, i < 8 → zt_ok ro (z8 i) (0, 0, 2) := zs_arr (cq8.symm.trans db8) hb8
  obtain ⟨-, xb9, db9, hb9⟩ := zh_arr hh rq9 (show RTg[27]? = some (1, 0, 8, [(0, (-1000000), 1000000)]) from rfl)
  have hyb9 : ∀ i, i < 8 → zt_ok ro (z9 i) (0, (-1000000), 1000000) := zs_arr (cq9.symm.trans db9) hb9
  obtain ⟨-, xbA, dbA, hbA⟩ := zh_arr hh rqA (show RTg[28]? = some (1, 0, 8, [(0, (-1000000), 1000000)]) from rfl)
  have hybA : ∀ i, i < 8 → zt_ok ro (zA i) (0, (-1000000), 1000000) := zs_arr (cqA.symm.trans dbA) hbA
  obtain ⟨-, xbB, dbB, hbB⟩ := zh_arr hh rqB (show RTg[29]? = some (1, 0, 80, [(0, (-1000000), 1000000)]) from rfl)
  have hybB : ∀ i, i < 80 → zt_ok ro (zB i) (0, (-1000000), 1000000) := zs_arr (cqB.symm.trans dbB) hbB
  refine lv_aload_n hx hb (eX12_offset (0, .aload_n 0, 1) (List.mem_of_getElem? (i := 0) rfl)) rfl (lv_at hl 0 rfl) ?_
  refine lv_aload_n hx hb (eX12_offset (1, .aload_n 0, 1) (List.mem_of_getElem? (i := 1) rfl)) rfl (lv_at hl 0 rfl) ?_
  refine lv_iload_n hx hb (eX12_offset (2, .iload_n 1, 1) (List.mem_of_getElem? (i := 2) rfl)) rfl (lv_at hl 1 rfl) ?_
  refine tz_rowV (As := [.int zi]) (st := [.ref a]) (b := a) (C := RX12) (Ts := gT) hx hb hml hown h2 (fun _ h => h) (hX12_isZone l D cA ro sz H0 a zi nz ha) ⟨rfl, rfl⟩ ⟨by decide, by decide⟩ ⟨by decide, by decide⟩ (tb_7 162 rfl rfl) (tb_1 12 rfl rfl) (tb_7 159 rfl rfl) (tb_7 161 rfl rfl) (tb_0 15 rfl rfl) (show yX12_isZone.cls ≠ "java/lang/invoke/MethodHandle" ∧ yX12_isZone.cls ≠ "java/lang/invoke/VarHandle" ∧ (parseMethodDescriptor yX12_isZone.desc).map (fun d => d.parameters.length) = some 1 by decide +kernel) zs_blind (zs_ob hh ha (show RTg[11]? = some (0, 11, 0, fsX12) from rfl) (zCX12 hKn.1)) (fun U hU hW => ⟨rfl, by rw [hU]; exact hh.l0, zKb s U hW.alike hKn, by rw [hU]; exact fq3⟩) hh.2.2.1 hl.1 (Nat.le_of_ble_eq_true rfl) (eX12_offset (3, .invokevirtual 221, 3) (List.mem_of_getElem? (i := 3) rfl)) (fun r1 s1 t1 lo1 g1 f1 l1 => ?_)
  obtain ⟨z1, v1, q1, e1⟩ := f1
  cases q1
  rw [z1, g1]
  have hh1 : zh_ok D cA RTg ro sz H0 s.heap lo1 := ⟨hh.1, hh.2.1, l1, hh.2.2.2⟩
  refine W.eq (g2 := F0 m 6 ls [.int v1, .ref a]) rfl ?_
  refine ff_if_eq hx hb (eX12_offset (6, .ifCond .eq 11, 3) (List.mem_of_getElem? (i := 4) rfl)) (tgt := 17) rfl (fun c2 => ?_) (fun c2 => ?_)
  · skip
    refine ff_iconst hx hb (eX12_offset (17, .iconst 1, 1) (List.mem_of_getElem? (i := 9) rfl)) (by decide) (by decide) (fun v3 e3 => ?_)
    refine lv_goto hx hb (eX12_offset (18, .goto 4, 3) (List.mem_of_getElem? (i := 10) rfl)) (tgt := 22) rfl ?_
    refine tz_put (r := 11) (k := 0) (t := (0, 0, 2)) hx hb hD hh1 ha rfl rfl ((hcl11 85 0 (0, 0, 2) (by decide) rfl).2 (by decide)) (tz_i (by omega) (by omega)) (eX12_offset (22, .putfield 85, 3) (List.mem_of_getElem? (i := 12) rfl)) (fun H4 lo4 hh4 hf4 hk4 _ hq4 => ?_)
    have mf4_a_2 := (hk4.1 a 11 2 11 0 fsX12 ha rfl (by decide) (by decide)).trans fq2
    have mf4_a_1 := (hk4.1 a 11 1 11 0 fsX12 ha rfl (by decide) (by decide)).trans fq1
    have mf4_a_3 := (hk4.1 a 11 3 11 0 fsX12 ha rfl (by decide) (by decide)).trans fq3
    have mf4_a_4 := (hk4.1 a 11 4 11 0 fsX12 ha rfl (by decide) (by decide)).trans fq4
    have mf4_a_5 := (hk4.1 a 11 5 11 0 fsX12 ha rfl (by decide) (by decide)).trans fq5
    have mf4_a_6 := (hk4.1 a 11 6 11 0 fsX12 ha rfl (by decide) (by decide)).trans fq6
    have mf4_a_7 := (hk4.1 a 11 7 11 0 fsX12 ha rfl (by decide) (by decide)).trans fq7
    have mf4_a_8 := (hk4.1 a 11 8 11 0 fsX12 ha rfl (by decide) (by decide)).trans fq8
    have mf4_a_9 := (hk4.1 a 11 9 11 0 fsX12 ha rfl (by decide) (by decide)).trans fq9
    have mf4_a_10 := (hk4.1 a 11 10 11 0 fsX12 ha rfl (by decide) (by decide)).trans fqA
    have mf4_a_11 := (hk4.1 a 11 11 11 0 fsX12 ha rfl (by decide) (by decide)).trans fqB
    have mc4_la := (hk4.2 la 21 0 1 40 _ r0 rfl (by decide)).trans hc
    have mc4_a4 := (hk4.2 a4 22 0 0 8 _ rq4 rfl (by decide)).trans cq4
    have mc4_a5 := (hk4.2 a5 23 0 0 8 _ rq5 rfl (by decide)).trans cq5
    have mc4_a6 := (hk4.2 a6 24 0 1 480 _ rq6 rfl (by decide)).trans cq6
    have mc4_a7 := (hk4.2 a7 25 0 0 480 _ rq7 rfl (by decide)).trans cq7
    have mc4_b8 := (hk4.2 b8 26 0 0 8 _ rq8 rfl (by decide)).trans cq8
    have mc4_b9 := (hk4.2 b9 27 0 0 8 _ rq9 rfl (by decide)).trans cq9
    have mc4_bA := (hk4.2 bA 28 0 0 8 _ rqA rfl (by decide)).trans cqA
    have mc4_bB := (hk4.2 bB 29 0 0 80 _ rqB rfl (by decide)).trans cqB
    have kp4 := kp0.trans (hk4.mono (ms' := yMr) (fun x hx => by cases List.mem_singleton.mp hx; decide))
    have jm4 := (hJ).kept ha hk4 (by decide)
    refine lv_aload_n hx hb (eX12_offset (25, .aload_n 0, 1) (List.mem_of_getElem? (i := 13) rfl)) rfl (lv_at hl 0 rfl) ?_
    refine tz_get (r := 11) (k := 0) (t := (0, 0, 2)) hx hb hh4 ha rfl rfl (hcl11 85 0 (0, 0, 2) (by decide) rfl).1 hf4 (eX12_offset (26, .getfield 85, 3) (List.mem_of_getElem? (i := 14) rfl)) ?_
    refine ff_if_le hx hb (eX12_offset (29, .ifCond .le 7, 3) (List.mem_of_getElem? (i := 15) rfl)) (tgt := 36) rfl (fun c5 => (by exfalso; omega)) (fun c5 => ?_)
    refine ff_iconst hx hb (eX12_offset (32, .iconst 0, 1) (List.mem_of_getElem? (i := 16) rfl)) (by decide) (by decide) (fun v6 e6 => ?_)
    refine lv_goto hx hb (eX12_offset (33, .goto 9, 3) (List.mem_of_getElem? (i := 17) rfl)) (tgt := 42) rfl ?_
    exact W.zret hx hb hr rfl (fun t ht hW => ⟨_, _, _, L, (Z, R), rfl, ⟨_, rfl, rfl⟩, by rw [ht]; exact hh4.l0, by rw [ht]; exact kp4, by rw [ht]; exact hf4, by rw [ht]; exact jm4, rfl, rfl, Or.inl ⟨by omega, fun g => by have g1 := g.1; have g2 : zi.toInt < (Z.length : Int) := g.2.1; omega⟩⟩) hh4.2.2.1 (eX12_offset (42, .ireturn, 1) (List.mem_of_getElem? (i := 22) rfl))
  · skip
    refine lv_aload_n hx hb (eX12_offset (9, .aload_n 0, 1) (List.mem_of_getElem? (i := 5) rfl)) rfl (lv_at hl 0 rfl) ?_
    refine lv_lload_n hx hb (eX12_offset (10, .lload_n 2, 1) (List.mem_of_getElem? (i := 6) rfl)) rfl (lv_at hl 2 rfl) ?_
    refine tz_rowV (As := [.long t0]) (st := [.ref a]) (b := a) (C := RX12) (Ts := gT) hx hb hml hown h2 (fun _ h => h) (hX12_isInstant l D cA ro sz H0 a t0 L ha) ⟨rfl, rfl⟩ ⟨by decide, by decide⟩ ⟨by decide, by decide⟩ (tb_7 141 rfl rfl) (tb_1 12 rfl rfl) (tb_7 138 rfl rfl) (tb_7 140 rfl rfl) (tb_0 13 rfl rfl) (show yX12_isInstant.cls ≠ "java/lang/invoke/MethodHandle" ∧ yX12_isInstant.cls ≠ "java/lang/invoke/VarHandle" ∧ (parseMethodDescriptor yX12_isInstant.desc).map (fun d => d.parameters.length) = some 1 by decide +kernel) zs_blind (zs_ob hh1 ha (show RTg[11]? = some (0, 11, 0, fsX12) from rfl) (zCX12 hKn.1)) (fun U hU hW => ⟨rfl, by rw [hU]; exact hh1.l0, zKb s U hW.alike hKn, by rw [hU]; exact hjr⟩) hh1.2.2.1 hl.1 (Nat.le_of_ble_eq_true rfl) (eX12_offset (11, .invokevirtual 207, 3) (List.mem_of_getElem? (i := 7) rfl)) (fun r7 s7 t7 lo7 g7 f7 l7 => ?_)
    obtain ⟨z7, v7, q7, e7⟩ := f7
    cases q7
    rw [z7, g7]
    have hh7 : zh_ok D cA RTg ro sz H0 s.heap lo7 := ⟨hh1.1, hh1.2.1, l7, hh1.2.2.2⟩
    refine W.eq (g2 := F0 m 14 ls [.int v7, .ref a]) rfl ?_
    refine ff_if_ne hx hb (eX12_offset (14, .ifCond .ne 7, 3) (List.mem_of_getElem? (i := 8) rfl)) (tgt := 21) rfl (fun c8 => ?_) (fun c8 => ?_)
    · skip
      have htk : tOK t0.toInt L := by rcases e7 with h | h; exact h.2; exfalso; omega
      have htb : -32000000000000 ≤ t0.toInt ∧ t0.toInt ≤ 32000000000000 := by have h8 := lsI_b hjL (-365961662); have h9 := lsI_b hjL 364522972; have h7 := htk; unfold tOK at h7; omega
      have hlt : zi.toInt.toNat < Z.length := by omega
      obtain ⟨ze, hze⟩ : ∃ e9, Z[zi.toInt.toNat]? = some e9 := ⟨_, List.getElem?_eq_getElem hlt⟩
      obtain ⟨rr, hrr⟩ : ∃ e9, R[zi.toInt.toNat]? = some e9 := ⟨_, List.getElem?_eq_getElem (by omega)⟩
      refine ff_iconst hx hb (eX12_offset (21, .iconst 0, 1) (List.mem_of_getElem? (i := 11) rfl)) (by decide) (by decide) (fun v9 e9 => ?_)
      refine tz_put (r := 11) (k := 0) (t := (0, 0, 2)) hx hb hD hh7 ha rfl rfl ((hcl11 85 0 (0, 0, 2) (by decide) rfl).2 (by decide)) (tz_i (by omega) (by omega)) (eX12_offset (22, .putfield 85, 3) (List.mem_of_getElem? (i := 12) rfl)) (fun H10 lo10 hh10 hf10 hk10 _ hq10 => ?_)
      have mf10_a_2 := (hk10.1 a 11 2 11 0 fsX12 ha rfl (by decide) (by decide)).trans fq2
      have mf10_a_1 := (hk10.1 a 11 1 11 0 fsX12 ha rfl (by decide) (by decide)).trans fq1
      have mf10_a_3 := (hk10.1 a 11 3 11 0 fsX12 ha rfl (by decide) (by decide)).trans fq3
      have mf10_a_4 := (hk10.1 a 11 4 11 0 fsX12 ha rfl (by decide) (by decide)).trans fq4
      have mf10_a_5 := (hk10.1 a 11 5 11 0 fsX12 ha rfl (by decide) (by decide)).trans fq5
      have mf10_a_6 := (hk10.1 a 11 6 11 0 fsX12 ha rfl (by decide) (by decide)).trans fq6
      have mf10_a_7 := (hk10.1 a 11 7 11 0 fsX12 ha rfl (by decide) (by decide)).trans fq7
      have mf10_a_8 := (hk10.1 a 11 8 11 0 fsX12 ha rfl (by decide) (by decide)).trans fq8
      have mf10_a_9 := (hk10.1 a 11 9 11 0 fsX12 ha rfl (by decide) (by decide)).trans fq9
      have mf10_a_10 := (hk10.1 a 11 10 11 0 fsX12 ha rfl (by decide) (by decide)).trans fqA
      have mf10_a_11 := (hk10.1 a 11 11 11 0 fsX12 ha rfl (by decide) (by decide)).trans fqB
      have mc10_la := (hk10.2 la 21 0 1 40 _ r0 rfl (by decide)).trans hc
      have mc10_a4 := (hk10.2 a4 22 0 0 8 _ rq4 rfl (by decide)).trans cq4
      have mc10_a5 := (hk10.2 a5 23 0 0 8 _ rq5 rfl (by decide)).trans cq5
      have mc10_a6 := (hk10.2 a6 24 0 1 480 _ rq6 rfl (by decide)).trans cq6
      have mc10_a7 := (hk10.2 a7 25 0 0 480 _ rq7 rfl (by decide)).trans cq7
      have mc10_b8 := (hk10.2 b8 26 0 0 8 _ rq8 rfl (by decide)).trans cq8
      have mc10_b9 := (hk10.2 b9 27 0 0 8 _ rq9 rfl (by decide)).trans cq9
      have mc10_bA := (hk10.2 bA 28 0 0 8 _ rqA rfl (by decide)).trans cqA
      have mc10_bB := (hk10.2 bB 29 0 0 80 _ rqB rfl (by decide)).trans cqB
      have kp10 := kp0.trans (hk10.mono (ms' := yMr) (fun x hx => by cases List.mem_singleton.mp hx; decide))
      have jm10 := (hJ).kept ha hk10 (by decide)
      refine lv_aload_n hx hb (eX12_offset (25, .aload_n 0, 1) (List.mem_of_getElem? (i := 13) rfl)) rfl (lv_at hl 0 rfl) ?_
      refine tz_get (r := 11) (k := 0) (t := (0, 0, 2)) hx hb hh10 ha rfl rfl (hcl11 85 0 (0, 0, 2) (by decide) rfl).1 hf10 (eX12_offset (26, .getfield 85, 3) (List.mem_of_getElem? (i := 14) rfl)) ?_
      refine ff_if_le hx hb (eX12_offset (29, .ifCond .le 7, 3) (List.mem_of_getElem? (i := 15) rfl)) (tgt := 36) rfl (fun c11 => ?_) (fun c11 => (by exfalso; omega))
      refine lv_aload_n hx hb (eX12_offset (36, .aload_n 0, 1) (List.mem_of_getElem? (i := 18) rfl)) rfl (lv_at hl 0 rfl) ?_
      refine lv_iload_n hx hb (eX12_offset (37, .iload_n 1, 1) (List.mem_of_getElem? (i := 19) rfl)) rfl (lv_at hl 1 rfl) ?_
      refine lv_lload_n hx hb (eX12_offset (38, .lload_n 2, 1) (List.mem_of_getElem? (i := 20) rfl)) rfl (lv_at hl 2 rfl) ?_
      refine tz_rowV (As := [.int zi, .long t0]) (st := []) (b := a) (C := RX12) (Ts := gT) hx hb hml hown h2 (fun _ h => h) (hX12_offsetAt l D cA ro sz H0 a zi t0 L Z R zi.toInt.toNat ze rr ha (by omega) hze hrr (by omega) (by omega)) ⟨rfl, rfl⟩ ⟨by decide, by decide⟩ ⟨by decide, by decide⟩ (tb_7 170 rfl rfl) (tb_1 12 rfl rfl) (tb_7 167 rfl rfl) (tb_7 169 rfl rfl) (tb_0 16 rfl rfl) (show yX12_offsetAt.cls ≠ "java/lang/invoke/MethodHandle" ∧ yX12_offsetAt.cls ≠ "java/lang/invoke/VarHandle" ∧ (parseMethodDescriptor yX12_offsetAt.desc).map (fun d => d.parameters.length) = some 2 by decide +kernel) zs_blind (zs_ob hh10 ha (show RTg[11]? = some (0, 11, 0, fsX12) from rfl) (zCX12 hKn.1)) (fun U hU hW => ⟨rfl, by rw [hU]; exact hh10.l0, zKb s U hW.alike hKn, by rw [hU]; exact jm10⟩) hh10.2.2.1 hl.1 (Nat.le_of_ble_eq_true rfl) (eX12_offset (39, .invokevirtual 233, 3) (List.mem_of_getElem? (i := 21) rfl)) (fun r12 s12 t12 lo12 g12 f12 l12 => ?_)
      obtain ⟨v12, q12, e12, z12, c12⟩ := f12
      cases q12
      rw [g12] at c12
      have hh12 : zh_ok D cA RTg ro sz H0 t12.heap lo12 := ⟨z12.1, z12.2.1, l12, z12.2.2.2⟩
      have kp12 := kp10.trans (c12.mono (ms' := yMr) (by decide))
      have jy12 := jm10.kept ha c12 (by decide)
      have f012 := (c12.1 a 11 0 11 0 fsX12 ha rfl (by decide) (by decide)).trans hf10
      refine W.eq (g2 := F0 m 42 ls [.int v12]) rfl ?_
      exact W.zret hx hb hr rfl (fun t ht hW => ⟨_, _, _, L, (Z, R), rfl, ⟨_, rfl, rfl⟩, by rw [ht]; exact hh12.l0, by rw [ht]; exact kp12, by rw [ht]; exact f012, by rw [ht]; exact jy12, rfl, rfl, Or.inr ⟨by omega, ⟨by omega, by show _ < (Z.length : Int); omega, htk⟩, ze, rr, hze, hrr, e12⟩⟩) hh12.2.2.1 (eX12_offset (42, .ireturn, 1) (List.mem_of_getElem? (i := 22) rfl))
    · skip
      refine ff_iconst hx hb (eX12_offset (17, .iconst 1, 1) (List.mem_of_getElem? (i := 9) rfl)) (by decide) (by decide) (fun v13 e13 => ?_)
      refine lv_goto hx hb (eX12_offset (18, .goto 4, 3) (List.mem_of_getElem? (i := 10) rfl)) (tgt := 22) rfl ?_
      refine tz_put (r := 11) (k := 0) (t := (0, 0, 2)) hx hb hD hh7 ha rfl rfl ((hcl11 85 0 (0, 0, 2) (by decide) rfl).2 (by decide)) (tz_i (by omega) (by omega)) (eX12_offset (22, .putfield 85, 3) (List.mem_of_getElem? (i := 12) rfl)) (fun H14 lo14 hh14 hf14 hk14 _ hq14 => ?_)
      have mf14_a_2 := (hk14.1 a 11 2 11 0 fsX12 ha rfl (by decide) (by decide)).trans fq2
      have mf14_a_1 := (hk14.1 a 11 1 11 0 fsX12 ha rfl (by decide) (by decide)).trans fq1
      have mf14_a_3 := (hk14.1 a 11 3 11 0 fsX12 ha rfl (by decide) (by decide)).trans fq3
      have mf14_a_4 := (hk14.1 a 11 4 11 0 fsX12 ha rfl (by decide) (by decide)).trans fq4
      have mf14_a_5 := (hk14.1 a 11 5 11 0 fsX12 ha rfl (by decide) (by decide)).trans fq5
      have mf14_a_6 := (hk14.1 a 11 6 11 0 fsX12 ha rfl (by decide) (by decide)).trans fq6
      have mf14_a_7 := (hk14.1 a 11 7 11 0 fsX12 ha rfl (by decide) (by decide)).trans fq7
      have mf14_a_8 := (hk14.1 a 11 8 11 0 fsX12 ha rfl (by decide) (by decide)).trans fq8
      have mf14_a_9 := (hk14.1 a 11 9 11 0 fsX12 ha rfl (by decide) (by decide)).trans fq9
      have mf14_a_10 := (hk14.1 a 11 10 11 0 fsX12 ha rfl (by decide) (by decide)).trans fqA
      have mf14_a_11 := (hk14.1 a 11 11 11 0 fsX12 ha rfl (by decide) (by decide)).trans fqB
      have mc14_la := (hk14.2 la 21 0 1 40 _ r0 rfl (by decide)).trans hc
      have mc14_a4 := (hk14.2 a4 22 0 0 8 _ rq4 rfl (by decide)).trans cq4
      have mc14_a5 := (hk14.2 a5 23 0 0 8 _ rq5 rfl (by decide)).trans cq5
      have mc14_a6 := (hk14.2 a6 24 0 1 480 _ rq6 rfl (by decide)).trans cq6
      have mc14_a7 := (hk14.2 a7 25 0 0 480 _ rq7 rfl (by decide)).trans cq7
      have mc14_b8 := (hk14.2 b8 26 0 0 8 _ rq8 rfl (by decide)).trans cq8
      have mc14_b9 := (hk14.2 b9 27 0 0 8 _ rq9 rfl (by decide)).trans cq9
      have mc14_bA := (hk14.2 bA 28 0 0 8 _ rqA rfl (by decide)).trans cqA
      have mc14_bB := (hk14.2 bB 29 0 0 80 _ rqB rfl (by decide)).trans cqB
      have kp14 := kp0.trans (hk14.mono (ms' := yMr) (fun x hx => by cases List.mem_singleton.mp hx; decide))
      have jm14 := (hJ).kept ha hk14 (by decide)
      refine lv_aload_n hx hb (eX12_offset (25, .aload_n 0, 1) (List.mem_of_getElem? (i := 13) rfl)) rfl (lv_at hl 0 rfl) ?_
      refine tz_get (r := 11) (k := 0) (t := (0, 0, 2)) hx hb hh14 ha rfl rfl (hcl11 85 0 (0, 0, 2) (by decide) rfl).1 hf14 (eX12_offset (26, .getfield 85, 3) (List.mem_of_getElem? (i := 14) rfl)) ?_
      refine ff_if_le hx hb (eX12_offset (29, .ifCond .le 7, 3) (List.mem_of_getElem? (i := 15) rfl)) (tgt := 36) rfl (fun c15 => (by exfalso; omega)) (fun c15 => ?_)
      refine ff_iconst hx hb (eX12_offset (32, .iconst 0, 1) (List.mem_of_getElem? (i := 16) rfl)) (by decide) (by decide) (fun v16 e16 => ?_)
      refine lv_goto hx hb (eX12_offset (33, .goto 9, 3) (List.mem_of_getElem? (i := 17) rfl)) (tgt := 42) rfl ?_
      exact W.zret hx hb hr rfl (fun t ht hW => ⟨_, _, _, L, (Z, R), rfl, ⟨_, rfl, rfl⟩, by rw [ht]; exact hh14.l0, by rw [ht]; exact kp14, by rw [ht]; exact hf14, by rw [ht]; exact jm14, rfl, rfl, Or.inl ⟨by omega, fun g => by rcases e7 with h | h; exfalso; omega; exact h.2 g.2.2⟩⟩) hh14.2.2.1 (eX12_offset (42, .ireturn, 1) (List.mem_of_getElem? (i := 22) rfl))
