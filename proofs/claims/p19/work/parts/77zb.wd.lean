set_option maxRecDepth 100000 in
set_option maxHeartbeats 4000000 in
theorem hX11_writeDate (l : Launch) (hst : l.stackTraces = false) (D : va_G) (cA : Nat → ClassId) (ro : Nat → Option Nat) (sz : Nat) (H0 : Heap) (x : Nat) (n0 : Int64) (st0 : Int32) (L : List Int) (zc : Int) (T O : List Int) (hx10 : ro x = some 10) : vx_Met l yX11_writeDate (gW yX11_writeDate cX11_writeDate 7 (some .int)) { frames := 6, cells := 1, slots := 6, locals := 113 } (zs_PY D cA ro sz H0 (fun H => jCS D cA ro H x L zc ∧ jCK D cA ro H x T O) [.ref x, .long n0, .int st0]) (zk_Q D cA ro sz H0 x vI (spW n0.toInt st0.toInt T O)) (zk_X D cA ro sz H0 T O (spW n0.toInt st0.toInt T O)) 1 6 (zy_fr sz) := by
  refine vx_ofW (cc := cX11_writeDate) (maxL := 7) (ret := (some .int)) (by decide +kernel) rfl ?_
  intro p e s m args below meth c s1 B hml hex hv
  obtain ⟨rfl, hh, hKa, hBQ, hJ⟩ := hv
  have hx := B.exec
  have hb := B.bytes
  have hr := B.returns
  have hlk := B.notSynchronized
  have hts0 := atoms_spec (ws := gW yX11_writeDate cX11_writeDate 7 (some .int)) B.pre
  have h2 : ∀ w ∈ gT, w.before ([.ref x, .long n0, .int st0] : List Value).toArray s = true := fun w hw => hts0 w (List.mem_cons_of_mem _ hw)
  have hown : s.vm.findClass RX11 = some m.cls := findClass_of_methodNamed B.named
  have hl := lv_entry [.ref x, .long n0, .int st0] (n := 7) (Nat.le_of_ble_eq_true rfl)
  rw [lg_entry_eq]
  generalize (lg_sl [.ref x, .long n0, .int st0] ++ List.replicate (7 - (lg_sl [.ref x, .long n0, .int st0]).length) Slot.unset).toArray = ls at hl ⊢
  have b_n0 := zn_i64 n0
  have b_st0 := zn_i32 st0
  obtain ⟨⟨⟨lp, fx0, rlp, hlp⟩, ⟨nz, fn, hnz⟩, hjl⟩, ⟨tx, fx4, rtx, htx⟩, ⟨wr, fx5, rwr, hwj⟩, hkb⟩ := id hJ
  have hjL := hjl.2.1
  have hkT := hkb.1
  have hkO := hkb.2.1
  have hD := zD_all h2 hKa.1.1.1
  have hcl10 := fun (idx k : Nat) (t : zt_T) (h : (idx, 10, k) ∈ gfX11) (hk : fsX11[k]? = some t) => zf_clause (ro := ro) (ms := kMc) h2 hown hKa.1.1.1 gfX11_ok (by decide +kernel) idx 10 k 10 0 fsX11 t h rfl hk
  have hcl0 := fun (idx k : Nat) (t : zt_T) (h : (idx, 0, k) ∈ gfX11) (hk : fsX0[k]? = some t) => zf_clause (ro := ro) (ms := kMc) h2 hown hKa.1.1.1 gfX11_ok (by decide +kernel) idx 0 k 0 0 fsX0 t h rfl hk
  have hcl8 := fun (idx k : Nat) (t : zt_T) (h : (idx, 8, k) ∈ gfX11) (hk : fsX9[k]? = some t) => zf_clause (ro := ro) (ms := kMc) h2 hown hKa.1.1.1 gfX11_ok (by decide +kernel) idx 8 k 8 0 fsX9 t h rfl hk
  have kp0 : zc_kept D RTg ro kMc s.heap s.heap := zc_kept.refl
  refine lv_lload_n hx hb (eX11_writeDate (0, .lload_n 1, 1) (List.mem_of_getElem? (i := 0) rfl)) rfl (lv_at hl 1 rfl) ?_
  refine zu_S (vs := [.long n0]) (rest := []) hx hb hml hown hts0 zu_BT (hX2_holds l n0) ⟨rfl, rfl⟩ ⟨by decide, by decide⟩ ⟨by decide, by decide⟩ (tb_2 212 rfl rfl) (tb_1 13 rfl rfl) (tb_2 210 rfl rfl) (tb_2 211 rfl rfl) (show yX2_holds.cls ≠ "java/lang/invoke/MethodHandle" ∧ yX2_holds.cls ≠ "java/lang/invoke/VarHandle" ∧ (parseMethodDescriptor yX2_holds.desc).map (fun d => d.parameters.length) = some 1 by decide +kernel) rfl (fun _ _ _ => trivial) hl.1 (Nat.le_of_ble_eq_true rfl) (eX11_writeDate (1, .invokestatic 94, 3) (List.mem_of_getElem? (i := 1) rfl)) (fun w1 f1 => ?_)
  obtain ⟨v1, rfl, e1⟩ := f1
  refine ff_if_eq hx hb (eX11_writeDate (4, .ifCond .eq 12, 3) (List.mem_of_getElem? (i := 2) rfl)) (tgt := 16) rfl (fun c2 => ?_) (fun c2 => ?_)
  · skip
    exact zx_leafGW (ik := 83) (is := 301) (ic := 87) (cls := "java/lang/IllegalArgumentException") (text := "no such day or style") hx hb hst hown h2 hKa.1 hh hh (by rw [hl.1, hml]) hex hlk ⟨by decide, by decide, by decide, by decide⟩ (tb_2 121 rfl rfl) (tb_1 17 rfl rfl) (by decide) (gAt_in gAt_1) (by decide +kernel) (by decide) (by decide) (fun t h7 h8 => ⟨hh.grow h7 h8, kept_grow hh h8, Or.inl ⟨rfl, 0, rfl, Or.inl ⟨rfl, rfl, by unfold dwV dOK; omega⟩⟩⟩) (eX11_writeDate (16, .new 83, 3) (List.mem_of_getElem? (i := 8) rfl)) (eX11_writeDate (19, .dup, 1) (List.mem_of_getElem? (i := 9) rfl)) (eX11_writeDate (20, .ldc_w 301, 3) (List.mem_of_getElem? (i := 10) rfl)) (eX11_writeDate (23, .invokespecial 87, 3) (List.mem_of_getElem? (i := 11) rfl)) (eX11_writeDate (26, .athrow, 1) (List.mem_of_getElem? (i := 12) rfl))
  · skip
    refine lv_iload_n hx hb (eX11_writeDate (7, .iload_n 3, 1) (List.mem_of_getElem? (i := 3) rfl)) rfl (lv_at hl 2 rfl) ?_
    refine ff_if_lt hx hb (eX11_writeDate (8, .ifCond .lt 8, 3) (List.mem_of_getElem? (i := 4) rfl)) (tgt := 16) rfl (fun c3 => ?_) (fun c3 => ?_)
    · skip
      exact zx_leafGW (ik := 83) (is := 301) (ic := 87) (cls := "java/lang/IllegalArgumentException") (text := "no such day or style") hx hb hst hown h2 hKa.1 hh hh (by rw [hl.1, hml]) hex hlk ⟨by decide, by decide, by decide, by decide⟩ (tb_2 121 rfl rfl) (tb_1 17 rfl rfl) (by decide) (gAt_in gAt_1) (by decide +kernel) (by decide) (by decide) (fun t h7 h8 => ⟨hh.grow h7 h8, kept_grow hh h8, Or.inl ⟨rfl, 0, rfl, Or.inl ⟨rfl, rfl, by unfold dwV dOK; omega⟩⟩⟩) (eX11_writeDate (16, .new 83, 3) (List.mem_of_getElem? (i := 8) rfl)) (eX11_writeDate (19, .dup, 1) (List.mem_of_getElem? (i := 9) rfl)) (eX11_writeDate (20, .ldc_w 301, 3) (List.mem_of_getElem? (i := 10) rfl)) (eX11_writeDate (23, .invokespecial 87, 3) (List.mem_of_getElem? (i := 11) rfl)) (eX11_writeDate (26, .athrow, 1) (List.mem_of_getElem? (i := 12) rfl))
    · skip
      refine lv_iload_n hx hb (eX11_writeDate (11, .iload_n 3, 1) (List.mem_of_getElem? (i := 5) rfl)) rfl (lv_at hl 2 rfl) ?_
      refine ff_iconst hx hb (eX11_writeDate (12, .iconst 5, 1) (List.mem_of_getElem? (i := 6) rfl)) (by decide) (by decide) (fun v4 e4 => ?_)
      refine ff_icmp_le hx hb (eX11_writeDate (13, .if_icmp .le 14, 3) (List.mem_of_getElem? (i := 7) rfl)) (tgt := 27) rfl (fun c5 => ?_) (fun c5 => ?_)
      · skip
        refine lv_iload_n hx hb (eX11_writeDate (27, .iload_n 3, 1) (List.mem_of_getElem? (i := 13) rfl)) rfl (lv_at hl 2 rfl) ?_
        refine ff_iconst hx hb (eX11_writeDate (28, .iconst 4, 1) (List.mem_of_getElem? (i := 14) rfl)) (by decide) (by decide) (fun v6 e6 => ?_)
        refine ff_icmp_lt hx hb (eX11_writeDate (29, .if_icmp .lt 7, 3) (List.mem_of_getElem? (i := 15) rfl)) (tgt := 36) rfl (fun c7 => ?_) (fun c7 => ?_)
        · skip
          refine ff_iconst hx hb (eX11_writeDate (36, .iconst 0, 1) (List.mem_of_getElem? (i := 18) rfl)) (by decide) (by decide) (fun v8 e8 => ?_)
          refine lv_istore hx hb (eX11_writeDate (37, .istore 4, 2) (List.mem_of_getElem? (i := 19) rfl)) hl (by decide) rfl (fun ls9 hl9 => ?_)
          refine lv_iload hx hb (eX11_writeDate (39, .iload 4, 2) (List.mem_of_getElem? (i := 20) rfl)) (lv_at hl9 0 rfl) ?_
          refine ff_if_eq hx hb (eX11_writeDate (41, .ifCond .eq 10, 3) (List.mem_of_getElem? (i := 21) rfl)) (tgt := 51) rfl (fun c10 => ?_) (fun c10 => (by exfalso; omega))
          refine lv_lload_n hx hb (eX11_writeDate (51, .lload_n 1, 1) (List.mem_of_getElem? (i := 25) rfl)) rfl (lv_at hl9 2 rfl) ?_
          refine zu_S (vs := [.long n0]) (rest := []) hx hb hml hown hts0 zu_BT (hX2_yearOf l n0 (by omega) (by omega)) ⟨rfl, rfl⟩ ⟨by decide, by decide⟩ ⟨by decide, by decide⟩ (tb_2 218 rfl rfl) (tb_1 13 rfl rfl) (tb_2 216 rfl rfl) (tb_2 217 rfl rfl) (show yX2_yearOf.cls ≠ "java/lang/invoke/MethodHandle" ∧ yX2_yearOf.cls ≠ "java/lang/invoke/VarHandle" ∧ (parseMethodDescriptor yX2_yearOf.desc).map (fun d => d.parameters.length) = some 1 by decide +kernel) rfl (fun _ _ _ => trivial) hl9.1 (Nat.le_of_ble_eq_true rfl) (eX11_writeDate (52, .invokestatic 100, 3) (List.mem_of_getElem? (i := 26) rfl)) (fun w11 f11 => ?_)
          obtain ⟨v11, rfl, e11⟩ := f11
          have g11 := isY_in e11.1 (by omega) (by omega)
          refine lv_istore hx hb (eX11_writeDate (55, .istore 5, 2) (List.mem_of_getElem? (i := 27) rfl)) hl9 (by decide) rfl (fun ls12 hl12 => ?_)
          refine lv_iload hx hb (eX11_writeDate (57, .iload 5, 2) (List.mem_of_getElem? (i := 28) rfl)) (lv_at hl12 0 rfl) ?_
          refine zu_S (vs := [.int v11]) (rest := []) hx hb hml hown hts0 zu_BT (hX2_holdsYear l v11) ⟨rfl, rfl⟩ ⟨by decide, by decide⟩ ⟨by decide, by decide⟩ (tb_2 110 rfl rfl) (tb_1 13 rfl rfl) (tb_2 108 rfl rfl) (tb_2 109 rfl rfl) (show yX2_holdsYear.cls ≠ "java/lang/invoke/MethodHandle" ∧ yX2_holdsYear.cls ≠ "java/lang/invoke/VarHandle" ∧ (parseMethodDescriptor yX2_holdsYear.desc).map (fun d => d.parameters.length) = some 1 by decide +kernel) rfl (fun _ _ _ => trivial) hl12.1 (Nat.le_of_ble_eq_true rfl) (eX11_writeDate (59, .invokestatic 73, 3) (List.mem_of_getElem? (i := 29) rfl)) (fun w13 f13 => ?_)
          obtain ⟨v13, rfl, e13⟩ := f13
          refine ff_if_ne hx hb (eX11_writeDate (62, .ifCond .ne 14, 3) (List.mem_of_getElem? (i := 30) rfl)) (tgt := 76) rfl (fun c14 => ?_) (fun c14 => ?_)
          · skip
            refine lv_iload_n hx hb (eX11_writeDate (76, .iload_n 3, 1) (List.mem_of_getElem? (i := 36) rfl)) rfl (lv_at hl12 4 rfl) ?_
            refine ff_iconst hx hb (eX11_writeDate (77, .iconst 2, 1) (List.mem_of_getElem? (i := 37) rfl)) (by decide) (by decide) (fun v15 e15 => ?_)
            refine ff_iremP hx hb (eX11_writeDate (78, .irem, 1) (List.mem_of_getElem? (i := 38) rfl)) (by omega) (e15) (by decide) (fun v16 e16 => ?_)
            refine ff_if_eq hx hb (eX11_writeDate (79, .ifCond .eq 11, 3) (List.mem_of_getElem? (i := 39) rfl)) (tgt := 90) rfl (fun c17 => ?_) (fun c17 => ?_)
            · skip
              refine ff_iconst hx hb (eX11_writeDate (90, .iconst 1, 1) (List.mem_of_getElem? (i := 43) rfl)) (by decide) (by decide) (fun v18 e18 => ?_)
              refine lv_goto hx hb (eX11_writeDate (91, .goto 4, 3) (List.mem_of_getElem? (i := 44) rfl)) (tgt := 95) rfl ?_
              refine lv_istore hx hb (eX11_writeDate (95, .istore 6, 2) (List.mem_of_getElem? (i := 46) rfl)) hl12 (by decide) rfl (fun ls19 hl19 => ?_)
              obtain ⟨cy, cm, cd, hcv⟩ := cv_ex n0.toInt
              obtain ⟨cw, hcw⟩ := wy_ex n0.toInt
              have hdsh : v18.toInt = dshI st0.toInt v11.toInt := by unfold dshI; split <;> omega
              refine lv_aload_n hx hb (eX11_writeDate (97, .aload_n 0, 1) (List.mem_of_getElem? (i := 47) rfl)) rfl (lv_at hl19 3 rfl) ?_
              refine tz_get (r := 10) (k := 5) (t := (20, 0, 0)) hx hb hh hx10 rfl rfl (hcl10 45 5 (20, 0, 0) (by decide) rfl).1 fx5 (eX11_writeDate (98, .getfield 45, 3) (List.mem_of_getElem? (i := 48) rfl)) ?_
              refine tz_rowV (As := []) (st := []) (b := wr) (C := RX9) (Ts := gT) hx hb hml hown h2 (fun _ h => h) (hX9_start l D cA ro sz H0 wr O rwr) ⟨rfl, rfl⟩ ⟨by decide, by decide⟩ ⟨by decide, by decide⟩ (tb_5 212 rfl rfl) (tb_1 6 rfl rfl) (tb_5 209 rfl rfl) (tb_5 210 rfl rfl) (tb_5 211 rfl rfl) (show yX9_start.cls ≠ "java/lang/invoke/MethodHandle" ∧ yX9_start.cls ≠ "java/lang/invoke/VarHandle" ∧ (parseMethodDescriptor yX9_start.desc).map (fun d => d.parameters.length) = some 0 by decide +kernel) zs_blind (zs_ob hh rwr (show RTg[8]? = some (0, 8, 0, fsX9) from rfl) (zCX9 hKa.1.1.1)) (fun U hU hW => ⟨rfl, by rw [hU]; exact hh.l0, zKb s U hW.alike hKa.1.1, by rw [hU]; exact hwj⟩) hh.2.2.1 hl19.1 (Nat.le_of_ble_eq_true rfl) (eX11_writeDate (101, .invokevirtual 308, 3) (List.mem_of_getElem? (i := 49) rfl)) (fun r20 s20 t20 lo20 g20 f20 l20 => ?_)
              obtain ⟨q20, z20, c20, j20⟩ := f20
              cases q20
              rw [g20] at c20
              have hh20 : zh_ok D cA RTg ro sz H0 t20.heap lo20 := ⟨z20.1, z20.2.1, l20, z20.2.2.2⟩
              have kp20 := kp0.trans (c20.mono (ms' := kMc) (by decide))
              have mf20_x_0 := (c20.1 x 10 0 10 0 fsX11 hx10 rfl (by decide) (by decide)).trans fx0
              have mf20_x_2 := (c20.1 x 10 2 10 0 fsX11 hx10 rfl (by decide) (by decide)).trans fn
              have mf20_x_4 := (c20.1 x 10 4 10 0 fsX11 hx10 rfl (by decide) (by decide)).trans fx4
              have mf20_x_5 := (c20.1 x 10 5 10 0 fsX11 hx10 rfl (by decide) (by decide)).trans fx5
              have kw20 := c20
              have jl20 := hlp.kept rlp c20 (by decide) (by decide) (by decide)
              refine W.eq (g2 := F0 m 104 ls19 []) rfl ?_
              refine lv_aload_n hx hb (eX11_writeDate (104, .aload_n 0, 1) (List.mem_of_getElem? (i := 50) rfl)) rfl (lv_at hl19 3 rfl) ?_
              refine tz_get (r := 10) (k := 5) (t := (20, 0, 0)) hx hb hh20 hx10 rfl rfl (hcl10 45 5 (20, 0, 0) (by decide) rfl).1 mf20_x_5 (eX11_writeDate (105, .getfield 45, 3) (List.mem_of_getElem? (i := 51) rfl)) ?_
              refine lv_iload hx hb (eX11_writeDate (108, .iload 5, 2) (List.mem_of_getElem? (i := 52) rfl)) (lv_at hl19 1 rfl) ?_
              refine tz_rowV (As := [.int v11]) (st := []) (b := wr) (C := RX9) (Ts := gT) hx hb hml hown h2 (fun _ h => h) (hX9_putYear l D cA ro sz H0 wr v11 ([]) rwr (by omega) (by omega) (by show 0 + 7 ≤ 120; decide)) ⟨rfl, rfl⟩ ⟨by decide, by decide⟩ ⟨by decide, by decide⟩ (tb_5 216 rfl rfl) (tb_1 6 rfl rfl) (tb_5 213 rfl rfl) (tb_5 214 rfl rfl) (tb_5 215 rfl rfl) (show yX9_putYear.cls ≠ "java/lang/invoke/MethodHandle" ∧ yX9_putYear.cls ≠ "java/lang/invoke/VarHandle" ∧ (parseMethodDescriptor yX9_putYear.desc).map (fun d => d.parameters.length) = some 1 by decide +kernel) zs_blind (zs_ob hh20 rwr (show RTg[8]? = some (0, 8, 0, fsX9) from rfl) (zCX9 hKa.1.1.1)) (fun U hU hW => ⟨rfl, by rw [hU]; exact hh20.l0, zKb s U hW.alike hKa.1.1, by rw [hU]; exact j20⟩) hh20.2.2.1 hl19.1 (Nat.le_of_ble_eq_true rfl) (eX11_writeDate (110, .invokevirtual 309, 3) (List.mem_of_getElem? (i := 53) rfl)) (fun r21 s21 t21 lo21 g21 f21 l21 => ?_)
              obtain ⟨q21, z21, c21, j21⟩ := f21
              cases q21
              rw [g21] at c21
              have hh21 : zh_ok D cA RTg ro sz H0 t21.heap lo21 := ⟨z21.1, z21.2.1, l21, z21.2.2.2⟩
              have kp21 := kp20.trans (c21.mono (ms' := kMc) (by decide))
              have mf21_x_0 := (c21.1 x 10 0 10 0 fsX11 hx10 rfl (by decide) (by decide)).trans mf20_x_0
              have mf21_x_2 := (c21.1 x 10 2 10 0 fsX11 hx10 rfl (by decide) (by decide)).trans mf20_x_2
              have mf21_x_4 := (c21.1 x 10 4 10 0 fsX11 hx10 rfl (by decide) (by decide)).trans mf20_x_4
              have mf21_x_5 := (c21.1 x 10 5 10 0 fsX11 hx10 rfl (by decide) (by decide)).trans mf20_x_5
              have kw21 := kw20.trans c21
              have jl21 := jl20.kept rlp c21 (by decide) (by decide) (by decide)
              refine W.eq (g2 := F0 m 113 ls19 []) rfl ?_
              refine lv_iload hx hb (eX11_writeDate (113, .iload 4, 2) (List.mem_of_getElem? (i := 54) rfl)) (lv_at hl19 2 rfl) ?_
              refine ff_if_eq hx hb (eX11_writeDate (115, .ifCond .eq 16, 3) (List.mem_of_getElem? (i := 55) rfl)) (tgt := 131) rfl (fun c22 => ?_) (fun c22 => (by exfalso; omega))
              refine lv_iload_n hx hb (eX11_writeDate (131, .iload_n 3, 1) (List.mem_of_getElem? (i := 62) rfl)) rfl (lv_at hl19 5 rfl) ?_
              refine ff_iconst hx hb (eX11_writeDate (132, .iconst 2, 1) (List.mem_of_getElem? (i := 63) rfl)) (by decide) (by decide) (fun v23 e23 => ?_)
              refine ff_icmp_lt hx hb (eX11_writeDate (133, .if_icmp .lt 25, 3) (List.mem_of_getElem? (i := 64) rfl)) (tgt := 158) rfl (fun c24 => ?_) (fun c24 => ?_)
              · skip
                refine lv_aload_n hx hb (eX11_writeDate (158, .aload_n 0, 1) (List.mem_of_getElem? (i := 77) rfl)) rfl (lv_at hl19 3 rfl) ?_
                refine tz_get (r := 10) (k := 5) (t := (20, 0, 0)) hx hb hh21 hx10 rfl rfl (hcl10 45 5 (20, 0, 0) (by decide) rfl).1 mf21_x_5 (eX11_writeDate (159, .getfield 45, 3) (List.mem_of_getElem? (i := 78) rfl)) ?_
                refine lv_lload_n hx hb (eX11_writeDate (162, .lload_n 1, 1) (List.mem_of_getElem? (i := 79) rfl)) rfl (lv_at hl19 4 rfl) ?_
                refine lv_iload hx hb (eX11_writeDate (163, .iload 6, 2) (List.mem_of_getElem? (i := 80) rfl)) (lv_at hl19 0 rfl) ?_
                refine tz_rowV (As := [.long n0, .int v18]) (st := []) (b := wr) (C := RX9) (Ts := gT) hx hb hml hown h2 (fun _ h => h) (hX9_putMonthAndDay l D cA ro sz H0 wr n0 v18 ([] ++ yrL v11.toInt) rwr (by omega) (by omega) cy cm cd hcv (by have hyl := yrL_len v11.toInt; (try simp only [List.length_append, List.length_nil, dgL_len]); omega)) ⟨rfl, rfl⟩ ⟨by decide, by decide⟩ ⟨by decide, by decide⟩ (tb_6 8 rfl rfl) (tb_1 6 rfl rfl) (tb_6 5 rfl rfl) (tb_6 6 rfl rfl) (tb_6 7 rfl rfl) (show yX9_putMonthAndDay.cls ≠ "java/lang/invoke/MethodHandle" ∧ yX9_putMonthAndDay.cls ≠ "java/lang/invoke/VarHandle" ∧ (parseMethodDescriptor yX9_putMonthAndDay.desc).map (fun d => d.parameters.length) = some 2 by decide +kernel) zs_blindB (zs_ob hh21 rwr (show RTg[8]? = some (0, 8, 0, fsX9) from rfl) (zCX9 hKa.1.1.1)) (fun U hU hW => ⟨rfl, by rw [hU]; exact hh21.l0, ⟨zKb s U hW.alike hKa.1.1, hBQ.alike hW.alike⟩, by rw [hU]; exact j21⟩) hh21.2.2.1 hl19.1 (Nat.le_of_ble_eq_true rfl) (eX11_writeDate (165, .invokevirtual 320, 3) (List.mem_of_getElem? (i := 81) rfl)) (fun r25 s25 t25 lo25 g25 f25 l25 => ?_)
                obtain ⟨q25, z25, c25, j25⟩ := f25
                cases q25
                rw [g25] at c25
                have hh25 : zh_ok D cA RTg ro sz H0 t25.heap lo25 := ⟨z25.1, z25.2.1, l25, z25.2.2.2⟩
                have kp25 := kp21.trans (c25.mono (ms' := kMc) (by decide))
                have mf25_x_0 := (c25.1 x 10 0 10 0 fsX11 hx10 rfl (by decide) (by decide)).trans mf21_x_0
                have mf25_x_2 := (c25.1 x 10 2 10 0 fsX11 hx10 rfl (by decide) (by decide)).trans mf21_x_2
                have mf25_x_4 := (c25.1 x 10 4 10 0 fsX11 hx10 rfl (by decide) (by decide)).trans mf21_x_4
                have mf25_x_5 := (c25.1 x 10 5 10 0 fsX11 hx10 rfl (by decide) (by decide)).trans mf21_x_5
                have kw25 := kw21.trans c25
                have jl25 := jl21.kept rlp c25 (by decide) (by decide) (by decide)
                refine W.eq (g2 := F0 m 168 ls19 []) rfl ?_
                have hj26 := j25
                obtain ⟨wb26, nw26, zw26, fa26, ra26, fb26, hn26, hc26, hz26⟩ := id hj26
                refine lv_aload_n hx hb (eX11_writeDate (168, .aload_n 0, 1) (List.mem_of_getElem? (i := 82) rfl)) rfl (lv_at hl19 3 rfl) ?_
                refine tz_get (r := 10) (k := 5) (t := (20, 0, 0)) hx hb hh25 hx10 rfl rfl (hcl10 45 5 (20, 0, 0) (by decide) rfl).1 mf25_x_5 (eX11_writeDate (169, .getfield 45, 3) (List.mem_of_getElem? (i := 83) rfl)) ?_
                refine tz_get (r := 8) (k := 1) (t := (0, 0, 120)) hx hb hh25 rwr rfl rfl (hcl8 251 1 (0, 0, 120) (by decide) rfl).1 fb26 (eX11_writeDate (172, .getfield 251, 3) (List.mem_of_getElem? (i := 84) rfl)) ?_
                have hO9 : [] ++ yrL v11.toInt ++ mdL cm cd v18.toInt = dateL n0.toInt st0.toInt cy cm cd cw := by
                  cases isY_one (cvP_isY hcv) e11.1
                  unfold dateL
                  rw [if_neg (by omega), if_neg (by omega), hdsh, List.nil_append]
                have hj9 := hj26
                rw [hO9] at hj9
                have hl9 := hn26
                rw [hO9] at hl9
                have hok := dateL_ok n0.toInt st0.toInt cy cm cd cw
                exact vx_ret (W.widen (k := 1) (n := 6) (Nat.zero_le _) (Nat.zero_le _) (W.zret hx hb hr rfl (fun t ht hW => ⟨_, _, T, dateL n0.toInt st0.toInt cy cm cd cw, rfl, ⟨_, rfl, rfl⟩, by rw [ht]; exact hh25.l0, by rw [ht]; exact kp25, by rw [ht]; exact ⟨⟨tx, mf25_x_4, rtx, htx.kept rtx kw25 (by decide) (by decide) (by decide)⟩, ⟨wr, mf25_x_5, rwr, hj9⟩, ⟨hkT, by have h7 := hok.2; omega, hok.1⟩⟩, rfl, Or.inr ⟨rfl, by unfold dwV dOK; omega, ⟨cy, cm, cd, cw, hcv, hcw, rfl⟩, hl9⟩⟩) hh25.2.2.1 (eX11_writeDate (175, .ireturn, 1) (List.mem_of_getElem? (i := 85) rfl))))
              · skip
                refine lv_aload_n hx hb (eX11_writeDate (136, .aload_n 0, 1) (List.mem_of_getElem? (i := 65) rfl)) rfl (lv_at hl19 3 rfl) ?_
                refine tz_get (r := 10) (k := 5) (t := (20, 0, 0)) hx hb hh21 hx10 rfl rfl (hcl10 45 5 (20, 0, 0) (by decide) rfl).1 mf21_x_5 (eX11_writeDate (137, .getfield 45, 3) (List.mem_of_getElem? (i := 66) rfl)) ?_
                refine lv_lload_n hx hb (eX11_writeDate (140, .lload_n 1, 1) (List.mem_of_getElem? (i := 67) rfl)) rfl (lv_at hl19 4 rfl) ?_
                refine lv_iload hx hb (eX11_writeDate (141, .iload 5, 2) (List.mem_of_getElem? (i := 68) rfl)) (lv_at hl19 1 rfl) ?_
                refine zu_S (vs := [.int v11]) (rest := [.long n0, .ref wr]) hx hb hml hown hts0 zu_BT (hX2_yearStart l v11 (by omega) (by omega)) ⟨rfl, rfl⟩ ⟨by decide, by decide⟩ ⟨by decide, by decide⟩ (tb_2 193 rfl rfl) (tb_1 13 rfl rfl) (tb_2 234 rfl rfl) (tb_2 192 rfl rfl) (show yX2_yearStart.cls ≠ "java/lang/invoke/MethodHandle" ∧ yX2_yearStart.cls ≠ "java/lang/invoke/VarHandle" ∧ (parseMethodDescriptor yX2_yearStart.desc).map (fun d => d.parameters.length) = some 1 by decide +kernel) rfl (fun _ _ _ => trivial) hl19.1 (Nat.le_of_ble_eq_true rfl) (eX11_writeDate (143, .invokestatic 113, 3) (List.mem_of_getElem? (i := 69) rfl)) (fun w27 f27 => ?_)
                obtain ⟨v27, rfl, e27⟩ := f27
                have g27 := (show ysI v11.toInt ≤ n0.toInt ∧ n0.toInt < ysI v11.toInt + 366 ∧ v27.toInt = ysI v11.toInt by have h8 := ys_succ v11.toInt; have h7 := lpI_bd v11.toInt; have h6 := e11.1; unfold isY at h6; rw [h8] at h6; refine ⟨h6.1, ?_, e27⟩; omega)
                refine ff_lsub hx hb (eX11_writeDate (146, .lsub, 1) (List.mem_of_getElem? (i := 70) rfl)) (by omega) (by omega) (fun v28 e28 => ?_)
                refine ff_l2i hx hb (eX11_writeDate (147, .l2i, 1) (List.mem_of_getElem? (i := 71) rfl)) (by omega) (by omega) (fun v29 e29 => ?_)
                refine ff_iconst hx hb (eX11_writeDate (148, .iconst 1, 1) (List.mem_of_getElem? (i := 72) rfl)) (by decide) (by decide) (fun v30 e30 => ?_)
                refine ff_iadd hx hb (eX11_writeDate (149, .iadd, 1) (List.mem_of_getElem? (i := 73) rfl)) (by omega) (by omega) (fun v31 e31 => ?_)
                refine lv_iload hx hb (eX11_writeDate (150, .iload 6, 2) (List.mem_of_getElem? (i := 74) rfl)) (lv_at hl19 0 rfl) ?_
                refine tz_rowV (As := [.int v31, .int v18]) (st := []) (b := wr) (C := RX9) (Ts := gT) hx hb hml hown h2 (fun _ h => h) (hX9_putOrdinal l D cA ro sz H0 wr v31 v18 ([] ++ yrL v11.toInt) rwr (by omega) (by have hyl := yrL_len v11.toInt; (try simp only [List.length_append, List.length_nil, dgL_len]); omega)) ⟨rfl, rfl⟩ ⟨by decide, by decide⟩ ⟨by decide, by decide⟩ (tb_6 4 rfl rfl) (tb_1 6 rfl rfl) (tb_6 1 rfl rfl) (tb_6 2 rfl rfl) (tb_6 3 rfl rfl) (show yX9_putOrdinal.cls ≠ "java/lang/invoke/MethodHandle" ∧ yX9_putOrdinal.cls ≠ "java/lang/invoke/VarHandle" ∧ (parseMethodDescriptor yX9_putOrdinal.desc).map (fun d => d.parameters.length) = some 2 by decide +kernel) zs_blind (zs_ob hh21 rwr (show RTg[8]? = some (0, 8, 0, fsX9) from rfl) (zCX9 hKa.1.1.1)) (fun U hU hW => ⟨rfl, by rw [hU]; exact hh21.l0, zKb s U hW.alike hKa.1.1, by rw [hU]; exact j21⟩) hh21.2.2.1 hl19.1 (Nat.le_of_ble_eq_true rfl) (eX11_writeDate (152, .invokevirtual 316, 3) (List.mem_of_getElem? (i := 75) rfl)) (fun r32 s32 t32 lo32 g32 f32 l32 => ?_)
                obtain ⟨q32, z32, c32, j32⟩ := f32
                cases q32
                rw [g32] at c32
                have hh32 : zh_ok D cA RTg ro sz H0 t32.heap lo32 := ⟨z32.1, z32.2.1, l32, z32.2.2.2⟩
                have kp32 := kp21.trans (c32.mono (ms' := kMc) (by decide))
                have mf32_x_0 := (c32.1 x 10 0 10 0 fsX11 hx10 rfl (by decide) (by decide)).trans mf21_x_0
                have mf32_x_2 := (c32.1 x 10 2 10 0 fsX11 hx10 rfl (by decide) (by decide)).trans mf21_x_2
                have mf32_x_4 := (c32.1 x 10 4 10 0 fsX11 hx10 rfl (by decide) (by decide)).trans mf21_x_4
                have mf32_x_5 := (c32.1 x 10 5 10 0 fsX11 hx10 rfl (by decide) (by decide)).trans mf21_x_5
                have kw32 := kw21.trans c32
                have jl32 := jl21.kept rlp c32 (by decide) (by decide) (by decide)
                refine W.eq (g2 := F0 m 155 ls19 []) rfl ?_
                refine lv_goto hx hb (eX11_writeDate (155, .goto 13, 3) (List.mem_of_getElem? (i := 76) rfl)) (tgt := 168) rfl ?_
                have hj33 := j32
                obtain ⟨wb33, nw33, zw33, fa33, ra33, fb33, hn33, hc33, hz33⟩ := id hj33
                refine lv_aload_n hx hb (eX11_writeDate (168, .aload_n 0, 1) (List.mem_of_getElem? (i := 82) rfl)) rfl (lv_at hl19 3 rfl) ?_
                refine tz_get (r := 10) (k := 5) (t := (20, 0, 0)) hx hb hh32 hx10 rfl rfl (hcl10 45 5 (20, 0, 0) (by decide) rfl).1 mf32_x_5 (eX11_writeDate (169, .getfield 45, 3) (List.mem_of_getElem? (i := 83) rfl)) ?_
                refine tz_get (r := 8) (k := 1) (t := (0, 0, 120)) hx hb hh32 rwr rfl rfl (hcl8 251 1 (0, 0, 120) (by decide) rfl).1 fb33 (eX11_writeDate (172, .getfield 251, 3) (List.mem_of_getElem? (i := 84) rfl)) ?_
                have hO9 : [] ++ yrL v11.toInt ++ orL v31.toInt v18.toInt = dateL n0.toInt st0.toInt cy cm cd cw := by
                  cases isY_one (cvP_isY hcv) e11.1
                  unfold dateL
                  rw [if_neg (by omega), if_pos (by omega), hdsh, List.nil_append, show v31.toInt = n0.toInt - ysI v11.toInt + 1 by omega]
                have hj9 := hj33
                rw [hO9] at hj9
                have hl9 := hn33
                rw [hO9] at hl9
                have hok := dateL_ok n0.toInt st0.toInt cy cm cd cw
                exact vx_ret (W.widen (k := 1) (n := 6) (Nat.zero_le _) (Nat.zero_le _) (W.zret hx hb hr rfl (fun t ht hW => ⟨_, _, T, dateL n0.toInt st0.toInt cy cm cd cw, rfl, ⟨_, rfl, rfl⟩, by rw [ht]; exact hh32.l0, by rw [ht]; exact kp32, by rw [ht]; exact ⟨⟨tx, mf32_x_4, rtx, htx.kept rtx kw32 (by decide) (by decide) (by decide)⟩, ⟨wr, mf32_x_5, rwr, hj9⟩, ⟨hkT, by have h7 := hok.2; omega, hok.1⟩⟩, rfl, Or.inr ⟨rfl, by unfold dwV dOK; omega, ⟨cy, cm, cd, cw, hcv, hcw, rfl⟩, hl9⟩⟩) hh32.2.2.1 (eX11_writeDate (175, .ireturn, 1) (List.mem_of_getElem? (i := 85) rfl))))
            · skip
              refine lv_iload hx hb (eX11_writeDate (82, .iload 5, 2) (List.mem_of_getElem? (i := 40) rfl)) (lv_at hl12 0 rfl) ?_
              refine zu_S (vs := [.int v11]) (rest := []) hx hb hml hown hts0 zu_BT (hX9_isPlainYear l v11) ⟨rfl, rfl⟩ ⟨by decide, by decide⟩ ⟨by decide, by decide⟩ (tb_5 208 rfl rfl) (tb_1 6 rfl rfl) (tb_5 206 rfl rfl) (tb_5 207 rfl rfl) (show yX9_isPlainYear.cls ≠ "java/lang/invoke/MethodHandle" ∧ yX9_isPlainYear.cls ≠ "java/lang/invoke/VarHandle" ∧ (parseMethodDescriptor yX9_isPlainYear.desc).map (fun d => d.parameters.length) = some 1 by decide +kernel) rfl (fun _ _ _ => trivial) hl12.1 (Nat.le_of_ble_eq_true rfl) (eX11_writeDate (84, .invokestatic 305, 3) (List.mem_of_getElem? (i := 41) rfl)) (fun w34 f34 => ?_)
              obtain ⟨v34, rfl, e34⟩ := f34
              refine ff_if_ne hx hb (eX11_writeDate (87, .ifCond .ne 7, 3) (List.mem_of_getElem? (i := 42) rfl)) (tgt := 94) rfl (fun c35 => ?_) (fun c35 => ?_)
              · skip
                refine ff_iconst hx hb (eX11_writeDate (94, .iconst 0, 1) (List.mem_of_getElem? (i := 45) rfl)) (by decide) (by decide) (fun v36 e36 => ?_)
                refine lv_istore hx hb (eX11_writeDate (95, .istore 6, 2) (List.mem_of_getElem? (i := 46) rfl)) hl12 (by decide) rfl (fun ls37 hl37 => ?_)
                obtain ⟨cy, cm, cd, hcv⟩ := cv_ex n0.toInt
                obtain ⟨cw, hcw⟩ := wy_ex n0.toInt
                have hdsh : v36.toInt = dshI st0.toInt v11.toInt := by unfold dshI; split <;> omega
                refine lv_aload_n hx hb (eX11_writeDate (97, .aload_n 0, 1) (List.mem_of_getElem? (i := 47) rfl)) rfl (lv_at hl37 3 rfl) ?_
                refine tz_get (r := 10) (k := 5) (t := (20, 0, 0)) hx hb hh hx10 rfl rfl (hcl10 45 5 (20, 0, 0) (by decide) rfl).1 fx5 (eX11_writeDate (98, .getfield 45, 3) (List.mem_of_getElem? (i := 48) rfl)) ?_
                refine tz_rowV (As := []) (st := []) (b := wr) (C := RX9) (Ts := gT) hx hb hml hown h2 (fun _ h => h) (hX9_start l D cA ro sz H0 wr O rwr) ⟨rfl, rfl⟩ ⟨by decide, by decide⟩ ⟨by decide, by decide⟩ (tb_5 212 rfl rfl) (tb_1 6 rfl rfl) (tb_5 209 rfl rfl) (tb_5 210 rfl rfl) (tb_5 211 rfl rfl) (show yX9_start.cls ≠ "java/lang/invoke/MethodHandle" ∧ yX9_start.cls ≠ "java/lang/invoke/VarHandle" ∧ (parseMethodDescriptor yX9_start.desc).map (fun d => d.parameters.length) = some 0 by decide +kernel) zs_blind (zs_ob hh rwr (show RTg[8]? = some (0, 8, 0, fsX9) from rfl) (zCX9 hKa.1.1.1)) (fun U hU hW => ⟨rfl, by rw [hU]; exact hh.l0, zKb s U hW.alike hKa.1.1, by rw [hU]; exact hwj⟩) hh.2.2.1 hl37.1 (Nat.le_of_ble_eq_true rfl) (eX11_writeDate (101, .invokevirtual 308, 3) (List.mem_of_getElem? (i := 49) rfl)) (fun r38 s38 t38 lo38 g38 f38 l38 => ?_)
                obtain ⟨q38, z38, c38, j38⟩ := f38
                cases q38
                rw [g38] at c38
                have hh38 : zh_ok D cA RTg ro sz H0 t38.heap lo38 := ⟨z38.1, z38.2.1, l38, z38.2.2.2⟩
                have kp38 := kp0.trans (c38.mono (ms' := kMc) (by decide))
                have mf38_x_0 := (c38.1 x 10 0 10 0 fsX11 hx10 rfl (by decide) (by decide)).trans fx0
                have mf38_x_2 := (c38.1 x 10 2 10 0 fsX11 hx10 rfl (by decide) (by decide)).trans fn
                have mf38_x_4 := (c38.1 x 10 4 10 0 fsX11 hx10 rfl (by decide) (by decide)).trans fx4
                have mf38_x_5 := (c38.1 x 10 5 10 0 fsX11 hx10 rfl (by decide) (by decide)).trans fx5
                have kw38 := c38
                have jl38 := hlp.kept rlp c38 (by decide) (by decide) (by decide)
                refine W.eq (g2 := F0 m 104 ls37 []) rfl ?_
                refine lv_aload_n hx hb (eX11_writeDate (104, .aload_n 0, 1) (List.mem_of_getElem? (i := 50) rfl)) rfl (lv_at hl37 3 rfl) ?_
                refine tz_get (r := 10) (k := 5) (t := (20, 0, 0)) hx hb hh38 hx10 rfl rfl (hcl10 45 5 (20, 0, 0) (by decide) rfl).1 mf38_x_5 (eX11_writeDate (105, .getfield 45, 3) (List.mem_of_getElem? (i := 51) rfl)) ?_
                refine lv_iload hx hb (eX11_writeDate (108, .iload 5, 2) (List.mem_of_getElem? (i := 52) rfl)) (lv_at hl37 1 rfl) ?_
                refine tz_rowV (As := [.int v11]) (st := []) (b := wr) (C := RX9) (Ts := gT) hx hb hml hown h2 (fun _ h => h) (hX9_putYear l D cA ro sz H0 wr v11 ([]) rwr (by omega) (by omega) (by show 0 + 7 ≤ 120; decide)) ⟨rfl, rfl⟩ ⟨by decide, by decide⟩ ⟨by decide, by decide⟩ (tb_5 216 rfl rfl) (tb_1 6 rfl rfl) (tb_5 213 rfl rfl) (tb_5 214 rfl rfl) (tb_5 215 rfl rfl) (show yX9_putYear.cls ≠ "java/lang/invoke/MethodHandle" ∧ yX9_putYear.cls ≠ "java/lang/invoke/VarHandle" ∧ (parseMethodDescriptor yX9_putYear.desc).map (fun d => d.parameters.length) = some 1 by decide +kernel) zs_blind (zs_ob hh38 rwr (show RTg[8]? = some (0, 8, 0, fsX9) from rfl) (zCX9 hKa.1.1.1)) (fun U hU hW => ⟨rfl, by rw [hU]; exact hh38.l0, zKb s U hW.alike hKa.1.1, by rw [hU]; exact j38⟩) hh38.2.2.1 hl37.1 (Nat.le_of_ble_eq_true rfl) (eX11_writeDate (110, .invokevirtual 309, 3) (List.mem_of_getElem? (i := 53) rfl)) (fun r39 s39 t39 lo39 g39 f39 l39 => ?_)
                obtain ⟨q39, z39, c39, j39⟩ := f39
                cases q39
                rw [g39] at c39
                have hh39 : zh_ok D cA RTg ro sz H0 t39.heap lo39 := ⟨z39.1, z39.2.1, l39, z39.2.2.2⟩
                have kp39 := kp38.trans (c39.mono (ms' := kMc) (by decide))
                have mf39_x_0 := (c39.1 x 10 0 10 0 fsX11 hx10 rfl (by decide) (by decide)).trans mf38_x_0
                have mf39_x_2 := (c39.1 x 10 2 10 0 fsX11 hx10 rfl (by decide) (by decide)).trans mf38_x_2
                have mf39_x_4 := (c39.1 x 10 4 10 0 fsX11 hx10 rfl (by decide) (by decide)).trans mf38_x_4
                have mf39_x_5 := (c39.1 x 10 5 10 0 fsX11 hx10 rfl (by decide) (by decide)).trans mf38_x_5
                have kw39 := kw38.trans c39
                have jl39 := jl38.kept rlp c39 (by decide) (by decide) (by decide)
                refine W.eq (g2 := F0 m 113 ls37 []) rfl ?_
                refine lv_iload hx hb (eX11_writeDate (113, .iload 4, 2) (List.mem_of_getElem? (i := 54) rfl)) (lv_at hl37 2 rfl) ?_
                refine ff_if_eq hx hb (eX11_writeDate (115, .ifCond .eq 16, 3) (List.mem_of_getElem? (i := 55) rfl)) (tgt := 131) rfl (fun c40 => ?_) (fun c40 => (by exfalso; omega))
                refine lv_iload_n hx hb (eX11_writeDate (131, .iload_n 3, 1) (List.mem_of_getElem? (i := 62) rfl)) rfl (lv_at hl37 5 rfl) ?_
                refine ff_iconst hx hb (eX11_writeDate (132, .iconst 2, 1) (List.mem_of_getElem? (i := 63) rfl)) (by decide) (by decide) (fun v41 e41 => ?_)
                refine ff_icmp_lt hx hb (eX11_writeDate (133, .if_icmp .lt 25, 3) (List.mem_of_getElem? (i := 64) rfl)) (tgt := 158) rfl (fun c42 => ?_) (fun c42 => ?_)
                · skip
                  refine lv_aload_n hx hb (eX11_writeDate (158, .aload_n 0, 1) (List.mem_of_getElem? (i := 77) rfl)) rfl (lv_at hl37 3 rfl) ?_
                  refine tz_get (r := 10) (k := 5) (t := (20, 0, 0)) hx hb hh39 hx10 rfl rfl (hcl10 45 5 (20, 0, 0) (by decide) rfl).1 mf39_x_5 (eX11_writeDate (159, .getfield 45, 3) (List.mem_of_getElem? (i := 78) rfl)) ?_
                  refine lv_lload_n hx hb (eX11_writeDate (162, .lload_n 1, 1) (List.mem_of_getElem? (i := 79) rfl)) rfl (lv_at hl37 4 rfl) ?_
                  refine lv_iload hx hb (eX11_writeDate (163, .iload 6, 2) (List.mem_of_getElem? (i := 80) rfl)) (lv_at hl37 0 rfl) ?_
                  refine tz_rowV (As := [.long n0, .int v36]) (st := []) (b := wr) (C := RX9) (Ts := gT) hx hb hml hown h2 (fun _ h => h) (hX9_putMonthAndDay l D cA ro sz H0 wr n0 v36 ([] ++ yrL v11.toInt) rwr (by omega) (by omega) cy cm cd hcv (by have hyl := yrL_len v11.toInt; (try simp only [List.length_append, List.length_nil, dgL_len]); omega)) ⟨rfl, rfl⟩ ⟨by decide, by decide⟩ ⟨by decide, by decide⟩ (tb_6 8 rfl rfl) (tb_1 6 rfl rfl) (tb_6 5 rfl rfl) (tb_6 6 rfl rfl) (tb_6 7 rfl rfl) (show yX9_putMonthAndDay.cls ≠ "java/lang/invoke/MethodHandle" ∧ yX9_putMonthAndDay.cls ≠ "java/lang/invoke/VarHandle" ∧ (parseMethodDescriptor yX9_putMonthAndDay.desc).map (fun d => d.parameters.length) = some 2 by decide +kernel) zs_blindB (zs_ob hh39 rwr (show RTg[8]? = some (0, 8, 0, fsX9) from rfl) (zCX9 hKa.1.1.1)) (fun U hU hW => ⟨rfl, by rw [hU]; exact hh39.l0, ⟨zKb s U hW.alike hKa.1.1, hBQ.alike hW.alike⟩, by rw [hU]; exact j39⟩) hh39.2.2.1 hl37.1 (Nat.le_of_ble_eq_true rfl) (eX11_writeDate (165, .invokevirtual 320, 3) (List.mem_of_getElem? (i := 81) rfl)) (fun r43 s43 t43 lo43 g43 f43 l43 => ?_)
                  obtain ⟨q43, z43, c43, j43⟩ := f43
                  cases q43
                  rw [g43] at c43
                  have hh43 : zh_ok D cA RTg ro sz H0 t43.heap lo43 := ⟨z43.1, z43.2.1, l43, z43.2.2.2⟩
                  have kp43 := kp39.trans (c43.mono (ms' := kMc) (by decide))
                  have mf43_x_0 := (c43.1 x 10 0 10 0 fsX11 hx10 rfl (by decide) (by decide)).trans mf39_x_0
                  have mf43_x_2 := (c43.1 x 10 2 10 0 fsX11 hx10 rfl (by decide) (by decide)).trans mf39_x_2
                  have mf43_x_4 := (c43.1 x 10 4 10 0 fsX11 hx10 rfl (by decide) (by decide)).trans mf39_x_4
                  have mf43_x_5 := (c43.1 x 10 5 10 0 fsX11 hx10 rfl (by decide) (by decide)).trans mf39_x_5
                  have kw43 := kw39.trans c43
                  have jl43 := jl39.kept rlp c43 (by decide) (by decide) (by decide)
                  refine W.eq (g2 := F0 m 168 ls37 []) rfl ?_
                  have hj44 := j43
                  obtain ⟨wb44, nw44, zw44, fa44, ra44, fb44, hn44, hc44, hz44⟩ := id hj44
                  refine lv_aload_n hx hb (eX11_writeDate (168, .aload_n 0, 1) (List.mem_of_getElem? (i := 82) rfl)) rfl (lv_at hl37 3 rfl) ?_
                  refine tz_get (r := 10) (k := 5) (t := (20, 0, 0)) hx hb hh43 hx10 rfl rfl (hcl10 45 5 (20, 0, 0) (by decide) rfl).1 mf43_x_5 (eX11_writeDate (169, .getfield 45, 3) (List.mem_of_getElem? (i := 83) rfl)) ?_
                  refine tz_get (r := 8) (k := 1) (t := (0, 0, 120)) hx hb hh43 rwr rfl rfl (hcl8 251 1 (0, 0, 120) (by decide) rfl).1 fb44 (eX11_writeDate (172, .getfield 251, 3) (List.mem_of_getElem? (i := 84) rfl)) ?_
                  have hO9 : [] ++ yrL v11.toInt ++ mdL cm cd v36.toInt = dateL n0.toInt st0.toInt cy cm cd cw := by
                    cases isY_one (cvP_isY hcv) e11.1
                    unfold dateL
                    rw [if_neg (by omega), if_neg (by omega), hdsh, List.nil_append]
                  have hj9 := hj44
                  rw [hO9] at hj9
                  have hl9 := hn44
                  rw [hO9] at hl9
                  have hok := dateL_ok n0.toInt st0.toInt cy cm cd cw
                  exact vx_ret (W.widen (k := 1) (n := 6) (Nat.zero_le _) (Nat.zero_le _) (W.zret hx hb hr rfl (fun t ht hW => ⟨_, _, T, dateL n0.toInt st0.toInt cy cm cd cw, rfl, ⟨_, rfl, rfl⟩, by rw [ht]; exact hh43.l0, by rw [ht]; exact kp43, by rw [ht]; exact ⟨⟨tx, mf43_x_4, rtx, htx.kept rtx kw43 (by decide) (by decide) (by decide)⟩, ⟨wr, mf43_x_5, rwr, hj9⟩, ⟨hkT, by have h7 := hok.2; omega, hok.1⟩⟩, rfl, Or.inr ⟨rfl, by unfold dwV dOK; omega, ⟨cy, cm, cd, cw, hcv, hcw, rfl⟩, hl9⟩⟩) hh43.2.2.1 (eX11_writeDate (175, .ireturn, 1) (List.mem_of_getElem? (i := 85) rfl))))
                · skip
                  refine lv_aload_n hx hb (eX11_writeDate (136, .aload_n 0, 1) (List.mem_of_getElem? (i := 65) rfl)) rfl (lv_at hl37 3 rfl) ?_
                  refine tz_get (r := 10) (k := 5) (t := (20, 0, 0)) hx hb hh39 hx10 rfl rfl (hcl10 45 5 (20, 0, 0) (by decide) rfl).1 mf39_x_5 (eX11_writeDate (137, .getfield 45, 3) (List.mem_of_getElem? (i := 66) rfl)) ?_
                  refine lv_lload_n hx hb (eX11_writeDate (140, .lload_n 1, 1) (List.mem_of_getElem? (i := 67) rfl)) rfl (lv_at hl37 4 rfl) ?_
                  refine lv_iload hx hb (eX11_writeDate (141, .iload 5, 2) (List.mem_of_getElem? (i := 68) rfl)) (lv_at hl37 1 rfl) ?_
                  refine zu_S (vs := [.int v11]) (rest := [.long n0, .ref wr]) hx hb hml hown hts0 zu_BT (hX2_yearStart l v11 (by omega) (by omega)) ⟨rfl, rfl⟩ ⟨by decide, by decide⟩ ⟨by decide, by decide⟩ (tb_2 193 rfl rfl) (tb_1 13 rfl rfl) (tb_2 234 rfl rfl) (tb_2 192 rfl rfl) (show yX2_yearStart.cls ≠ "java/lang/invoke/MethodHandle" ∧ yX2_yearStart.cls ≠ "java/lang/invoke/VarHandle" ∧ (parseMethodDescriptor yX2_yearStart.desc).map (fun d => d.parameters.length) = some 1 by decide +kernel) rfl (fun _ _ _ => trivial) hl37.1 (Nat.le_of_ble_eq_true rfl) (eX11_writeDate (143, .invokestatic 113, 3) (List.mem_of_getElem? (i := 69) rfl)) (fun w45 f45 => ?_)
                  obtain ⟨v45, rfl, e45⟩ := f45
                  have g45 := (show ysI v11.toInt ≤ n0.toInt ∧ n0.toInt < ysI v11.toInt + 366 ∧ v45.toInt = ysI v11.toInt by have h8 := ys_succ v11.toInt; have h7 := lpI_bd v11.toInt; have h6 := e11.1; unfold isY at h6; rw [h8] at h6; refine ⟨h6.1, ?_, e45⟩; omega)
                  refine ff_lsub hx hb (eX11_writeDate (146, .lsub, 1) (List.mem_of_getElem? (i := 70) rfl)) (by omega) (by omega) (fun v46 e46 => ?_)
                  refine ff_l2i hx hb (eX11_writeDate (147, .l2i, 1) (List.mem_of_getElem? (i := 71) rfl)) (by omega) (by omega) (fun v47 e47 => ?_)
                  refine ff_iconst hx hb (eX11_writeDate (148, .iconst 1, 1) (List.mem_of_getElem? (i := 72) rfl)) (by decide) (by decide) (fun v48 e48 => ?_)
                  refine ff_iadd hx hb (eX11_writeDate (149, .iadd, 1) (List.mem_of_getElem? (i := 73) rfl)) (by omega) (by omega) (fun v49 e49 => ?_)
                  refine lv_iload hx hb (eX11_writeDate (150, .iload 6, 2) (List.mem_of_getElem? (i := 74) rfl)) (lv_at hl37 0 rfl) ?_
                  refine tz_rowV (As := [.int v49, .int v36]) (st := []) (b := wr) (C := RX9) (Ts := gT) hx hb hml hown h2 (fun _ h => h) (hX9_putOrdinal l D cA ro sz H0 wr v49 v36 ([] ++ yrL v11.toInt) rwr (by omega) (by have hyl := yrL_len v11.toInt; (try simp only [List.length_append, List.length_nil, dgL_len]); omega)) ⟨rfl, rfl⟩ ⟨by decide, by decide⟩ ⟨by decide, by decide⟩ (tb_6 4 rfl rfl) (tb_1 6 rfl rfl) (tb_6 1 rfl rfl) (tb_6 2 rfl rfl) (tb_6 3 rfl rfl) (show yX9_putOrdinal.cls ≠ "java/lang/invoke/MethodHandle" ∧ yX9_putOrdinal.cls ≠ "java/lang/invoke/VarHandle" ∧ (parseMethodDescriptor yX9_putOrdinal.desc).map (fun d => d.parameters.length) = some 2 by decide +kernel) zs_blind (zs_ob hh39 rwr (show RTg[8]? = some (0, 8, 0, fsX9) from rfl) (zCX9 hKa.1.1.1)) (fun U hU hW => ⟨rfl, by rw [hU]; exact hh39.l0, zKb s U hW.alike hKa.1.1, by rw [hU]; exact j39⟩) hh39.2.2.1 hl37.1 (Nat.le_of_ble_eq_true rfl) (eX11_writeDate (152, .invokevirtual 316, 3) (List.mem_of_getElem? (i := 75) rfl)) (fun r50 s50 t50 lo50 g50 f50 l50 => ?_)
                  obtain ⟨q50, z50, c50, j50⟩ := f50
                  cases q50
                  rw [g50] at c50
                  have hh50 : zh_ok D cA RTg ro sz H0 t50.heap lo50 := ⟨z50.1, z50.2.1, l50, z50.2.2.2⟩
                  have kp50 := kp39.trans (c50.mono (ms' := kMc) (by decide))
                  have mf50_x_0 := (c50.1 x 10 0 10 0 fsX11 hx10 rfl (by decide) (by decide)).trans mf39_x_0
                  have mf50_x_2 := (c50.1 x 10 2 10 0 fsX11 hx10 rfl (by decide) (by decide)).trans mf39_x_2
                  have mf50_x_4 := (c50.1 x 10 4 10 0 fsX11 hx10 rfl (by decide) (by decide)).trans mf39_x_4
                  have mf50_x_5 := (c50.1 x 10 5 10 0 fsX11 hx10 rfl (by decide) (by decide)).trans mf39_x_5
                  have kw50 := kw39.trans c50
                  have jl50 := jl39.kept rlp c50 (by decide) (by decide) (by decide)
                  refine W.eq (g2 := F0 m 155 ls37 []) rfl ?_
                  refine lv_goto hx hb (eX11_writeDate (155, .goto 13, 3) (List.mem_of_getElem? (i := 76) rfl)) (tgt := 168) rfl ?_
                  have hj51 := j50
                  obtain ⟨wb51, nw51, zw51, fa51, ra51, fb51, hn51, hc51, hz51⟩ := id hj51
                  refine lv_aload_n hx hb (eX11_writeDate (168, .aload_n 0, 1) (List.mem_of_getElem? (i := 82) rfl)) rfl (lv_at hl37 3 rfl) ?_
                  refine tz_get (r := 10) (k := 5) (t := (20, 0, 0)) hx hb hh50 hx10 rfl rfl (hcl10 45 5 (20, 0, 0) (by decide) rfl).1 mf50_x_5 (eX11_writeDate (169, .getfield 45, 3) (List.mem_of_getElem? (i := 83) rfl)) ?_
                  refine tz_get (r := 8) (k := 1) (t := (0, 0, 120)) hx hb hh50 rwr rfl rfl (hcl8 251 1 (0, 0, 120) (by decide) rfl).1 fb51 (eX11_writeDate (172, .getfield 251, 3) (List.mem_of_getElem? (i := 84) rfl)) ?_
                  have hO9 : [] ++ yrL v11.toInt ++ orL v49.toInt v36.toInt = dateL n0.toInt st0.toInt cy cm cd cw := by
                    cases isY_one (cvP_isY hcv) e11.1
                    unfold dateL
                    rw [if_neg (by omega), if_pos (by omega), hdsh, List.nil_append, show v49.toInt = n0.toInt - ysI v11.toInt + 1 by omega]
                  have hj9 := hj51
                  rw [hO9] at hj9
                  have hl9 := hn51
                  rw [hO9] at hl9
                  have hok := dateL_ok n0.toInt st0.toInt cy cm cd cw
                  exact vx_ret (W.widen (k := 1) (n := 6) (Nat.zero_le _) (Nat.zero_le _) (W.zret hx hb hr rfl (fun t ht hW => ⟨_, _, T, dateL n0.toInt st0.toInt cy cm cd cw, rfl, ⟨_, rfl, rfl⟩, by rw [ht]; exact hh50.l0, by rw [ht]; exact kp50, by rw [ht]; exact ⟨⟨tx, mf50_x_4, rtx, htx.kept rtx kw50 (by decide) (by decide) (by decide)⟩, ⟨wr, mf50_x_5, rwr, hj9⟩, ⟨hkT, by have h7 := hok.2; omega, hok.1⟩⟩, rfl, Or.inr ⟨rfl, by unfold dwV dOK; omega, ⟨cy, cm, cd, cw, hcv, hcw, rfl⟩, hl9⟩⟩) hh50.2.2.1 (eX11_writeDate (175, .ireturn, 1) (List.mem_of_getElem? (i := 85) rfl))))
              · skip
                refine ff_iconst hx hb (eX11_writeDate (90, .iconst 1, 1) (List.mem_of_getElem? (i := 43) rfl)) (by decide) (by decide) (fun v52 e52 => ?_)
                refine lv_goto hx hb (eX11_writeDate (91, .goto 4, 3) (List.mem_of_getElem? (i := 44) rfl)) (tgt := 95) rfl ?_
                refine lv_istore hx hb (eX11_writeDate (95, .istore 6, 2) (List.mem_of_getElem? (i := 46) rfl)) hl12 (by decide) rfl (fun ls53 hl53 => ?_)
                obtain ⟨cy, cm, cd, hcv⟩ := cv_ex n0.toInt
                obtain ⟨cw, hcw⟩ := wy_ex n0.toInt
                have hdsh : v52.toInt = dshI st0.toInt v11.toInt := by unfold dshI; split <;> omega
                refine lv_aload_n hx hb (eX11_writeDate (97, .aload_n 0, 1) (List.mem_of_getElem? (i := 47) rfl)) rfl (lv_at hl53 3 rfl) ?_
                refine tz_get (r := 10) (k := 5) (t := (20, 0, 0)) hx hb hh hx10 rfl rfl (hcl10 45 5 (20, 0, 0) (by decide) rfl).1 fx5 (eX11_writeDate (98, .getfield 45, 3) (List.mem_of_getElem? (i := 48) rfl)) ?_
                refine tz_rowV (As := []) (st := []) (b := wr) (C := RX9) (Ts := gT) hx hb hml hown h2 (fun _ h => h) (hX9_start l D cA ro sz H0 wr O rwr) ⟨rfl, rfl⟩ ⟨by decide, by decide⟩ ⟨by decide, by decide⟩ (tb_5 212 rfl rfl) (tb_1 6 rfl rfl) (tb_5 209 rfl rfl) (tb_5 210 rfl rfl) (tb_5 211 rfl rfl) (show yX9_start.cls ≠ "java/lang/invoke/MethodHandle" ∧ yX9_start.cls ≠ "java/lang/invoke/VarHandle" ∧ (parseMethodDescriptor yX9_start.desc).map (fun d => d.parameters.length) = some 0 by decide +kernel) zs_blind (zs_ob hh rwr (show RTg[8]? = some (0, 8, 0, fsX9) from rfl) (zCX9 hKa.1.1.1)) (fun U hU hW => ⟨rfl, by rw [hU]; exact hh.l0, zKb s U hW.alike hKa.1.1, by rw [hU]; exact hwj⟩) hh.2.2.1 hl53.1 (Nat.le_of_ble_eq_true rfl) (eX11_writeDate (101, .invokevirtual 308, 3) (List.mem_of_getElem? (i := 49) rfl)) (fun r54 s54 t54 lo54 g54 f54 l54 => ?_)
                obtain ⟨q54, z54, c54, j54⟩ := f54
                cases q54
                rw [g54] at c54
                have hh54 : zh_ok D cA RTg ro sz H0 t54.heap lo54 := ⟨z54.1, z54.2.1, l54, z54.2.2.2⟩
                have kp54 := kp0.trans (c54.mono (ms' := kMc) (by decide))
                have mf54_x_0 := (c54.1 x 10 0 10 0 fsX11 hx10 rfl (by decide) (by decide)).trans fx0
                have mf54_x_2 := (c54.1 x 10 2 10 0 fsX11 hx10 rfl (by decide) (by decide)).trans fn
                have mf54_x_4 := (c54.1 x 10 4 10 0 fsX11 hx10 rfl (by decide) (by decide)).trans fx4
                have mf54_x_5 := (c54.1 x 10 5 10 0 fsX11 hx10 rfl (by decide) (by decide)).trans fx5
                have kw54 := c54
                have jl54 := hlp.kept rlp c54 (by decide) (by decide) (by decide)
                refine W.eq (g2 := F0 m 104 ls53 []) rfl ?_
                refine lv_aload_n hx hb (eX11_writeDate (104, .aload_n 0, 1) (List.mem_of_getElem? (i := 50) rfl)) rfl (lv_at hl53 3 rfl) ?_
                refine tz_get (r := 10) (k := 5) (t := (20, 0, 0)) hx hb hh54 hx10 rfl rfl (hcl10 45 5 (20, 0, 0) (by decide) rfl).1 mf54_x_5 (eX11_writeDate (105, .getfield 45, 3) (List.mem_of_getElem? (i := 51) rfl)) ?_
                refine lv_iload hx hb (eX11_writeDate (108, .iload 5, 2) (List.mem_of_getElem? (i := 52) rfl)) (lv_at hl53 1 rfl) ?_
                refine tz_rowV (As := [.int v11]) (st := []) (b := wr) (C := RX9) (Ts := gT) hx hb hml hown h2 (fun _ h => h) (hX9_putYear l D cA ro sz H0 wr v11 ([]) rwr (by omega) (by omega) (by show 0 + 7 ≤ 120; decide)) ⟨rfl, rfl⟩ ⟨by decide, by decide⟩ ⟨by decide, by decide⟩ (tb_5 216 rfl rfl) (tb_1 6 rfl rfl) (tb_5 213 rfl rfl) (tb_5 214 rfl rfl) (tb_5 215 rfl rfl) (show yX9_putYear.cls ≠ "java/lang/invoke/MethodHandle" ∧ yX9_putYear.cls ≠ "java/lang/invoke/VarHandle" ∧ (parseMethodDescriptor yX9_putYear.desc).map (fun d => d.parameters.length) = some 1 by decide +kernel) zs_blind (zs_ob hh54 rwr (show RTg[8]? = some (0, 8, 0, fsX9) from rfl) (zCX9 hKa.1.1.1)) (fun U hU hW => ⟨rfl, by rw [hU]; exact hh54.l0, zKb s U hW.alike hKa.1.1, by rw [hU]; exact j54⟩) hh54.2.2.1 hl53.1 (Nat.le_of_ble_eq_true rfl) (eX11_writeDate (110, .invokevirtual 309, 3) (List.mem_of_getElem? (i := 53) rfl)) (fun r55 s55 t55 lo55 g55 f55 l55 => ?_)
                obtain ⟨q55, z55, c55, j55⟩ := f55
                cases q55
                rw [g55] at c55
                have hh55 : zh_ok D cA RTg ro sz H0 t55.heap lo55 := ⟨z55.1, z55.2.1, l55, z55.2.2.2⟩
                have kp55 := kp54.trans (c55.mono (ms' := kMc) (by decide))
                have mf55_x_0 := (c55.1 x 10 0 10 0 fsX11 hx10 rfl (by decide) (by decide)).trans mf54_x_0
                have mf55_x_2 := (c55.1 x 10 2 10 0 fsX11 hx10 rfl (by decide) (by decide)).trans mf54_x_2
                have mf55_x_4 := (c55.1 x 10 4 10 0 fsX11 hx10 rfl (by decide) (by decide)).trans mf54_x_4
                have mf55_x_5 := (c55.1 x 10 5 10 0 fsX11 hx10 rfl (by decide) (by decide)).trans mf54_x_5
                have kw55 := kw54.trans c55
                have jl55 := jl54.kept rlp c55 (by decide) (by decide) (by decide)
                refine W.eq (g2 := F0 m 113 ls53 []) rfl ?_
                refine lv_iload hx hb (eX11_writeDate (113, .iload 4, 2) (List.mem_of_getElem? (i := 54) rfl)) (lv_at hl53 2 rfl) ?_
                refine ff_if_eq hx hb (eX11_writeDate (115, .ifCond .eq 16, 3) (List.mem_of_getElem? (i := 55) rfl)) (tgt := 131) rfl (fun c56 => ?_) (fun c56 => (by exfalso; omega))
                refine lv_iload_n hx hb (eX11_writeDate (131, .iload_n 3, 1) (List.mem_of_getElem? (i := 62) rfl)) rfl (lv_at hl53 5 rfl) ?_
                refine ff_iconst hx hb (eX11_writeDate (132, .iconst 2, 1) (List.mem_of_getElem? (i := 63) rfl)) (by decide) (by decide) (fun v57 e57 => ?_)
                refine ff_icmp_lt hx hb (eX11_writeDate (133, .if_icmp .lt 25, 3) (List.mem_of_getElem? (i := 64) rfl)) (tgt := 158) rfl (fun c58 => ?_) (fun c58 => ?_)
                · skip
                  refine lv_aload_n hx hb (eX11_writeDate (158, .aload_n 0, 1) (List.mem_of_getElem? (i := 77) rfl)) rfl (lv_at hl53 3 rfl) ?_
                  refine tz_get (r := 10) (k := 5) (t := (20, 0, 0)) hx hb hh55 hx10 rfl rfl (hcl10 45 5 (20, 0, 0) (by decide) rfl).1 mf55_x_5 (eX11_writeDate (159, .getfield 45, 3) (List.mem_of_getElem? (i := 78) rfl)) ?_
                  refine lv_lload_n hx hb (eX11_writeDate (162, .lload_n 1, 1) (List.mem_of_getElem? (i := 79) rfl)) rfl (lv_at hl53 4 rfl) ?_
                  refine lv_iload hx hb (eX11_writeDate (163, .iload 6, 2) (List.mem_of_getElem? (i := 80) rfl)) (lv_at hl53 0 rfl) ?_
                  refine tz_rowV (As := [.long n0, .int v52]) (st := []) (b := wr) (C := RX9) (Ts := gT) hx hb hml hown h2 (fun _ h => h) (hX9_putMonthAndDay l D cA ro sz H0 wr n0 v52 ([] ++ yrL v11.toInt) rwr (by omega) (by omega) cy cm cd hcv (by have hyl := yrL_len v11.toInt; (try simp only [List.length_append, List.length_nil, dgL_len]); omega)) ⟨rfl, rfl⟩ ⟨by decide, by decide⟩ ⟨by decide, by decide⟩ (tb_6 8 rfl rfl) (tb_1 6 rfl rfl) (tb_6 5 rfl rfl) (tb_6 6 rfl rfl) (tb_6 7 rfl rfl) (show yX9_putMonthAndDay.cls ≠ "java/lang/invoke/MethodHandle" ∧ yX9_putMonthAndDay.cls ≠ "java/lang/invoke/VarHandle" ∧ (parseMethodDescriptor yX9_putMonthAndDay.desc).map (fun d => d.parameters.length) = some 2 by decide +kernel) zs_blindB (zs_ob hh55 rwr (show RTg[8]? = some (0, 8, 0, fsX9) from rfl) (zCX9 hKa.1.1.1)) (fun U hU hW => ⟨rfl, by rw [hU]; exact hh55.l0, ⟨zKb s U hW.alike hKa.1.1, hBQ.alike hW.alike⟩, by rw [hU]; exact j55⟩) hh55.2.2.1 hl53.1 (Nat.le_of_ble_eq_true rfl) (eX11_writeDate (165, .invokevirtual 320, 3) (List.mem_of_getElem? (i := 81) rfl)) (fun r59 s59 t59 lo59 g59 f59 l59 => ?_)
                  obtain ⟨q59, z59, c59, j59⟩ := f59
                  cases q59
                  rw [g59] at c59
                  have hh59 : zh_ok D cA RTg ro sz H0 t59.heap lo59 := ⟨z59.1, z59.2.1, l59, z59.2.2.2⟩
                  have kp59 := kp55.trans (c59.mono (ms' := kMc) (by decide))
                  have mf59_x_0 := (c59.1 x 10 0 10 0 fsX11 hx10 rfl (by decide) (by decide)).trans mf55_x_0
                  have mf59_x_2 := (c59.1 x 10 2 10 0 fsX11 hx10 rfl (by decide) (by decide)).trans mf55_x_2
                  have mf59_x_4 := (c59.1 x 10 4 10 0 fsX11 hx10 rfl (by decide) (by decide)).trans mf55_x_4
                  have mf59_x_5 := (c59.1 x 10 5 10 0 fsX11 hx10 rfl (by decide) (by decide)).trans mf55_x_5
                  have kw59 := kw55.trans c59
                  have jl59 := jl55.kept rlp c59 (by decide) (by decide) (by decide)
                  refine W.eq (g2 := F0 m 168 ls53 []) rfl ?_
                  have hj60 := j59
                  obtain ⟨wb60, nw60, zw60, fa60, ra60, fb60, hn60, hc60, hz60⟩ := id hj60
                  refine lv_aload_n hx hb (eX11_writeDate (168, .aload_n 0, 1) (List.mem_of_getElem? (i := 82) rfl)) rfl (lv_at hl53 3 rfl) ?_
                  refine tz_get (r := 10) (k := 5) (t := (20, 0, 0)) hx hb hh59 hx10 rfl rfl (hcl10 45 5 (20, 0, 0) (by decide) rfl).1 mf59_x_5 (eX11_writeDate (169, .getfield 45, 3) (List.mem_of_getElem? (i := 83) rfl)) ?_
                  refine tz_get (r := 8) (k := 1) (t := (0, 0, 120)) hx hb hh59 rwr rfl rfl (hcl8 251 1 (0, 0, 120) (by decide) rfl).1 fb60 (eX11_writeDate (172, .getfield 251, 3) (List.mem_of_getElem? (i := 84) rfl)) ?_
                  have hO9 : [] ++ yrL v11.toInt ++ mdL cm cd v52.toInt = dateL n0.toInt st0.toInt cy cm cd cw := by
                    cases isY_one (cvP_isY hcv) e11.1
                    unfold dateL
                    rw [if_neg (by omega), if_neg (by omega), hdsh, List.nil_append]
                  have hj9 := hj60
                  rw [hO9] at hj9
                  have hl9 := hn60
                  rw [hO9] at hl9
                  have hok := dateL_ok n0.toInt st0.toInt cy cm cd cw
                  exact vx_ret (W.widen (k := 1) (n := 6) (Nat.zero_le _) (Nat.zero_le _) (W.zret hx hb hr rfl (fun t ht hW => ⟨_, _, T, dateL n0.toInt st0.toInt cy cm cd cw, rfl, ⟨_, rfl, rfl⟩, by rw [ht]; exact hh59.l0, by rw [ht]; exact kp59, by rw [ht]; exact ⟨⟨tx, mf59_x_4, rtx, htx.kept rtx kw59 (by decide) (by decide) (by decide)⟩, ⟨wr, mf59_x_5, rwr, hj9⟩, ⟨hkT, by have h7 := hok.2; omega, hok.1⟩⟩, rfl, Or.inr ⟨rfl, by unfold dwV dOK; omega, ⟨cy, cm, cd, cw, hcv, hcw, rfl⟩, hl9⟩⟩) hh59.2.2.1 (eX11_writeDate (175, .ireturn, 1) (List.mem_of_getElem? (i := 85) rfl))))
                · skip
                  refine lv_aload_n hx hb (eX11_writeDate (136, .aload_n 0, 1) (List.mem_of_getElem? (i := 65) rfl)) rfl (lv_at hl53 3 rfl) ?_
                  refine tz_get (r := 10) (k := 5) (t := (20, 0, 0)) hx hb hh55 hx10 rfl rfl (hcl10 45 5 (20, 0, 0) (by decide) rfl).1 mf55_x_5 (eX11_writeDate (137, .getfield 45, 3) (List.mem_of_getElem? (i := 66) rfl)) ?_
                  refine lv_lload_n hx hb (eX11_writeDate (140, .lload_n 1, 1) (List.mem_of_getElem? (i := 67) rfl)) rfl (lv_at hl53 4 rfl) ?_
                  refine lv_iload hx hb (eX11_writeDate (141, .iload 5, 2) (List.mem_of_getElem? (i := 68) rfl)) (lv_at hl53 1 rfl) ?_
                  refine zu_S (vs := [.int v11]) (rest := [.long n0, .ref wr]) hx hb hml hown hts0 zu_BT (hX2_yearStart l v11 (by omega) (by omega)) ⟨rfl, rfl⟩ ⟨by decide, by decide⟩ ⟨by decide, by decide⟩ (tb_2 193 rfl rfl) (tb_1 13 rfl rfl) (tb_2 234 rfl rfl) (tb_2 192 rfl rfl) (show yX2_yearStart.cls ≠ "java/lang/invoke/MethodHandle" ∧ yX2_yearStart.cls ≠ "java/lang/invoke/VarHandle" ∧ (parseMethodDescriptor yX2_yearStart.desc).map (fun d => d.parameters.length) = some 1 by decide +kernel) rfl (fun _ _ _ => trivial) hl53.1 (Nat.le_of_ble_eq_true rfl) (eX11_writeDate (143, .invokestatic 113, 3) (List.mem_of_getElem? (i := 69) rfl)) (fun w61 f61 => ?_)
                  obtain ⟨v61, rfl, e61⟩ := f61
                  have g61 := (show ysI v11.toInt ≤ n0.toInt ∧ n0.toInt < ysI v11.toInt + 366 ∧ v61.toInt = ysI v11.toInt by have h8 := ys_succ v11.toInt; have h7 := lpI_bd v11.toInt; have h6 := e11.1; unfold isY at h6; rw [h8] at h6; refine ⟨h6.1, ?_, e61⟩; omega)
                  refine ff_lsub hx hb (eX11_writeDate (146, .lsub, 1) (List.mem_of_getElem? (i := 70) rfl)) (by omega) (by omega) (fun v62 e62 => ?_)
                  refine ff_l2i hx hb (eX11_writeDate (147, .l2i, 1) (List.mem_of_getElem? (i := 71) rfl)) (by omega) (by omega) (fun v63 e63 => ?_)
                  refine ff_iconst hx hb (eX11_writeDate (148, .iconst 1, 1) (List.mem_of_getElem? (i := 72) rfl)) (by decide) (by decide) (fun v64 e64 => ?_)
                  refine ff_iadd hx hb (eX11_writeDate (149, .iadd, 1) (List.mem_of_getElem? (i := 73) rfl)) (by omega) (by omega) (fun v65 e65 => ?_)
                  refine lv_iload hx hb (eX11_writeDate (150, .iload 6, 2) (List.mem_of_getElem? (i := 74) rfl)) (lv_at hl53 0 rfl) ?_
                  refine tz_rowV (As := [.int v65, .int v52]) (st := []) (b := wr) (C := RX9) (Ts := gT) hx hb hml hown h2 (fun _ h => h) (hX9_putOrdinal l D cA ro sz H0 wr v65 v52 ([] ++ yrL v11.toInt) rwr (by omega) (by have hyl := yrL_len v11.toInt; (try simp only [List.length_append, List.length_nil, dgL_len]); omega)) ⟨rfl, rfl⟩ ⟨by decide, by decide⟩ ⟨by decide, by decide⟩ (tb_6 4 rfl rfl) (tb_1 6 rfl rfl) (tb_6 1 rfl rfl) (tb_6 2 rfl rfl) (tb_6 3 rfl rfl) (show yX9_putOrdinal.cls ≠ "java/lang/invoke/MethodHandle" ∧ yX9_putOrdinal.cls ≠ "java/lang/invoke/VarHandle" ∧ (parseMethodDescriptor yX9_putOrdinal.desc).map (fun d => d.parameters.length) = some 2 by decide +kernel) zs_blind (zs_ob hh55 rwr (show RTg[8]? = some (0, 8, 0, fsX9) from rfl) (zCX9 hKa.1.1.1)) (fun U hU hW => ⟨rfl, by rw [hU]; exact hh55.l0, zKb s U hW.alike hKa.1.1, by rw [hU]; exact j55⟩) hh55.2.2.1 hl53.1 (Nat.le_of_ble_eq_true rfl) (eX11_writeDate (152, .invokevirtual 316, 3) (List.mem_of_getElem? (i := 75) rfl)) (fun r66 s66 t66 lo66 g66 f66 l66 => ?_)
                  obtain ⟨q66, z66, c66, j66⟩ := f66
                  cases q66
                  rw [g66] at c66
                  have hh66 : zh_ok D cA RTg ro sz H0 t66.heap lo66 := ⟨z66.1, z66.2.1, l66, z66.2.2.2⟩
                  have kp66 := kp55.trans (c66.mono (ms' := kMc) (by decide))
                  have mf66_x_0 := (c66.1 x 10 0 10 0 fsX11 hx10 rfl (by decide) (by decide)).trans mf55_x_0
                  have mf66_x_2 := (c66.1 x 10 2 10 0 fsX11 hx10 rfl (by decide) (by decide)).trans mf55_x_2
                  have mf66_x_4 := (c66.1 x 10 4 10 0 fsX11 hx10 rfl (by decide) (by decide)).trans mf55_x_4
                  have mf66_x_5 := (c66.1 x 10 5 10 0 fsX11 hx10 rfl (by decide) (by decide)).trans mf55_x_5
                  have kw66 := kw55.trans c66
                  have jl66 := jl55.kept rlp c66 (by decide) (by decide) (by decide)
                  refine W.eq (g2 := F0 m 155 ls53 []) rfl ?_
                  refine lv_goto hx hb (eX11_writeDate (155, .goto 13, 3) (List.mem_of_getElem? (i := 76) rfl)) (tgt := 168) rfl ?_
                  have hj67 := j66
                  obtain ⟨wb67, nw67, zw67, fa67, ra67, fb67, hn67, hc67, hz67⟩ := id hj67
                  refine lv_aload_n hx hb (eX11_writeDate (168, .aload_n 0, 1) (List.mem_of_getElem? (i := 82) rfl)) rfl (lv_at hl53 3 rfl) ?_
                  refine tz_get (r := 10) (k := 5) (t := (20, 0, 0)) hx hb hh66 hx10 rfl rfl (hcl10 45 5 (20, 0, 0) (by decide) rfl).1 mf66_x_5 (eX11_writeDate (169, .getfield 45, 3) (List.mem_of_getElem? (i := 83) rfl)) ?_
                  refine tz_get (r := 8) (k := 1) (t := (0, 0, 120)) hx hb hh66 rwr rfl rfl (hcl8 251 1 (0, 0, 120) (by decide) rfl).1 fb67 (eX11_writeDate (172, .getfield 251, 3) (List.mem_of_getElem? (i := 84) rfl)) ?_
                  have hO9 : [] ++ yrL v11.toInt ++ orL v65.toInt v52.toInt = dateL n0.toInt st0.toInt cy cm cd cw := by
                    cases isY_one (cvP_isY hcv) e11.1
                    unfold dateL
                    rw [if_neg (by omega), if_pos (by omega), hdsh, List.nil_append, show v65.toInt = n0.toInt - ysI v11.toInt + 1 by omega]
                  have hj9 := hj67
                  rw [hO9] at hj9
                  have hl9 := hn67
                  rw [hO9] at hl9
                  have hok := dateL_ok n0.toInt st0.toInt cy cm cd cw
                  exact vx_ret (W.widen (k := 1) (n := 6) (Nat.zero_le _) (Nat.zero_le _) (W.zret hx hb hr rfl (fun t ht hW => ⟨_, _, T, dateL n0.toInt st0.toInt cy cm cd cw, rfl, ⟨_, rfl, rfl⟩, by rw [ht]; exact hh66.l0, by rw [ht]; exact kp66, by rw [ht]; exact ⟨⟨tx, mf66_x_4, rtx, htx.kept rtx kw66 (by decide) (by decide) (by decide)⟩, ⟨wr, mf66_x_5, rwr, hj9⟩, ⟨hkT, by have h7 := hok.2; omega, hok.1⟩⟩, rfl, Or.inr ⟨rfl, by unfold dwV dOK; omega, ⟨cy, cm, cd, cw, hcv, hcw, rfl⟩, hl9⟩⟩) hh66.2.2.1 (eX11_writeDate (175, .ireturn, 1) (List.mem_of_getElem? (i := 85) rfl))))
          · skip
            exfalso
            omega
        · skip
          refine ff_iconst hx hb (eX11_writeDate (32, .iconst 1, 1) (List.mem_of_getElem? (i := 16) rfl)) (by decide) (by decide) (fun v68 e68 => ?_)
          refine lv_goto hx hb (eX11_writeDate (33, .goto 4, 3) (List.mem_of_getElem? (i := 17) rfl)) (tgt := 37) rfl ?_
          refine lv_istore hx hb (eX11_writeDate (37, .istore 4, 2) (List.mem_of_getElem? (i := 19) rfl)) hl (by decide) rfl (fun ls69 hl69 => ?_)
          refine lv_iload hx hb (eX11_writeDate (39, .iload 4, 2) (List.mem_of_getElem? (i := 20) rfl)) (lv_at hl69 0 rfl) ?_
          refine ff_if_eq hx hb (eX11_writeDate (41, .ifCond .eq 10, 3) (List.mem_of_getElem? (i := 21) rfl)) (tgt := 51) rfl (fun c70 => (by exfalso; omega)) (fun c70 => ?_)
          refine lv_lload_n hx hb (eX11_writeDate (44, .lload_n 1, 1) (List.mem_of_getElem? (i := 22) rfl)) rfl (lv_at hl69 2 rfl) ?_
          refine zu_S (vs := [.long n0]) (rest := []) hx hb hml hown hts0 zu_BT (hX2_weekYearOf l n0 (by omega) (by omega)) ⟨rfl, rfl⟩ ⟨by decide, by decide⟩ ⟨by decide, by decide⟩ (tb_2 237 rfl rfl) (tb_1 13 rfl rfl) (tb_2 235 rfl rfl) (tb_2 236 rfl rfl) (show yX2_weekYearOf.cls ≠ "java/lang/invoke/MethodHandle" ∧ yX2_weekYearOf.cls ≠ "java/lang/invoke/VarHandle" ∧ (parseMethodDescriptor yX2_weekYearOf.desc).map (fun d => d.parameters.length) = some 1 by decide +kernel) rfl (fun _ _ _ => trivial) hl69.1 (Nat.le_of_ble_eq_true rfl) (eX11_writeDate (45, .invokestatic 117, 3) (List.mem_of_getElem? (i := 23) rfl)) (fun w71 f71 => ?_)
          obtain ⟨v71, rfl, e71⟩ := f71
          have g71 := wy_in (n := n0.toInt) (by unfold dOK; omega) e71.1
          refine lv_goto hx hb (eX11_writeDate (48, .goto 7, 3) (List.mem_of_getElem? (i := 24) rfl)) (tgt := 55) rfl ?_
          refine lv_istore hx hb (eX11_writeDate (55, .istore 5, 2) (List.mem_of_getElem? (i := 27) rfl)) hl69 (by decide) rfl (fun ls72 hl72 => ?_)
          refine lv_iload hx hb (eX11_writeDate (57, .iload 5, 2) (List.mem_of_getElem? (i := 28) rfl)) (lv_at hl72 0 rfl) ?_
          refine zu_S (vs := [.int v71]) (rest := []) hx hb hml hown hts0 zu_BT (hX2_holdsYear l v71) ⟨rfl, rfl⟩ ⟨by decide, by decide⟩ ⟨by decide, by decide⟩ (tb_2 110 rfl rfl) (tb_1 13 rfl rfl) (tb_2 108 rfl rfl) (tb_2 109 rfl rfl) (show yX2_holdsYear.cls ≠ "java/lang/invoke/MethodHandle" ∧ yX2_holdsYear.cls ≠ "java/lang/invoke/VarHandle" ∧ (parseMethodDescriptor yX2_holdsYear.desc).map (fun d => d.parameters.length) = some 1 by decide +kernel) rfl (fun _ _ _ => trivial) hl72.1 (Nat.le_of_ble_eq_true rfl) (eX11_writeDate (59, .invokestatic 73, 3) (List.mem_of_getElem? (i := 29) rfl)) (fun w73 f73 => ?_)
          obtain ⟨v73, rfl, e73⟩ := f73
          refine ff_if_ne hx hb (eX11_writeDate (62, .ifCond .ne 14, 3) (List.mem_of_getElem? (i := 30) rfl)) (tgt := 76) rfl (fun c74 => ?_) (fun c74 => ?_)
          · skip
            refine lv_iload_n hx hb (eX11_writeDate (76, .iload_n 3, 1) (List.mem_of_getElem? (i := 36) rfl)) rfl (lv_at hl72 4 rfl) ?_
            refine ff_iconst hx hb (eX11_writeDate (77, .iconst 2, 1) (List.mem_of_getElem? (i := 37) rfl)) (by decide) (by decide) (fun v75 e75 => ?_)
            refine ff_iremP hx hb (eX11_writeDate (78, .irem, 1) (List.mem_of_getElem? (i := 38) rfl)) (by omega) (e75) (by decide) (fun v76 e76 => ?_)
            refine ff_if_eq hx hb (eX11_writeDate (79, .ifCond .eq 11, 3) (List.mem_of_getElem? (i := 39) rfl)) (tgt := 90) rfl (fun c77 => ?_) (fun c77 => ?_)
            · skip
              refine ff_iconst hx hb (eX11_writeDate (90, .iconst 1, 1) (List.mem_of_getElem? (i := 43) rfl)) (by decide) (by decide) (fun v78 e78 => ?_)
              refine lv_goto hx hb (eX11_writeDate (91, .goto 4, 3) (List.mem_of_getElem? (i := 44) rfl)) (tgt := 95) rfl ?_
              refine lv_istore hx hb (eX11_writeDate (95, .istore 6, 2) (List.mem_of_getElem? (i := 46) rfl)) hl72 (by decide) rfl (fun ls79 hl79 => ?_)
              obtain ⟨cy, cm, cd, hcv⟩ := cv_ex n0.toInt
              obtain ⟨cw, hcw⟩ := wy_ex n0.toInt
              have hdsh : v78.toInt = dshI st0.toInt v71.toInt := by unfold dshI; split <;> omega
              refine lv_aload_n hx hb (eX11_writeDate (97, .aload_n 0, 1) (List.mem_of_getElem? (i := 47) rfl)) rfl (lv_at hl79 3 rfl) ?_
              refine tz_get (r := 10) (k := 5) (t := (20, 0, 0)) hx hb hh hx10 rfl rfl (hcl10 45 5 (20, 0, 0) (by decide) rfl).1 fx5 (eX11_writeDate (98, .getfield 45, 3) (List.mem_of_getElem? (i := 48) rfl)) ?_
              refine tz_rowV (As := []) (st := []) (b := wr) (C := RX9) (Ts := gT) hx hb hml hown h2 (fun _ h => h) (hX9_start l D cA ro sz H0 wr O rwr) ⟨rfl, rfl⟩ ⟨by decide, by decide⟩ ⟨by decide, by decide⟩ (tb_5 212 rfl rfl) (tb_1 6 rfl rfl) (tb_5 209 rfl rfl) (tb_5 210 rfl rfl) (tb_5 211 rfl rfl) (show yX9_start.cls ≠ "java/lang/invoke/MethodHandle" ∧ yX9_start.cls ≠ "java/lang/invoke/VarHandle" ∧ (parseMethodDescriptor yX9_start.desc).map (fun d => d.parameters.length) = some 0 by decide +kernel) zs_blind (zs_ob hh rwr (show RTg[8]? = some (0, 8, 0, fsX9) from rfl) (zCX9 hKa.1.1.1)) (fun U hU hW => ⟨rfl, by rw [hU]; exact hh.l0, zKb s U hW.alike hKa.1.1, by rw [hU]; exact hwj⟩) hh.2.2.1 hl79.1 (Nat.le_of_ble_eq_true rfl) (eX11_writeDate (101, .invokevirtual 308, 3) (List.mem_of_getElem? (i := 49) rfl)) (fun r80 s80 t80 lo80 g80 f80 l80 => ?_)
              obtain ⟨q80, z80, c80, j80⟩ := f80
              cases q80
              rw [g80] at c80
              have hh80 : zh_ok D cA RTg ro sz H0 t80.heap lo80 := ⟨z80.1, z80.2.1, l80, z80.2.2.2⟩
              have kp80 := kp0.trans (c80.mono (ms' := kMc) (by decide))
              have mf80_x_0 := (c80.1 x 10 0 10 0 fsX11 hx10 rfl (by decide) (by decide)).trans fx0
              have mf80_x_2 := (c80.1 x 10 2 10 0 fsX11 hx10 rfl (by decide) (by decide)).trans fn
              have mf80_x_4 := (c80.1 x 10 4 10 0 fsX11 hx10 rfl (by decide) (by decide)).trans fx4
              have mf80_x_5 := (c80.1 x 10 5 10 0 fsX11 hx10 rfl (by decide) (by decide)).trans fx5
              have kw80 := c80
              have jl80 := hlp.kept rlp c80 (by decide) (by decide) (by decide)
              refine W.eq (g2 := F0 m 104 ls79 []) rfl ?_
              refine lv_aload_n hx hb (eX11_writeDate (104, .aload_n 0, 1) (List.mem_of_getElem? (i := 50) rfl)) rfl (lv_at hl79 3 rfl) ?_
              refine tz_get (r := 10) (k := 5) (t := (20, 0, 0)) hx hb hh80 hx10 rfl rfl (hcl10 45 5 (20, 0, 0) (by decide) rfl).1 mf80_x_5 (eX11_writeDate (105, .getfield 45, 3) (List.mem_of_getElem? (i := 51) rfl)) ?_
              refine lv_iload hx hb (eX11_writeDate (108, .iload 5, 2) (List.mem_of_getElem? (i := 52) rfl)) (lv_at hl79 1 rfl) ?_
              refine tz_rowV (As := [.int v71]) (st := []) (b := wr) (C := RX9) (Ts := gT) hx hb hml hown h2 (fun _ h => h) (hX9_putYear l D cA ro sz H0 wr v71 ([]) rwr (by omega) (by omega) (by show 0 + 7 ≤ 120; decide)) ⟨rfl, rfl⟩ ⟨by decide, by decide⟩ ⟨by decide, by decide⟩ (tb_5 216 rfl rfl) (tb_1 6 rfl rfl) (tb_5 213 rfl rfl) (tb_5 214 rfl rfl) (tb_5 215 rfl rfl) (show yX9_putYear.cls ≠ "java/lang/invoke/MethodHandle" ∧ yX9_putYear.cls ≠ "java/lang/invoke/VarHandle" ∧ (parseMethodDescriptor yX9_putYear.desc).map (fun d => d.parameters.length) = some 1 by decide +kernel) zs_blind (zs_ob hh80 rwr (show RTg[8]? = some (0, 8, 0, fsX9) from rfl) (zCX9 hKa.1.1.1)) (fun U hU hW => ⟨rfl, by rw [hU]; exact hh80.l0, zKb s U hW.alike hKa.1.1, by rw [hU]; exact j80⟩) hh80.2.2.1 hl79.1 (Nat.le_of_ble_eq_true rfl) (eX11_writeDate (110, .invokevirtual 309, 3) (List.mem_of_getElem? (i := 53) rfl)) (fun r81 s81 t81 lo81 g81 f81 l81 => ?_)
              obtain ⟨q81, z81, c81, j81⟩ := f81
              cases q81
              rw [g81] at c81
              have hh81 : zh_ok D cA RTg ro sz H0 t81.heap lo81 := ⟨z81.1, z81.2.1, l81, z81.2.2.2⟩
              have kp81 := kp80.trans (c81.mono (ms' := kMc) (by decide))
              have mf81_x_0 := (c81.1 x 10 0 10 0 fsX11 hx10 rfl (by decide) (by decide)).trans mf80_x_0
              have mf81_x_2 := (c81.1 x 10 2 10 0 fsX11 hx10 rfl (by decide) (by decide)).trans mf80_x_2
              have mf81_x_4 := (c81.1 x 10 4 10 0 fsX11 hx10 rfl (by decide) (by decide)).trans mf80_x_4
              have mf81_x_5 := (c81.1 x 10 5 10 0 fsX11 hx10 rfl (by decide) (by decide)).trans mf80_x_5
              have kw81 := kw80.trans c81
              have jl81 := jl80.kept rlp c81 (by decide) (by decide) (by decide)
              refine W.eq (g2 := F0 m 113 ls79 []) rfl ?_
              refine lv_iload hx hb (eX11_writeDate (113, .iload 4, 2) (List.mem_of_getElem? (i := 54) rfl)) (lv_at hl79 2 rfl) ?_
              refine ff_if_eq hx hb (eX11_writeDate (115, .ifCond .eq 16, 3) (List.mem_of_getElem? (i := 55) rfl)) (tgt := 131) rfl (fun c82 => (by exfalso; omega)) (fun c82 => ?_)
              refine lv_aload_n hx hb (eX11_writeDate (118, .aload_n 0, 1) (List.mem_of_getElem? (i := 56) rfl)) rfl (lv_at hl79 3 rfl) ?_
              refine tz_get (r := 10) (k := 5) (t := (20, 0, 0)) hx hb hh81 hx10 rfl rfl (hcl10 45 5 (20, 0, 0) (by decide) rfl).1 mf81_x_5 (eX11_writeDate (119, .getfield 45, 3) (List.mem_of_getElem? (i := 57) rfl)) ?_
              refine lv_lload_n hx hb (eX11_writeDate (122, .lload_n 1, 1) (List.mem_of_getElem? (i := 58) rfl)) rfl (lv_at hl79 4 rfl) ?_
              refine lv_iload hx hb (eX11_writeDate (123, .iload 6, 2) (List.mem_of_getElem? (i := 59) rfl)) (lv_at hl79 0 rfl) ?_
              refine tz_rowV (As := [.long n0, .int v78]) (st := []) (b := wr) (C := RX9) (Ts := gT) hx hb hml hown h2 (fun _ h => h) (hX9_putWeek l D cA ro sz H0 wr n0 v78 ([] ++ yrL v71.toInt) rwr (by omega) (by omega) v71.toInt e71.1 (by have hyl := yrL_len v71.toInt; (try simp only [List.length_append, List.length_nil, dgL_len]); omega)) ⟨rfl, rfl⟩ ⟨by decide, by decide⟩ ⟨by decide, by decide⟩ (tb_5 234 rfl rfl) (tb_1 6 rfl rfl) (tb_5 231 rfl rfl) (tb_5 232 rfl rfl) (tb_5 233 rfl rfl) (show yX9_putWeek.cls ≠ "java/lang/invoke/MethodHandle" ∧ yX9_putWeek.cls ≠ "java/lang/invoke/VarHandle" ∧ (parseMethodDescriptor yX9_putWeek.desc).map (fun d => d.parameters.length) = some 2 by decide +kernel) zs_blind (zs_ob hh81 rwr (show RTg[8]? = some (0, 8, 0, fsX9) from rfl) (zCX9 hKa.1.1.1)) (fun U hU hW => ⟨rfl, by rw [hU]; exact hh81.l0, zKb s U hW.alike hKa.1.1, by rw [hU]; exact j81⟩) hh81.2.2.1 hl79.1 (Nat.le_of_ble_eq_true rfl) (eX11_writeDate (125, .invokevirtual 312, 3) (List.mem_of_getElem? (i := 60) rfl)) (fun r83 s83 t83 lo83 g83 f83 l83 => ?_)
              obtain ⟨q83, z83, c83, j83⟩ := f83
              cases q83
              rw [g83] at c83
              have hh83 : zh_ok D cA RTg ro sz H0 t83.heap lo83 := ⟨z83.1, z83.2.1, l83, z83.2.2.2⟩
              have kp83 := kp81.trans (c83.mono (ms' := kMc) (by decide))
              have mf83_x_0 := (c83.1 x 10 0 10 0 fsX11 hx10 rfl (by decide) (by decide)).trans mf81_x_0
              have mf83_x_2 := (c83.1 x 10 2 10 0 fsX11 hx10 rfl (by decide) (by decide)).trans mf81_x_2
              have mf83_x_4 := (c83.1 x 10 4 10 0 fsX11 hx10 rfl (by decide) (by decide)).trans mf81_x_4
              have mf83_x_5 := (c83.1 x 10 5 10 0 fsX11 hx10 rfl (by decide) (by decide)).trans mf81_x_5
              have kw83 := kw81.trans c83
              have jl83 := jl81.kept rlp c83 (by decide) (by decide) (by decide)
              refine W.eq (g2 := F0 m 128 ls79 []) rfl ?_
              refine lv_goto hx hb (eX11_writeDate (128, .goto 40, 3) (List.mem_of_getElem? (i := 61) rfl)) (tgt := 168) rfl ?_
              have hj84 := j83
              obtain ⟨wb84, nw84, zw84, fa84, ra84, fb84, hn84, hc84, hz84⟩ := id hj84
              refine lv_aload_n hx hb (eX11_writeDate (168, .aload_n 0, 1) (List.mem_of_getElem? (i := 82) rfl)) rfl (lv_at hl79 3 rfl) ?_
              refine tz_get (r := 10) (k := 5) (t := (20, 0, 0)) hx hb hh83 hx10 rfl rfl (hcl10 45 5 (20, 0, 0) (by decide) rfl).1 mf83_x_5 (eX11_writeDate (169, .getfield 45, 3) (List.mem_of_getElem? (i := 83) rfl)) ?_
              refine tz_get (r := 8) (k := 1) (t := (0, 0, 120)) hx hb hh83 rwr rfl rfl (hcl8 251 1 (0, 0, 120) (by decide) rfl).1 fb84 (eX11_writeDate (172, .getfield 251, 3) (List.mem_of_getElem? (i := 84) rfl)) ?_
              have hO9 : [] ++ yrL v71.toInt ++ wkL ((thI n0.toInt - ysI v71.toInt) / 7 + 1) ((n0.toInt + 3) % 7 + 1) v78.toInt = dateL n0.toInt st0.toInt cy cm cd cw := by
                cases isY_one hcw e71.1
                unfold dateL
                rw [if_pos (by omega), hdsh, List.nil_append]
              have hj9 := hj84
              rw [hO9] at hj9
              have hl9 := hn84
              rw [hO9] at hl9
              have hok := dateL_ok n0.toInt st0.toInt cy cm cd cw
              exact vx_ret (W.widen (k := 1) (n := 6) (Nat.zero_le _) (Nat.zero_le _) (W.zret hx hb hr rfl (fun t ht hW => ⟨_, _, T, dateL n0.toInt st0.toInt cy cm cd cw, rfl, ⟨_, rfl, rfl⟩, by rw [ht]; exact hh83.l0, by rw [ht]; exact kp83, by rw [ht]; exact ⟨⟨tx, mf83_x_4, rtx, htx.kept rtx kw83 (by decide) (by decide) (by decide)⟩, ⟨wr, mf83_x_5, rwr, hj9⟩, ⟨hkT, by have h7 := hok.2; omega, hok.1⟩⟩, rfl, Or.inr ⟨rfl, by unfold dwV dOK; omega, ⟨cy, cm, cd, cw, hcv, hcw, rfl⟩, hl9⟩⟩) hh83.2.2.1 (eX11_writeDate (175, .ireturn, 1) (List.mem_of_getElem? (i := 85) rfl))))
            · skip
              refine lv_iload hx hb (eX11_writeDate (82, .iload 5, 2) (List.mem_of_getElem? (i := 40) rfl)) (lv_at hl72 0 rfl) ?_
              refine zu_S (vs := [.int v71]) (rest := []) hx hb hml hown hts0 zu_BT (hX9_isPlainYear l v71) ⟨rfl, rfl⟩ ⟨by decide, by decide⟩ ⟨by decide, by decide⟩ (tb_5 208 rfl rfl) (tb_1 6 rfl rfl) (tb_5 206 rfl rfl) (tb_5 207 rfl rfl) (show yX9_isPlainYear.cls ≠ "java/lang/invoke/MethodHandle" ∧ yX9_isPlainYear.cls ≠ "java/lang/invoke/VarHandle" ∧ (parseMethodDescriptor yX9_isPlainYear.desc).map (fun d => d.parameters.length) = some 1 by decide +kernel) rfl (fun _ _ _ => trivial) hl72.1 (Nat.le_of_ble_eq_true rfl) (eX11_writeDate (84, .invokestatic 305, 3) (List.mem_of_getElem? (i := 41) rfl)) (fun w85 f85 => ?_)
              obtain ⟨v85, rfl, e85⟩ := f85
              refine ff_if_ne hx hb (eX11_writeDate (87, .ifCond .ne 7, 3) (List.mem_of_getElem? (i := 42) rfl)) (tgt := 94) rfl (fun c86 => ?_) (fun c86 => ?_)
              · skip
                refine ff_iconst hx hb (eX11_writeDate (94, .iconst 0, 1) (List.mem_of_getElem? (i := 45) rfl)) (by decide) (by decide) (fun v87 e87 => ?_)
                refine lv_istore hx hb (eX11_writeDate (95, .istore 6, 2) (List.mem_of_getElem? (i := 46) rfl)) hl72 (by decide) rfl (fun ls88 hl88 => ?_)
                obtain ⟨cy, cm, cd, hcv⟩ := cv_ex n0.toInt
                obtain ⟨cw, hcw⟩ := wy_ex n0.toInt
                have hdsh : v87.toInt = dshI st0.toInt v71.toInt := by unfold dshI; split <;> omega
                refine lv_aload_n hx hb (eX11_writeDate (97, .aload_n 0, 1) (List.mem_of_getElem? (i := 47) rfl)) rfl (lv_at hl88 3 rfl) ?_
                refine tz_get (r := 10) (k := 5) (t := (20, 0, 0)) hx hb hh hx10 rfl rfl (hcl10 45 5 (20, 0, 0) (by decide) rfl).1 fx5 (eX11_writeDate (98, .getfield 45, 3) (List.mem_of_getElem? (i := 48) rfl)) ?_
                refine tz_rowV (As := []) (st := []) (b := wr) (C := RX9) (Ts := gT) hx hb hml hown h2 (fun _ h => h) (hX9_start l D cA ro sz H0 wr O rwr) ⟨rfl, rfl⟩ ⟨by decide, by decide⟩ ⟨by decide, by decide⟩ (tb_5 212 rfl rfl) (tb_1 6 rfl rfl) (tb_5 209 rfl rfl) (tb_5 210 rfl rfl) (tb_5 211 rfl rfl) (show yX9_start.cls ≠ "java/lang/invoke/MethodHandle" ∧ yX9_start.cls ≠ "java/lang/invoke/VarHandle" ∧ (parseMethodDescriptor yX9_start.desc).map (fun d => d.parameters.length) = some 0 by decide +kernel) zs_blind (zs_ob hh rwr (show RTg[8]? = some (0, 8, 0, fsX9) from rfl) (zCX9 hKa.1.1.1)) (fun U hU hW => ⟨rfl, by rw [hU]; exact hh.l0, zKb s U hW.alike hKa.1.1, by rw [hU]; exact hwj⟩) hh.2.2.1 hl88.1 (Nat.le_of_ble_eq_true rfl) (eX11_writeDate (101, .invokevirtual 308, 3) (List.mem_of_getElem? (i := 49) rfl)) (fun r89 s89 t89 lo89 g89 f89 l89 => ?_)
                obtain ⟨q89, z89, c89, j89⟩ := f89
                cases q89
                rw [g89] at c89
                have hh89 : zh_ok D cA RTg ro sz H0 t89.heap lo89 := ⟨z89.1, z89.2.1, l89, z89.2.2.2⟩
                have kp89 := kp0.trans (c89.mono (ms' := kMc) (by decide))
                have mf89_x_0 := (c89.1 x 10 0 10 0 fsX11 hx10 rfl (by decide) (by decide)).trans fx0
                have mf89_x_2 := (c89.1 x 10 2 10 0 fsX11 hx10 rfl (by decide) (by decide)).trans fn
                have mf89_x_4 := (c89.1 x 10 4 10 0 fsX11 hx10 rfl (by decide) (by decide)).trans fx4
                have mf89_x_5 := (c89.1 x 10 5 10 0 fsX11 hx10 rfl (by decide) (by decide)).trans fx5
                have kw89 := c89
                have jl89 := hlp.kept rlp c89 (by decide) (by decide) (by decide)
                refine W.eq (g2 := F0 m 104 ls88 []) rfl ?_
                refine lv_aload_n hx hb (eX11_writeDate (104, .aload_n 0, 1) (List.mem_of_getElem? (i := 50) rfl)) rfl (lv_at hl88 3 rfl) ?_
                refine tz_get (r := 10) (k := 5) (t := (20, 0, 0)) hx hb hh89 hx10 rfl rfl (hcl10 45 5 (20, 0, 0) (by decide) rfl).1 mf89_x_5 (eX11_writeDate (105, .getfield 45, 3) (List.mem_of_getElem? (i := 51) rfl)) ?_
                refine lv_iload hx hb (eX11_writeDate (108, .iload 5, 2) (List.mem_of_getElem? (i := 52) rfl)) (lv_at hl88 1 rfl) ?_
                refine tz_rowV (As := [.int v71]) (st := []) (b := wr) (C := RX9) (Ts := gT) hx hb hml hown h2 (fun _ h => h) (hX9_putYear l D cA ro sz H0 wr v71 ([]) rwr (by omega) (by omega) (by show 0 + 7 ≤ 120; decide)) ⟨rfl, rfl⟩ ⟨by decide, by decide⟩ ⟨by decide, by decide⟩ (tb_5 216 rfl rfl) (tb_1 6 rfl rfl) (tb_5 213 rfl rfl) (tb_5 214 rfl rfl) (tb_5 215 rfl rfl) (show yX9_putYear.cls ≠ "java/lang/invoke/MethodHandle" ∧ yX9_putYear.cls ≠ "java/lang/invoke/VarHandle" ∧ (parseMethodDescriptor yX9_putYear.desc).map (fun d => d.parameters.length) = some 1 by decide +kernel) zs_blind (zs_ob hh89 rwr (show RTg[8]? = some (0, 8, 0, fsX9) from rfl) (zCX9 hKa.1.1.1)) (fun U hU hW => ⟨rfl, by rw [hU]; exact hh89.l0, zKb s U hW.alike hKa.1.1, by rw [hU]; exact j89⟩) hh89.2.2.1 hl88.1 (Nat.le_of_ble_eq_true rfl) (eX11_writeDate (110, .invokevirtual 309, 3) (List.mem_of_getElem? (i := 53) rfl)) (fun r90 s90 t90 lo90 g90 f90 l90 => ?_)
                obtain ⟨q90, z90, c90, j90⟩ := f90
                cases q90
                rw [g90] at c90
                have hh90 : zh_ok D cA RTg ro sz H0 t90.heap lo90 := ⟨z90.1, z90.2.1, l90, z90.2.2.2⟩
                have kp90 := kp89.trans (c90.mono (ms' := kMc) (by decide))
                have mf90_x_0 := (c90.1 x 10 0 10 0 fsX11 hx10 rfl (by decide) (by decide)).trans mf89_x_0
                have mf90_x_2 := (c90.1 x 10 2 10 0 fsX11 hx10 rfl (by decide) (by decide)).trans mf89_x_2
                have mf90_x_4 := (c90.1 x 10 4 10 0 fsX11 hx10 rfl (by decide) (by decide)).trans mf89_x_4
                have mf90_x_5 := (c90.1 x 10 5 10 0 fsX11 hx10 rfl (by decide) (by decide)).trans mf89_x_5
                have kw90 := kw89.trans c90
                have jl90 := jl89.kept rlp c90 (by decide) (by decide) (by decide)
                refine W.eq (g2 := F0 m 113 ls88 []) rfl ?_
                refine lv_iload hx hb (eX11_writeDate (113, .iload 4, 2) (List.mem_of_getElem? (i := 54) rfl)) (lv_at hl88 2 rfl) ?_
                refine ff_if_eq hx hb (eX11_writeDate (115, .ifCond .eq 16, 3) (List.mem_of_getElem? (i := 55) rfl)) (tgt := 131) rfl (fun c91 => (by exfalso; omega)) (fun c91 => ?_)
                refine lv_aload_n hx hb (eX11_writeDate (118, .aload_n 0, 1) (List.mem_of_getElem? (i := 56) rfl)) rfl (lv_at hl88 3 rfl) ?_
                refine tz_get (r := 10) (k := 5) (t := (20, 0, 0)) hx hb hh90 hx10 rfl rfl (hcl10 45 5 (20, 0, 0) (by decide) rfl).1 mf90_x_5 (eX11_writeDate (119, .getfield 45, 3) (List.mem_of_getElem? (i := 57) rfl)) ?_
                refine lv_lload_n hx hb (eX11_writeDate (122, .lload_n 1, 1) (List.mem_of_getElem? (i := 58) rfl)) rfl (lv_at hl88 4 rfl) ?_
                refine lv_iload hx hb (eX11_writeDate (123, .iload 6, 2) (List.mem_of_getElem? (i := 59) rfl)) (lv_at hl88 0 rfl) ?_
                refine tz_rowV (As := [.long n0, .int v87]) (st := []) (b := wr) (C := RX9) (Ts := gT) hx hb hml hown h2 (fun _ h => h) (hX9_putWeek l D cA ro sz H0 wr n0 v87 ([] ++ yrL v71.toInt) rwr (by omega) (by omega) v71.toInt e71.1 (by have hyl := yrL_len v71.toInt; (try simp only [List.length_append, List.length_nil, dgL_len]); omega)) ⟨rfl, rfl⟩ ⟨by decide, by decide⟩ ⟨by decide, by decide⟩ (tb_5 234 rfl rfl) (tb_1 6 rfl rfl) (tb_5 231 rfl rfl) (tb_5 232 rfl rfl) (tb_5 233 rfl rfl) (show yX9_putWeek.cls ≠ "java/lang/invoke/MethodHandle" ∧ yX9_putWeek.cls ≠ "java/lang/invoke/VarHandle" ∧ (parseMethodDescriptor yX9_putWeek.desc).map (fun d => d.parameters.length) = some 2 by decide +kernel) zs_blind (zs_ob hh90 rwr (show RTg[8]? = some (0, 8, 0, fsX9) from rfl) (zCX9 hKa.1.1.1)) (fun U hU hW => ⟨rfl, by rw [hU]; exact hh90.l0, zKb s U hW.alike hKa.1.1, by rw [hU]; exact j90⟩) hh90.2.2.1 hl88.1 (Nat.le_of_ble_eq_true rfl) (eX11_writeDate (125, .invokevirtual 312, 3) (List.mem_of_getElem? (i := 60) rfl)) (fun r92 s92 t92 lo92 g92 f92 l92 => ?_)
                obtain ⟨q92, z92, c92, j92⟩ := f92
                cases q92
                rw [g92] at c92
                have hh92 : zh_ok D cA RTg ro sz H0 t92.heap lo92 := ⟨z92.1, z92.2.1, l92, z92.2.2.2⟩
                have kp92 := kp90.trans (c92.mono (ms' := kMc) (by decide))
                have mf92_x_0 := (c92.1 x 10 0 10 0 fsX11 hx10 rfl (by decide) (by decide)).trans mf90_x_0
                have mf92_x_2 := (c92.1 x 10 2 10 0 fsX11 hx10 rfl (by decide) (by decide)).trans mf90_x_2
                have mf92_x_4 := (c92.1 x 10 4 10 0 fsX11 hx10 rfl (by decide) (by decide)).trans mf90_x_4
                have mf92_x_5 := (c92.1 x 10 5 10 0 fsX11 hx10 rfl (by decide) (by decide)).trans mf90_x_5
                have kw92 := kw90.trans c92
                have jl92 := jl90.kept rlp c92 (by decide) (by decide) (by decide)
                refine W.eq (g2 := F0 m 128 ls88 []) rfl ?_
                refine lv_goto hx hb (eX11_writeDate (128, .goto 40, 3) (List.mem_of_getElem? (i := 61) rfl)) (tgt := 168) rfl ?_
                have hj93 := j92
                obtain ⟨wb93, nw93, zw93, fa93, ra93, fb93, hn93, hc93, hz93⟩ := id hj93
                refine lv_aload_n hx hb (eX11_writeDate (168, .aload_n 0, 1) (List.mem_of_getElem? (i := 82) rfl)) rfl (lv_at hl88 3 rfl) ?_
                refine tz_get (r := 10) (k := 5) (t := (20, 0, 0)) hx hb hh92 hx10 rfl rfl (hcl10 45 5 (20, 0, 0) (by decide) rfl).1 mf92_x_5 (eX11_writeDate (169, .getfield 45, 3) (List.mem_of_getElem? (i := 83) rfl)) ?_
                refine tz_get (r := 8) (k := 1) (t := (0, 0, 120)) hx hb hh92 rwr rfl rfl (hcl8 251 1 (0, 0, 120) (by decide) rfl).1 fb93 (eX11_writeDate (172, .getfield 251, 3) (List.mem_of_getElem? (i := 84) rfl)) ?_
                have hO9 : [] ++ yrL v71.toInt ++ wkL ((thI n0.toInt - ysI v71.toInt) / 7 + 1) ((n0.toInt + 3) % 7 + 1) v87.toInt = dateL n0.toInt st0.toInt cy cm cd cw := by
                  cases isY_one hcw e71.1
                  unfold dateL
                  rw [if_pos (by omega), hdsh, List.nil_append]
                have hj9 := hj93
                rw [hO9] at hj9
                have hl9 := hn93
                rw [hO9] at hl9
                have hok := dateL_ok n0.toInt st0.toInt cy cm cd cw
                exact vx_ret (W.widen (k := 1) (n := 6) (Nat.zero_le _) (Nat.zero_le _) (W.zret hx hb hr rfl (fun t ht hW => ⟨_, _, T, dateL n0.toInt st0.toInt cy cm cd cw, rfl, ⟨_, rfl, rfl⟩, by rw [ht]; exact hh92.l0, by rw [ht]; exact kp92, by rw [ht]; exact ⟨⟨tx, mf92_x_4, rtx, htx.kept rtx kw92 (by decide) (by decide) (by decide)⟩, ⟨wr, mf92_x_5, rwr, hj9⟩, ⟨hkT, by have h7 := hok.2; omega, hok.1⟩⟩, rfl, Or.inr ⟨rfl, by unfold dwV dOK; omega, ⟨cy, cm, cd, cw, hcv, hcw, rfl⟩, hl9⟩⟩) hh92.2.2.1 (eX11_writeDate (175, .ireturn, 1) (List.mem_of_getElem? (i := 85) rfl))))
              · skip
                refine ff_iconst hx hb (eX11_writeDate (90, .iconst 1, 1) (List.mem_of_getElem? (i := 43) rfl)) (by decide) (by decide) (fun v94 e94 => ?_)
                refine lv_goto hx hb (eX11_writeDate (91, .goto 4, 3) (List.mem_of_getElem? (i := 44) rfl)) (tgt := 95) rfl ?_
                refine lv_istore hx hb (eX11_writeDate (95, .istore 6, 2) (List.mem_of_getElem? (i := 46) rfl)) hl72 (by decide) rfl (fun ls95 hl95 => ?_)
                obtain ⟨cy, cm, cd, hcv⟩ := cv_ex n0.toInt
                obtain ⟨cw, hcw⟩ := wy_ex n0.toInt
                have hdsh : v94.toInt = dshI st0.toInt v71.toInt := by unfold dshI; split <;> omega
                refine lv_aload_n hx hb (eX11_writeDate (97, .aload_n 0, 1) (List.mem_of_getElem? (i := 47) rfl)) rfl (lv_at hl95 3 rfl) ?_
                refine tz_get (r := 10) (k := 5) (t := (20, 0, 0)) hx hb hh hx10 rfl rfl (hcl10 45 5 (20, 0, 0) (by decide) rfl).1 fx5 (eX11_writeDate (98, .getfield 45, 3) (List.mem_of_getElem? (i := 48) rfl)) ?_
                refine tz_rowV (As := []) (st := []) (b := wr) (C := RX9) (Ts := gT) hx hb hml hown h2 (fun _ h => h) (hX9_start l D cA ro sz H0 wr O rwr) ⟨rfl, rfl⟩ ⟨by decide, by decide⟩ ⟨by decide, by decide⟩ (tb_5 212 rfl rfl) (tb_1 6 rfl rfl) (tb_5 209 rfl rfl) (tb_5 210 rfl rfl) (tb_5 211 rfl rfl) (show yX9_start.cls ≠ "java/lang/invoke/MethodHandle" ∧ yX9_start.cls ≠ "java/lang/invoke/VarHandle" ∧ (parseMethodDescriptor yX9_start.desc).map (fun d => d.parameters.length) = some 0 by decide +kernel) zs_blind (zs_ob hh rwr (show RTg[8]? = some (0, 8, 0, fsX9) from rfl) (zCX9 hKa.1.1.1)) (fun U hU hW => ⟨rfl, by rw [hU]; exact hh.l0, zKb s U hW.alike hKa.1.1, by rw [hU]; exact hwj⟩) hh.2.2.1 hl95.1 (Nat.le_of_ble_eq_true rfl) (eX11_writeDate (101, .invokevirtual 308, 3) (List.mem_of_getElem? (i := 49) rfl)) (fun r96 s96 t96 lo96 g96 f96 l96 => ?_)
                obtain ⟨q96, z96, c96, j96⟩ := f96
                cases q96
                rw [g96] at c96
                have hh96 : zh_ok D cA RTg ro sz H0 t96.heap lo96 := ⟨z96.1, z96.2.1, l96, z96.2.2.2⟩
                have kp96 := kp0.trans (c96.mono (ms' := kMc) (by decide))
                have mf96_x_0 := (c96.1 x 10 0 10 0 fsX11 hx10 rfl (by decide) (by decide)).trans fx0
                have mf96_x_2 := (c96.1 x 10 2 10 0 fsX11 hx10 rfl (by decide) (by decide)).trans fn
                have mf96_x_4 := (c96.1 x 10 4 10 0 fsX11 hx10 rfl (by decide) (by decide)).trans fx4
                have mf96_x_5 := (c96.1 x 10 5 10 0 fsX11 hx10 rfl (by decide) (by decide)).trans fx5
                have kw96 := c96
                have jl96 := hlp.kept rlp c96 (by decide) (by decide) (by decide)
                refine W.eq (g2 := F0 m 104 ls95 []) rfl ?_
                refine lv_aload_n hx hb (eX11_writeDate (104, .aload_n 0, 1) (List.mem_of_getElem? (i := 50) rfl)) rfl (lv_at hl95 3 rfl) ?_
                refine tz_get (r := 10) (k := 5) (t := (20, 0, 0)) hx hb hh96 hx10 rfl rfl (hcl10 45 5 (20, 0, 0) (by decide) rfl).1 mf96_x_5 (eX11_writeDate (105, .getfield 45, 3) (List.mem_of_getElem? (i := 51) rfl)) ?_
                refine lv_iload hx hb (eX11_writeDate (108, .iload 5, 2) (List.mem_of_getElem? (i := 52) rfl)) (lv_at hl95 1 rfl) ?_
                refine tz_rowV (As := [.int v71]) (st := []) (b := wr) (C := RX9) (Ts := gT) hx hb hml hown h2 (fun _ h => h) (hX9_putYear l D cA ro sz H0 wr v71 ([]) rwr (by omega) (by omega) (by show 0 + 7 ≤ 120; decide)) ⟨rfl, rfl⟩ ⟨by decide, by decide⟩ ⟨by decide, by decide⟩ (tb_5 216 rfl rfl) (tb_1 6 rfl rfl) (tb_5 213 rfl rfl) (tb_5 214 rfl rfl) (tb_5 215 rfl rfl) (show yX9_putYear.cls ≠ "java/lang/invoke/MethodHandle" ∧ yX9_putYear.cls ≠ "java/lang/invoke/VarHandle" ∧ (parseMethodDescriptor yX9_putYear.desc).map (fun d => d.parameters.length) = some 1 by decide +kernel) zs_blind (zs_ob hh96 rwr (show RTg[8]? = some (0, 8, 0, fsX9) from rfl) (zCX9 hKa.1.1.1)) (fun U hU hW => ⟨rfl, by rw [hU]; exact hh96.l0, zKb s U hW.alike hKa.1.1, by rw [hU]; exact j96⟩) hh96.2.2.1 hl95.1 (Nat.le_of_ble_eq_true rfl) (eX11_writeDate (110, .invokevirtual 309, 3) (List.mem_of_getElem? (i := 53) rfl)) (fun r97 s97 t97 lo97 g97 f97 l97 => ?_)
                obtain ⟨q97, z97, c97, j97⟩ := f97
                cases q97
                rw [g97] at c97
                have hh97 : zh_ok D cA RTg ro sz H0 t97.heap lo97 := ⟨z97.1, z97.2.1, l97, z97.2.2.2⟩
                have kp97 := kp96.trans (c97.mono (ms' := kMc) (by decide))
                have mf97_x_0 := (c97.1 x 10 0 10 0 fsX11 hx10 rfl (by decide) (by decide)).trans mf96_x_0
                have mf97_x_2 := (c97.1 x 10 2 10 0 fsX11 hx10 rfl (by decide) (by decide)).trans mf96_x_2
                have mf97_x_4 := (c97.1 x 10 4 10 0 fsX11 hx10 rfl (by decide) (by decide)).trans mf96_x_4
                have mf97_x_5 := (c97.1 x 10 5 10 0 fsX11 hx10 rfl (by decide) (by decide)).trans mf96_x_5
                have kw97 := kw96.trans c97
                have jl97 := jl96.kept rlp c97 (by decide) (by decide) (by decide)
                refine W.eq (g2 := F0 m 113 ls95 []) rfl ?_
                refine lv_iload hx hb (eX11_writeDate (113, .iload 4, 2) (List.mem_of_getElem? (i := 54) rfl)) (lv_at hl95 2 rfl) ?_
                refine ff_if_eq hx hb (eX11_writeDate (115, .ifCond .eq 16, 3) (List.mem_of_getElem? (i := 55) rfl)) (tgt := 131) rfl (fun c98 => (by exfalso; omega)) (fun c98 => ?_)
                refine lv_aload_n hx hb (eX11_writeDate (118, .aload_n 0, 1) (List.mem_of_getElem? (i := 56) rfl)) rfl (lv_at hl95 3 rfl) ?_
                refine tz_get (r := 10) (k := 5) (t := (20, 0, 0)) hx hb hh97 hx10 rfl rfl (hcl10 45 5 (20, 0, 0) (by decide) rfl).1 mf97_x_5 (eX11_writeDate (119, .getfield 45, 3) (List.mem_of_getElem? (i := 57) rfl)) ?_
                refine lv_lload_n hx hb (eX11_writeDate (122, .lload_n 1, 1) (List.mem_of_getElem? (i := 58) rfl)) rfl (lv_at hl95 4 rfl) ?_
                refine lv_iload hx hb (eX11_writeDate (123, .iload 6, 2) (List.mem_of_getElem? (i := 59) rfl)) (lv_at hl95 0 rfl) ?_
                refine tz_rowV (As := [.long n0, .int v94]) (st := []) (b := wr) (C := RX9) (Ts := gT) hx hb hml hown h2 (fun _ h => h) (hX9_putWeek l D cA ro sz H0 wr n0 v94 ([] ++ yrL v71.toInt) rwr (by omega) (by omega) v71.toInt e71.1 (by have hyl := yrL_len v71.toInt; (try simp only [List.length_append, List.length_nil, dgL_len]); omega)) ⟨rfl, rfl⟩ ⟨by decide, by decide⟩ ⟨by decide, by decide⟩ (tb_5 234 rfl rfl) (tb_1 6 rfl rfl) (tb_5 231 rfl rfl) (tb_5 232 rfl rfl) (tb_5 233 rfl rfl) (show yX9_putWeek.cls ≠ "java/lang/invoke/MethodHandle" ∧ yX9_putWeek.cls ≠ "java/lang/invoke/VarHandle" ∧ (parseMethodDescriptor yX9_putWeek.desc).map (fun d => d.parameters.length) = some 2 by decide +kernel) zs_blind (zs_ob hh97 rwr (show RTg[8]? = some (0, 8, 0, fsX9) from rfl) (zCX9 hKa.1.1.1)) (fun U hU hW => ⟨rfl, by rw [hU]; exact hh97.l0, zKb s U hW.alike hKa.1.1, by rw [hU]; exact j97⟩) hh97.2.2.1 hl95.1 (Nat.le_of_ble_eq_true rfl) (eX11_writeDate (125, .invokevirtual 312, 3) (List.mem_of_getElem? (i := 60) rfl)) (fun r99 s99 t99 lo99 g99 f99 l99 => ?_)
                obtain ⟨q99, z99, c99, j99⟩ := f99
                cases q99
                rw [g99] at c99
                have hh99 : zh_ok D cA RTg ro sz H0 t99.heap lo99 := ⟨z99.1, z99.2.1, l99, z99.2.2.2⟩
                have kp99 := kp97.trans (c99.mono (ms' := kMc) (by decide))
                have mf99_x_0 := (c99.1 x 10 0 10 0 fsX11 hx10 rfl (by decide) (by decide)).trans mf97_x_0
                have mf99_x_2 := (c99.1 x 10 2 10 0 fsX11 hx10 rfl (by decide) (by decide)).trans mf97_x_2
                have mf99_x_4 := (c99.1 x 10 4 10 0 fsX11 hx10 rfl (by decide) (by decide)).trans mf97_x_4
                have mf99_x_5 := (c99.1 x 10 5 10 0 fsX11 hx10 rfl (by decide) (by decide)).trans mf97_x_5
                have kw99 := kw97.trans c99
                have jl99 := jl97.kept rlp c99 (by decide) (by decide) (by decide)
                refine W.eq (g2 := F0 m 128 ls95 []) rfl ?_
                refine lv_goto hx hb (eX11_writeDate (128, .goto 40, 3) (List.mem_of_getElem? (i := 61) rfl)) (tgt := 168) rfl ?_
                have hj100 := j99
                obtain ⟨wb100, nw100, zw100, fa100, ra100, fb100, hn100, hc100, hz100⟩ := id hj100
                refine lv_aload_n hx hb (eX11_writeDate (168, .aload_n 0, 1) (List.mem_of_getElem? (i := 82) rfl)) rfl (lv_at hl95 3 rfl) ?_
                refine tz_get (r := 10) (k := 5) (t := (20, 0, 0)) hx hb hh99 hx10 rfl rfl (hcl10 45 5 (20, 0, 0) (by decide) rfl).1 mf99_x_5 (eX11_writeDate (169, .getfield 45, 3) (List.mem_of_getElem? (i := 83) rfl)) ?_
                refine tz_get (r := 8) (k := 1) (t := (0, 0, 120)) hx hb hh99 rwr rfl rfl (hcl8 251 1 (0, 0, 120) (by decide) rfl).1 fb100 (eX11_writeDate (172, .getfield 251, 3) (List.mem_of_getElem? (i := 84) rfl)) ?_
                have hO9 : [] ++ yrL v71.toInt ++ wkL ((thI n0.toInt - ysI v71.toInt) / 7 + 1) ((n0.toInt + 3) % 7 + 1) v94.toInt = dateL n0.toInt st0.toInt cy cm cd cw := by
                  cases isY_one hcw e71.1
                  unfold dateL
                  rw [if_pos (by omega), hdsh, List.nil_append]
                have hj9 := hj100
                rw [hO9] at hj9
                have hl9 := hn100
                rw [hO9] at hl9
                have hok := dateL_ok n0.toInt st0.toInt cy cm cd cw
                exact vx_ret (W.widen (k := 1) (n := 6) (Nat.zero_le _) (Nat.zero_le _) (W.zret hx hb hr rfl (fun t ht hW => ⟨_, _, T, dateL n0.toInt st0.toInt cy cm cd cw, rfl, ⟨_, rfl, rfl⟩, by rw [ht]; exact hh99.l0, by rw [ht]; exact kp99, by rw [ht]; exact ⟨⟨tx, mf99_x_4, rtx, htx.kept rtx kw99 (by decide) (by decide) (by decide)⟩, ⟨wr, mf99_x_5, rwr, hj9⟩, ⟨hkT, by have h7 := hok.2; omega, hok.1⟩⟩, rfl, Or.inr ⟨rfl, by unfold dwV dOK; omega, ⟨cy, cm, cd, cw, hcv, hcw, rfl⟩, hl9⟩⟩) hh99.2.2.1 (eX11_writeDate (175, .ireturn, 1) (List.mem_of_getElem? (i := 85) rfl))))
          · skip
            exfalso
            omega
      · skip
        exact zx_leafGW (ik := 83) (is := 301) (ic := 87) (cls := "java/lang/IllegalArgumentException") (text := "no such day or style") hx hb hst hown h2 hKa.1 hh hh (by rw [hl.1, hml]) hex hlk ⟨by decide, by decide, by decide, by decide⟩ (tb_2 121 rfl rfl) (tb_1 17 rfl rfl) (by decide) (gAt_in gAt_1) (by decide +kernel) (by decide) (by decide) (fun t h7 h8 => ⟨hh.grow h7 h8, kept_grow hh h8, Or.inl ⟨rfl, 0, rfl, Or.inl ⟨rfl, rfl, by unfold dwV dOK; omega⟩⟩⟩) (eX11_writeDate (16, .new 83, 3) (List.mem_of_getElem? (i := 8) rfl)) (eX11_writeDate (19, .dup, 1) (List.mem_of_getElem? (i := 9) rfl)) (eX11_writeDate (20, .ldc_w 301, 3) (List.mem_of_getElem? (i := 10) rfl)) (eX11_writeDate (23, .invokespecial 87, 3) (List.mem_of_getElem? (i := 11) rfl)) (eX11_writeDate (26, .athrow, 1) (List.mem_of_getElem? (i := 12) rfl))
