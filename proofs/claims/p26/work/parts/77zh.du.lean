set_option maxRecDepth 100000 in
set_option maxHeartbeats 4000000 in
theorem hX11_writeDuration (l : Launch) (hst : l.stackTraces = false) (D : va_G) (cA : Nat → ClassId) (ro : Nat → Option Nat) (sz : Nat) (H0 : Heap) (x : Nat) (mo : Int64) (da : Int64) (se : Int64) (na : Int32) (L : List Int) (zc : Int) (T O : List Int) (hx10 : ro x = some 10) : vx_Met l yX11_writeDuration (gW yX11_writeDuration cX11_writeDuration 8 (some .int)) { frames := 6, cells := 1, slots := 6, locals := 82 } (zs_PY D cA ro sz H0 (fun H => jCS D cA ro H x L zc ∧ jCK D cA ro H x T O) [.ref x, .long mo, .long da, .long se, .int na]) (zk_Q D cA ro sz H0 x vI (spU mo.toInt da.toInt se.toInt na.toInt T O)) (zk_X D cA ro sz H0 T O (spU mo.toInt da.toInt se.toInt na.toInt T O)) 1 6 (zy_fr sz) := by
  refine vx_ofW (cc := cX11_writeDuration) (maxL := 8) (ret := (some .int)) (by decide +kernel) rfl ?_
  intro p e s m args below meth c s1 B hml hex hv
  obtain ⟨rfl, hh, hKa, hBQ, hJ⟩ := hv
  have hx := B.exec
  have hb := B.bytes
  have hr := B.returns
  have hlk := B.notSynchronized
  have hts0 := atoms_spec (ws := gW yX11_writeDuration cX11_writeDuration 8 (some .int)) B.pre
  have h2 : ∀ w ∈ gT, w.before ([.ref x, .long mo, .long da, .long se, .int na] : List Value).toArray s = true := fun w hw => hts0 w (List.mem_cons_of_mem _ hw)
  have hown : s.vm.findClass RX11 = some m.cls := findClass_of_methodNamed B.named
  have hl := lv_entry [.ref x, .long mo, .long da, .long se, .int na] (n := 8) (Nat.le_of_ble_eq_true rfl)
  rw [lg_entry_eq]
  generalize (lg_sl [.ref x, .long mo, .long da, .long se, .int na] ++ List.replicate (8 - (lg_sl [.ref x, .long mo, .long da, .long se, .int na]).length) Slot.unset).toArray = ls at hl ⊢
  have b_mo := zn_i64 mo
  have b_da := zn_i64 da
  have b_se := zn_i64 se
  have b_na := zn_i32 na
  obtain ⟨⟨⟨lp, fx0, rlp, hlp⟩, ⟨nz, fn, hnz⟩, hjl⟩, ⟨tx, fx4, rtx, htx⟩, ⟨wr, fx5, rwr, hwj⟩, hkb⟩ := id hJ
  have hjL := hjl.2.1
  have hkT := hkb.1
  have hkO := hkb.2.1
  have hD := zD_all h2 hKa.1.1.1
  have hcl10 := fun (idx k : Nat) (t : zt_T) (h : (idx, 10, k) ∈ gfX11) (hk : fsX11[k]? = some t) => zf_clause (ro := ro) (ms := kMc) h2 hown hKa.1.1.1 gfX11_ok (by decide +kernel) idx 10 k 10 0 fsX11 t h rfl hk
  have hcl0 := fun (idx k : Nat) (t : zt_T) (h : (idx, 0, k) ∈ gfX11) (hk : fsX0[k]? = some t) => zf_clause (ro := ro) (ms := kMc) h2 hown hKa.1.1.1 gfX11_ok (by decide +kernel) idx 0 k 0 0 fsX0 t h rfl hk
  have hcl8 := fun (idx k : Nat) (t : zt_T) (h : (idx, 8, k) ∈ gfX11) (hk : fsX9[k]? = some t) => zf_clause (ro := ro) (ms := kMc) h2 hown hKa.1.1.1 gfX11_ok (by decide +kernel) idx 8 k 8 0 fsX9 t h rfl hk
  have kp0 : zc_kept D RTg ro kMc s.heap s.heap := zc_kept.refl
  refine lv_lload_n hx hb (eX11_writeDuration (0, .lload_n 1, 1) (List.mem_of_getElem? (i := 0) rfl)) rfl (lv_at hl 1 rfl) ?_
  refine ff_lconst hx hb (eX11_writeDuration (1, .lconst 0, 1) (List.mem_of_getElem? (i := 1) rfl)) rfl (fun v1 e1 => ?_)
  refine ff_lcmp hx hb (eX11_writeDuration (2, .lcmp, 1) (List.mem_of_getElem? (i := 2) rfl)) (fun v2 e2 => ?_)
  refine ff_if_lt hx hb (eX11_writeDuration (3, .ifCond .lt 54, 3) (List.mem_of_getElem? (i := 3) rfl)) (tgt := 57) rfl (fun c3 => ?_) (fun c3 => ?_)
  · skip
    exact zx_leafGW (ik := 83) (is := 350) (ic := 87) (cls := "java/lang/IllegalArgumentException") (text := "no such duration") hx hb hst hown h2 hKa.1 hh hh (by rw [hl.1, hml]) hex hlk ⟨by decide, by decide, by decide, by decide⟩ (tb_2 121 rfl rfl) (tb_1 17 rfl rfl) (by decide) (gAt_in gAt_1) (by decide +kernel) (by decide) (by decide) (fun t h7 h8 => ⟨hh.grow h7 h8, kept_grow hh h8, Or.inl ⟨rfl, 0, rfl, Or.inl ⟨rfl, rfl, by unfold duV; omega⟩⟩⟩) (eX11_writeDuration (57, .new 83, 3) (List.mem_of_getElem? (i := 29) rfl)) (eX11_writeDuration (60, .dup, 1) (List.mem_of_getElem? (i := 30) rfl)) (eX11_writeDuration (61, .ldc_w 350, 3) (List.mem_of_getElem? (i := 31) rfl)) (eX11_writeDuration (64, .invokespecial 87, 3) (List.mem_of_getElem? (i := 32) rfl)) (eX11_writeDuration (67, .athrow, 1) (List.mem_of_getElem? (i := 33) rfl))
  · skip
    refine lv_lload_n hx hb (eX11_writeDuration (6, .lload_n 1, 1) (List.mem_of_getElem? (i := 4) rfl)) rfl (lv_at hl 1 rfl) ?_
    refine ff_ldc2 (n := 999999999) hx hb hown h2 (clX11_ok 346 999999999 (List.mem_of_getElem? (i := 3) rfl)) (eX11_writeDuration (7, .ldc2_w 346, 3) (List.mem_of_getElem? (i := 5) rfl)) (fun v4 e4 => ?_)
    refine ff_lcmp hx hb (eX11_writeDuration (10, .lcmp, 1) (List.mem_of_getElem? (i := 6) rfl)) (fun v5 e5 => ?_)
    refine ff_if_gt hx hb (eX11_writeDuration (11, .ifCond .gt 46, 3) (List.mem_of_getElem? (i := 7) rfl)) (tgt := 57) rfl (fun c6 => ?_) (fun c6 => ?_)
    · skip
      exact zx_leafGW (ik := 83) (is := 350) (ic := 87) (cls := "java/lang/IllegalArgumentException") (text := "no such duration") hx hb hst hown h2 hKa.1 hh hh (by rw [hl.1, hml]) hex hlk ⟨by decide, by decide, by decide, by decide⟩ (tb_2 121 rfl rfl) (tb_1 17 rfl rfl) (by decide) (gAt_in gAt_1) (by decide +kernel) (by decide) (by decide) (fun t h7 h8 => ⟨hh.grow h7 h8, kept_grow hh h8, Or.inl ⟨rfl, 0, rfl, Or.inl ⟨rfl, rfl, by unfold duV; omega⟩⟩⟩) (eX11_writeDuration (57, .new 83, 3) (List.mem_of_getElem? (i := 29) rfl)) (eX11_writeDuration (60, .dup, 1) (List.mem_of_getElem? (i := 30) rfl)) (eX11_writeDuration (61, .ldc_w 350, 3) (List.mem_of_getElem? (i := 31) rfl)) (eX11_writeDuration (64, .invokespecial 87, 3) (List.mem_of_getElem? (i := 32) rfl)) (eX11_writeDuration (67, .athrow, 1) (List.mem_of_getElem? (i := 33) rfl))
    · skip
      refine lv_lload_n hx hb (eX11_writeDuration (14, .lload_n 3, 1) (List.mem_of_getElem? (i := 8) rfl)) rfl (lv_at hl 2 rfl) ?_
      refine ff_lconst hx hb (eX11_writeDuration (15, .lconst 0, 1) (List.mem_of_getElem? (i := 9) rfl)) rfl (fun v7 e7 => ?_)
      refine ff_lcmp hx hb (eX11_writeDuration (16, .lcmp, 1) (List.mem_of_getElem? (i := 10) rfl)) (fun v8 e8 => ?_)
      refine ff_if_lt hx hb (eX11_writeDuration (17, .ifCond .lt 40, 3) (List.mem_of_getElem? (i := 11) rfl)) (tgt := 57) rfl (fun c9 => ?_) (fun c9 => ?_)
      · skip
        exact zx_leafGW (ik := 83) (is := 350) (ic := 87) (cls := "java/lang/IllegalArgumentException") (text := "no such duration") hx hb hst hown h2 hKa.1 hh hh (by rw [hl.1, hml]) hex hlk ⟨by decide, by decide, by decide, by decide⟩ (tb_2 121 rfl rfl) (tb_1 17 rfl rfl) (by decide) (gAt_in gAt_1) (by decide +kernel) (by decide) (by decide) (fun t h7 h8 => ⟨hh.grow h7 h8, kept_grow hh h8, Or.inl ⟨rfl, 0, rfl, Or.inl ⟨rfl, rfl, by unfold duV; omega⟩⟩⟩) (eX11_writeDuration (57, .new 83, 3) (List.mem_of_getElem? (i := 29) rfl)) (eX11_writeDuration (60, .dup, 1) (List.mem_of_getElem? (i := 30) rfl)) (eX11_writeDuration (61, .ldc_w 350, 3) (List.mem_of_getElem? (i := 31) rfl)) (eX11_writeDuration (64, .invokespecial 87, 3) (List.mem_of_getElem? (i := 32) rfl)) (eX11_writeDuration (67, .athrow, 1) (List.mem_of_getElem? (i := 33) rfl))
      · skip
        refine lv_lload_n hx hb (eX11_writeDuration (20, .lload_n 3, 1) (List.mem_of_getElem? (i := 12) rfl)) rfl (lv_at hl 2 rfl) ?_
        refine ff_ldc2 (n := 999999999) hx hb hown h2 (clX11_ok 346 999999999 (List.mem_of_getElem? (i := 3) rfl)) (eX11_writeDuration (21, .ldc2_w 346, 3) (List.mem_of_getElem? (i := 13) rfl)) (fun v10 e10 => ?_)
        refine ff_lcmp hx hb (eX11_writeDuration (24, .lcmp, 1) (List.mem_of_getElem? (i := 14) rfl)) (fun v11 e11 => ?_)
        refine ff_if_gt hx hb (eX11_writeDuration (25, .ifCond .gt 32, 3) (List.mem_of_getElem? (i := 15) rfl)) (tgt := 57) rfl (fun c12 => ?_) (fun c12 => ?_)
        · skip
          exact zx_leafGW (ik := 83) (is := 350) (ic := 87) (cls := "java/lang/IllegalArgumentException") (text := "no such duration") hx hb hst hown h2 hKa.1 hh hh (by rw [hl.1, hml]) hex hlk ⟨by decide, by decide, by decide, by decide⟩ (tb_2 121 rfl rfl) (tb_1 17 rfl rfl) (by decide) (gAt_in gAt_1) (by decide +kernel) (by decide) (by decide) (fun t h7 h8 => ⟨hh.grow h7 h8, kept_grow hh h8, Or.inl ⟨rfl, 0, rfl, Or.inl ⟨rfl, rfl, by unfold duV; omega⟩⟩⟩) (eX11_writeDuration (57, .new 83, 3) (List.mem_of_getElem? (i := 29) rfl)) (eX11_writeDuration (60, .dup, 1) (List.mem_of_getElem? (i := 30) rfl)) (eX11_writeDuration (61, .ldc_w 350, 3) (List.mem_of_getElem? (i := 31) rfl)) (eX11_writeDuration (64, .invokespecial 87, 3) (List.mem_of_getElem? (i := 32) rfl)) (eX11_writeDuration (67, .athrow, 1) (List.mem_of_getElem? (i := 33) rfl))
        · skip
          refine lv_lload hx hb (eX11_writeDuration (28, .lload 5, 2) (List.mem_of_getElem? (i := 16) rfl)) (lv_at hl 3 rfl) ?_
          refine ff_lconst hx hb (eX11_writeDuration (30, .lconst 0, 1) (List.mem_of_getElem? (i := 17) rfl)) rfl (fun v13 e13 => ?_)
          refine ff_lcmp hx hb (eX11_writeDuration (31, .lcmp, 1) (List.mem_of_getElem? (i := 18) rfl)) (fun v14 e14 => ?_)
          refine ff_if_lt hx hb (eX11_writeDuration (32, .ifCond .lt 25, 3) (List.mem_of_getElem? (i := 19) rfl)) (tgt := 57) rfl (fun c15 => ?_) (fun c15 => ?_)
          · skip
            exact zx_leafGW (ik := 83) (is := 350) (ic := 87) (cls := "java/lang/IllegalArgumentException") (text := "no such duration") hx hb hst hown h2 hKa.1 hh hh (by rw [hl.1, hml]) hex hlk ⟨by decide, by decide, by decide, by decide⟩ (tb_2 121 rfl rfl) (tb_1 17 rfl rfl) (by decide) (gAt_in gAt_1) (by decide +kernel) (by decide) (by decide) (fun t h7 h8 => ⟨hh.grow h7 h8, kept_grow hh h8, Or.inl ⟨rfl, 0, rfl, Or.inl ⟨rfl, rfl, by unfold duV; omega⟩⟩⟩) (eX11_writeDuration (57, .new 83, 3) (List.mem_of_getElem? (i := 29) rfl)) (eX11_writeDuration (60, .dup, 1) (List.mem_of_getElem? (i := 30) rfl)) (eX11_writeDuration (61, .ldc_w 350, 3) (List.mem_of_getElem? (i := 31) rfl)) (eX11_writeDuration (64, .invokespecial 87, 3) (List.mem_of_getElem? (i := 32) rfl)) (eX11_writeDuration (67, .athrow, 1) (List.mem_of_getElem? (i := 33) rfl))
          · skip
            refine lv_lload hx hb (eX11_writeDuration (35, .lload 5, 2) (List.mem_of_getElem? (i := 20) rfl)) (lv_at hl 3 rfl) ?_
            refine ff_ldc2 (n := 3599999999999) hx hb hown h2 (clX11_ok 348 3599999999999 (List.mem_of_getElem? (i := 4) rfl)) (eX11_writeDuration (37, .ldc2_w 348, 3) (List.mem_of_getElem? (i := 21) rfl)) (fun v16 e16 => ?_)
            refine ff_lcmp hx hb (eX11_writeDuration (40, .lcmp, 1) (List.mem_of_getElem? (i := 22) rfl)) (fun v17 e17 => ?_)
            refine ff_if_gt hx hb (eX11_writeDuration (41, .ifCond .gt 16, 3) (List.mem_of_getElem? (i := 23) rfl)) (tgt := 57) rfl (fun c18 => ?_) (fun c18 => ?_)
            · skip
              exact zx_leafGW (ik := 83) (is := 350) (ic := 87) (cls := "java/lang/IllegalArgumentException") (text := "no such duration") hx hb hst hown h2 hKa.1 hh hh (by rw [hl.1, hml]) hex hlk ⟨by decide, by decide, by decide, by decide⟩ (tb_2 121 rfl rfl) (tb_1 17 rfl rfl) (by decide) (gAt_in gAt_1) (by decide +kernel) (by decide) (by decide) (fun t h7 h8 => ⟨hh.grow h7 h8, kept_grow hh h8, Or.inl ⟨rfl, 0, rfl, Or.inl ⟨rfl, rfl, by unfold duV; omega⟩⟩⟩) (eX11_writeDuration (57, .new 83, 3) (List.mem_of_getElem? (i := 29) rfl)) (eX11_writeDuration (60, .dup, 1) (List.mem_of_getElem? (i := 30) rfl)) (eX11_writeDuration (61, .ldc_w 350, 3) (List.mem_of_getElem? (i := 31) rfl)) (eX11_writeDuration (64, .invokespecial 87, 3) (List.mem_of_getElem? (i := 32) rfl)) (eX11_writeDuration (67, .athrow, 1) (List.mem_of_getElem? (i := 33) rfl))
            · skip
              refine lv_iload hx hb (eX11_writeDuration (44, .iload 7, 2) (List.mem_of_getElem? (i := 24) rfl)) (lv_at hl 4 rfl) ?_
              refine ff_if_lt hx hb (eX11_writeDuration (46, .ifCond .lt 11, 3) (List.mem_of_getElem? (i := 25) rfl)) (tgt := 57) rfl (fun c19 => ?_) (fun c19 => ?_)
              · skip
                exact zx_leafGW (ik := 83) (is := 350) (ic := 87) (cls := "java/lang/IllegalArgumentException") (text := "no such duration") hx hb hst hown h2 hKa.1 hh hh (by rw [hl.1, hml]) hex hlk ⟨by decide, by decide, by decide, by decide⟩ (tb_2 121 rfl rfl) (tb_1 17 rfl rfl) (by decide) (gAt_in gAt_1) (by decide +kernel) (by decide) (by decide) (fun t h7 h8 => ⟨hh.grow h7 h8, kept_grow hh h8, Or.inl ⟨rfl, 0, rfl, Or.inl ⟨rfl, rfl, by unfold duV; omega⟩⟩⟩) (eX11_writeDuration (57, .new 83, 3) (List.mem_of_getElem? (i := 29) rfl)) (eX11_writeDuration (60, .dup, 1) (List.mem_of_getElem? (i := 30) rfl)) (eX11_writeDuration (61, .ldc_w 350, 3) (List.mem_of_getElem? (i := 31) rfl)) (eX11_writeDuration (64, .invokespecial 87, 3) (List.mem_of_getElem? (i := 32) rfl)) (eX11_writeDuration (67, .athrow, 1) (List.mem_of_getElem? (i := 33) rfl))
              · skip
                refine lv_iload hx hb (eX11_writeDuration (49, .iload 7, 2) (List.mem_of_getElem? (i := 26) rfl)) (lv_at hl 4 rfl) ?_
                refine ff_ldcw (n := 999999999) hx hb hown h2 (ciX11_ok 323 999999999 (List.mem_of_getElem? (i := 1) rfl)) (eX11_writeDuration (51, .ldc_w 323, 3) (List.mem_of_getElem? (i := 27) rfl)) (fun v20 e20 => ?_)
                refine ff_icmp_le hx hb (eX11_writeDuration (54, .if_icmp .le 14, 3) (List.mem_of_getElem? (i := 28) rfl)) (tgt := 68) rfl (fun c21 => ?_) (fun c21 => ?_)
                · skip
                  refine lv_aload_n hx hb (eX11_writeDuration (68, .aload_n 0, 1) (List.mem_of_getElem? (i := 34) rfl)) rfl (lv_at hl 0 rfl) ?_
                  refine tz_get (r := 10) (k := 5) (t := (20, 0, 0)) hx hb hh hx10 rfl rfl (hcl10 45 5 (20, 0, 0) (by decide) rfl).1 fx5 (eX11_writeDuration (69, .getfield 45, 3) (List.mem_of_getElem? (i := 35) rfl)) ?_
                  refine tz_rowV (As := []) (st := []) (b := wr) (C := RX9) (Ts := gT) hx hb hml hown h2 (fun _ h => h) (hX9_start l D cA ro sz H0 wr O rwr) ⟨rfl, rfl⟩ ⟨by decide, by decide⟩ ⟨by decide, by decide⟩ (tb_5 212 rfl rfl) (tb_1 6 rfl rfl) (tb_5 209 rfl rfl) (tb_5 210 rfl rfl) (tb_5 211 rfl rfl) (show yX9_start.cls ≠ "java/lang/invoke/MethodHandle" ∧ yX9_start.cls ≠ "java/lang/invoke/VarHandle" ∧ (parseMethodDescriptor yX9_start.desc).map (fun d => d.parameters.length) = some 0 by decide +kernel) zs_blind (zs_ob hh rwr (show RTg[8]? = some (0, 8, 0, fsX9) from rfl) (zCX9 hKa.1.1.1)) (fun U hU hW => ⟨rfl, by rw [hU]; exact hh.l0, zKb s U hW.alike hKa.1.1, by rw [hU]; exact hwj⟩) hh.2.2.1 hl.1 (Nat.le_of_ble_eq_true rfl) (eX11_writeDuration (72, .invokevirtual 308, 3) (List.mem_of_getElem? (i := 36) rfl)) (fun r22 s22 t22 lo22 g22 f22 l22 => ?_)
                  obtain ⟨q22, z22, c22, j22⟩ := f22
                  cases q22
                  rw [g22] at c22
                  have hh22 : zh_ok D cA RTg ro sz H0 t22.heap lo22 := ⟨z22.1, z22.2.1, l22, z22.2.2.2⟩
                  have kp22 := kp0.trans (c22.mono (ms' := kMc) (by decide))
                  have mf22_x_0 := (c22.1 x 10 0 10 0 fsX11 hx10 rfl (by decide) (by decide)).trans fx0
                  have mf22_x_2 := (c22.1 x 10 2 10 0 fsX11 hx10 rfl (by decide) (by decide)).trans fn
                  have mf22_x_4 := (c22.1 x 10 4 10 0 fsX11 hx10 rfl (by decide) (by decide)).trans fx4
                  have mf22_x_5 := (c22.1 x 10 5 10 0 fsX11 hx10 rfl (by decide) (by decide)).trans fx5
                  have kw22 := c22
                  have jl22 := hlp.kept rlp c22 (by decide) (by decide) (by decide)
                  refine W.eq (g2 := F0 m 75 ls []) rfl ?_
                  refine lv_aload_n hx hb (eX11_writeDuration (75, .aload_n 0, 1) (List.mem_of_getElem? (i := 37) rfl)) rfl (lv_at hl 0 rfl) ?_
                  refine tz_get (r := 10) (k := 5) (t := (20, 0, 0)) hx hb hh22 hx10 rfl rfl (hcl10 45 5 (20, 0, 0) (by decide) rfl).1 mf22_x_5 (eX11_writeDuration (76, .getfield 45, 3) (List.mem_of_getElem? (i := 38) rfl)) ?_
                  refine ff_bipush hx hb (eX11_writeDuration (79, .bipush 80, 2) (List.mem_of_getElem? (i := 39) rfl)) (by decide) (by decide) (fun v23 e23 => ?_)
                  refine tz_rowV (As := [.int v23]) (st := []) (b := wr) (C := RX9) (Ts := gT) hx hb hml hown h2 (fun _ h => h) (hX9_put l D cA ro sz H0 wr v23 ([]) rwr (by omega) (by omega) (by (try simp only [List.length_append, List.length_cons, List.length_nil, dgL_len]); omega)) ⟨rfl, rfl⟩ ⟨by decide, by decide⟩ ⟨by decide, by decide⟩ (tb_5 227 rfl rfl) (tb_1 6 rfl rfl) (tb_6 45 rfl rfl) (tb_5 225 rfl rfl) (tb_5 226 rfl rfl) (show yX9_put.cls ≠ "java/lang/invoke/MethodHandle" ∧ yX9_put.cls ≠ "java/lang/invoke/VarHandle" ∧ (parseMethodDescriptor yX9_put.desc).map (fun d => d.parameters.length) = some 1 by decide +kernel) zs_blind (zs_ob hh22 rwr (show RTg[8]? = some (0, 8, 0, fsX9) from rfl) (zCX9 hKa.1.1.1)) (fun U hU hW => ⟨rfl, by rw [hU]; exact hh22.l0, zKb s U hW.alike hKa.1.1, by rw [hU]; exact j22⟩) hh22.2.2.1 hl.1 (Nat.le_of_ble_eq_true rfl) (eX11_writeDuration (81, .invokevirtual 352, 3) (List.mem_of_getElem? (i := 40) rfl)) (fun r24 s24 t24 lo24 g24 f24 l24 => ?_)
                  obtain ⟨q24, z24, c24, j24⟩ := f24
                  cases q24
                  rw [g24] at c24
                  have hh24 : zh_ok D cA RTg ro sz H0 t24.heap lo24 := ⟨z24.1, z24.2.1, l24, z24.2.2.2⟩
                  have kp24 := kp22.trans (c24.mono (ms' := kMc) (by decide))
                  have mf24_x_0 := (c24.1 x 10 0 10 0 fsX11 hx10 rfl (by decide) (by decide)).trans mf22_x_0
                  have mf24_x_2 := (c24.1 x 10 2 10 0 fsX11 hx10 rfl (by decide) (by decide)).trans mf22_x_2
                  have mf24_x_4 := (c24.1 x 10 4 10 0 fsX11 hx10 rfl (by decide) (by decide)).trans mf22_x_4
                  have mf24_x_5 := (c24.1 x 10 5 10 0 fsX11 hx10 rfl (by decide) (by decide)).trans mf22_x_5
                  have kw24 := kw22.trans c24
                  have jl24 := jl22.kept rlp c24 (by decide) (by decide) (by decide)
                  refine W.eq (g2 := F0 m 84 ls []) rfl ?_
                  refine lv_aload_n hx hb (eX11_writeDuration (84, .aload_n 0, 1) (List.mem_of_getElem? (i := 41) rfl)) rfl (lv_at hl 0 rfl) ?_
                  refine tz_get (r := 10) (k := 5) (t := (20, 0, 0)) hx hb hh24 hx10 rfl rfl (hcl10 45 5 (20, 0, 0) (by decide) rfl).1 mf24_x_5 (eX11_writeDuration (85, .getfield 45, 3) (List.mem_of_getElem? (i := 42) rfl)) ?_
                  refine lv_lload_n hx hb (eX11_writeDuration (88, .lload_n 1, 1) (List.mem_of_getElem? (i := 43) rfl)) rfl (lv_at hl 1 rfl) ?_
                  refine ff_ldc2 (n := 12) hx hb hown h2 (clX11_ok 355 12 (List.mem_of_getElem? (i := 5) rfl)) (eX11_writeDuration (89, .ldc2_w 355, 3) (List.mem_of_getElem? (i := 44) rfl)) (fun v25 e25 => ?_)
                  refine ff_ldivP hx hb (eX11_writeDuration (92, .ldiv, 1) (List.mem_of_getElem? (i := 45) rfl)) (by omega) (e25) (by decide) (fun v26 e26 => ?_)
                  refine ff_bipush hx hb (eX11_writeDuration (93, .bipush 89, 2) (List.mem_of_getElem? (i := 46) rfl)) (by decide) (by decide) (fun v27 e27 => ?_)
                  refine tz_rowV (As := [.long v26, .int v27]) (st := []) (b := wr) (C := RX9) (Ts := gT) hx hb hml hown h2 (fun _ h => h) (hX9_putCount l D cA ro sz H0 wr v26 v27 ([] ++ [v23.toInt]) rwr (by omega) (by omega) (by omega) (by (try simp only [List.length_append, List.length_cons, List.length_nil, dgL_len]); omega)) ⟨rfl, rfl⟩ ⟨by decide, by decide⟩ ⟨by decide, by decide⟩ (tb_6 50 rfl rfl) (tb_1 6 rfl rfl) (tb_6 47 rfl rfl) (tb_6 48 rfl rfl) (tb_6 49 rfl rfl) (show yX9_putCount.cls ≠ "java/lang/invoke/MethodHandle" ∧ yX9_putCount.cls ≠ "java/lang/invoke/VarHandle" ∧ (parseMethodDescriptor yX9_putCount.desc).map (fun d => d.parameters.length) = some 2 by decide +kernel) zs_blind (zs_ob hh24 rwr (show RTg[8]? = some (0, 8, 0, fsX9) from rfl) (zCX9 hKa.1.1.1)) (fun U hU hW => ⟨rfl, by rw [hU]; exact hh24.l0, zKb s U hW.alike hKa.1.1, by rw [hU]; exact j24⟩) hh24.2.2.1 hl.1 (Nat.le_of_ble_eq_true rfl) (eX11_writeDuration (95, .invokevirtual 357, 3) (List.mem_of_getElem? (i := 47) rfl)) (fun r28 s28 t28 lo28 g28 f28 l28 => ?_)
                  obtain ⟨q28, z28, c28, j28⟩ := f28
                  cases q28
                  rw [g28] at c28
                  have hh28 : zh_ok D cA RTg ro sz H0 t28.heap lo28 := ⟨z28.1, z28.2.1, l28, z28.2.2.2⟩
                  have kp28 := kp24.trans (c28.mono (ms' := kMc) (by decide))
                  have mf28_x_0 := (c28.1 x 10 0 10 0 fsX11 hx10 rfl (by decide) (by decide)).trans mf24_x_0
                  have mf28_x_2 := (c28.1 x 10 2 10 0 fsX11 hx10 rfl (by decide) (by decide)).trans mf24_x_2
                  have mf28_x_4 := (c28.1 x 10 4 10 0 fsX11 hx10 rfl (by decide) (by decide)).trans mf24_x_4
                  have mf28_x_5 := (c28.1 x 10 5 10 0 fsX11 hx10 rfl (by decide) (by decide)).trans mf24_x_5
                  have kw28 := kw24.trans c28
                  have jl28 := jl24.kept rlp c28 (by decide) (by decide) (by decide)
                  refine W.eq (g2 := F0 m 98 ls []) rfl ?_
                  refine lv_aload_n hx hb (eX11_writeDuration (98, .aload_n 0, 1) (List.mem_of_getElem? (i := 48) rfl)) rfl (lv_at hl 0 rfl) ?_
                  refine tz_get (r := 10) (k := 5) (t := (20, 0, 0)) hx hb hh28 hx10 rfl rfl (hcl10 45 5 (20, 0, 0) (by decide) rfl).1 mf28_x_5 (eX11_writeDuration (99, .getfield 45, 3) (List.mem_of_getElem? (i := 49) rfl)) ?_
                  refine lv_lload_n hx hb (eX11_writeDuration (102, .lload_n 1, 1) (List.mem_of_getElem? (i := 50) rfl)) rfl (lv_at hl 1 rfl) ?_
                  refine ff_ldc2 (n := 12) hx hb hown h2 (clX11_ok 355 12 (List.mem_of_getElem? (i := 5) rfl)) (eX11_writeDuration (103, .ldc2_w 355, 3) (List.mem_of_getElem? (i := 51) rfl)) (fun v29 e29 => ?_)
                  refine ff_lremP hx hb (eX11_writeDuration (106, .lrem, 1) (List.mem_of_getElem? (i := 52) rfl)) (by omega) (e29) (by decide) (fun v30 e30 => ?_)
                  refine ff_bipush hx hb (eX11_writeDuration (107, .bipush 77, 2) (List.mem_of_getElem? (i := 53) rfl)) (by decide) (by decide) (fun v31 e31 => ?_)
                  refine tz_rowV (As := [.long v30, .int v31]) (st := []) (b := wr) (C := RX9) (Ts := gT) hx hb hml hown h2 (fun _ h => h) (hX9_putCount l D cA ro sz H0 wr v30 v31 ([] ++ [v23.toInt] ++ cnL v26.toInt v27.toInt) rwr (by omega) (by omega) (by omega) (by have hcl0 := cnL_len v26.toInt v27.toInt; (try simp only [List.length_append, List.length_cons, List.length_nil, dgL_len]); omega)) ⟨rfl, rfl⟩ ⟨by decide, by decide⟩ ⟨by decide, by decide⟩ (tb_6 50 rfl rfl) (tb_1 6 rfl rfl) (tb_6 47 rfl rfl) (tb_6 48 rfl rfl) (tb_6 49 rfl rfl) (show yX9_putCount.cls ≠ "java/lang/invoke/MethodHandle" ∧ yX9_putCount.cls ≠ "java/lang/invoke/VarHandle" ∧ (parseMethodDescriptor yX9_putCount.desc).map (fun d => d.parameters.length) = some 2 by decide +kernel) zs_blind (zs_ob hh28 rwr (show RTg[8]? = some (0, 8, 0, fsX9) from rfl) (zCX9 hKa.1.1.1)) (fun U hU hW => ⟨rfl, by rw [hU]; exact hh28.l0, zKb s U hW.alike hKa.1.1, by rw [hU]; exact j28⟩) hh28.2.2.1 hl.1 (Nat.le_of_ble_eq_true rfl) (eX11_writeDuration (109, .invokevirtual 357, 3) (List.mem_of_getElem? (i := 54) rfl)) (fun r32 s32 t32 lo32 g32 f32 l32 => ?_)
                  obtain ⟨q32, z32, c32, j32⟩ := f32
                  cases q32
                  rw [g32] at c32
                  have hh32 : zh_ok D cA RTg ro sz H0 t32.heap lo32 := ⟨z32.1, z32.2.1, l32, z32.2.2.2⟩
                  have kp32 := kp28.trans (c32.mono (ms' := kMc) (by decide))
                  have mf32_x_0 := (c32.1 x 10 0 10 0 fsX11 hx10 rfl (by decide) (by decide)).trans mf28_x_0
                  have mf32_x_2 := (c32.1 x 10 2 10 0 fsX11 hx10 rfl (by decide) (by decide)).trans mf28_x_2
                  have mf32_x_4 := (c32.1 x 10 4 10 0 fsX11 hx10 rfl (by decide) (by decide)).trans mf28_x_4
                  have mf32_x_5 := (c32.1 x 10 5 10 0 fsX11 hx10 rfl (by decide) (by decide)).trans mf28_x_5
                  have kw32 := kw28.trans c32
                  have jl32 := jl28.kept rlp c32 (by decide) (by decide) (by decide)
                  refine W.eq (g2 := F0 m 112 ls []) rfl ?_
                  refine lv_aload_n hx hb (eX11_writeDuration (112, .aload_n 0, 1) (List.mem_of_getElem? (i := 55) rfl)) rfl (lv_at hl 0 rfl) ?_
                  refine tz_get (r := 10) (k := 5) (t := (20, 0, 0)) hx hb hh32 hx10 rfl rfl (hcl10 45 5 (20, 0, 0) (by decide) rfl).1 mf32_x_5 (eX11_writeDuration (113, .getfield 45, 3) (List.mem_of_getElem? (i := 56) rfl)) ?_
                  refine lv_lload_n hx hb (eX11_writeDuration (116, .lload_n 3, 1) (List.mem_of_getElem? (i := 57) rfl)) rfl (lv_at hl 2 rfl) ?_
                  refine ff_bipush hx hb (eX11_writeDuration (117, .bipush 68, 2) (List.mem_of_getElem? (i := 58) rfl)) (by decide) (by decide) (fun v33 e33 => ?_)
                  refine tz_rowV (As := [.long da, .int v33]) (st := []) (b := wr) (C := RX9) (Ts := gT) hx hb hml hown h2 (fun _ h => h) (hX9_putCount l D cA ro sz H0 wr da v33 ([] ++ [v23.toInt] ++ cnL v26.toInt v27.toInt ++ cnL v30.toInt v31.toInt) rwr (by omega) (by omega) (by omega) (by have hcl0 := cnL_len v26.toInt v27.toInt; have hcl1 := cnL_len v30.toInt v31.toInt; (try simp only [List.length_append, List.length_cons, List.length_nil, dgL_len]); omega)) ⟨rfl, rfl⟩ ⟨by decide, by decide⟩ ⟨by decide, by decide⟩ (tb_6 50 rfl rfl) (tb_1 6 rfl rfl) (tb_6 47 rfl rfl) (tb_6 48 rfl rfl) (tb_6 49 rfl rfl) (show yX9_putCount.cls ≠ "java/lang/invoke/MethodHandle" ∧ yX9_putCount.cls ≠ "java/lang/invoke/VarHandle" ∧ (parseMethodDescriptor yX9_putCount.desc).map (fun d => d.parameters.length) = some 2 by decide +kernel) zs_blind (zs_ob hh32 rwr (show RTg[8]? = some (0, 8, 0, fsX9) from rfl) (zCX9 hKa.1.1.1)) (fun U hU hW => ⟨rfl, by rw [hU]; exact hh32.l0, zKb s U hW.alike hKa.1.1, by rw [hU]; exact j32⟩) hh32.2.2.1 hl.1 (Nat.le_of_ble_eq_true rfl) (eX11_writeDuration (119, .invokevirtual 357, 3) (List.mem_of_getElem? (i := 59) rfl)) (fun r34 s34 t34 lo34 g34 f34 l34 => ?_)
                  obtain ⟨q34, z34, c34, j34⟩ := f34
                  cases q34
                  rw [g34] at c34
                  have hh34 : zh_ok D cA RTg ro sz H0 t34.heap lo34 := ⟨z34.1, z34.2.1, l34, z34.2.2.2⟩
                  have kp34 := kp32.trans (c34.mono (ms' := kMc) (by decide))
                  have mf34_x_0 := (c34.1 x 10 0 10 0 fsX11 hx10 rfl (by decide) (by decide)).trans mf32_x_0
                  have mf34_x_2 := (c34.1 x 10 2 10 0 fsX11 hx10 rfl (by decide) (by decide)).trans mf32_x_2
                  have mf34_x_4 := (c34.1 x 10 4 10 0 fsX11 hx10 rfl (by decide) (by decide)).trans mf32_x_4
                  have mf34_x_5 := (c34.1 x 10 5 10 0 fsX11 hx10 rfl (by decide) (by decide)).trans mf32_x_5
                  have kw34 := kw32.trans c34
                  have jl34 := jl32.kept rlp c34 (by decide) (by decide) (by decide)
                  refine W.eq (g2 := F0 m 122 ls []) rfl ?_
                  refine lv_lload hx hb (eX11_writeDuration (122, .lload 5, 2) (List.mem_of_getElem? (i := 60) rfl)) (lv_at hl 3 rfl) ?_
                  refine ff_lconst hx hb (eX11_writeDuration (124, .lconst 0, 1) (List.mem_of_getElem? (i := 61) rfl)) rfl (fun v35 e35 => ?_)
                  refine ff_lcmp hx hb (eX11_writeDuration (125, .lcmp, 1) (List.mem_of_getElem? (i := 62) rfl)) (fun v36 e36 => ?_)
                  refine ff_if_gt hx hb (eX11_writeDuration (126, .ifCond .gt 19, 3) (List.mem_of_getElem? (i := 63) rfl)) (tgt := 145) rfl (fun c37 => ?_) (fun c37 => ?_)
                  · skip
                    refine lv_aload_n hx hb (eX11_writeDuration (145, .aload_n 0, 1) (List.mem_of_getElem? (i := 71) rfl)) rfl (lv_at hl 0 rfl) ?_
                    refine tz_get (r := 10) (k := 5) (t := (20, 0, 0)) hx hb hh34 hx10 rfl rfl (hcl10 45 5 (20, 0, 0) (by decide) rfl).1 mf34_x_5 (eX11_writeDuration (146, .getfield 45, 3) (List.mem_of_getElem? (i := 72) rfl)) ?_
                    refine ff_bipush hx hb (eX11_writeDuration (149, .bipush 84, 2) (List.mem_of_getElem? (i := 73) rfl)) (by decide) (by decide) (fun v38 e38 => ?_)
                    refine tz_rowV (As := [.int v38]) (st := []) (b := wr) (C := RX9) (Ts := gT) hx hb hml hown h2 (fun _ h => h) (hX9_put l D cA ro sz H0 wr v38 ([] ++ [v23.toInt] ++ cnL v26.toInt v27.toInt ++ cnL v30.toInt v31.toInt ++ cnL da.toInt v33.toInt) rwr (by omega) (by omega) (by have hcl0 := cnL_len v26.toInt v27.toInt; have hcl1 := cnL_len v30.toInt v31.toInt; have hcl2 := cnL_len da.toInt v33.toInt; (try simp only [List.length_append, List.length_cons, List.length_nil, dgL_len]); omega)) ⟨rfl, rfl⟩ ⟨by decide, by decide⟩ ⟨by decide, by decide⟩ (tb_5 227 rfl rfl) (tb_1 6 rfl rfl) (tb_6 45 rfl rfl) (tb_5 225 rfl rfl) (tb_5 226 rfl rfl) (show yX9_put.cls ≠ "java/lang/invoke/MethodHandle" ∧ yX9_put.cls ≠ "java/lang/invoke/VarHandle" ∧ (parseMethodDescriptor yX9_put.desc).map (fun d => d.parameters.length) = some 1 by decide +kernel) zs_blind (zs_ob hh34 rwr (show RTg[8]? = some (0, 8, 0, fsX9) from rfl) (zCX9 hKa.1.1.1)) (fun U hU hW => ⟨rfl, by rw [hU]; exact hh34.l0, zKb s U hW.alike hKa.1.1, by rw [hU]; exact j34⟩) hh34.2.2.1 hl.1 (Nat.le_of_ble_eq_true rfl) (eX11_writeDuration (151, .invokevirtual 352, 3) (List.mem_of_getElem? (i := 74) rfl)) (fun r39 s39 t39 lo39 g39 f39 l39 => ?_)
                    obtain ⟨q39, z39, c39, j39⟩ := f39
                    cases q39
                    rw [g39] at c39
                    have hh39 : zh_ok D cA RTg ro sz H0 t39.heap lo39 := ⟨z39.1, z39.2.1, l39, z39.2.2.2⟩
                    have kp39 := kp34.trans (c39.mono (ms' := kMc) (by decide))
                    have mf39_x_0 := (c39.1 x 10 0 10 0 fsX11 hx10 rfl (by decide) (by decide)).trans mf34_x_0
                    have mf39_x_2 := (c39.1 x 10 2 10 0 fsX11 hx10 rfl (by decide) (by decide)).trans mf34_x_2
                    have mf39_x_4 := (c39.1 x 10 4 10 0 fsX11 hx10 rfl (by decide) (by decide)).trans mf34_x_4
                    have mf39_x_5 := (c39.1 x 10 5 10 0 fsX11 hx10 rfl (by decide) (by decide)).trans mf34_x_5
                    have kw39 := kw34.trans c39
                    have jl39 := jl34.kept rlp c39 (by decide) (by decide) (by decide)
                    refine W.eq (g2 := F0 m 154 ls []) rfl ?_
                    refine lv_aload_n hx hb (eX11_writeDuration (154, .aload_n 0, 1) (List.mem_of_getElem? (i := 75) rfl)) rfl (lv_at hl 0 rfl) ?_
                    refine tz_get (r := 10) (k := 5) (t := (20, 0, 0)) hx hb hh39 hx10 rfl rfl (hcl10 45 5 (20, 0, 0) (by decide) rfl).1 mf39_x_5 (eX11_writeDuration (155, .getfield 45, 3) (List.mem_of_getElem? (i := 76) rfl)) ?_
                    refine lv_lload hx hb (eX11_writeDuration (158, .lload 5, 2) (List.mem_of_getElem? (i := 77) rfl)) (lv_at hl 3 rfl) ?_
                    refine ff_ldc2 (n := 3600) hx hb hown h2 (clX11_ok 361 3600 (List.mem_of_getElem? (i := 6) rfl)) (eX11_writeDuration (160, .ldc2_w 361, 3) (List.mem_of_getElem? (i := 78) rfl)) (fun v40 e40 => ?_)
                    refine ff_ldivP hx hb (eX11_writeDuration (163, .ldiv, 1) (List.mem_of_getElem? (i := 79) rfl)) (by omega) (e40) (by decide) (fun v41 e41 => ?_)
                    refine ff_bipush hx hb (eX11_writeDuration (164, .bipush 72, 2) (List.mem_of_getElem? (i := 80) rfl)) (by decide) (by decide) (fun v42 e42 => ?_)
                    refine tz_rowV (As := [.long v41, .int v42]) (st := []) (b := wr) (C := RX9) (Ts := gT) hx hb hml hown h2 (fun _ h => h) (hX9_putCount l D cA ro sz H0 wr v41 v42 ([] ++ [v23.toInt] ++ cnL v26.toInt v27.toInt ++ cnL v30.toInt v31.toInt ++ cnL da.toInt v33.toInt ++ [v38.toInt]) rwr (by omega) (by omega) (by omega) (by have hcl0 := cnL_len v26.toInt v27.toInt; have hcl1 := cnL_len v30.toInt v31.toInt; have hcl2 := cnL_len da.toInt v33.toInt; (try simp only [List.length_append, List.length_cons, List.length_nil, dgL_len]); omega)) ⟨rfl, rfl⟩ ⟨by decide, by decide⟩ ⟨by decide, by decide⟩ (tb_6 50 rfl rfl) (tb_1 6 rfl rfl) (tb_6 47 rfl rfl) (tb_6 48 rfl rfl) (tb_6 49 rfl rfl) (show yX9_putCount.cls ≠ "java/lang/invoke/MethodHandle" ∧ yX9_putCount.cls ≠ "java/lang/invoke/VarHandle" ∧ (parseMethodDescriptor yX9_putCount.desc).map (fun d => d.parameters.length) = some 2 by decide +kernel) zs_blind (zs_ob hh39 rwr (show RTg[8]? = some (0, 8, 0, fsX9) from rfl) (zCX9 hKa.1.1.1)) (fun U hU hW => ⟨rfl, by rw [hU]; exact hh39.l0, zKb s U hW.alike hKa.1.1, by rw [hU]; exact j39⟩) hh39.2.2.1 hl.1 (Nat.le_of_ble_eq_true rfl) (eX11_writeDuration (166, .invokevirtual 357, 3) (List.mem_of_getElem? (i := 81) rfl)) (fun r43 s43 t43 lo43 g43 f43 l43 => ?_)
                    obtain ⟨q43, z43, c43, j43⟩ := f43
                    cases q43
                    rw [g43] at c43
                    have hh43 : zh_ok D cA RTg ro sz H0 t43.heap lo43 := ⟨z43.1, z43.2.1, l43, z43.2.2.2⟩
                    have kp43 := kp39.trans (c43.mono (ms' := kMc) (by decide))
                    have mf43_x_0 := (c43.1 x 10 0 10 0 fsX11 hx10 rfl (by decide) (by decide)).trans mf39_x_0
                    have mf43_x_2 := (c43.1 x 10 2 10 0 fsX11 hx10 rfl (by decide) (by decide)).trans mf39_x_2
                    have mf43_x_4 := (c43.1 x 10 4 10 0 fsX11 hx10 rfl (by decide) (by decide)).trans mf39_x_4
                    have mf43_x_5 := (c43.1 x 10 5 10 0 fsX11 hx10 rfl (by decide) (by decide)).trans mf39_x_5
                    have kw43 := kw39.trans c43
                    have jl43 := jl39.kept rlp c43 (by decide) (by decide) (by decide)
                    refine W.eq (g2 := F0 m 169 ls []) rfl ?_
                    refine lv_aload_n hx hb (eX11_writeDuration (169, .aload_n 0, 1) (List.mem_of_getElem? (i := 82) rfl)) rfl (lv_at hl 0 rfl) ?_
                    refine tz_get (r := 10) (k := 5) (t := (20, 0, 0)) hx hb hh43 hx10 rfl rfl (hcl10 45 5 (20, 0, 0) (by decide) rfl).1 mf43_x_5 (eX11_writeDuration (170, .getfield 45, 3) (List.mem_of_getElem? (i := 83) rfl)) ?_
                    refine lv_lload hx hb (eX11_writeDuration (173, .lload 5, 2) (List.mem_of_getElem? (i := 84) rfl)) (lv_at hl 3 rfl) ?_
                    refine ff_ldc2 (n := 60) hx hb hown h2 (clX11_ok 363 60 (List.mem_of_getElem? (i := 7) rfl)) (eX11_writeDuration (175, .ldc2_w 363, 3) (List.mem_of_getElem? (i := 85) rfl)) (fun v44 e44 => ?_)
                    refine ff_ldivP hx hb (eX11_writeDuration (178, .ldiv, 1) (List.mem_of_getElem? (i := 86) rfl)) (by omega) (e44) (by decide) (fun v45 e45 => ?_)
                    refine ff_ldc2 (n := 60) hx hb hown h2 (clX11_ok 363 60 (List.mem_of_getElem? (i := 7) rfl)) (eX11_writeDuration (179, .ldc2_w 363, 3) (List.mem_of_getElem? (i := 87) rfl)) (fun v46 e46 => ?_)
                    refine ff_lremP hx hb (eX11_writeDuration (182, .lrem, 1) (List.mem_of_getElem? (i := 88) rfl)) (by omega) (e46) (by decide) (fun v47 e47 => ?_)
                    refine ff_bipush hx hb (eX11_writeDuration (183, .bipush 77, 2) (List.mem_of_getElem? (i := 89) rfl)) (by decide) (by decide) (fun v48 e48 => ?_)
                    refine tz_rowV (As := [.long v47, .int v48]) (st := []) (b := wr) (C := RX9) (Ts := gT) hx hb hml hown h2 (fun _ h => h) (hX9_putCount l D cA ro sz H0 wr v47 v48 ([] ++ [v23.toInt] ++ cnL v26.toInt v27.toInt ++ cnL v30.toInt v31.toInt ++ cnL da.toInt v33.toInt ++ [v38.toInt] ++ cnL v41.toInt v42.toInt) rwr (by omega) (by omega) (by omega) (by have hcl0 := cnL_len v26.toInt v27.toInt; have hcl1 := cnL_len v30.toInt v31.toInt; have hcl2 := cnL_len da.toInt v33.toInt; have hcl3 := cnL_len v41.toInt v42.toInt; (try simp only [List.length_append, List.length_cons, List.length_nil, dgL_len]); omega)) ⟨rfl, rfl⟩ ⟨by decide, by decide⟩ ⟨by decide, by decide⟩ (tb_6 50 rfl rfl) (tb_1 6 rfl rfl) (tb_6 47 rfl rfl) (tb_6 48 rfl rfl) (tb_6 49 rfl rfl) (show yX9_putCount.cls ≠ "java/lang/invoke/MethodHandle" ∧ yX9_putCount.cls ≠ "java/lang/invoke/VarHandle" ∧ (parseMethodDescriptor yX9_putCount.desc).map (fun d => d.parameters.length) = some 2 by decide +kernel) zs_blind (zs_ob hh43 rwr (show RTg[8]? = some (0, 8, 0, fsX9) from rfl) (zCX9 hKa.1.1.1)) (fun U hU hW => ⟨rfl, by rw [hU]; exact hh43.l0, zKb s U hW.alike hKa.1.1, by rw [hU]; exact j43⟩) hh43.2.2.1 hl.1 (Nat.le_of_ble_eq_true rfl) (eX11_writeDuration (185, .invokevirtual 357, 3) (List.mem_of_getElem? (i := 90) rfl)) (fun r49 s49 t49 lo49 g49 f49 l49 => ?_)
                    obtain ⟨q49, z49, c49, j49⟩ := f49
                    cases q49
                    rw [g49] at c49
                    have hh49 : zh_ok D cA RTg ro sz H0 t49.heap lo49 := ⟨z49.1, z49.2.1, l49, z49.2.2.2⟩
                    have kp49 := kp43.trans (c49.mono (ms' := kMc) (by decide))
                    have mf49_x_0 := (c49.1 x 10 0 10 0 fsX11 hx10 rfl (by decide) (by decide)).trans mf43_x_0
                    have mf49_x_2 := (c49.1 x 10 2 10 0 fsX11 hx10 rfl (by decide) (by decide)).trans mf43_x_2
                    have mf49_x_4 := (c49.1 x 10 4 10 0 fsX11 hx10 rfl (by decide) (by decide)).trans mf43_x_4
                    have mf49_x_5 := (c49.1 x 10 5 10 0 fsX11 hx10 rfl (by decide) (by decide)).trans mf43_x_5
                    have kw49 := kw43.trans c49
                    have jl49 := jl43.kept rlp c49 (by decide) (by decide) (by decide)
                    refine W.eq (g2 := F0 m 188 ls []) rfl ?_
                    refine lv_aload_n hx hb (eX11_writeDuration (188, .aload_n 0, 1) (List.mem_of_getElem? (i := 91) rfl)) rfl (lv_at hl 0 rfl) ?_
                    refine tz_get (r := 10) (k := 5) (t := (20, 0, 0)) hx hb hh49 hx10 rfl rfl (hcl10 45 5 (20, 0, 0) (by decide) rfl).1 mf49_x_5 (eX11_writeDuration (189, .getfield 45, 3) (List.mem_of_getElem? (i := 92) rfl)) ?_
                    refine lv_lload hx hb (eX11_writeDuration (192, .lload 5, 2) (List.mem_of_getElem? (i := 93) rfl)) (lv_at hl 3 rfl) ?_
                    refine ff_ldc2 (n := 60) hx hb hown h2 (clX11_ok 363 60 (List.mem_of_getElem? (i := 7) rfl)) (eX11_writeDuration (194, .ldc2_w 363, 3) (List.mem_of_getElem? (i := 94) rfl)) (fun v50 e50 => ?_)
                    refine ff_lremP hx hb (eX11_writeDuration (197, .lrem, 1) (List.mem_of_getElem? (i := 95) rfl)) (by omega) (e50) (by decide) (fun v51 e51 => ?_)
                    refine lv_iload hx hb (eX11_writeDuration (198, .iload 7, 2) (List.mem_of_getElem? (i := 96) rfl)) (lv_at hl 4 rfl) ?_
                    refine tz_rowV (As := [.long v51, .int na]) (st := []) (b := wr) (C := RX9) (Ts := gT) hx hb hml hown h2 (fun _ h => h) (hX9_putSeconds l D cA ro sz H0 wr v51 na ([] ++ [v23.toInt] ++ cnL v26.toInt v27.toInt ++ cnL v30.toInt v31.toInt ++ cnL da.toInt v33.toInt ++ [v38.toInt] ++ cnL v41.toInt v42.toInt ++ cnL v47.toInt v48.toInt) rwr (by omega) (by omega) (by omega) (by omega) (by have hcl0 := cnL_len v26.toInt v27.toInt; have hcl1 := cnL_len v30.toInt v31.toInt; have hcl2 := cnL_len da.toInt v33.toInt; have hcl3 := cnL_len v41.toInt v42.toInt; have hcl4 := cnL_len v47.toInt v48.toInt; (try simp only [List.length_append, List.length_cons, List.length_nil, dgL_len]); omega)) ⟨rfl, rfl⟩ ⟨by decide, by decide⟩ ⟨by decide, by decide⟩ (tb_6 60 rfl rfl) (tb_1 6 rfl rfl) (tb_6 57 rfl rfl) (tb_6 58 rfl rfl) (tb_6 59 rfl rfl) (show yX9_putSeconds.cls ≠ "java/lang/invoke/MethodHandle" ∧ yX9_putSeconds.cls ≠ "java/lang/invoke/VarHandle" ∧ (parseMethodDescriptor yX9_putSeconds.desc).map (fun d => d.parameters.length) = some 2 by decide +kernel) zs_blind (zs_ob hh49 rwr (show RTg[8]? = some (0, 8, 0, fsX9) from rfl) (zCX9 hKa.1.1.1)) (fun U hU hW => ⟨rfl, by rw [hU]; exact hh49.l0, zKb s U hW.alike hKa.1.1, by rw [hU]; exact j49⟩) hh49.2.2.1 hl.1 (Nat.le_of_ble_eq_true rfl) (eX11_writeDuration (200, .invokevirtual 365, 3) (List.mem_of_getElem? (i := 97) rfl)) (fun r52 s52 t52 lo52 g52 f52 l52 => ?_)
                    obtain ⟨q52, z52, c52, j52⟩ := f52
                    cases q52
                    rw [g52] at c52
                    have hh52 : zh_ok D cA RTg ro sz H0 t52.heap lo52 := ⟨z52.1, z52.2.1, l52, z52.2.2.2⟩
                    have kp52 := kp49.trans (c52.mono (ms' := kMc) (by decide))
                    have mf52_x_0 := (c52.1 x 10 0 10 0 fsX11 hx10 rfl (by decide) (by decide)).trans mf49_x_0
                    have mf52_x_2 := (c52.1 x 10 2 10 0 fsX11 hx10 rfl (by decide) (by decide)).trans mf49_x_2
                    have mf52_x_4 := (c52.1 x 10 4 10 0 fsX11 hx10 rfl (by decide) (by decide)).trans mf49_x_4
                    have mf52_x_5 := (c52.1 x 10 5 10 0 fsX11 hx10 rfl (by decide) (by decide)).trans mf49_x_5
                    have kw52 := kw49.trans c52
                    have jl52 := jl49.kept rlp c52 (by decide) (by decide) (by decide)
                    refine W.eq (g2 := F0 m 203 ls []) rfl ?_
                    have hj53 := j52
                    obtain ⟨wb53, nw53, zw53, fa53, ra53, fb53, hn53, hc53, hz53⟩ := id hj53
                    refine lv_aload_n hx hb (eX11_writeDuration (203, .aload_n 0, 1) (List.mem_of_getElem? (i := 98) rfl)) rfl (lv_at hl 0 rfl) ?_
                    refine tz_get (r := 10) (k := 5) (t := (20, 0, 0)) hx hb hh52 hx10 rfl rfl (hcl10 45 5 (20, 0, 0) (by decide) rfl).1 mf52_x_5 (eX11_writeDuration (204, .getfield 45, 3) (List.mem_of_getElem? (i := 99) rfl)) ?_
                    refine tz_get (r := 8) (k := 1) (t := (0, 0, 120)) hx hb hh52 rwr rfl rfl (hcl8 251 1 (0, 0, 120) (by decide) rfl).1 fb53 (eX11_writeDuration (207, .getfield 251, 3) (List.mem_of_getElem? (i := 100) rfl)) ?_
                    have hO9 : [] ++ [v23.toInt] ++ cnL v26.toInt v27.toInt ++ cnL v30.toInt v31.toInt ++ cnL da.toInt v33.toInt ++ [v38.toInt] ++ cnL v41.toInt v42.toInt ++ cnL v47.toInt v48.toInt ++ (if 0 < v51.toInt ∨ 0 < na.toInt ∨ ([] ++ [v23.toInt] ++ cnL v26.toInt v27.toInt ++ cnL v30.toInt v31.toInt ++ cnL da.toInt v33.toInt ++ [v38.toInt] ++ cnL v41.toInt v42.toInt ++ cnL v47.toInt v48.toInt).length = 2 then scL v51.toInt na.toInt else []) = duL mo.toInt da.toInt se.toInt na.toInt := by
                      rw [show v26.toInt = mo.toInt / 12 by omega]
                      rw [show v27.toInt = 89 by omega]
                      rw [show v30.toInt = mo.toInt % 12 by omega]
                      rw [show v31.toInt = 77 by omega]
                      rw [show v33.toInt = 68 by omega]
                      rw [show v41.toInt = se.toInt / 3600 by omega]
                      rw [show v42.toInt = 72 by omega]
                      rw [show v47.toInt = se.toInt / 60 % 60 by omega]
                      rw [show v48.toInt = 77 by omega]
                      rw [show v23.toInt = 80 by omega]
                      rw [show v38.toInt = 84 by omega]
                      have q1 := cnL_len (mo.toInt / 12) 89
                      have q2 := cnL_len (mo.toInt % 12) 77
                      have q3 := cnL_len da.toInt 68
                      unfold duL
                      rw [show v51.toInt = se.toInt % 60 by omega]
                      have q4 := cnL_len (se.toInt / 3600) 72
                      have q5 := cnL_len (se.toInt / 60 % 60) 77
                      simp only [List.length_append, List.length_cons, List.length_nil]
                      rw [if_pos (show 0 < se.toInt ∨ 0 < na.toInt ∨ (mo.toInt = 0 ∧ da.toInt = 0 ∧ se.toInt = 0 ∧ na.toInt = 0) by omega)]
                      by_cases hs : 0 < se.toInt % 60 ∨ 0 < na.toInt ∨ (mo.toInt = 0 ∧ da.toInt = 0 ∧ se.toInt = 0 ∧ na.toInt = 0)
                      · rw [if_pos hs, if_pos (by omega)]
                        simp only [List.nil_append, List.append_assoc]
                      · rw [if_neg hs, if_neg (by omega)]
                        simp only [List.nil_append, List.append_assoc]
                    have hj9 := hj53
                    rw [hO9] at hj9
                    have hl9 := hn53
                    rw [hO9] at hl9
                    have hok := duL_ok mo.toInt da.toInt se.toInt na.toInt
                    exact vx_ret (W.widen (k := 1) (n := 6) (Nat.zero_le _) (Nat.zero_le _) (W.zret hx hb hr rfl (fun t ht hW => ⟨_, _, T, duL mo.toInt da.toInt se.toInt na.toInt, rfl, ⟨_, rfl, rfl⟩, by rw [ht]; exact hh52.l0, by rw [ht]; exact kp52, by rw [ht]; exact ⟨⟨tx, mf52_x_4, rtx, htx.kept rtx kw52 (by decide) (by decide) (by decide)⟩, ⟨wr, mf52_x_5, rwr, hj9⟩, ⟨hkT, by have h7 := hok.2; omega, hok.1⟩⟩, rfl, Or.inr ⟨rfl, by unfold duV; omega, rfl, hl9⟩⟩) hh52.2.2.1 (eX11_writeDuration (210, .ireturn, 1) (List.mem_of_getElem? (i := 101) rfl))))
                  · skip
                    refine lv_iload hx hb (eX11_writeDuration (129, .iload 7, 2) (List.mem_of_getElem? (i := 64) rfl)) (lv_at hl 4 rfl) ?_
                    refine ff_if_gt hx hb (eX11_writeDuration (131, .ifCond .gt 14, 3) (List.mem_of_getElem? (i := 65) rfl)) (tgt := 145) rfl (fun c54 => ?_) (fun c54 => ?_)
                    · skip
                      refine lv_aload_n hx hb (eX11_writeDuration (145, .aload_n 0, 1) (List.mem_of_getElem? (i := 71) rfl)) rfl (lv_at hl 0 rfl) ?_
                      refine tz_get (r := 10) (k := 5) (t := (20, 0, 0)) hx hb hh34 hx10 rfl rfl (hcl10 45 5 (20, 0, 0) (by decide) rfl).1 mf34_x_5 (eX11_writeDuration (146, .getfield 45, 3) (List.mem_of_getElem? (i := 72) rfl)) ?_
                      refine ff_bipush hx hb (eX11_writeDuration (149, .bipush 84, 2) (List.mem_of_getElem? (i := 73) rfl)) (by decide) (by decide) (fun v55 e55 => ?_)
                      refine tz_rowV (As := [.int v55]) (st := []) (b := wr) (C := RX9) (Ts := gT) hx hb hml hown h2 (fun _ h => h) (hX9_put l D cA ro sz H0 wr v55 ([] ++ [v23.toInt] ++ cnL v26.toInt v27.toInt ++ cnL v30.toInt v31.toInt ++ cnL da.toInt v33.toInt) rwr (by omega) (by omega) (by have hcl0 := cnL_len v26.toInt v27.toInt; have hcl1 := cnL_len v30.toInt v31.toInt; have hcl2 := cnL_len da.toInt v33.toInt; (try simp only [List.length_append, List.length_cons, List.length_nil, dgL_len]); omega)) ⟨rfl, rfl⟩ ⟨by decide, by decide⟩ ⟨by decide, by decide⟩ (tb_5 227 rfl rfl) (tb_1 6 rfl rfl) (tb_6 45 rfl rfl) (tb_5 225 rfl rfl) (tb_5 226 rfl rfl) (show yX9_put.cls ≠ "java/lang/invoke/MethodHandle" ∧ yX9_put.cls ≠ "java/lang/invoke/VarHandle" ∧ (parseMethodDescriptor yX9_put.desc).map (fun d => d.parameters.length) = some 1 by decide +kernel) zs_blind (zs_ob hh34 rwr (show RTg[8]? = some (0, 8, 0, fsX9) from rfl) (zCX9 hKa.1.1.1)) (fun U hU hW => ⟨rfl, by rw [hU]; exact hh34.l0, zKb s U hW.alike hKa.1.1, by rw [hU]; exact j34⟩) hh34.2.2.1 hl.1 (Nat.le_of_ble_eq_true rfl) (eX11_writeDuration (151, .invokevirtual 352, 3) (List.mem_of_getElem? (i := 74) rfl)) (fun r56 s56 t56 lo56 g56 f56 l56 => ?_)
                      obtain ⟨q56, z56, c56, j56⟩ := f56
                      cases q56
                      rw [g56] at c56
                      have hh56 : zh_ok D cA RTg ro sz H0 t56.heap lo56 := ⟨z56.1, z56.2.1, l56, z56.2.2.2⟩
                      have kp56 := kp34.trans (c56.mono (ms' := kMc) (by decide))
                      have mf56_x_0 := (c56.1 x 10 0 10 0 fsX11 hx10 rfl (by decide) (by decide)).trans mf34_x_0
                      have mf56_x_2 := (c56.1 x 10 2 10 0 fsX11 hx10 rfl (by decide) (by decide)).trans mf34_x_2
                      have mf56_x_4 := (c56.1 x 10 4 10 0 fsX11 hx10 rfl (by decide) (by decide)).trans mf34_x_4
                      have mf56_x_5 := (c56.1 x 10 5 10 0 fsX11 hx10 rfl (by decide) (by decide)).trans mf34_x_5
                      have kw56 := kw34.trans c56
                      have jl56 := jl34.kept rlp c56 (by decide) (by decide) (by decide)
                      refine W.eq (g2 := F0 m 154 ls []) rfl ?_
                      refine lv_aload_n hx hb (eX11_writeDuration (154, .aload_n 0, 1) (List.mem_of_getElem? (i := 75) rfl)) rfl (lv_at hl 0 rfl) ?_
                      refine tz_get (r := 10) (k := 5) (t := (20, 0, 0)) hx hb hh56 hx10 rfl rfl (hcl10 45 5 (20, 0, 0) (by decide) rfl).1 mf56_x_5 (eX11_writeDuration (155, .getfield 45, 3) (List.mem_of_getElem? (i := 76) rfl)) ?_
                      refine lv_lload hx hb (eX11_writeDuration (158, .lload 5, 2) (List.mem_of_getElem? (i := 77) rfl)) (lv_at hl 3 rfl) ?_
                      refine ff_ldc2 (n := 3600) hx hb hown h2 (clX11_ok 361 3600 (List.mem_of_getElem? (i := 6) rfl)) (eX11_writeDuration (160, .ldc2_w 361, 3) (List.mem_of_getElem? (i := 78) rfl)) (fun v57 e57 => ?_)
                      refine ff_ldivP hx hb (eX11_writeDuration (163, .ldiv, 1) (List.mem_of_getElem? (i := 79) rfl)) (by omega) (e57) (by decide) (fun v58 e58 => ?_)
                      refine ff_bipush hx hb (eX11_writeDuration (164, .bipush 72, 2) (List.mem_of_getElem? (i := 80) rfl)) (by decide) (by decide) (fun v59 e59 => ?_)
                      refine tz_rowV (As := [.long v58, .int v59]) (st := []) (b := wr) (C := RX9) (Ts := gT) hx hb hml hown h2 (fun _ h => h) (hX9_putCount l D cA ro sz H0 wr v58 v59 ([] ++ [v23.toInt] ++ cnL v26.toInt v27.toInt ++ cnL v30.toInt v31.toInt ++ cnL da.toInt v33.toInt ++ [v55.toInt]) rwr (by omega) (by omega) (by omega) (by have hcl0 := cnL_len v26.toInt v27.toInt; have hcl1 := cnL_len v30.toInt v31.toInt; have hcl2 := cnL_len da.toInt v33.toInt; (try simp only [List.length_append, List.length_cons, List.length_nil, dgL_len]); omega)) ⟨rfl, rfl⟩ ⟨by decide, by decide⟩ ⟨by decide, by decide⟩ (tb_6 50 rfl rfl) (tb_1 6 rfl rfl) (tb_6 47 rfl rfl) (tb_6 48 rfl rfl) (tb_6 49 rfl rfl) (show yX9_putCount.cls ≠ "java/lang/invoke/MethodHandle" ∧ yX9_putCount.cls ≠ "java/lang/invoke/VarHandle" ∧ (parseMethodDescriptor yX9_putCount.desc).map (fun d => d.parameters.length) = some 2 by decide +kernel) zs_blind (zs_ob hh56 rwr (show RTg[8]? = some (0, 8, 0, fsX9) from rfl) (zCX9 hKa.1.1.1)) (fun U hU hW => ⟨rfl, by rw [hU]; exact hh56.l0, zKb s U hW.alike hKa.1.1, by rw [hU]; exact j56⟩) hh56.2.2.1 hl.1 (Nat.le_of_ble_eq_true rfl) (eX11_writeDuration (166, .invokevirtual 357, 3) (List.mem_of_getElem? (i := 81) rfl)) (fun r60 s60 t60 lo60 g60 f60 l60 => ?_)
                      obtain ⟨q60, z60, c60, j60⟩ := f60
                      cases q60
                      rw [g60] at c60
                      have hh60 : zh_ok D cA RTg ro sz H0 t60.heap lo60 := ⟨z60.1, z60.2.1, l60, z60.2.2.2⟩
                      have kp60 := kp56.trans (c60.mono (ms' := kMc) (by decide))
                      have mf60_x_0 := (c60.1 x 10 0 10 0 fsX11 hx10 rfl (by decide) (by decide)).trans mf56_x_0
                      have mf60_x_2 := (c60.1 x 10 2 10 0 fsX11 hx10 rfl (by decide) (by decide)).trans mf56_x_2
                      have mf60_x_4 := (c60.1 x 10 4 10 0 fsX11 hx10 rfl (by decide) (by decide)).trans mf56_x_4
                      have mf60_x_5 := (c60.1 x 10 5 10 0 fsX11 hx10 rfl (by decide) (by decide)).trans mf56_x_5
                      have kw60 := kw56.trans c60
                      have jl60 := jl56.kept rlp c60 (by decide) (by decide) (by decide)
                      refine W.eq (g2 := F0 m 169 ls []) rfl ?_
                      refine lv_aload_n hx hb (eX11_writeDuration (169, .aload_n 0, 1) (List.mem_of_getElem? (i := 82) rfl)) rfl (lv_at hl 0 rfl) ?_
                      refine tz_get (r := 10) (k := 5) (t := (20, 0, 0)) hx hb hh60 hx10 rfl rfl (hcl10 45 5 (20, 0, 0) (by decide) rfl).1 mf60_x_5 (eX11_writeDuration (170, .getfield 45, 3) (List.mem_of_getElem? (i := 83) rfl)) ?_
                      refine lv_lload hx hb (eX11_writeDuration (173, .lload 5, 2) (List.mem_of_getElem? (i := 84) rfl)) (lv_at hl 3 rfl) ?_
                      refine ff_ldc2 (n := 60) hx hb hown h2 (clX11_ok 363 60 (List.mem_of_getElem? (i := 7) rfl)) (eX11_writeDuration (175, .ldc2_w 363, 3) (List.mem_of_getElem? (i := 85) rfl)) (fun v61 e61 => ?_)
                      refine ff_ldivP hx hb (eX11_writeDuration (178, .ldiv, 1) (List.mem_of_getElem? (i := 86) rfl)) (by omega) (e61) (by decide) (fun v62 e62 => ?_)
                      refine ff_ldc2 (n := 60) hx hb hown h2 (clX11_ok 363 60 (List.mem_of_getElem? (i := 7) rfl)) (eX11_writeDuration (179, .ldc2_w 363, 3) (List.mem_of_getElem? (i := 87) rfl)) (fun v63 e63 => ?_)
                      refine ff_lremP hx hb (eX11_writeDuration (182, .lrem, 1) (List.mem_of_getElem? (i := 88) rfl)) (by omega) (e63) (by decide) (fun v64 e64 => ?_)
                      refine ff_bipush hx hb (eX11_writeDuration (183, .bipush 77, 2) (List.mem_of_getElem? (i := 89) rfl)) (by decide) (by decide) (fun v65 e65 => ?_)
                      refine tz_rowV (As := [.long v64, .int v65]) (st := []) (b := wr) (C := RX9) (Ts := gT) hx hb hml hown h2 (fun _ h => h) (hX9_putCount l D cA ro sz H0 wr v64 v65 ([] ++ [v23.toInt] ++ cnL v26.toInt v27.toInt ++ cnL v30.toInt v31.toInt ++ cnL da.toInt v33.toInt ++ [v55.toInt] ++ cnL v58.toInt v59.toInt) rwr (by omega) (by omega) (by omega) (by have hcl0 := cnL_len v26.toInt v27.toInt; have hcl1 := cnL_len v30.toInt v31.toInt; have hcl2 := cnL_len da.toInt v33.toInt; have hcl3 := cnL_len v58.toInt v59.toInt; (try simp only [List.length_append, List.length_cons, List.length_nil, dgL_len]); omega)) ⟨rfl, rfl⟩ ⟨by decide, by decide⟩ ⟨by decide, by decide⟩ (tb_6 50 rfl rfl) (tb_1 6 rfl rfl) (tb_6 47 rfl rfl) (tb_6 48 rfl rfl) (tb_6 49 rfl rfl) (show yX9_putCount.cls ≠ "java/lang/invoke/MethodHandle" ∧ yX9_putCount.cls ≠ "java/lang/invoke/VarHandle" ∧ (parseMethodDescriptor yX9_putCount.desc).map (fun d => d.parameters.length) = some 2 by decide +kernel) zs_blind (zs_ob hh60 rwr (show RTg[8]? = some (0, 8, 0, fsX9) from rfl) (zCX9 hKa.1.1.1)) (fun U hU hW => ⟨rfl, by rw [hU]; exact hh60.l0, zKb s U hW.alike hKa.1.1, by rw [hU]; exact j60⟩) hh60.2.2.1 hl.1 (Nat.le_of_ble_eq_true rfl) (eX11_writeDuration (185, .invokevirtual 357, 3) (List.mem_of_getElem? (i := 90) rfl)) (fun r66 s66 t66 lo66 g66 f66 l66 => ?_)
                      obtain ⟨q66, z66, c66, j66⟩ := f66
                      cases q66
                      rw [g66] at c66
                      have hh66 : zh_ok D cA RTg ro sz H0 t66.heap lo66 := ⟨z66.1, z66.2.1, l66, z66.2.2.2⟩
                      have kp66 := kp60.trans (c66.mono (ms' := kMc) (by decide))
                      have mf66_x_0 := (c66.1 x 10 0 10 0 fsX11 hx10 rfl (by decide) (by decide)).trans mf60_x_0
                      have mf66_x_2 := (c66.1 x 10 2 10 0 fsX11 hx10 rfl (by decide) (by decide)).trans mf60_x_2
                      have mf66_x_4 := (c66.1 x 10 4 10 0 fsX11 hx10 rfl (by decide) (by decide)).trans mf60_x_4
                      have mf66_x_5 := (c66.1 x 10 5 10 0 fsX11 hx10 rfl (by decide) (by decide)).trans mf60_x_5
                      have kw66 := kw60.trans c66
                      have jl66 := jl60.kept rlp c66 (by decide) (by decide) (by decide)
                      refine W.eq (g2 := F0 m 188 ls []) rfl ?_
                      refine lv_aload_n hx hb (eX11_writeDuration (188, .aload_n 0, 1) (List.mem_of_getElem? (i := 91) rfl)) rfl (lv_at hl 0 rfl) ?_
                      refine tz_get (r := 10) (k := 5) (t := (20, 0, 0)) hx hb hh66 hx10 rfl rfl (hcl10 45 5 (20, 0, 0) (by decide) rfl).1 mf66_x_5 (eX11_writeDuration (189, .getfield 45, 3) (List.mem_of_getElem? (i := 92) rfl)) ?_
                      refine lv_lload hx hb (eX11_writeDuration (192, .lload 5, 2) (List.mem_of_getElem? (i := 93) rfl)) (lv_at hl 3 rfl) ?_
                      refine ff_ldc2 (n := 60) hx hb hown h2 (clX11_ok 363 60 (List.mem_of_getElem? (i := 7) rfl)) (eX11_writeDuration (194, .ldc2_w 363, 3) (List.mem_of_getElem? (i := 94) rfl)) (fun v67 e67 => ?_)
                      refine ff_lremP hx hb (eX11_writeDuration (197, .lrem, 1) (List.mem_of_getElem? (i := 95) rfl)) (by omega) (e67) (by decide) (fun v68 e68 => ?_)
                      refine lv_iload hx hb (eX11_writeDuration (198, .iload 7, 2) (List.mem_of_getElem? (i := 96) rfl)) (lv_at hl 4 rfl) ?_
                      refine tz_rowV (As := [.long v68, .int na]) (st := []) (b := wr) (C := RX9) (Ts := gT) hx hb hml hown h2 (fun _ h => h) (hX9_putSeconds l D cA ro sz H0 wr v68 na ([] ++ [v23.toInt] ++ cnL v26.toInt v27.toInt ++ cnL v30.toInt v31.toInt ++ cnL da.toInt v33.toInt ++ [v55.toInt] ++ cnL v58.toInt v59.toInt ++ cnL v64.toInt v65.toInt) rwr (by omega) (by omega) (by omega) (by omega) (by have hcl0 := cnL_len v26.toInt v27.toInt; have hcl1 := cnL_len v30.toInt v31.toInt; have hcl2 := cnL_len da.toInt v33.toInt; have hcl3 := cnL_len v58.toInt v59.toInt; have hcl4 := cnL_len v64.toInt v65.toInt; (try simp only [List.length_append, List.length_cons, List.length_nil, dgL_len]); omega)) ⟨rfl, rfl⟩ ⟨by decide, by decide⟩ ⟨by decide, by decide⟩ (tb_6 60 rfl rfl) (tb_1 6 rfl rfl) (tb_6 57 rfl rfl) (tb_6 58 rfl rfl) (tb_6 59 rfl rfl) (show yX9_putSeconds.cls ≠ "java/lang/invoke/MethodHandle" ∧ yX9_putSeconds.cls ≠ "java/lang/invoke/VarHandle" ∧ (parseMethodDescriptor yX9_putSeconds.desc).map (fun d => d.parameters.length) = some 2 by decide +kernel) zs_blind (zs_ob hh66 rwr (show RTg[8]? = some (0, 8, 0, fsX9) from rfl) (zCX9 hKa.1.1.1)) (fun U hU hW => ⟨rfl, by rw [hU]; exact hh66.l0, zKb s U hW.alike hKa.1.1, by rw [hU]; exact j66⟩) hh66.2.2.1 hl.1 (Nat.le_of_ble_eq_true rfl) (eX11_writeDuration (200, .invokevirtual 365, 3) (List.mem_of_getElem? (i := 97) rfl)) (fun r69 s69 t69 lo69 g69 f69 l69 => ?_)
                      obtain ⟨q69, z69, c69, j69⟩ := f69
                      cases q69
                      rw [g69] at c69
                      have hh69 : zh_ok D cA RTg ro sz H0 t69.heap lo69 := ⟨z69.1, z69.2.1, l69, z69.2.2.2⟩
                      have kp69 := kp66.trans (c69.mono (ms' := kMc) (by decide))
                      have mf69_x_0 := (c69.1 x 10 0 10 0 fsX11 hx10 rfl (by decide) (by decide)).trans mf66_x_0
                      have mf69_x_2 := (c69.1 x 10 2 10 0 fsX11 hx10 rfl (by decide) (by decide)).trans mf66_x_2
                      have mf69_x_4 := (c69.1 x 10 4 10 0 fsX11 hx10 rfl (by decide) (by decide)).trans mf66_x_4
                      have mf69_x_5 := (c69.1 x 10 5 10 0 fsX11 hx10 rfl (by decide) (by decide)).trans mf66_x_5
                      have kw69 := kw66.trans c69
                      have jl69 := jl66.kept rlp c69 (by decide) (by decide) (by decide)
                      refine W.eq (g2 := F0 m 203 ls []) rfl ?_
                      have hj70 := j69
                      obtain ⟨wb70, nw70, zw70, fa70, ra70, fb70, hn70, hc70, hz70⟩ := id hj70
                      refine lv_aload_n hx hb (eX11_writeDuration (203, .aload_n 0, 1) (List.mem_of_getElem? (i := 98) rfl)) rfl (lv_at hl 0 rfl) ?_
                      refine tz_get (r := 10) (k := 5) (t := (20, 0, 0)) hx hb hh69 hx10 rfl rfl (hcl10 45 5 (20, 0, 0) (by decide) rfl).1 mf69_x_5 (eX11_writeDuration (204, .getfield 45, 3) (List.mem_of_getElem? (i := 99) rfl)) ?_
                      refine tz_get (r := 8) (k := 1) (t := (0, 0, 120)) hx hb hh69 rwr rfl rfl (hcl8 251 1 (0, 0, 120) (by decide) rfl).1 fb70 (eX11_writeDuration (207, .getfield 251, 3) (List.mem_of_getElem? (i := 100) rfl)) ?_
                      have hO9 : [] ++ [v23.toInt] ++ cnL v26.toInt v27.toInt ++ cnL v30.toInt v31.toInt ++ cnL da.toInt v33.toInt ++ [v55.toInt] ++ cnL v58.toInt v59.toInt ++ cnL v64.toInt v65.toInt ++ (if 0 < v68.toInt ∨ 0 < na.toInt ∨ ([] ++ [v23.toInt] ++ cnL v26.toInt v27.toInt ++ cnL v30.toInt v31.toInt ++ cnL da.toInt v33.toInt ++ [v55.toInt] ++ cnL v58.toInt v59.toInt ++ cnL v64.toInt v65.toInt).length = 2 then scL v68.toInt na.toInt else []) = duL mo.toInt da.toInt se.toInt na.toInt := by
                        rw [show v26.toInt = mo.toInt / 12 by omega]
                        rw [show v27.toInt = 89 by omega]
                        rw [show v30.toInt = mo.toInt % 12 by omega]
                        rw [show v31.toInt = 77 by omega]
                        rw [show v33.toInt = 68 by omega]
                        rw [show v58.toInt = se.toInt / 3600 by omega]
                        rw [show v59.toInt = 72 by omega]
                        rw [show v64.toInt = se.toInt / 60 % 60 by omega]
                        rw [show v65.toInt = 77 by omega]
                        rw [show v23.toInt = 80 by omega]
                        rw [show v55.toInt = 84 by omega]
                        have q1 := cnL_len (mo.toInt / 12) 89
                        have q2 := cnL_len (mo.toInt % 12) 77
                        have q3 := cnL_len da.toInt 68
                        unfold duL
                        rw [show v68.toInt = se.toInt % 60 by omega]
                        have q4 := cnL_len (se.toInt / 3600) 72
                        have q5 := cnL_len (se.toInt / 60 % 60) 77
                        simp only [List.length_append, List.length_cons, List.length_nil]
                        rw [if_pos (show 0 < se.toInt ∨ 0 < na.toInt ∨ (mo.toInt = 0 ∧ da.toInt = 0 ∧ se.toInt = 0 ∧ na.toInt = 0) by omega)]
                        by_cases hs : 0 < se.toInt % 60 ∨ 0 < na.toInt ∨ (mo.toInt = 0 ∧ da.toInt = 0 ∧ se.toInt = 0 ∧ na.toInt = 0)
                        · rw [if_pos hs, if_pos (by omega)]
                          simp only [List.nil_append, List.append_assoc]
                        · rw [if_neg hs, if_neg (by omega)]
                          simp only [List.nil_append, List.append_assoc]
                      have hj9 := hj70
                      rw [hO9] at hj9
                      have hl9 := hn70
                      rw [hO9] at hl9
                      have hok := duL_ok mo.toInt da.toInt se.toInt na.toInt
                      exact vx_ret (W.widen (k := 1) (n := 6) (Nat.zero_le _) (Nat.zero_le _) (W.zret hx hb hr rfl (fun t ht hW => ⟨_, _, T, duL mo.toInt da.toInt se.toInt na.toInt, rfl, ⟨_, rfl, rfl⟩, by rw [ht]; exact hh69.l0, by rw [ht]; exact kp69, by rw [ht]; exact ⟨⟨tx, mf69_x_4, rtx, htx.kept rtx kw69 (by decide) (by decide) (by decide)⟩, ⟨wr, mf69_x_5, rwr, hj9⟩, ⟨hkT, by have h7 := hok.2; omega, hok.1⟩⟩, rfl, Or.inr ⟨rfl, by unfold duV; omega, rfl, hl9⟩⟩) hh69.2.2.1 (eX11_writeDuration (210, .ireturn, 1) (List.mem_of_getElem? (i := 101) rfl))))
                    · skip
                      have hj71 := j34
                      obtain ⟨wb71, nw71, zw71, fa71, ra71, fb71, hn71, hc71, hz71⟩ := id hj71
                      have hq0 := cnL_len v26.toInt v27.toInt
                      have hq1 := cnL_len v30.toInt v31.toInt
                      have hq2 := cnL_len da.toInt v33.toInt
                      have hln := hn71
                      simp only [List.length_append, List.length_cons, List.length_nil] at hln
                      refine lv_aload_n hx hb (eX11_writeDuration (134, .aload_n 0, 1) (List.mem_of_getElem? (i := 66) rfl)) rfl (lv_at hl 0 rfl) ?_
                      refine tz_get (r := 10) (k := 5) (t := (20, 0, 0)) hx hb hh34 hx10 rfl rfl (hcl10 45 5 (20, 0, 0) (by decide) rfl).1 mf34_x_5 (eX11_writeDuration (135, .getfield 45, 3) (List.mem_of_getElem? (i := 67) rfl)) ?_
                      refine tz_get (r := 8) (k := 1) (t := (0, 0, 120)) hx hb hh34 rwr rfl rfl (hcl8 251 1 (0, 0, 120) (by decide) rfl).1 fb71 (eX11_writeDuration (138, .getfield 251, 3) (List.mem_of_getElem? (i := 68) rfl)) ?_
                      refine ff_iconst hx hb (eX11_writeDuration (141, .iconst 1, 1) (List.mem_of_getElem? (i := 69) rfl)) (by decide) (by decide) (fun v72 e72 => ?_)
                      refine ff_icmp_ne hx hb (eX11_writeDuration (142, .if_icmp .ne 61, 3) (List.mem_of_getElem? (i := 70) rfl)) (tgt := 203) rfl (fun c73 => ?_) (fun c73 => ?_)
                      · skip
                        have hj74 := j34
                        obtain ⟨wb74, nw74, zw74, fa74, ra74, fb74, hn74, hc74, hz74⟩ := id hj74
                        refine lv_aload_n hx hb (eX11_writeDuration (203, .aload_n 0, 1) (List.mem_of_getElem? (i := 98) rfl)) rfl (lv_at hl 0 rfl) ?_
                        refine tz_get (r := 10) (k := 5) (t := (20, 0, 0)) hx hb hh34 hx10 rfl rfl (hcl10 45 5 (20, 0, 0) (by decide) rfl).1 mf34_x_5 (eX11_writeDuration (204, .getfield 45, 3) (List.mem_of_getElem? (i := 99) rfl)) ?_
                        refine tz_get (r := 8) (k := 1) (t := (0, 0, 120)) hx hb hh34 rwr rfl rfl (hcl8 251 1 (0, 0, 120) (by decide) rfl).1 fb74 (eX11_writeDuration (207, .getfield 251, 3) (List.mem_of_getElem? (i := 100) rfl)) ?_
                        have hO9 : [] ++ [v23.toInt] ++ cnL v26.toInt v27.toInt ++ cnL v30.toInt v31.toInt ++ cnL da.toInt v33.toInt = duL mo.toInt da.toInt se.toInt na.toInt := by
                          rw [show v26.toInt = mo.toInt / 12 by omega]
                          rw [show v27.toInt = 89 by omega]
                          rw [show v30.toInt = mo.toInt % 12 by omega]
                          rw [show v31.toInt = 77 by omega]
                          rw [show v33.toInt = 68 by omega]
                          rw [show v23.toInt = 80 by omega]
                          have q1 := cnL_len (mo.toInt / 12) 89
                          have q2 := cnL_len (mo.toInt % 12) 77
                          have q3 := cnL_len da.toInt 68
                          unfold duL
                          rw [if_neg (by omega), List.append_nil]
                          simp only [List.nil_append]
                        have hj9 := hj74
                        rw [hO9] at hj9
                        have hl9 := hn74
                        rw [hO9] at hl9
                        have hok := duL_ok mo.toInt da.toInt se.toInt na.toInt
                        exact vx_ret (W.widen (k := 1) (n := 6) (Nat.zero_le _) (Nat.zero_le _) (W.zret hx hb hr rfl (fun t ht hW => ⟨_, _, T, duL mo.toInt da.toInt se.toInt na.toInt, rfl, ⟨_, rfl, rfl⟩, by rw [ht]; exact hh34.l0, by rw [ht]; exact kp34, by rw [ht]; exact ⟨⟨tx, mf34_x_4, rtx, htx.kept rtx kw34 (by decide) (by decide) (by decide)⟩, ⟨wr, mf34_x_5, rwr, hj9⟩, ⟨hkT, by have h7 := hok.2; omega, hok.1⟩⟩, rfl, Or.inr ⟨rfl, by unfold duV; omega, rfl, hl9⟩⟩) hh34.2.2.1 (eX11_writeDuration (210, .ireturn, 1) (List.mem_of_getElem? (i := 101) rfl))))
                      · skip
                        refine lv_aload_n hx hb (eX11_writeDuration (145, .aload_n 0, 1) (List.mem_of_getElem? (i := 71) rfl)) rfl (lv_at hl 0 rfl) ?_
                        refine tz_get (r := 10) (k := 5) (t := (20, 0, 0)) hx hb hh34 hx10 rfl rfl (hcl10 45 5 (20, 0, 0) (by decide) rfl).1 mf34_x_5 (eX11_writeDuration (146, .getfield 45, 3) (List.mem_of_getElem? (i := 72) rfl)) ?_
                        refine ff_bipush hx hb (eX11_writeDuration (149, .bipush 84, 2) (List.mem_of_getElem? (i := 73) rfl)) (by decide) (by decide) (fun v75 e75 => ?_)
                        refine tz_rowV (As := [.int v75]) (st := []) (b := wr) (C := RX9) (Ts := gT) hx hb hml hown h2 (fun _ h => h) (hX9_put l D cA ro sz H0 wr v75 ([] ++ [v23.toInt] ++ cnL v26.toInt v27.toInt ++ cnL v30.toInt v31.toInt ++ cnL da.toInt v33.toInt) rwr (by omega) (by omega) (by have hcl0 := cnL_len v26.toInt v27.toInt; have hcl1 := cnL_len v30.toInt v31.toInt; have hcl2 := cnL_len da.toInt v33.toInt; (try simp only [List.length_append, List.length_cons, List.length_nil, dgL_len]); omega)) ⟨rfl, rfl⟩ ⟨by decide, by decide⟩ ⟨by decide, by decide⟩ (tb_5 227 rfl rfl) (tb_1 6 rfl rfl) (tb_6 45 rfl rfl) (tb_5 225 rfl rfl) (tb_5 226 rfl rfl) (show yX9_put.cls ≠ "java/lang/invoke/MethodHandle" ∧ yX9_put.cls ≠ "java/lang/invoke/VarHandle" ∧ (parseMethodDescriptor yX9_put.desc).map (fun d => d.parameters.length) = some 1 by decide +kernel) zs_blind (zs_ob hh34 rwr (show RTg[8]? = some (0, 8, 0, fsX9) from rfl) (zCX9 hKa.1.1.1)) (fun U hU hW => ⟨rfl, by rw [hU]; exact hh34.l0, zKb s U hW.alike hKa.1.1, by rw [hU]; exact j34⟩) hh34.2.2.1 hl.1 (Nat.le_of_ble_eq_true rfl) (eX11_writeDuration (151, .invokevirtual 352, 3) (List.mem_of_getElem? (i := 74) rfl)) (fun r76 s76 t76 lo76 g76 f76 l76 => ?_)
                        obtain ⟨q76, z76, c76, j76⟩ := f76
                        cases q76
                        rw [g76] at c76
                        have hh76 : zh_ok D cA RTg ro sz H0 t76.heap lo76 := ⟨z76.1, z76.2.1, l76, z76.2.2.2⟩
                        have kp76 := kp34.trans (c76.mono (ms' := kMc) (by decide))
                        have mf76_x_0 := (c76.1 x 10 0 10 0 fsX11 hx10 rfl (by decide) (by decide)).trans mf34_x_0
                        have mf76_x_2 := (c76.1 x 10 2 10 0 fsX11 hx10 rfl (by decide) (by decide)).trans mf34_x_2
                        have mf76_x_4 := (c76.1 x 10 4 10 0 fsX11 hx10 rfl (by decide) (by decide)).trans mf34_x_4
                        have mf76_x_5 := (c76.1 x 10 5 10 0 fsX11 hx10 rfl (by decide) (by decide)).trans mf34_x_5
                        have kw76 := kw34.trans c76
                        have jl76 := jl34.kept rlp c76 (by decide) (by decide) (by decide)
                        refine W.eq (g2 := F0 m 154 ls []) rfl ?_
                        refine lv_aload_n hx hb (eX11_writeDuration (154, .aload_n 0, 1) (List.mem_of_getElem? (i := 75) rfl)) rfl (lv_at hl 0 rfl) ?_
                        refine tz_get (r := 10) (k := 5) (t := (20, 0, 0)) hx hb hh76 hx10 rfl rfl (hcl10 45 5 (20, 0, 0) (by decide) rfl).1 mf76_x_5 (eX11_writeDuration (155, .getfield 45, 3) (List.mem_of_getElem? (i := 76) rfl)) ?_
                        refine lv_lload hx hb (eX11_writeDuration (158, .lload 5, 2) (List.mem_of_getElem? (i := 77) rfl)) (lv_at hl 3 rfl) ?_
                        refine ff_ldc2 (n := 3600) hx hb hown h2 (clX11_ok 361 3600 (List.mem_of_getElem? (i := 6) rfl)) (eX11_writeDuration (160, .ldc2_w 361, 3) (List.mem_of_getElem? (i := 78) rfl)) (fun v77 e77 => ?_)
                        refine ff_ldivP hx hb (eX11_writeDuration (163, .ldiv, 1) (List.mem_of_getElem? (i := 79) rfl)) (by omega) (e77) (by decide) (fun v78 e78 => ?_)
                        refine ff_bipush hx hb (eX11_writeDuration (164, .bipush 72, 2) (List.mem_of_getElem? (i := 80) rfl)) (by decide) (by decide) (fun v79 e79 => ?_)
                        refine tz_rowV (As := [.long v78, .int v79]) (st := []) (b := wr) (C := RX9) (Ts := gT) hx hb hml hown h2 (fun _ h => h) (hX9_putCount l D cA ro sz H0 wr v78 v79 ([] ++ [v23.toInt] ++ cnL v26.toInt v27.toInt ++ cnL v30.toInt v31.toInt ++ cnL da.toInt v33.toInt ++ [v75.toInt]) rwr (by omega) (by omega) (by omega) (by have hcl0 := cnL_len v26.toInt v27.toInt; have hcl1 := cnL_len v30.toInt v31.toInt; have hcl2 := cnL_len da.toInt v33.toInt; (try simp only [List.length_append, List.length_cons, List.length_nil, dgL_len]); omega)) ⟨rfl, rfl⟩ ⟨by decide, by decide⟩ ⟨by decide, by decide⟩ (tb_6 50 rfl rfl) (tb_1 6 rfl rfl) (tb_6 47 rfl rfl) (tb_6 48 rfl rfl) (tb_6 49 rfl rfl) (show yX9_putCount.cls ≠ "java/lang/invoke/MethodHandle" ∧ yX9_putCount.cls ≠ "java/lang/invoke/VarHandle" ∧ (parseMethodDescriptor yX9_putCount.desc).map (fun d => d.parameters.length) = some 2 by decide +kernel) zs_blind (zs_ob hh76 rwr (show RTg[8]? = some (0, 8, 0, fsX9) from rfl) (zCX9 hKa.1.1.1)) (fun U hU hW => ⟨rfl, by rw [hU]; exact hh76.l0, zKb s U hW.alike hKa.1.1, by rw [hU]; exact j76⟩) hh76.2.2.1 hl.1 (Nat.le_of_ble_eq_true rfl) (eX11_writeDuration (166, .invokevirtual 357, 3) (List.mem_of_getElem? (i := 81) rfl)) (fun r80 s80 t80 lo80 g80 f80 l80 => ?_)
                        obtain ⟨q80, z80, c80, j80⟩ := f80
                        cases q80
                        rw [g80] at c80
                        have hh80 : zh_ok D cA RTg ro sz H0 t80.heap lo80 := ⟨z80.1, z80.2.1, l80, z80.2.2.2⟩
                        have kp80 := kp76.trans (c80.mono (ms' := kMc) (by decide))
                        have mf80_x_0 := (c80.1 x 10 0 10 0 fsX11 hx10 rfl (by decide) (by decide)).trans mf76_x_0
                        have mf80_x_2 := (c80.1 x 10 2 10 0 fsX11 hx10 rfl (by decide) (by decide)).trans mf76_x_2
                        have mf80_x_4 := (c80.1 x 10 4 10 0 fsX11 hx10 rfl (by decide) (by decide)).trans mf76_x_4
                        have mf80_x_5 := (c80.1 x 10 5 10 0 fsX11 hx10 rfl (by decide) (by decide)).trans mf76_x_5
                        have kw80 := kw76.trans c80
                        have jl80 := jl76.kept rlp c80 (by decide) (by decide) (by decide)
                        refine W.eq (g2 := F0 m 169 ls []) rfl ?_
                        refine lv_aload_n hx hb (eX11_writeDuration (169, .aload_n 0, 1) (List.mem_of_getElem? (i := 82) rfl)) rfl (lv_at hl 0 rfl) ?_
                        refine tz_get (r := 10) (k := 5) (t := (20, 0, 0)) hx hb hh80 hx10 rfl rfl (hcl10 45 5 (20, 0, 0) (by decide) rfl).1 mf80_x_5 (eX11_writeDuration (170, .getfield 45, 3) (List.mem_of_getElem? (i := 83) rfl)) ?_
                        refine lv_lload hx hb (eX11_writeDuration (173, .lload 5, 2) (List.mem_of_getElem? (i := 84) rfl)) (lv_at hl 3 rfl) ?_
                        refine ff_ldc2 (n := 60) hx hb hown h2 (clX11_ok 363 60 (List.mem_of_getElem? (i := 7) rfl)) (eX11_writeDuration (175, .ldc2_w 363, 3) (List.mem_of_getElem? (i := 85) rfl)) (fun v81 e81 => ?_)
                        refine ff_ldivP hx hb (eX11_writeDuration (178, .ldiv, 1) (List.mem_of_getElem? (i := 86) rfl)) (by omega) (e81) (by decide) (fun v82 e82 => ?_)
                        refine ff_ldc2 (n := 60) hx hb hown h2 (clX11_ok 363 60 (List.mem_of_getElem? (i := 7) rfl)) (eX11_writeDuration (179, .ldc2_w 363, 3) (List.mem_of_getElem? (i := 87) rfl)) (fun v83 e83 => ?_)
                        refine ff_lremP hx hb (eX11_writeDuration (182, .lrem, 1) (List.mem_of_getElem? (i := 88) rfl)) (by omega) (e83) (by decide) (fun v84 e84 => ?_)
                        refine ff_bipush hx hb (eX11_writeDuration (183, .bipush 77, 2) (List.mem_of_getElem? (i := 89) rfl)) (by decide) (by decide) (fun v85 e85 => ?_)
                        refine tz_rowV (As := [.long v84, .int v85]) (st := []) (b := wr) (C := RX9) (Ts := gT) hx hb hml hown h2 (fun _ h => h) (hX9_putCount l D cA ro sz H0 wr v84 v85 ([] ++ [v23.toInt] ++ cnL v26.toInt v27.toInt ++ cnL v30.toInt v31.toInt ++ cnL da.toInt v33.toInt ++ [v75.toInt] ++ cnL v78.toInt v79.toInt) rwr (by omega) (by omega) (by omega) (by have hcl0 := cnL_len v26.toInt v27.toInt; have hcl1 := cnL_len v30.toInt v31.toInt; have hcl2 := cnL_len da.toInt v33.toInt; have hcl3 := cnL_len v78.toInt v79.toInt; (try simp only [List.length_append, List.length_cons, List.length_nil, dgL_len]); omega)) ⟨rfl, rfl⟩ ⟨by decide, by decide⟩ ⟨by decide, by decide⟩ (tb_6 50 rfl rfl) (tb_1 6 rfl rfl) (tb_6 47 rfl rfl) (tb_6 48 rfl rfl) (tb_6 49 rfl rfl) (show yX9_putCount.cls ≠ "java/lang/invoke/MethodHandle" ∧ yX9_putCount.cls ≠ "java/lang/invoke/VarHandle" ∧ (parseMethodDescriptor yX9_putCount.desc).map (fun d => d.parameters.length) = some 2 by decide +kernel) zs_blind (zs_ob hh80 rwr (show RTg[8]? = some (0, 8, 0, fsX9) from rfl) (zCX9 hKa.1.1.1)) (fun U hU hW => ⟨rfl, by rw [hU]; exact hh80.l0, zKb s U hW.alike hKa.1.1, by rw [hU]; exact j80⟩) hh80.2.2.1 hl.1 (Nat.le_of_ble_eq_true rfl) (eX11_writeDuration (185, .invokevirtual 357, 3) (List.mem_of_getElem? (i := 90) rfl)) (fun r86 s86 t86 lo86 g86 f86 l86 => ?_)
                        obtain ⟨q86, z86, c86, j86⟩ := f86
                        cases q86
                        rw [g86] at c86
                        have hh86 : zh_ok D cA RTg ro sz H0 t86.heap lo86 := ⟨z86.1, z86.2.1, l86, z86.2.2.2⟩
                        have kp86 := kp80.trans (c86.mono (ms' := kMc) (by decide))
                        have mf86_x_0 := (c86.1 x 10 0 10 0 fsX11 hx10 rfl (by decide) (by decide)).trans mf80_x_0
                        have mf86_x_2 := (c86.1 x 10 2 10 0 fsX11 hx10 rfl (by decide) (by decide)).trans mf80_x_2
                        have mf86_x_4 := (c86.1 x 10 4 10 0 fsX11 hx10 rfl (by decide) (by decide)).trans mf80_x_4
                        have mf86_x_5 := (c86.1 x 10 5 10 0 fsX11 hx10 rfl (by decide) (by decide)).trans mf80_x_5
                        have kw86 := kw80.trans c86
                        have jl86 := jl80.kept rlp c86 (by decide) (by decide) (by decide)
                        refine W.eq (g2 := F0 m 188 ls []) rfl ?_
                        refine lv_aload_n hx hb (eX11_writeDuration (188, .aload_n 0, 1) (List.mem_of_getElem? (i := 91) rfl)) rfl (lv_at hl 0 rfl) ?_
                        refine tz_get (r := 10) (k := 5) (t := (20, 0, 0)) hx hb hh86 hx10 rfl rfl (hcl10 45 5 (20, 0, 0) (by decide) rfl).1 mf86_x_5 (eX11_writeDuration (189, .getfield 45, 3) (List.mem_of_getElem? (i := 92) rfl)) ?_
                        refine lv_lload hx hb (eX11_writeDuration (192, .lload 5, 2) (List.mem_of_getElem? (i := 93) rfl)) (lv_at hl 3 rfl) ?_
                        refine ff_ldc2 (n := 60) hx hb hown h2 (clX11_ok 363 60 (List.mem_of_getElem? (i := 7) rfl)) (eX11_writeDuration (194, .ldc2_w 363, 3) (List.mem_of_getElem? (i := 94) rfl)) (fun v87 e87 => ?_)
                        refine ff_lremP hx hb (eX11_writeDuration (197, .lrem, 1) (List.mem_of_getElem? (i := 95) rfl)) (by omega) (e87) (by decide) (fun v88 e88 => ?_)
                        refine lv_iload hx hb (eX11_writeDuration (198, .iload 7, 2) (List.mem_of_getElem? (i := 96) rfl)) (lv_at hl 4 rfl) ?_
                        refine tz_rowV (As := [.long v88, .int na]) (st := []) (b := wr) (C := RX9) (Ts := gT) hx hb hml hown h2 (fun _ h => h) (hX9_putSeconds l D cA ro sz H0 wr v88 na ([] ++ [v23.toInt] ++ cnL v26.toInt v27.toInt ++ cnL v30.toInt v31.toInt ++ cnL da.toInt v33.toInt ++ [v75.toInt] ++ cnL v78.toInt v79.toInt ++ cnL v84.toInt v85.toInt) rwr (by omega) (by omega) (by omega) (by omega) (by have hcl0 := cnL_len v26.toInt v27.toInt; have hcl1 := cnL_len v30.toInt v31.toInt; have hcl2 := cnL_len da.toInt v33.toInt; have hcl3 := cnL_len v78.toInt v79.toInt; have hcl4 := cnL_len v84.toInt v85.toInt; (try simp only [List.length_append, List.length_cons, List.length_nil, dgL_len]); omega)) ⟨rfl, rfl⟩ ⟨by decide, by decide⟩ ⟨by decide, by decide⟩ (tb_6 60 rfl rfl) (tb_1 6 rfl rfl) (tb_6 57 rfl rfl) (tb_6 58 rfl rfl) (tb_6 59 rfl rfl) (show yX9_putSeconds.cls ≠ "java/lang/invoke/MethodHandle" ∧ yX9_putSeconds.cls ≠ "java/lang/invoke/VarHandle" ∧ (parseMethodDescriptor yX9_putSeconds.desc).map (fun d => d.parameters.length) = some 2 by decide +kernel) zs_blind (zs_ob hh86 rwr (show RTg[8]? = some (0, 8, 0, fsX9) from rfl) (zCX9 hKa.1.1.1)) (fun U hU hW => ⟨rfl, by rw [hU]; exact hh86.l0, zKb s U hW.alike hKa.1.1, by rw [hU]; exact j86⟩) hh86.2.2.1 hl.1 (Nat.le_of_ble_eq_true rfl) (eX11_writeDuration (200, .invokevirtual 365, 3) (List.mem_of_getElem? (i := 97) rfl)) (fun r89 s89 t89 lo89 g89 f89 l89 => ?_)
                        obtain ⟨q89, z89, c89, j89⟩ := f89
                        cases q89
                        rw [g89] at c89
                        have hh89 : zh_ok D cA RTg ro sz H0 t89.heap lo89 := ⟨z89.1, z89.2.1, l89, z89.2.2.2⟩
                        have kp89 := kp86.trans (c89.mono (ms' := kMc) (by decide))
                        have mf89_x_0 := (c89.1 x 10 0 10 0 fsX11 hx10 rfl (by decide) (by decide)).trans mf86_x_0
                        have mf89_x_2 := (c89.1 x 10 2 10 0 fsX11 hx10 rfl (by decide) (by decide)).trans mf86_x_2
                        have mf89_x_4 := (c89.1 x 10 4 10 0 fsX11 hx10 rfl (by decide) (by decide)).trans mf86_x_4
                        have mf89_x_5 := (c89.1 x 10 5 10 0 fsX11 hx10 rfl (by decide) (by decide)).trans mf86_x_5
                        have kw89 := kw86.trans c89
                        have jl89 := jl86.kept rlp c89 (by decide) (by decide) (by decide)
                        refine W.eq (g2 := F0 m 203 ls []) rfl ?_
                        have hj90 := j89
                        obtain ⟨wb90, nw90, zw90, fa90, ra90, fb90, hn90, hc90, hz90⟩ := id hj90
                        refine lv_aload_n hx hb (eX11_writeDuration (203, .aload_n 0, 1) (List.mem_of_getElem? (i := 98) rfl)) rfl (lv_at hl 0 rfl) ?_
                        refine tz_get (r := 10) (k := 5) (t := (20, 0, 0)) hx hb hh89 hx10 rfl rfl (hcl10 45 5 (20, 0, 0) (by decide) rfl).1 mf89_x_5 (eX11_writeDuration (204, .getfield 45, 3) (List.mem_of_getElem? (i := 99) rfl)) ?_
                        refine tz_get (r := 8) (k := 1) (t := (0, 0, 120)) hx hb hh89 rwr rfl rfl (hcl8 251 1 (0, 0, 120) (by decide) rfl).1 fb90 (eX11_writeDuration (207, .getfield 251, 3) (List.mem_of_getElem? (i := 100) rfl)) ?_
                        have hO9 : [] ++ [v23.toInt] ++ cnL v26.toInt v27.toInt ++ cnL v30.toInt v31.toInt ++ cnL da.toInt v33.toInt ++ [v75.toInt] ++ cnL v78.toInt v79.toInt ++ cnL v84.toInt v85.toInt ++ (if 0 < v88.toInt ∨ 0 < na.toInt ∨ ([] ++ [v23.toInt] ++ cnL v26.toInt v27.toInt ++ cnL v30.toInt v31.toInt ++ cnL da.toInt v33.toInt ++ [v75.toInt] ++ cnL v78.toInt v79.toInt ++ cnL v84.toInt v85.toInt).length = 2 then scL v88.toInt na.toInt else []) = duL mo.toInt da.toInt se.toInt na.toInt := by
                          rw [show v26.toInt = mo.toInt / 12 by omega]
                          rw [show v27.toInt = 89 by omega]
                          rw [show v30.toInt = mo.toInt % 12 by omega]
                          rw [show v31.toInt = 77 by omega]
                          rw [show v33.toInt = 68 by omega]
                          rw [show v78.toInt = se.toInt / 3600 by omega]
                          rw [show v79.toInt = 72 by omega]
                          rw [show v84.toInt = se.toInt / 60 % 60 by omega]
                          rw [show v85.toInt = 77 by omega]
                          rw [show v23.toInt = 80 by omega]
                          rw [show v75.toInt = 84 by omega]
                          have q1 := cnL_len (mo.toInt / 12) 89
                          have q2 := cnL_len (mo.toInt % 12) 77
                          have q3 := cnL_len da.toInt 68
                          unfold duL
                          rw [show v88.toInt = se.toInt % 60 by omega]
                          have q4 := cnL_len (se.toInt / 3600) 72
                          have q5 := cnL_len (se.toInt / 60 % 60) 77
                          simp only [List.length_append, List.length_cons, List.length_nil]
                          rw [if_pos (show 0 < se.toInt ∨ 0 < na.toInt ∨ (mo.toInt = 0 ∧ da.toInt = 0 ∧ se.toInt = 0 ∧ na.toInt = 0) by omega)]
                          by_cases hs : 0 < se.toInt % 60 ∨ 0 < na.toInt ∨ (mo.toInt = 0 ∧ da.toInt = 0 ∧ se.toInt = 0 ∧ na.toInt = 0)
                          · rw [if_pos hs, if_pos (by omega)]
                            simp only [List.nil_append, List.append_assoc]
                          · rw [if_neg hs, if_neg (by omega)]
                            simp only [List.nil_append, List.append_assoc]
                        have hj9 := hj90
                        rw [hO9] at hj9
                        have hl9 := hn90
                        rw [hO9] at hl9
                        have hok := duL_ok mo.toInt da.toInt se.toInt na.toInt
                        exact vx_ret (W.widen (k := 1) (n := 6) (Nat.zero_le _) (Nat.zero_le _) (W.zret hx hb hr rfl (fun t ht hW => ⟨_, _, T, duL mo.toInt da.toInt se.toInt na.toInt, rfl, ⟨_, rfl, rfl⟩, by rw [ht]; exact hh89.l0, by rw [ht]; exact kp89, by rw [ht]; exact ⟨⟨tx, mf89_x_4, rtx, htx.kept rtx kw89 (by decide) (by decide) (by decide)⟩, ⟨wr, mf89_x_5, rwr, hj9⟩, ⟨hkT, by have h7 := hok.2; omega, hok.1⟩⟩, rfl, Or.inr ⟨rfl, by unfold duV; omega, rfl, hl9⟩⟩) hh89.2.2.1 (eX11_writeDuration (210, .ireturn, 1) (List.mem_of_getElem? (i := 101) rfl))))
                · skip
                  exact zx_leafGW (ik := 83) (is := 350) (ic := 87) (cls := "java/lang/IllegalArgumentException") (text := "no such duration") hx hb hst hown h2 hKa.1 hh hh (by rw [hl.1, hml]) hex hlk ⟨by decide, by decide, by decide, by decide⟩ (tb_2 121 rfl rfl) (tb_1 17 rfl rfl) (by decide) (gAt_in gAt_1) (by decide +kernel) (by decide) (by decide) (fun t h7 h8 => ⟨hh.grow h7 h8, kept_grow hh h8, Or.inl ⟨rfl, 0, rfl, Or.inl ⟨rfl, rfl, by unfold duV; omega⟩⟩⟩) (eX11_writeDuration (57, .new 83, 3) (List.mem_of_getElem? (i := 29) rfl)) (eX11_writeDuration (60, .dup, 1) (List.mem_of_getElem? (i := 30) rfl)) (eX11_writeDuration (61, .ldc_w 350, 3) (List.mem_of_getElem? (i := 31) rfl)) (eX11_writeDuration (64, .invokespecial 87, 3) (List.mem_of_getElem? (i := 32) rfl)) (eX11_writeDuration (67, .athrow, 1) (List.mem_of_getElem? (i := 33) rfl))
