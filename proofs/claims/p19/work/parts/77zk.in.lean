set_option maxRecDepth 100000 in
set_option maxHeartbeats 4000000 in
theorem hX11_writeInstant (l : Launch) (hst : l.stackTraces = false) (D : va_G) (cA : Nat → ClassId) (ro : Nat → Option Nat) (sz : Nat) (H0 : Heap) (x : Nat) (t0 : Int64) (na : Int32) (o : Int32) (dg : Int32) (L : List Int) (zc : Int) (T O : List Int) (hx10 : ro x = some 10) : vx_Met l yX11_writeInstant (gW yX11_writeInstant cX11_writeInstant 10 (some .int)) { frames := 6, cells := 1, slots := 6, locals := 113 } (zs_PY D cA ro sz H0 (fun H => jCS D cA ro H x L zc ∧ jCK D cA ro H x T O) [.ref x, .long t0, .int na, .int o, .int dg]) (zk_Q D cA ro sz H0 x vI (spN t0.toInt na.toInt o.toInt dg.toInt L T O)) (zk_X D cA ro sz H0 T O (spN t0.toInt na.toInt o.toInt dg.toInt L T O)) 1 6 (zy_fr sz) := by
  refine vx_ofW (cc := cX11_writeInstant) (maxL := 10) (ret := (some .int)) (by decide +kernel) rfl ?_
  intro p e s m args below meth c s1 B hml hex hv
  obtain ⟨rfl, hh, hKa, hBQ, hJ⟩ := hv
  have hx := B.exec
  have hb := B.bytes
  have hr := B.returns
  have hlk := B.notSynchronized
  have hts0 := atoms_spec (ws := gW yX11_writeInstant cX11_writeInstant 10 (some .int)) B.pre
  have h2 : ∀ w ∈ gT, w.before ([.ref x, .long t0, .int na, .int o, .int dg] : List Value).toArray s = true := fun w hw => hts0 w (List.mem_cons_of_mem _ hw)
  have hown : s.vm.findClass RX11 = some m.cls := findClass_of_methodNamed B.named
  have hl := lv_entry [.ref x, .long t0, .int na, .int o, .int dg] (n := 10) (Nat.le_of_ble_eq_true rfl)
  rw [lg_entry_eq]
  generalize (lg_sl [.ref x, .long t0, .int na, .int o, .int dg] ++ List.replicate (10 - (lg_sl [.ref x, .long t0, .int na, .int o, .int dg]).length) Slot.unset).toArray = ls at hl ⊢
  have b_t0 := zn_i64 t0
  have b_na := zn_i32 na
  have b_o := zn_i32 o
  have b_dg := zn_i32 dg
  obtain ⟨⟨⟨lp, fx0, rlp, hlp⟩, ⟨nz, fn, hnz⟩, hjl⟩, ⟨tx, fx4, rtx, htx⟩, ⟨wr, fx5, rwr, hwj⟩, hkb⟩ := id hJ
  have hjL := hjl.2.1
  have hkT := hkb.1
  have hkO := hkb.2.1
  have hD := zD_all h2 hKa.1.1.1
  have hcl10 := fun (idx k : Nat) (t : zt_T) (h : (idx, 10, k) ∈ gfX11) (hk : fsX11[k]? = some t) => zf_clause (ro := ro) (ms := kMc) h2 hown hKa.1.1.1 gfX11_ok (by decide +kernel) idx 10 k 10 0 fsX11 t h rfl hk
  have hcl0 := fun (idx k : Nat) (t : zt_T) (h : (idx, 0, k) ∈ gfX11) (hk : fsX0[k]? = some t) => zf_clause (ro := ro) (ms := kMc) h2 hown hKa.1.1.1 gfX11_ok (by decide +kernel) idx 0 k 0 0 fsX0 t h rfl hk
  have hcl8 := fun (idx k : Nat) (t : zt_T) (h : (idx, 8, k) ∈ gfX11) (hk : fsX9[k]? = some t) => zf_clause (ro := ro) (ms := kMc) h2 hown hKa.1.1.1 gfX11_ok (by decide +kernel) idx 8 k 8 0 fsX9 t h rfl hk
  have kp0 : zc_kept D RTg ro kMc s.heap s.heap := zc_kept.refl
  refine lv_aload_n hx hb (eX11_writeInstant (0, .aload_n 0, 1) (List.mem_of_getElem? (i := 0) rfl)) rfl (lv_at hl 0 rfl) ?_
  refine tz_get (r := 10) (k := 0) (t := (12, 0, 0)) hx hb hh hx10 rfl rfl (hcl10 14 0 (12, 0, 0) (by decide) rfl).1 fx0 (eX11_writeInstant (1, .getfield 14, 3) (List.mem_of_getElem? (i := 1) rfl)) ?_
  refine lv_lload_n hx hb (eX11_writeInstant (4, .lload_n 1, 1) (List.mem_of_getElem? (i := 2) rfl)) rfl (lv_at hl 1 rfl) ?_
  refine tz_rowV (As := [.long t0]) (st := []) (b := lp) (C := RX5) (Ts := gT) hx hb hml hown h2 (fun _ h => h) (hX5_holds l D cA ro sz H0 lp t0 L rlp ) ⟨rfl, rfl⟩ ⟨by decide, by decide⟩ ⟨by decide, by decide⟩ (tb_3 139 rfl rfl) (tb_1 2 rfl rfl) (tb_3 136 rfl rfl) (tb_3 137 rfl rfl) (tb_3 138 rfl rfl) (show yX5_holds.cls ≠ "java/lang/invoke/MethodHandle" ∧ yX5_holds.cls ≠ "java/lang/invoke/VarHandle" ∧ (parseMethodDescriptor yX5_holds.desc).map (fun d => d.parameters.length) = some 1 by decide +kernel) zs_blind (zs_ob hh rlp (show RTg[4]? = some (0, 4, 0, fsX5) from rfl) (zCX5 hKa.1.1.1)) (fun U hU hW => ⟨rfl, by rw [hU]; exact hh.l0, zKb s U hW.alike hKa.1.1, by rw [hU]; exact hlp⟩) hh.2.2.1 hl.1 (Nat.le_of_ble_eq_true rfl) (eX11_writeInstant (5, .invokevirtual 176, 3) (List.mem_of_getElem? (i := 3) rfl)) (fun r1 s1 t1 lo1 g1 f1 l1 => ?_)
  obtain ⟨z1, v1, q1, e1⟩ := f1
  cases q1
  rw [z1, g1]
  have hh1 : zh_ok D cA RTg ro sz H0 s.heap lo1 := ⟨hh.1, hh.2.1, l1, hh.2.2.2⟩
  refine W.eq (g2 := F0 m 8 ls [.int v1]) rfl ?_
  refine ff_if_eq hx hb (eX11_writeInstant (8, .ifCond .eq 34, 3) (List.mem_of_getElem? (i := 4) rfl)) (tgt := 42) rfl (fun c2 => ?_) (fun c2 => ?_)
  · skip
    exact zx_leafGW (ik := 83) (is := 324) (ic := 87) (cls := "java/lang/IllegalArgumentException") (text := "no such instant, part or offset") hx hb hst hown h2 hKa.1 hh hh1 (by rw [hl.1, hml]) hex hlk ⟨by decide, by decide, by decide, by decide⟩ (tb_2 121 rfl rfl) (tb_1 17 rfl rfl) (by decide) (gAt_in gAt_1) (by decide +kernel) (by decide) (by decide) (fun t h7 h8 => ⟨hh1.grow h7 h8, kept_grow hh1 h8, Or.inl ⟨rfl, 0, rfl, Or.inl ⟨rfl, rfl, fun g => by obtain ⟨g1, g2, -⟩ := g; rcases e1 with h | h; omega; exact h.2 g1⟩⟩⟩) (eX11_writeInstant (42, .new 83, 3) (List.mem_of_getElem? (i := 18) rfl)) (eX11_writeInstant (45, .dup, 1) (List.mem_of_getElem? (i := 19) rfl)) (eX11_writeInstant (46, .ldc_w 324, 3) (List.mem_of_getElem? (i := 20) rfl)) (eX11_writeInstant (49, .invokespecial 87, 3) (List.mem_of_getElem? (i := 21) rfl)) (eX11_writeInstant (52, .athrow, 1) (List.mem_of_getElem? (i := 22) rfl))
  · skip
    refine lv_iload_n hx hb (eX11_writeInstant (11, .iload_n 3, 1) (List.mem_of_getElem? (i := 5) rfl)) rfl (lv_at hl 2 rfl) ?_
    refine ff_if_lt hx hb (eX11_writeInstant (12, .ifCond .lt 30, 3) (List.mem_of_getElem? (i := 6) rfl)) (tgt := 42) rfl (fun c3 => ?_) (fun c3 => ?_)
    · skip
      exact zx_leafGW (ik := 83) (is := 324) (ic := 87) (cls := "java/lang/IllegalArgumentException") (text := "no such instant, part or offset") hx hb hst hown h2 hKa.1 hh hh1 (by rw [hl.1, hml]) hex hlk ⟨by decide, by decide, by decide, by decide⟩ (tb_2 121 rfl rfl) (tb_1 17 rfl rfl) (by decide) (gAt_in gAt_1) (by decide +kernel) (by decide) (by decide) (fun t h7 h8 => ⟨hh1.grow h7 h8, kept_grow hh1 h8, Or.inl ⟨rfl, 0, rfl, Or.inl ⟨rfl, rfl, fun g => by obtain ⟨g1, g2, -⟩ := g; rcases e1 with h | h; omega; exact h.2 g1⟩⟩⟩) (eX11_writeInstant (42, .new 83, 3) (List.mem_of_getElem? (i := 18) rfl)) (eX11_writeInstant (45, .dup, 1) (List.mem_of_getElem? (i := 19) rfl)) (eX11_writeInstant (46, .ldc_w 324, 3) (List.mem_of_getElem? (i := 20) rfl)) (eX11_writeInstant (49, .invokespecial 87, 3) (List.mem_of_getElem? (i := 21) rfl)) (eX11_writeInstant (52, .athrow, 1) (List.mem_of_getElem? (i := 22) rfl))
    · skip
      refine lv_iload_n hx hb (eX11_writeInstant (15, .iload_n 3, 1) (List.mem_of_getElem? (i := 7) rfl)) rfl (lv_at hl 2 rfl) ?_
      refine ff_ldcw (n := 999999999) hx hb hown h2 (ciX11_ok 323 999999999 (List.mem_of_getElem? (i := 1) rfl)) (eX11_writeInstant (16, .ldc_w 323, 3) (List.mem_of_getElem? (i := 8) rfl)) (fun v4 e4 => ?_)
      refine ff_icmp_gt hx hb (eX11_writeInstant (19, .if_icmp .gt 23, 3) (List.mem_of_getElem? (i := 9) rfl)) (tgt := 42) rfl (fun c5 => ?_) (fun c5 => ?_)
      · skip
        exact zx_leafGW (ik := 83) (is := 324) (ic := 87) (cls := "java/lang/IllegalArgumentException") (text := "no such instant, part or offset") hx hb hst hown h2 hKa.1 hh hh1 (by rw [hl.1, hml]) hex hlk ⟨by decide, by decide, by decide, by decide⟩ (tb_2 121 rfl rfl) (tb_1 17 rfl rfl) (by decide) (gAt_in gAt_1) (by decide +kernel) (by decide) (by decide) (fun t h7 h8 => ⟨hh1.grow h7 h8, kept_grow hh1 h8, Or.inl ⟨rfl, 0, rfl, Or.inl ⟨rfl, rfl, fun g => by obtain ⟨g1, g2, -⟩ := g; rcases e1 with h | h; omega; exact h.2 g1⟩⟩⟩) (eX11_writeInstant (42, .new 83, 3) (List.mem_of_getElem? (i := 18) rfl)) (eX11_writeInstant (45, .dup, 1) (List.mem_of_getElem? (i := 19) rfl)) (eX11_writeInstant (46, .ldc_w 324, 3) (List.mem_of_getElem? (i := 20) rfl)) (eX11_writeInstant (49, .invokespecial 87, 3) (List.mem_of_getElem? (i := 21) rfl)) (eX11_writeInstant (52, .athrow, 1) (List.mem_of_getElem? (i := 22) rfl))
      · skip
        refine lv_iload hx hb (eX11_writeInstant (22, .iload 4, 2) (List.mem_of_getElem? (i := 10) rfl)) (lv_at hl 3 rfl) ?_
        refine zu_S (vs := [.int o]) (rest := []) hx hb hml hown hts0 zu_BT (hX11_isOffset l o) ⟨rfl, rfl⟩ ⟨by decide, by decide⟩ ⟨by decide, by decide⟩ (tb_3 170 rfl rfl) (tb_1 1 rfl rfl) (tb_3 168 rfl rfl) (tb_3 169 rfl rfl) (show yX11_isOffset.cls ≠ "java/lang/invoke/MethodHandle" ∧ yX11_isOffset.cls ≠ "java/lang/invoke/VarHandle" ∧ (parseMethodDescriptor yX11_isOffset.desc).map (fun d => d.parameters.length) = some 1 by decide +kernel) rfl (fun _ _ _ => trivial) hl.1 (Nat.le_of_ble_eq_true rfl) (eX11_writeInstant (24, .invokestatic 186, 3) (List.mem_of_getElem? (i := 11) rfl)) (fun w6 f6 => ?_)
        obtain ⟨v6, rfl, e6⟩ := f6
        refine ff_if_eq hx hb (eX11_writeInstant (27, .ifCond .eq 15, 3) (List.mem_of_getElem? (i := 12) rfl)) (tgt := 42) rfl (fun c7 => ?_) (fun c7 => ?_)
        · skip
          exact zx_leafGW (ik := 83) (is := 324) (ic := 87) (cls := "java/lang/IllegalArgumentException") (text := "no such instant, part or offset") hx hb hst hown h2 hKa.1 hh hh1 (by rw [hl.1, hml]) hex hlk ⟨by decide, by decide, by decide, by decide⟩ (tb_2 121 rfl rfl) (tb_1 17 rfl rfl) (by decide) (gAt_in gAt_1) (by decide +kernel) (by decide) (by decide) (fun t h7 h8 => ⟨hh1.grow h7 h8, kept_grow hh1 h8, Or.inl ⟨rfl, 0, rfl, Or.inl ⟨rfl, rfl, fun g => by obtain ⟨g1, g2, -⟩ := g; rcases e1 with h | h; omega; exact h.2 g1⟩⟩⟩) (eX11_writeInstant (42, .new 83, 3) (List.mem_of_getElem? (i := 18) rfl)) (eX11_writeInstant (45, .dup, 1) (List.mem_of_getElem? (i := 19) rfl)) (eX11_writeInstant (46, .ldc_w 324, 3) (List.mem_of_getElem? (i := 20) rfl)) (eX11_writeInstant (49, .invokespecial 87, 3) (List.mem_of_getElem? (i := 21) rfl)) (eX11_writeInstant (52, .athrow, 1) (List.mem_of_getElem? (i := 22) rfl))
        · skip
          refine lv_iload hx hb (eX11_writeInstant (30, .iload 5, 2) (List.mem_of_getElem? (i := 13) rfl)) (lv_at hl 4 rfl) ?_
          refine ff_if_lt hx hb (eX11_writeInstant (32, .ifCond .lt 10, 3) (List.mem_of_getElem? (i := 14) rfl)) (tgt := 42) rfl (fun c8 => ?_) (fun c8 => ?_)
          · skip
            exact zx_leafGW (ik := 83) (is := 324) (ic := 87) (cls := "java/lang/IllegalArgumentException") (text := "no such instant, part or offset") hx hb hst hown h2 hKa.1 hh hh1 (by rw [hl.1, hml]) hex hlk ⟨by decide, by decide, by decide, by decide⟩ (tb_2 121 rfl rfl) (tb_1 17 rfl rfl) (by decide) (gAt_in gAt_1) (by decide +kernel) (by decide) (by decide) (fun t h7 h8 => ⟨hh1.grow h7 h8, kept_grow hh1 h8, Or.inl ⟨rfl, 0, rfl, Or.inl ⟨rfl, rfl, fun g => by obtain ⟨g1, g2, -⟩ := g; rcases e1 with h | h; omega; exact h.2 g1⟩⟩⟩) (eX11_writeInstant (42, .new 83, 3) (List.mem_of_getElem? (i := 18) rfl)) (eX11_writeInstant (45, .dup, 1) (List.mem_of_getElem? (i := 19) rfl)) (eX11_writeInstant (46, .ldc_w 324, 3) (List.mem_of_getElem? (i := 20) rfl)) (eX11_writeInstant (49, .invokespecial 87, 3) (List.mem_of_getElem? (i := 21) rfl)) (eX11_writeInstant (52, .athrow, 1) (List.mem_of_getElem? (i := 22) rfl))
          · skip
            refine lv_iload hx hb (eX11_writeInstant (35, .iload 5, 2) (List.mem_of_getElem? (i := 15) rfl)) (lv_at hl 4 rfl) ?_
            refine ff_bipush hx hb (eX11_writeInstant (37, .bipush 9, 2) (List.mem_of_getElem? (i := 16) rfl)) (by decide) (by decide) (fun v9 e9 => ?_)
            refine ff_icmp_le hx hb (eX11_writeInstant (39, .if_icmp .le 14, 3) (List.mem_of_getElem? (i := 17) rfl)) (tgt := 53) rfl (fun c10 => ?_) (fun c10 => ?_)
            · skip
              have htok : tOK t0.toInt L := by rcases e1 with h | h; exact h.2; exfalso; omega
              refine lv_aload_n hx hb (eX11_writeInstant (53, .aload_n 0, 1) (List.mem_of_getElem? (i := 23) rfl)) rfl (lv_at hl 0 rfl) ?_
              refine tz_get (r := 10) (k := 0) (t := (12, 0, 0)) hx hb hh1 hx10 rfl rfl (hcl10 14 0 (12, 0, 0) (by decide) rfl).1 fx0 (eX11_writeInstant (54, .getfield 14, 3) (List.mem_of_getElem? (i := 24) rfl)) ?_
              refine lv_lload_n hx hb (eX11_writeInstant (57, .lload_n 1, 1) (List.mem_of_getElem? (i := 25) rfl)) rfl (lv_at hl 1 rfl) ?_
              refine tz_rowV (As := [.long t0]) (st := []) (b := lp) (C := RX5) (Ts := gT) hx hb hml hown h2 (fun _ h => h) (hX5_minuteAt l D cA ro sz H0 lp t0 L rlp (by have h8 := lsI_b hjL (-365961662); have h9 := lsI_b hjL 364522972; unfold tOK at *; omega) (by have h8 := lsI_b hjL (-365961662); have h9 := lsI_b hjL 364522972; unfold tOK at *; omega)) ⟨rfl, rfl⟩ ⟨by decide, by decide⟩ ⟨by decide, by decide⟩ (tb_3 151 rfl rfl) (tb_1 2 rfl rfl) (tb_3 148 rfl rfl) (tb_3 149 rfl rfl) (tb_3 150 rfl rfl) (show yX5_minuteAt.cls ≠ "java/lang/invoke/MethodHandle" ∧ yX5_minuteAt.cls ≠ "java/lang/invoke/VarHandle" ∧ (parseMethodDescriptor yX5_minuteAt.desc).map (fun d => d.parameters.length) = some 1 by decide +kernel) zs_blind (zs_ob hh1 rlp (show RTg[4]? = some (0, 4, 0, fsX5) from rfl) (zCX5 hKa.1.1.1)) (fun U hU hW => ⟨rfl, by rw [hU]; exact hh1.l0, zKb s U hW.alike hKa.1.1, by rw [hU]; exact hlp⟩) hh1.2.2.1 hl.1 (Nat.le_of_ble_eq_true rfl) (eX11_writeInstant (58, .invokevirtual 179, 3) (List.mem_of_getElem? (i := 26) rfl)) (fun r11 s11 t11 lo11 g11 f11 l11 => ?_)
              obtain ⟨z11, v11, q11, e11⟩ := f11
              cases q11
              rw [z11, g11]
              have hh11 : zh_ok D cA RTg ro sz H0 s.heap lo11 := ⟨hh1.1, hh1.2.1, l11, hh1.2.2.2⟩
              refine W.eq (g2 := F0 m 61 ls [.long v11]) rfl ?_
              have hsec := rdM_sec hjL e11
              have hmb : -1000000000000 ≤ v11.toInt ∧ v11.toInt ≤ 1000000000000 := by have h8 := lsI_b hjL (v11.toInt / 1440); have h9 := lsI_b hjL (-365961662); have h7 := lsI_b hjL 364522972; unfold stI at hsec; unfold tOK at htok; omega
              refine lv_iload hx hb (eX11_writeInstant (61, .iload 4, 2) (List.mem_of_getElem? (i := 27) rfl)) (lv_at hl 3 rfl) ?_
              refine ff_i2l hx hb (eX11_writeInstant (63, .i2l, 1) (List.mem_of_getElem? (i := 28) rfl)) (fun v12 e12 => ?_)
              refine ff_ladd hx hb (eX11_writeInstant (64, .ladd, 1) (List.mem_of_getElem? (i := 29) rfl)) (by omega) (by omega) (fun v13 e13 => ?_)
              refine lv_lstore hx hb (eX11_writeInstant (65, .lstore 6, 2) (List.mem_of_getElem? (i := 30) rfl)) hl (by decide) rfl (fun ls14 hl14 => ?_)
              refine lv_lload hx hb (eX11_writeInstant (67, .lload 6, 2) (List.mem_of_getElem? (i := 31) rfl)) (lv_at hl14 0 rfl) ?_
              refine zu_S (vs := [.long v13]) (rest := []) hx hb hml hown hts0 zu_BT (hX2_holdsMinute l v13) ⟨rfl, rfl⟩ ⟨by decide, by decide⟩ ⟨by decide, by decide⟩ (tb_3 108 rfl rfl) (tb_1 13 rfl rfl) (tb_3 106 rfl rfl) (tb_3 107 rfl rfl) (show yX2_holdsMinute.cls ≠ "java/lang/invoke/MethodHandle" ∧ yX2_holdsMinute.cls ≠ "java/lang/invoke/VarHandle" ∧ (parseMethodDescriptor yX2_holdsMinute.desc).map (fun d => d.parameters.length) = some 1 by decide +kernel) rfl (fun _ _ _ => trivial) hl14.1 (Nat.le_of_ble_eq_true rfl) (eX11_writeInstant (69, .invokestatic 165, 3) (List.mem_of_getElem? (i := 32) rfl)) (fun w15 f15 => ?_)
              obtain ⟨v15, rfl, e15⟩ := f15
              refine ff_if_ne hx hb (eX11_writeInstant (72, .ifCond .ne 14, 3) (List.mem_of_getElem? (i := 33) rfl)) (tgt := 86) rfl (fun c16 => ?_) (fun c16 => ?_)
              · skip
                have hmok : mOK v13.toInt := by rcases e15 with h | h; exact h.2; exfalso; omega
                refine lv_lload hx hb (eX11_writeInstant (86, .lload 6, 2) (List.mem_of_getElem? (i := 39) rfl)) (lv_at hl14 0 rfl) ?_
                refine ff_ldc2 (n := 1440) hx hb hown h2 (clX11_ok 328 1440 (List.mem_of_getElem? (i := 2) rfl)) (eX11_writeInstant (88, .ldc2_w 328, 3) (List.mem_of_getElem? (i := 40) rfl)) (fun v17 e17 => ?_)
                refine zu_S (vs := [.long v13, .long v17]) (rest := []) hx hb hml hown hts0 zu_BT (hJ9_fd1440 l v13 v17 (by omega) (by unfold mOK at *; omega) (by unfold mOK at *; omega)) ⟨rfl, rfl⟩ ⟨by decide, by decide⟩ ⟨by decide, by decide⟩ (tb_3 39 rfl rfl) (tb_1 18 rfl rfl) (tb_6 22 rfl rfl) (tb_3 38 rfl rfl) (show yJ9_floorDiv_f86c9.cls ≠ "java/lang/invoke/MethodHandle" ∧ yJ9_floorDiv_f86c9.cls ≠ "java/lang/invoke/VarHandle" ∧ (parseMethodDescriptor yJ9_floorDiv_f86c9.desc).map (fun d => d.parameters.length) = some 2 by decide +kernel) rfl (fun _ _ _ => trivial) hl14.1 (Nat.le_of_ble_eq_true rfl) (eX11_writeInstant (91, .invokestatic 330, 3) (List.mem_of_getElem? (i := 41) rfl)) (fun w18 f18 => ?_)
                obtain ⟨v18, rfl, e18⟩ := f18
                have hdb : -365961662 ≤ v18.toInt ∧ v18.toInt ≤ 364522971 := by unfold mOK at hmok; omega
                obtain ⟨cy, cm, cd, hcv⟩ := cv_ex v18.toInt
                refine lv_lstore hx hb (eX11_writeInstant (94, .lstore 8, 2) (List.mem_of_getElem? (i := 42) rfl)) hl14 (by decide) rfl (fun ls19 hl19 => ?_)
                refine lv_aload_n hx hb (eX11_writeInstant (96, .aload_n 0, 1) (List.mem_of_getElem? (i := 43) rfl)) rfl (lv_at hl19 2 rfl) ?_
                refine tz_get (r := 10) (k := 5) (t := (20, 0, 0)) hx hb hh11 hx10 rfl rfl (hcl10 45 5 (20, 0, 0) (by decide) rfl).1 fx5 (eX11_writeInstant (97, .getfield 45, 3) (List.mem_of_getElem? (i := 44) rfl)) ?_
                refine tz_rowV (As := []) (st := []) (b := wr) (C := RX9) (Ts := gT) hx hb hml hown h2 (fun _ h => h) (hX9_start l D cA ro sz H0 wr O rwr) ⟨rfl, rfl⟩ ⟨by decide, by decide⟩ ⟨by decide, by decide⟩ (tb_5 212 rfl rfl) (tb_1 6 rfl rfl) (tb_5 209 rfl rfl) (tb_5 210 rfl rfl) (tb_5 211 rfl rfl) (show yX9_start.cls ≠ "java/lang/invoke/MethodHandle" ∧ yX9_start.cls ≠ "java/lang/invoke/VarHandle" ∧ (parseMethodDescriptor yX9_start.desc).map (fun d => d.parameters.length) = some 0 by decide +kernel) zs_blind (zs_ob hh11 rwr (show RTg[8]? = some (0, 8, 0, fsX9) from rfl) (zCX9 hKa.1.1.1)) (fun U hU hW => ⟨rfl, by rw [hU]; exact hh11.l0, zKb s U hW.alike hKa.1.1, by rw [hU]; exact hwj⟩) hh11.2.2.1 hl19.1 (Nat.le_of_ble_eq_true rfl) (eX11_writeInstant (100, .invokevirtual 308, 3) (List.mem_of_getElem? (i := 45) rfl)) (fun r20 s20 t20 lo20 g20 f20 l20 => ?_)
                obtain ⟨q20, z20, c20, j20⟩ := f20
                cases q20
                rw [g20] at c20
                have hh20 : zh_ok D cA RTg ro sz H0 t20.heap lo20 := ⟨z20.1, z20.2.1, l20, z20.2.2.2⟩
                have kp20 := kp0.trans (c20.mono (ms' := kMc) (by decide))
                have mf20_x_0 := (c20.1 x 10 0 10 0 fsX11 hx10 rfl (by decide) (by decide)).trans fx0
                have mf20_x_2 := (c20.1 x 10 2 10 0 fsX11 hx10 rfl (by decide) (by decide)).trans fn
                have mf20_x_4 := (c20.1 x 10 4 10 0 fsX11 hx10 rfl (by decide) (by decide)).trans fx4
                have mf20_x_5 := (c20.1 x 10 5 10 0 fsX11 hx10 rfl (by decide) (by decide)).trans fx5
                have kw20 := c20
                have jl20 := hlp.kept rlp c20 (by decide) (by decide) (by decide)
                refine W.eq (g2 := F0 m 103 ls19 []) rfl ?_
                refine lv_aload_n hx hb (eX11_writeInstant (103, .aload_n 0, 1) (List.mem_of_getElem? (i := 46) rfl)) rfl (lv_at hl19 2 rfl) ?_
                refine tz_get (r := 10) (k := 5) (t := (20, 0, 0)) hx hb hh20 hx10 rfl rfl (hcl10 45 5 (20, 0, 0) (by decide) rfl).1 mf20_x_5 (eX11_writeInstant (104, .getfield 45, 3) (List.mem_of_getElem? (i := 47) rfl)) ?_
                refine lv_lload hx hb (eX11_writeInstant (107, .lload 8, 2) (List.mem_of_getElem? (i := 48) rfl)) (lv_at hl19 0 rfl) ?_
                refine zu_S (vs := [.long v18]) (rest := [.ref wr]) hx hb hml hown hts0 zu_BT (hX2_yearOf l v18 (by omega) (by omega)) ⟨rfl, rfl⟩ ⟨by decide, by decide⟩ ⟨by decide, by decide⟩ (tb_2 218 rfl rfl) (tb_1 13 rfl rfl) (tb_2 216 rfl rfl) (tb_2 217 rfl rfl) (show yX2_yearOf.cls ≠ "java/lang/invoke/MethodHandle" ∧ yX2_yearOf.cls ≠ "java/lang/invoke/VarHandle" ∧ (parseMethodDescriptor yX2_yearOf.desc).map (fun d => d.parameters.length) = some 1 by decide +kernel) rfl (fun _ _ _ => trivial) hl19.1 (Nat.le_of_ble_eq_true rfl) (eX11_writeInstant (109, .invokestatic 100, 3) (List.mem_of_getElem? (i := 49) rfl)) (fun w21 f21 => ?_)
                obtain ⟨v21, rfl, e21⟩ := f21
                have g21 := isY_in e21.1 (by omega) (by omega)
                refine tz_rowV (As := [.int v21]) (st := []) (b := wr) (C := RX9) (Ts := gT) hx hb hml hown h2 (fun _ h => h) (hX9_putYear l D cA ro sz H0 wr v21 ([]) rwr (by omega) (by omega) (by show 0 + 7 ≤ 120; decide)) ⟨rfl, rfl⟩ ⟨by decide, by decide⟩ ⟨by decide, by decide⟩ (tb_5 216 rfl rfl) (tb_1 6 rfl rfl) (tb_5 213 rfl rfl) (tb_5 214 rfl rfl) (tb_5 215 rfl rfl) (show yX9_putYear.cls ≠ "java/lang/invoke/MethodHandle" ∧ yX9_putYear.cls ≠ "java/lang/invoke/VarHandle" ∧ (parseMethodDescriptor yX9_putYear.desc).map (fun d => d.parameters.length) = some 1 by decide +kernel) zs_blind (zs_ob hh20 rwr (show RTg[8]? = some (0, 8, 0, fsX9) from rfl) (zCX9 hKa.1.1.1)) (fun U hU hW => ⟨rfl, by rw [hU]; exact hh20.l0, zKb s U hW.alike hKa.1.1, by rw [hU]; exact j20⟩) hh20.2.2.1 hl19.1 (Nat.le_of_ble_eq_true rfl) (eX11_writeInstant (112, .invokevirtual 309, 3) (List.mem_of_getElem? (i := 50) rfl)) (fun r22 s22 t22 lo22 g22 f22 l22 => ?_)
                obtain ⟨q22, z22, c22, j22⟩ := f22
                cases q22
                rw [g22] at c22
                have hh22 : zh_ok D cA RTg ro sz H0 t22.heap lo22 := ⟨z22.1, z22.2.1, l22, z22.2.2.2⟩
                have kp22 := kp20.trans (c22.mono (ms' := kMc) (by decide))
                have mf22_x_0 := (c22.1 x 10 0 10 0 fsX11 hx10 rfl (by decide) (by decide)).trans mf20_x_0
                have mf22_x_2 := (c22.1 x 10 2 10 0 fsX11 hx10 rfl (by decide) (by decide)).trans mf20_x_2
                have mf22_x_4 := (c22.1 x 10 4 10 0 fsX11 hx10 rfl (by decide) (by decide)).trans mf20_x_4
                have mf22_x_5 := (c22.1 x 10 5 10 0 fsX11 hx10 rfl (by decide) (by decide)).trans mf20_x_5
                have kw22 := kw20.trans c22
                have jl22 := jl20.kept rlp c22 (by decide) (by decide) (by decide)
                refine W.eq (g2 := F0 m 115 ls19 []) rfl ?_
                refine lv_aload_n hx hb (eX11_writeInstant (115, .aload_n 0, 1) (List.mem_of_getElem? (i := 51) rfl)) rfl (lv_at hl19 2 rfl) ?_
                refine tz_get (r := 10) (k := 5) (t := (20, 0, 0)) hx hb hh22 hx10 rfl rfl (hcl10 45 5 (20, 0, 0) (by decide) rfl).1 mf22_x_5 (eX11_writeInstant (116, .getfield 45, 3) (List.mem_of_getElem? (i := 52) rfl)) ?_
                refine lv_lload hx hb (eX11_writeInstant (119, .lload 8, 2) (List.mem_of_getElem? (i := 53) rfl)) (lv_at hl19 0 rfl) ?_
                refine ff_iconst hx hb (eX11_writeInstant (121, .iconst 1, 1) (List.mem_of_getElem? (i := 54) rfl)) (by decide) (by decide) (fun v23 e23 => ?_)
                refine tz_rowV (As := [.long v18, .int v23]) (st := []) (b := wr) (C := RX9) (Ts := gT) hx hb hml hown h2 (fun _ h => h) (hX9_putMonthAndDay l D cA ro sz H0 wr v18 v23 ([] ++ yrL v21.toInt) rwr (by omega) (by omega) cy cm cd hcv (by have hyl := yrL_len v21.toInt; (try simp only [List.length_append, List.length_nil]); omega)) ⟨rfl, rfl⟩ ⟨by decide, by decide⟩ ⟨by decide, by decide⟩ (tb_6 8 rfl rfl) (tb_1 6 rfl rfl) (tb_6 5 rfl rfl) (tb_6 6 rfl rfl) (tb_6 7 rfl rfl) (show yX9_putMonthAndDay.cls ≠ "java/lang/invoke/MethodHandle" ∧ yX9_putMonthAndDay.cls ≠ "java/lang/invoke/VarHandle" ∧ (parseMethodDescriptor yX9_putMonthAndDay.desc).map (fun d => d.parameters.length) = some 2 by decide +kernel) zs_blindB (zs_ob hh22 rwr (show RTg[8]? = some (0, 8, 0, fsX9) from rfl) (zCX9 hKa.1.1.1)) (fun U hU hW => ⟨rfl, by rw [hU]; exact hh22.l0, ⟨zKb s U hW.alike hKa.1.1, hBQ.alike hW.alike⟩, by rw [hU]; exact j22⟩) hh22.2.2.1 hl19.1 (Nat.le_of_ble_eq_true rfl) (eX11_writeInstant (122, .invokevirtual 320, 3) (List.mem_of_getElem? (i := 55) rfl)) (fun r24 s24 t24 lo24 g24 f24 l24 => ?_)
                obtain ⟨q24, z24, c24, j24⟩ := f24
                cases q24
                rw [g24] at c24
                have hh24 : zh_ok D cA RTg ro sz H0 t24.heap lo24 := ⟨z24.1, z24.2.1, l24, z24.2.2.2⟩
                have kp24 := kp22.trans (c24.mono (ms' := kMc) (by decide))
                have mf24_x_0 := (c24.1 x 10 0 10 0 fsX11 hx10 rfl (by decide) (by decide)).trans mf22_x_0
                have mf24_x_2 := (c24.1 x 10 2 10 0 fsX11 hx10 rfl (by decide) (by decide)).trans mf22_x_2
                have mf24_x_4 := (c24.1 x 10 4 10 0 fsX11 hx10 rfl (by decide) (by decide)).trans mf22_x_4
                have mf24_x_5 := (c24.1 x 10 5 10 0 fsX11 hx10 rfl (by decide) (by decide)).trans mf22_x_5
                have kw24 := kw22.trans c24
                have jl24 := jl22.kept rlp c24 (by decide) (by decide) (by decide)
                refine W.eq (g2 := F0 m 125 ls19 []) rfl ?_
                refine lv_aload_n hx hb (eX11_writeInstant (125, .aload_n 0, 1) (List.mem_of_getElem? (i := 56) rfl)) rfl (lv_at hl19 2 rfl) ?_
                refine tz_get (r := 10) (k := 5) (t := (20, 0, 0)) hx hb hh24 hx10 rfl rfl (hcl10 45 5 (20, 0, 0) (by decide) rfl).1 mf24_x_5 (eX11_writeInstant (126, .getfield 45, 3) (List.mem_of_getElem? (i := 57) rfl)) ?_
                refine lv_lload hx hb (eX11_writeInstant (129, .lload 6, 2) (List.mem_of_getElem? (i := 58) rfl)) (lv_at hl19 1 rfl) ?_
                refine lv_lload hx hb (eX11_writeInstant (131, .lload 8, 2) (List.mem_of_getElem? (i := 59) rfl)) (lv_at hl19 0 rfl) ?_
                refine ff_ldc2 (n := 1440) hx hb hown h2 (clX11_ok 328 1440 (List.mem_of_getElem? (i := 2) rfl)) (eX11_writeInstant (133, .ldc2_w 328, 3) (List.mem_of_getElem? (i := 60) rfl)) (fun v25 e25 => ?_)
                refine ff_lmulR hx hb (eX11_writeInstant (136, .lmul, 1) (List.mem_of_getElem? (i := 61) rfl)) (e25) (by omega) (by omega) (fun v26 e26 => ?_)
                refine ff_lsub hx hb (eX11_writeInstant (137, .lsub, 1) (List.mem_of_getElem? (i := 62) rfl)) (by omega) (by omega) (fun v27 e27 => ?_)
                refine ff_l2i hx hb (eX11_writeInstant (138, .l2i, 1) (List.mem_of_getElem? (i := 63) rfl)) (by omega) (by omega) (fun v28 e28 => ?_)
                refine lv_aload_n hx hb (eX11_writeInstant (139, .aload_n 0, 1) (List.mem_of_getElem? (i := 64) rfl)) rfl (lv_at hl19 2 rfl) ?_
                refine tz_get (r := 10) (k := 0) (t := (12, 0, 0)) hx hb hh24 hx10 rfl rfl (hcl10 14 0 (12, 0, 0) (by decide) rfl).1 mf24_x_0 (eX11_writeInstant (140, .getfield 14, 3) (List.mem_of_getElem? (i := 65) rfl)) ?_
                refine lv_lload_n hx hb (eX11_writeInstant (143, .lload_n 1, 1) (List.mem_of_getElem? (i := 66) rfl)) rfl (lv_at hl19 3 rfl) ?_
                refine tz_rowV (As := [.long t0]) (st := [.int v28, .ref wr]) (b := lp) (C := RX5) (Ts := gT) hx hb hml hown h2 (fun _ h => h) (hX5_secondAt l D cA ro sz H0 lp t0 L rlp (by have h8 := lsI_b hjL (-365961662); have h9 := lsI_b hjL 364522972; unfold tOK at *; omega) (by have h8 := lsI_b hjL (-365961662); have h9 := lsI_b hjL 364522972; unfold tOK at *; omega)) ⟨rfl, rfl⟩ ⟨by decide, by decide⟩ ⟨by decide, by decide⟩ (tb_3 158 rfl rfl) (tb_1 2 rfl rfl) (tb_3 155 rfl rfl) (tb_3 156 rfl rfl) (tb_3 157 rfl rfl) (show yX5_secondAt.cls ≠ "java/lang/invoke/MethodHandle" ∧ yX5_secondAt.cls ≠ "java/lang/invoke/VarHandle" ∧ (parseMethodDescriptor yX5_secondAt.desc).map (fun d => d.parameters.length) = some 1 by decide +kernel) zs_blind (zs_ob hh24 rlp (show RTg[4]? = some (0, 4, 0, fsX5) from rfl) (zCX5 hKa.1.1.1)) (fun U hU hW => ⟨rfl, by rw [hU]; exact hh24.l0, zKb s U hW.alike hKa.1.1, by rw [hU]; exact jl24⟩) hh24.2.2.1 hl19.1 (Nat.le_of_ble_eq_true rfl) (eX11_writeInstant (144, .invokevirtual 183, 3) (List.mem_of_getElem? (i := 67) rfl)) (fun r29 s29 t29 lo29 g29 f29 l29 => ?_)
                obtain ⟨z29, v29, q29, e29⟩ := f29
                cases q29
                rw [z29, g29]
                have hh29 : zh_ok D cA RTg ro sz H0 t24.heap lo29 := ⟨hh24.1, hh24.2.1, l29, hh24.2.2.2⟩
                refine W.eq (g2 := F0 m 147 ls19 [.int v29, .int v28, .ref wr]) rfl ?_
                obtain ⟨M8, hM8, hs8⟩ := e29
                have hM7 := rdM_one e11 hM8
                rw [← hM7] at hs8
                refine tz_rowV (As := [.int v28, .int v29]) (st := []) (b := wr) (C := RX9) (Ts := gT) hx hb hml hown h2 (fun _ h => h) (hX9_putTime l D cA ro sz H0 wr v28 v29 ([] ++ yrL v21.toInt ++ mdL cm cd v23.toInt) rwr (by omega) (by omega) (by omega) (by have hyl := yrL_len v21.toInt; have hml : (mdL cm cd v23.toInt).length ≤ 6 := by { have := dsL_len v23.toInt; unfold mdL; simp only [List.length_append, dgL_len]; omega }; (try simp only [List.length_append, List.length_nil]); omega)) ⟨rfl, rfl⟩ ⟨by decide, by decide⟩ ⟨by decide, by decide⟩ (tb_6 26 rfl rfl) (tb_1 6 rfl rfl) (tb_6 23 rfl rfl) (tb_6 24 rfl rfl) (tb_6 25 rfl rfl) (show yX9_putTime.cls ≠ "java/lang/invoke/MethodHandle" ∧ yX9_putTime.cls ≠ "java/lang/invoke/VarHandle" ∧ (parseMethodDescriptor yX9_putTime.desc).map (fun d => d.parameters.length) = some 2 by decide +kernel) zs_blind (zs_ob hh29 rwr (show RTg[8]? = some (0, 8, 0, fsX9) from rfl) (zCX9 hKa.1.1.1)) (fun U hU hW => ⟨rfl, by rw [hU]; exact hh29.l0, zKb s U hW.alike hKa.1.1, by rw [hU]; exact j24⟩) hh29.2.2.1 hl19.1 (Nat.le_of_ble_eq_true rfl) (eX11_writeInstant (147, .invokevirtual 336, 3) (List.mem_of_getElem? (i := 68) rfl)) (fun r30 s30 t30 lo30 g30 f30 l30 => ?_)
                obtain ⟨q30, z30, c30, j30⟩ := f30
                cases q30
                rw [g30] at c30
                have hh30 : zh_ok D cA RTg ro sz H0 t30.heap lo30 := ⟨z30.1, z30.2.1, l30, z30.2.2.2⟩
                have kp30 := kp24.trans (c30.mono (ms' := kMc) (by decide))
                have mf30_x_0 := (c30.1 x 10 0 10 0 fsX11 hx10 rfl (by decide) (by decide)).trans mf24_x_0
                have mf30_x_2 := (c30.1 x 10 2 10 0 fsX11 hx10 rfl (by decide) (by decide)).trans mf24_x_2
                have mf30_x_4 := (c30.1 x 10 4 10 0 fsX11 hx10 rfl (by decide) (by decide)).trans mf24_x_4
                have mf30_x_5 := (c30.1 x 10 5 10 0 fsX11 hx10 rfl (by decide) (by decide)).trans mf24_x_5
                have kw30 := kw24.trans c30
                have jl30 := jl24.kept rlp c30 (by decide) (by decide) (by decide)
                refine W.eq (g2 := F0 m 150 ls19 []) rfl ?_
                refine lv_aload_n hx hb (eX11_writeInstant (150, .aload_n 0, 1) (List.mem_of_getElem? (i := 69) rfl)) rfl (lv_at hl19 2 rfl) ?_
                refine tz_get (r := 10) (k := 5) (t := (20, 0, 0)) hx hb hh30 hx10 rfl rfl (hcl10 45 5 (20, 0, 0) (by decide) rfl).1 mf30_x_5 (eX11_writeInstant (151, .getfield 45, 3) (List.mem_of_getElem? (i := 70) rfl)) ?_
                refine lv_iload_n hx hb (eX11_writeInstant (154, .iload_n 3, 1) (List.mem_of_getElem? (i := 71) rfl)) rfl (lv_at hl19 4 rfl) ?_
                refine lv_iload hx hb (eX11_writeInstant (155, .iload 5, 2) (List.mem_of_getElem? (i := 72) rfl)) (lv_at hl19 6 rfl) ?_
                refine tz_rowV (As := [.int na, .int dg]) (st := []) (b := wr) (C := RX9) (Ts := gT) hx hb hml hown h2 (fun _ h => h) (hX9_putPart l D cA ro sz H0 wr na dg dg.toInt.toNat ([] ++ yrL v21.toInt ++ mdL cm cd v23.toInt ++ tmL v28.toInt v29.toInt) rwr (by omega) (by omega) (by omega) (by have hyl := yrL_len v21.toInt; have hml : (mdL cm cd v23.toInt).length ≤ 6 := by { have := dsL_len v23.toInt; unfold mdL; simp only [List.length_append, dgL_len]; omega }; have htl := tmL_len v28.toInt v29.toInt; (try simp only [List.length_append, List.length_nil]); omega)) ⟨rfl, rfl⟩ ⟨by decide, by decide⟩ ⟨by decide, by decide⟩ (tb_6 30 rfl rfl) (tb_1 6 rfl rfl) (tb_6 27 rfl rfl) (tb_6 28 rfl rfl) (tb_6 29 rfl rfl) (show yX9_putPart.cls ≠ "java/lang/invoke/MethodHandle" ∧ yX9_putPart.cls ≠ "java/lang/invoke/VarHandle" ∧ (parseMethodDescriptor yX9_putPart.desc).map (fun d => d.parameters.length) = some 2 by decide +kernel) zs_blind (zs_ob hh30 rwr (show RTg[8]? = some (0, 8, 0, fsX9) from rfl) (zCX9 hKa.1.1.1)) (fun U hU hW => ⟨rfl, by rw [hU]; exact hh30.l0, zKb s U hW.alike hKa.1.1, by rw [hU]; exact j30⟩) hh30.2.2.1 hl19.1 (Nat.le_of_ble_eq_true rfl) (eX11_writeInstant (157, .invokevirtual 340, 3) (List.mem_of_getElem? (i := 73) rfl)) (fun r31 s31 t31 lo31 g31 f31 l31 => ?_)
                obtain ⟨q31, z31, c31, j31⟩ := f31
                cases q31
                rw [g31] at c31
                have hh31 : zh_ok D cA RTg ro sz H0 t31.heap lo31 := ⟨z31.1, z31.2.1, l31, z31.2.2.2⟩
                have kp31 := kp30.trans (c31.mono (ms' := kMc) (by decide))
                have mf31_x_0 := (c31.1 x 10 0 10 0 fsX11 hx10 rfl (by decide) (by decide)).trans mf30_x_0
                have mf31_x_2 := (c31.1 x 10 2 10 0 fsX11 hx10 rfl (by decide) (by decide)).trans mf30_x_2
                have mf31_x_4 := (c31.1 x 10 4 10 0 fsX11 hx10 rfl (by decide) (by decide)).trans mf30_x_4
                have mf31_x_5 := (c31.1 x 10 5 10 0 fsX11 hx10 rfl (by decide) (by decide)).trans mf30_x_5
                have kw31 := kw30.trans c31
                have jl31 := jl30.kept rlp c31 (by decide) (by decide) (by decide)
                refine W.eq (g2 := F0 m 160 ls19 []) rfl ?_
                refine lv_aload_n hx hb (eX11_writeInstant (160, .aload_n 0, 1) (List.mem_of_getElem? (i := 74) rfl)) rfl (lv_at hl19 2 rfl) ?_
                refine tz_get (r := 10) (k := 5) (t := (20, 0, 0)) hx hb hh31 hx10 rfl rfl (hcl10 45 5 (20, 0, 0) (by decide) rfl).1 mf31_x_5 (eX11_writeInstant (161, .getfield 45, 3) (List.mem_of_getElem? (i := 75) rfl)) ?_
                refine lv_iload hx hb (eX11_writeInstant (164, .iload 4, 2) (List.mem_of_getElem? (i := 76) rfl)) (lv_at hl19 5 rfl) ?_
                refine tz_rowV (As := [.int o]) (st := []) (b := wr) (C := RX9) (Ts := gT) hx hb hml hown h2 (fun _ h => h) (hX9_putOffset l D cA ro sz H0 wr o ([] ++ yrL v21.toInt ++ mdL cm cd v23.toInt ++ tmL v28.toInt v29.toInt ++ ptL na.toInt dg.toInt.toNat) rwr (by omega) (by omega) (by have hyl := yrL_len v21.toInt; have hml : (mdL cm cd v23.toInt).length ≤ 6 := by { have := dsL_len v23.toInt; unfold mdL; simp only [List.length_append, dgL_len]; omega }; have htl := tmL_len v28.toInt v29.toInt; have hpl := ptL_len na.toInt dg.toInt.toNat; (try simp only [List.length_append, List.length_nil]); omega)) ⟨rfl, rfl⟩ ⟨by decide, by decide⟩ ⟨by decide, by decide⟩ (tb_6 34 rfl rfl) (tb_1 6 rfl rfl) (tb_6 31 rfl rfl) (tb_6 32 rfl rfl) (tb_6 33 rfl rfl) (show yX9_putOffset.cls ≠ "java/lang/invoke/MethodHandle" ∧ yX9_putOffset.cls ≠ "java/lang/invoke/VarHandle" ∧ (parseMethodDescriptor yX9_putOffset.desc).map (fun d => d.parameters.length) = some 1 by decide +kernel) zs_blind (zs_ob hh31 rwr (show RTg[8]? = some (0, 8, 0, fsX9) from rfl) (zCX9 hKa.1.1.1)) (fun U hU hW => ⟨rfl, by rw [hU]; exact hh31.l0, zKb s U hW.alike hKa.1.1, by rw [hU]; exact j31⟩) hh31.2.2.1 hl19.1 (Nat.le_of_ble_eq_true rfl) (eX11_writeInstant (166, .invokevirtual 343, 3) (List.mem_of_getElem? (i := 77) rfl)) (fun r32 s32 t32 lo32 g32 f32 l32 => ?_)
                obtain ⟨q32, z32, c32, j32⟩ := f32
                cases q32
                rw [g32] at c32
                have hh32 : zh_ok D cA RTg ro sz H0 t32.heap lo32 := ⟨z32.1, z32.2.1, l32, z32.2.2.2⟩
                have kp32 := kp31.trans (c32.mono (ms' := kMc) (by decide))
                have mf32_x_0 := (c32.1 x 10 0 10 0 fsX11 hx10 rfl (by decide) (by decide)).trans mf31_x_0
                have mf32_x_2 := (c32.1 x 10 2 10 0 fsX11 hx10 rfl (by decide) (by decide)).trans mf31_x_2
                have mf32_x_4 := (c32.1 x 10 4 10 0 fsX11 hx10 rfl (by decide) (by decide)).trans mf31_x_4
                have mf32_x_5 := (c32.1 x 10 5 10 0 fsX11 hx10 rfl (by decide) (by decide)).trans mf31_x_5
                have kw32 := kw31.trans c32
                have jl32 := jl31.kept rlp c32 (by decide) (by decide) (by decide)
                refine W.eq (g2 := F0 m 169 ls19 []) rfl ?_
                have hj33 := j32
                obtain ⟨wb33, nw33, zw33, fa33, ra33, fb33, hn33, hc33, hz33⟩ := id hj33
                refine lv_aload_n hx hb (eX11_writeInstant (169, .aload_n 0, 1) (List.mem_of_getElem? (i := 78) rfl)) rfl (lv_at hl19 2 rfl) ?_
                refine tz_get (r := 10) (k := 5) (t := (20, 0, 0)) hx hb hh32 hx10 rfl rfl (hcl10 45 5 (20, 0, 0) (by decide) rfl).1 mf32_x_5 (eX11_writeInstant (170, .getfield 45, 3) (List.mem_of_getElem? (i := 79) rfl)) ?_
                refine tz_get (r := 8) (k := 1) (t := (0, 0, 120)) hx hb hh32 rwr rfl rfl (hcl8 251 1 (0, 0, 120) (by decide) rfl).1 fb33 (eX11_writeInstant (173, .getfield 251, 3) (List.mem_of_getElem? (i := 80) rfl)) ?_
                have hcv2 : cvP ((v11.toInt + o.toInt) / 1440) cy cm cd := by rw [show (v11.toInt + o.toInt) / 1440 = v18.toInt by omega]; exact hcv
                have hO9 : [] ++ yrL v21.toInt ++ mdL cm cd v23.toInt ++ tmL v28.toInt v29.toInt ++ ptL na.toInt dg.toInt.toNat ++ ofL o.toInt = wiL (v11.toInt + o.toInt) cy cm cd (t0.toInt - stI L v11.toInt) na.toInt dg.toInt.toNat o.toInt := by
                  have hyy := isY_one (cvP_isY hcv) e21.1
                  rw [show v23.toInt = 1 by omega, show v28.toInt = (v11.toInt + o.toInt) % 1440 by omega, show v29.toInt = t0.toInt - stI L v11.toInt by omega, ← hyy]
                  unfold wiL
                  simp only [List.nil_append]
                have hj9 := hj33
                rw [hO9] at hj9
                have hl9 := hn33
                rw [hO9] at hl9
                have hok := wiL_ok (v11.toInt + o.toInt) cy cm cd (t0.toInt - stI L v11.toInt) na.toInt o.toInt (show dg.toInt.toNat ≤ 9 by omega)
                exact vx_ret (W.widen (k := 1) (n := 6) (Nat.zero_le _) (Nat.zero_le _) (W.zret hx hb hr rfl (fun t ht hW => ⟨_, _, T, wiL (v11.toInt + o.toInt) cy cm cd (t0.toInt - stI L v11.toInt) na.toInt dg.toInt.toNat o.toInt, rfl, ⟨_, rfl, rfl⟩, by rw [ht]; exact hh32.l0, by rw [ht]; exact kp32, by rw [ht]; exact ⟨⟨tx, mf32_x_4, rtx, htx.kept rtx kw32 (by decide) (by decide) (by decide)⟩, ⟨wr, mf32_x_5, rwr, hj9⟩, ⟨hkT, by have h7 := hok.2; omega, hok.1⟩⟩, rfl, Or.inr ⟨rfl, ⟨htok, by omega, v11.toInt, e11, by rw [show v11.toInt + o.toInt = v13.toInt by omega]; exact hmok⟩, ⟨v11.toInt, cy, cm, cd, e11, hcv2, rfl⟩, hl9⟩⟩) hh32.2.2.1 (eX11_writeInstant (176, .ireturn, 1) (List.mem_of_getElem? (i := 81) rfl))))
              · skip
                exact zx_leafGW (ik := 83) (is := 326) (ic := 87) (cls := "java/lang/IllegalArgumentException") (text := "a local time of no year") hx hb hst hown h2 hKa.1 hh hh11 (by rw [hl14.1, hml]) hex hlk ⟨by decide, by decide, by decide, by decide⟩ (tb_2 121 rfl rfl) (tb_1 17 rfl rfl) (by decide) (gAt_in gAt_1) (by decide +kernel) (by decide) (by decide) (fun t h7 h8 => ⟨hh11.grow h7 h8, kept_grow hh11 h8, Or.inl ⟨rfl, 0, rfl, Or.inl ⟨rfl, rfl, fun g => by obtain ⟨-, -, M9, g1, g2⟩ := g; have g3 := rdM_one e11 g1; rcases e15 with h | h; omega; exact h.2 (by rw [show v13.toInt = M9 + o.toInt by omega]; exact g2)⟩⟩⟩) (eX11_writeInstant (75, .new 83, 3) (List.mem_of_getElem? (i := 34) rfl)) (eX11_writeInstant (78, .dup, 1) (List.mem_of_getElem? (i := 35) rfl)) (eX11_writeInstant (79, .ldc_w 326, 3) (List.mem_of_getElem? (i := 36) rfl)) (eX11_writeInstant (82, .invokespecial 87, 3) (List.mem_of_getElem? (i := 37) rfl)) (eX11_writeInstant (85, .athrow, 1) (List.mem_of_getElem? (i := 38) rfl))
            · skip
              exact zx_leafGW (ik := 83) (is := 324) (ic := 87) (cls := "java/lang/IllegalArgumentException") (text := "no such instant, part or offset") hx hb hst hown h2 hKa.1 hh hh1 (by rw [hl.1, hml]) hex hlk ⟨by decide, by decide, by decide, by decide⟩ (tb_2 121 rfl rfl) (tb_1 17 rfl rfl) (by decide) (gAt_in gAt_1) (by decide +kernel) (by decide) (by decide) (fun t h7 h8 => ⟨hh1.grow h7 h8, kept_grow hh1 h8, Or.inl ⟨rfl, 0, rfl, Or.inl ⟨rfl, rfl, fun g => by obtain ⟨g1, g2, -⟩ := g; rcases e1 with h | h; omega; exact h.2 g1⟩⟩⟩) (eX11_writeInstant (42, .new 83, 3) (List.mem_of_getElem? (i := 18) rfl)) (eX11_writeInstant (45, .dup, 1) (List.mem_of_getElem? (i := 19) rfl)) (eX11_writeInstant (46, .ldc_w 324, 3) (List.mem_of_getElem? (i := 20) rfl)) (eX11_writeInstant (49, .invokespecial 87, 3) (List.mem_of_getElem? (i := 21) rfl)) (eX11_writeInstant (52, .athrow, 1) (List.mem_of_getElem? (i := 22) rfl))
