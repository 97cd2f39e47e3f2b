set_option maxRecDepth 100000 in
set_option maxHeartbeats 4000000 in
theorem hX12_writeDuration (l : Launch) (D : va_G) (cA : Nat → ClassId) (ro : Nat → Option Nat) (sz : Nat) (H0 : Heap) (a : Nat) (mo : Int64) (da : Int64) (se : Int64) (na : Int32) (L : List Int) (zc : Int) (T O : List Int) (ha : ro a = some 11)  : Met l yX12_writeDuration (gW yX12_writeDuration cX12_writeDuration 12 (some .int)) { frames := 4, cells := 0, slots := 0, locals := 95 } (zs_P D cA ro sz H0 (fun H => jRS D cA ro H a L zc ∧ jRK D cA ro H a T O) [.ref a, .long mo, .long da, .long se, .int na]) (zk_QR D cA ro sz H0 a vI (spU mo.toInt da.toInt se.toInt na.toInt T O)) 0 0 (zy_fr sz) := by
  refine zy_ofW (cc := cX12_writeDuration) (maxL := 12) (ret := (some .int)) (by decide +kernel) rfl ?_
  intro p e s m args below meth c s1 B hml hv
  obtain ⟨rfl, hh, hKn, hJ⟩ := hv
  have hx := B.exec
  have hb := B.bytes
  have hr := B.returns
  have hlk := B.notSynchronized
  have hts0 := atoms_spec (ws := gW yX12_writeDuration cX12_writeDuration 12 (some .int)) B.pre
  have h2 : ∀ w ∈ gT, w.before ([.ref a, .long mo, .long da, .long se, .int na] : List Value).toArray s = true := fun w hw => hts0 w (List.mem_cons_of_mem _ hw)
  have hown : s.vm.findClass RX12 = some m.cls := findClass_of_methodNamed B.named
  have hl := lv_entry [.ref a, .long mo, .long da, .long se, .int na] (n := 12) (Nat.le_of_ble_eq_true rfl)
  rw [lg_entry_eq]
  generalize (lg_sl [.ref a, .long mo, .long da, .long se, .int na] ++ List.replicate (12 - (lg_sl [.ref a, .long mo, .long da, .long se, .int na]).length) Slot.unset).toArray = ls at hl ⊢
  have b_mo := zn_i64 mo
  have b_da := zn_i64 da
  have b_se := zn_i64 se
  have b_na := zn_i32 na
  have hD := zD_all h2 hKn.1
  have hcl11 := fun (idx k : Nat) (t : zt_T) (h : (idx, 11, k) ∈ gfX12) (hk : fsX12[k]? = some t) => zf_clause (ro := ro) (ms := [(11, 0), (11, 15), (11, 18), (11, 19), (11, 20), (31, 0)]) h2 hown hKn.1 gfX12_ok (by decide +kernel) idx 11 k 11 0 fsX12 t h rfl hk
  have kp0 : zc_kept D RTg ro [(11, 0), (11, 15), (11, 18), (11, 19), (11, 20), (31, 0)] s.heap s.heap := zc_kept.refl
  obtain ⟨hjs, hjt, hjo, hkb⟩ := id hJ
  obtain ⟨wb, n, z, f0, r0, f1, hn, hc, hz⟩ := id hjo
  have hkT := hkb.1
  have hkO := hkb.2.1
  have hjl := hjs.2.2
  have hjL := hjl.2.1
  have hjr := hjs.1
  refine lv_lload_n hx hb (eX12_writeDuration (0, .lload_n 1, 1) (List.mem_of_getElem? (i := 0) rfl)) rfl (lv_at hl 1 rfl) ?_
  refine ff_lconst hx hb (eX12_writeDuration (1, .lconst 0, 1) (List.mem_of_getElem? (i := 1) rfl)) rfl (fun v1 e1 => ?_)
  refine ff_ldc2 (n := 999999999) hx hb hown h2 (clX12_ok 462 999999999 (List.mem_of_getElem? (i := 43) rfl)) (eX12_writeDuration (2, .ldc2_w 462, 3) (List.mem_of_getElem? (i := 2) rfl)) (fun v2 e2 => ?_)
  refine zu_S (vs := [.long mo, .long v1, .long v2]) (rest := []) hx hb hml hown hts0 zu_BT (hX12_isIn l mo v1 v2) ⟨rfl, rfl⟩ ⟨by decide, by decide⟩ ⟨by decide, by decide⟩ (tb_7 47 rfl rfl) (tb_1 12 rfl rfl) (tb_7 45 rfl rfl) (tb_7 46 rfl rfl) (show yX12_isIn.cls ≠ "java/lang/invoke/MethodHandle" ∧ yX12_isIn.cls ≠ "java/lang/invoke/VarHandle" ∧ (parseMethodDescriptor yX12_isIn.desc).map (fun d => d.parameters.length) = some 3 by decide +kernel) rfl (fun _ _ _ => trivial) hl.1 (Nat.le_of_ble_eq_true rfl) (eX12_writeDuration (5, .invokestatic 130, 3) (List.mem_of_getElem? (i := 3) rfl)) (fun w3 f3 => ?_)
  obtain ⟨v3, rfl, e3⟩ := f3
  refine ff_if_eq hx hb (eX12_writeDuration (8, .ifCond .eq 43, 3) (List.mem_of_getElem? (i := 4) rfl)) (tgt := 51) rfl (fun c4 => ?_) (fun c4 => ?_)
  · skip
    refine ff_iconst hx hb (eX12_writeDuration (51, .iconst 0, 1) (List.mem_of_getElem? (i := 23) rfl)) (by decide) (by decide) (fun v5 e5 => ?_)
    refine lv_istore hx hb (eX12_writeDuration (52, .istore 8, 2) (List.mem_of_getElem? (i := 24) rfl)) hl (by decide) rfl (fun ls6 hl6 => ?_)
    refine lv_aload_n hx hb (eX12_writeDuration (54, .aload_n 0, 1) (List.mem_of_getElem? (i := 25) rfl)) rfl (lv_at hl6 1 rfl) ?_
    refine lv_iload hx hb (eX12_writeDuration (55, .iload 8, 2) (List.mem_of_getElem? (i := 26) rfl)) (lv_at hl6 0 rfl) ?_
    refine ff_if_eq hx hb (eX12_writeDuration (57, .ifCond .eq 7, 3) (List.mem_of_getElem? (i := 27) rfl)) (tgt := 64) rfl (fun c7 => ?_) (fun c7 => (by exfalso; omega))
    refine ff_iconst hx hb (eX12_writeDuration (64, .iconst 1, 1) (List.mem_of_getElem? (i := 30) rfl)) (by decide) (by decide) (fun v8 e8 => ?_)
    refine tz_put (r := 11) (k := 0) (t := (0, 0, 2)) hx hb hD hh ha rfl rfl ((hcl11 85 0 (0, 0, 2) (by decide) rfl).2 (by decide)) (tz_i (by omega) (by omega)) (eX12_writeDuration (65, .putfield 85, 3) (List.mem_of_getElem? (i := 31) rfl)) (fun H9 lo9 hh9 hf9 hk9 _ hq9 => ?_)
    have mf9_a_14 := (hk9.1 a 11 14 11 0 fsX12 ha rfl (by decide) (by decide)).trans f0
    have mf9_a_15 := (hk9.1 a 11 15 11 0 fsX12 ha rfl (by decide) (by decide)).trans f1
    have mc9_wb := (hk9.2 wb 31 0 2 160 _ r0 rfl (by decide)).trans hc
    have kp9 := kp0.trans (hk9.mono (ms' := [(11, 0), (11, 15), (11, 18), (11, 19), (11, 20), (31, 0)]) (fun x hx => by cases List.mem_singleton.mp hx; decide))
    have jm9 := hjo.kept ha hk9 (by decide) (by decide) (by decide)
    refine lv_aload_n hx hb (eX12_writeDuration (68, .aload_n 0, 1) (List.mem_of_getElem? (i := 32) rfl)) rfl (lv_at hl6 1 rfl) ?_
    refine tz_get (r := 11) (k := 0) (t := (0, 0, 2)) hx hb hh9 ha rfl rfl (hcl11 85 0 (0, 0, 2) (by decide) rfl).1 hf9 (eX12_writeDuration (69, .getfield 85, 3) (List.mem_of_getElem? (i := 33) rfl)) ?_
    refine ff_if_le hx hb (eX12_writeDuration (72, .ifCond .le 5, 3) (List.mem_of_getElem? (i := 34) rfl)) (tgt := 77) rfl (fun c10 => (by exfalso; omega)) (fun c10 => ?_)
    refine ff_iconst hx hb (eX12_writeDuration (75, .iconst 0, 1) (List.mem_of_getElem? (i := 35) rfl)) (by decide) (by decide) (fun v11 e11 => ?_)
    exact W.zret hx hb hr rfl (fun t ht hW => ⟨_, _, _, T, O, rfl, ⟨_, rfl, rfl⟩, by rw [ht]; exact hh9.l0, by rw [ht]; exact kp9.mono (by decide), by rw [ht]; exact hf9, by rw [ht]; exact ⟨hjt.kept ha kp9 (by decide) (by decide) (by decide), jm9, hkb⟩, rfl, Or.inl ⟨by omega, rfl, by unfold duV; omega⟩⟩) hh9.2.2.1 (eX12_writeDuration (76, .ireturn, 1) (List.mem_of_getElem? (i := 36) rfl))
  · skip
    refine lv_lload_n hx hb (eX12_writeDuration (11, .lload_n 3, 1) (List.mem_of_getElem? (i := 5) rfl)) rfl (lv_at hl 2 rfl) ?_
    refine ff_lconst hx hb (eX12_writeDuration (12, .lconst 0, 1) (List.mem_of_getElem? (i := 6) rfl)) rfl (fun v12 e12 => ?_)
    refine ff_ldc2 (n := 999999999) hx hb hown h2 (clX12_ok 462 999999999 (List.mem_of_getElem? (i := 43) rfl)) (eX12_writeDuration (13, .ldc2_w 462, 3) (List.mem_of_getElem? (i := 7) rfl)) (fun v13 e13 => ?_)
    refine zu_S (vs := [.long da, .long v12, .long v13]) (rest := []) hx hb hml hown hts0 zu_BT (hX12_isIn l da v12 v13) ⟨rfl, rfl⟩ ⟨by decide, by decide⟩ ⟨by decide, by decide⟩ (tb_7 47 rfl rfl) (tb_1 12 rfl rfl) (tb_7 45 rfl rfl) (tb_7 46 rfl rfl) (show yX12_isIn.cls ≠ "java/lang/invoke/MethodHandle" ∧ yX12_isIn.cls ≠ "java/lang/invoke/VarHandle" ∧ (parseMethodDescriptor yX12_isIn.desc).map (fun d => d.parameters.length) = some 3 by decide +kernel) rfl (fun _ _ _ => trivial) hl.1 (Nat.le_of_ble_eq_true rfl) (eX12_writeDuration (16, .invokestatic 130, 3) (List.mem_of_getElem? (i := 8) rfl)) (fun w14 f14 => ?_)
    obtain ⟨v14, rfl, e14⟩ := f14
    refine ff_if_eq hx hb (eX12_writeDuration (19, .ifCond .eq 32, 3) (List.mem_of_getElem? (i := 9) rfl)) (tgt := 51) rfl (fun c15 => ?_) (fun c15 => ?_)
    · skip
      refine ff_iconst hx hb (eX12_writeDuration (51, .iconst 0, 1) (List.mem_of_getElem? (i := 23) rfl)) (by decide) (by decide) (fun v16 e16 => ?_)
      refine lv_istore hx hb (eX12_writeDuration (52, .istore 8, 2) (List.mem_of_getElem? (i := 24) rfl)) hl (by decide) rfl (fun ls17 hl17 => ?_)
      refine lv_aload_n hx hb (eX12_writeDuration (54, .aload_n 0, 1) (List.mem_of_getElem? (i := 25) rfl)) rfl (lv_at hl17 1 rfl) ?_
      refine lv_iload hx hb (eX12_writeDuration (55, .iload 8, 2) (List.mem_of_getElem? (i := 26) rfl)) (lv_at hl17 0 rfl) ?_
      refine ff_if_eq hx hb (eX12_writeDuration (57, .ifCond .eq 7, 3) (List.mem_of_getElem? (i := 27) rfl)) (tgt := 64) rfl (fun c18 => ?_) (fun c18 => (by exfalso; omega))
      refine ff_iconst hx hb (eX12_writeDuration (64, .iconst 1, 1) (List.mem_of_getElem? (i := 30) rfl)) (by decide) (by decide) (fun v19 e19 => ?_)
      refine tz_put (r := 11) (k := 0) (t := (0, 0, 2)) hx hb hD hh ha rfl rfl ((hcl11 85 0 (0, 0, 2) (by decide) rfl).2 (by decide)) (tz_i (by omega) (by omega)) (eX12_writeDuration (65, .putfield 85, 3) (List.mem_of_getElem? (i := 31) rfl)) (fun H20 lo20 hh20 hf20 hk20 _ hq20 => ?_)
      have mf20_a_14 := (hk20.1 a 11 14 11 0 fsX12 ha rfl (by decide) (by decide)).trans f0
      have mf20_a_15 := (hk20.1 a 11 15 11 0 fsX12 ha rfl (by decide) (by decide)).trans f1
      have mc20_wb := (hk20.2 wb 31 0 2 160 _ r0 rfl (by decide)).trans hc
      have kp20 := kp0.trans (hk20.mono (ms' := [(11, 0), (11, 15), (11, 18), (11, 19), (11, 20), (31, 0)]) (fun x hx => by cases List.mem_singleton.mp hx; decide))
      have jm20 := hjo.kept ha hk20 (by decide) (by decide) (by decide)
      refine lv_aload_n hx hb (eX12_writeDuration (68, .aload_n 0, 1) (List.mem_of_getElem? (i := 32) rfl)) rfl (lv_at hl17 1 rfl) ?_
      refine tz_get (r := 11) (k := 0) (t := (0, 0, 2)) hx hb hh20 ha rfl rfl (hcl11 85 0 (0, 0, 2) (by decide) rfl).1 hf20 (eX12_writeDuration (69, .getfield 85, 3) (List.mem_of_getElem? (i := 33) rfl)) ?_
      refine ff_if_le hx hb (eX12_writeDuration (72, .ifCond .le 5, 3) (List.mem_of_getElem? (i := 34) rfl)) (tgt := 77) rfl (fun c21 => (by exfalso; omega)) (fun c21 => ?_)
      refine ff_iconst hx hb (eX12_writeDuration (75, .iconst 0, 1) (List.mem_of_getElem? (i := 35) rfl)) (by decide) (by decide) (fun v22 e22 => ?_)
      exact W.zret hx hb hr rfl (fun t ht hW => ⟨_, _, _, T, O, rfl, ⟨_, rfl, rfl⟩, by rw [ht]; exact hh20.l0, by rw [ht]; exact kp20.mono (by decide), by rw [ht]; exact hf20, by rw [ht]; exact ⟨hjt.kept ha kp20 (by decide) (by decide) (by decide), jm20, hkb⟩, rfl, Or.inl ⟨by omega, rfl, by unfold duV; omega⟩⟩) hh20.2.2.1 (eX12_writeDuration (76, .ireturn, 1) (List.mem_of_getElem? (i := 36) rfl))
    · skip
      refine lv_lload hx hb (eX12_writeDuration (22, .lload 5, 2) (List.mem_of_getElem? (i := 10) rfl)) (lv_at hl 3 rfl) ?_
      refine ff_lconst hx hb (eX12_writeDuration (24, .lconst 0, 1) (List.mem_of_getElem? (i := 11) rfl)) rfl (fun v23 e23 => ?_)
      refine ff_ldc2 (n := 3599999999999) hx hb hown h2 (clX12_ok 470 3599999999999 (List.mem_of_getElem? (i := 44) rfl)) (eX12_writeDuration (25, .ldc2_w 470, 3) (List.mem_of_getElem? (i := 12) rfl)) (fun v24 e24 => ?_)
      refine zu_S (vs := [.long se, .long v23, .long v24]) (rest := []) hx hb hml hown hts0 zu_BT (hX12_isIn l se v23 v24) ⟨rfl, rfl⟩ ⟨by decide, by decide⟩ ⟨by decide, by decide⟩ (tb_7 47 rfl rfl) (tb_1 12 rfl rfl) (tb_7 45 rfl rfl) (tb_7 46 rfl rfl) (show yX12_isIn.cls ≠ "java/lang/invoke/MethodHandle" ∧ yX12_isIn.cls ≠ "java/lang/invoke/VarHandle" ∧ (parseMethodDescriptor yX12_isIn.desc).map (fun d => d.parameters.length) = some 3 by decide +kernel) rfl (fun _ _ _ => trivial) hl.1 (Nat.le_of_ble_eq_true rfl) (eX12_writeDuration (28, .invokestatic 130, 3) (List.mem_of_getElem? (i := 13) rfl)) (fun w25 f25 => ?_)
      obtain ⟨v25, rfl, e25⟩ := f25
      refine ff_if_eq hx hb (eX12_writeDuration (31, .ifCond .eq 20, 3) (List.mem_of_getElem? (i := 14) rfl)) (tgt := 51) rfl (fun c26 => ?_) (fun c26 => ?_)
      · skip
        refine ff_iconst hx hb (eX12_writeDuration (51, .iconst 0, 1) (List.mem_of_getElem? (i := 23) rfl)) (by decide) (by decide) (fun v27 e27 => ?_)
        refine lv_istore hx hb (eX12_writeDuration (52, .istore 8, 2) (List.mem_of_getElem? (i := 24) rfl)) hl (by decide) rfl (fun ls28 hl28 => ?_)
        refine lv_aload_n hx hb (eX12_writeDuration (54, .aload_n 0, 1) (List.mem_of_getElem? (i := 25) rfl)) rfl (lv_at hl28 1 rfl) ?_
        refine lv_iload hx hb (eX12_writeDuration (55, .iload 8, 2) (List.mem_of_getElem? (i := 26) rfl)) (lv_at hl28 0 rfl) ?_
        refine ff_if_eq hx hb (eX12_writeDuration (57, .ifCond .eq 7, 3) (List.mem_of_getElem? (i := 27) rfl)) (tgt := 64) rfl (fun c29 => ?_) (fun c29 => (by exfalso; omega))
        refine ff_iconst hx hb (eX12_writeDuration (64, .iconst 1, 1) (List.mem_of_getElem? (i := 30) rfl)) (by decide) (by decide) (fun v30 e30 => ?_)
        refine tz_put (r := 11) (k := 0) (t := (0, 0, 2)) hx hb hD hh ha rfl rfl ((hcl11 85 0 (0, 0, 2) (by decide) rfl).2 (by decide)) (tz_i (by omega) (by omega)) (eX12_writeDuration (65, .putfield 85, 3) (List.mem_of_getElem? (i := 31) rfl)) (fun H31 lo31 hh31 hf31 hk31 _ hq31 => ?_)
        have mf31_a_14 := (hk31.1 a 11 14 11 0 fsX12 ha rfl (by decide) (by decide)).trans f0
        have mf31_a_15 := (hk31.1 a 11 15 11 0 fsX12 ha rfl (by decide) (by decide)).trans f1
        have mc31_wb := (hk31.2 wb 31 0 2 160 _ r0 rfl (by decide)).trans hc
        have kp31 := kp0.trans (hk31.mono (ms' := [(11, 0), (11, 15), (11, 18), (11, 19), (11, 20), (31, 0)]) (fun x hx => by cases List.mem_singleton.mp hx; decide))
        have jm31 := hjo.kept ha hk31 (by decide) (by decide) (by decide)
        refine lv_aload_n hx hb (eX12_writeDuration (68, .aload_n 0, 1) (List.mem_of_getElem? (i := 32) rfl)) rfl (lv_at hl28 1 rfl) ?_
        refine tz_get (r := 11) (k := 0) (t := (0, 0, 2)) hx hb hh31 ha rfl rfl (hcl11 85 0 (0, 0, 2) (by decide) rfl).1 hf31 (eX12_writeDuration (69, .getfield 85, 3) (List.mem_of_getElem? (i := 33) rfl)) ?_
        refine ff_if_le hx hb (eX12_writeDuration (72, .ifCond .le 5, 3) (List.mem_of_getElem? (i := 34) rfl)) (tgt := 77) rfl (fun c32 => (by exfalso; omega)) (fun c32 => ?_)
        refine ff_iconst hx hb (eX12_writeDuration (75, .iconst 0, 1) (List.mem_of_getElem? (i := 35) rfl)) (by decide) (by decide) (fun v33 e33 => ?_)
        exact W.zret hx hb hr rfl (fun t ht hW => ⟨_, _, _, T, O, rfl, ⟨_, rfl, rfl⟩, by rw [ht]; exact hh31.l0, by rw [ht]; exact kp31.mono (by decide), by rw [ht]; exact hf31, by rw [ht]; exact ⟨hjt.kept ha kp31 (by decide) (by decide) (by decide), jm31, hkb⟩, rfl, Or.inl ⟨by omega, rfl, by unfold duV; omega⟩⟩) hh31.2.2.1 (eX12_writeDuration (76, .ireturn, 1) (List.mem_of_getElem? (i := 36) rfl))
      · skip
        refine lv_iload hx hb (eX12_writeDuration (34, .iload 7, 2) (List.mem_of_getElem? (i := 15) rfl)) (lv_at hl 4 rfl) ?_
        refine ff_i2l hx hb (eX12_writeDuration (36, .i2l, 1) (List.mem_of_getElem? (i := 16) rfl)) (fun v34 e34 => ?_)
        refine ff_lconst hx hb (eX12_writeDuration (37, .lconst 0, 1) (List.mem_of_getElem? (i := 17) rfl)) rfl (fun v35 e35 => ?_)
        refine ff_ldc2 (n := 999999999) hx hb hown h2 (clX12_ok 462 999999999 (List.mem_of_getElem? (i := 43) rfl)) (eX12_writeDuration (38, .ldc2_w 462, 3) (List.mem_of_getElem? (i := 18) rfl)) (fun v36 e36 => ?_)
        refine zu_S (vs := [.long v34, .long v35, .long v36]) (rest := []) hx hb hml hown hts0 zu_BT (hX12_isIn l v34 v35 v36) ⟨rfl, rfl⟩ ⟨by decide, by decide⟩ ⟨by decide, by decide⟩ (tb_7 47 rfl rfl) (tb_1 12 rfl rfl) (tb_7 45 rfl rfl) (tb_7 46 rfl rfl) (show yX12_isIn.cls ≠ "java/lang/invoke/MethodHandle" ∧ yX12_isIn.cls ≠ "java/lang/invoke/VarHandle" ∧ (parseMethodDescriptor yX12_isIn.desc).map (fun d => d.parameters.length) = some 3 by decide +kernel) rfl (fun _ _ _ => trivial) hl.1 (Nat.le_of_ble_eq_true rfl) (eX12_writeDuration (41, .invokestatic 130, 3) (List.mem_of_getElem? (i := 19) rfl)) (fun w37 f37 => ?_)
        obtain ⟨v37, rfl, e37⟩ := f37
        refine ff_if_eq hx hb (eX12_writeDuration (44, .ifCond .eq 7, 3) (List.mem_of_getElem? (i := 20) rfl)) (tgt := 51) rfl (fun c38 => ?_) (fun c38 => ?_)
        · skip
          refine ff_iconst hx hb (eX12_writeDuration (51, .iconst 0, 1) (List.mem_of_getElem? (i := 23) rfl)) (by decide) (by decide) (fun v39 e39 => ?_)
          refine lv_istore hx hb (eX12_writeDuration (52, .istore 8, 2) (List.mem_of_getElem? (i := 24) rfl)) hl (by decide) rfl (fun ls40 hl40 => ?_)
          refine lv_aload_n hx hb (eX12_writeDuration (54, .aload_n 0, 1) (List.mem_of_getElem? (i := 25) rfl)) rfl (lv_at hl40 1 rfl) ?_
          refine lv_iload hx hb (eX12_writeDuration (55, .iload 8, 2) (List.mem_of_getElem? (i := 26) rfl)) (lv_at hl40 0 rfl) ?_
          refine ff_if_eq hx hb (eX12_writeDuration (57, .ifCond .eq 7, 3) (List.mem_of_getElem? (i := 27) rfl)) (tgt := 64) rfl (fun c41 => ?_) (fun c41 => (by exfalso; omega))
          refine ff_iconst hx hb (eX12_writeDuration (64, .iconst 1, 1) (List.mem_of_getElem? (i := 30) rfl)) (by decide) (by decide) (fun v42 e42 => ?_)
          refine tz_put (r := 11) (k := 0) (t := (0, 0, 2)) hx hb hD hh ha rfl rfl ((hcl11 85 0 (0, 0, 2) (by decide) rfl).2 (by decide)) (tz_i (by omega) (by omega)) (eX12_writeDuration (65, .putfield 85, 3) (List.mem_of_getElem? (i := 31) rfl)) (fun H43 lo43 hh43 hf43 hk43 _ hq43 => ?_)
          have mf43_a_14 := (hk43.1 a 11 14 11 0 fsX12 ha rfl (by decide) (by decide)).trans f0
          have mf43_a_15 := (hk43.1 a 11 15 11 0 fsX12 ha rfl (by decide) (by decide)).trans f1
          have mc43_wb := (hk43.2 wb 31 0 2 160 _ r0 rfl (by decide)).trans hc
          have kp43 := kp0.trans (hk43.mono (ms' := [(11, 0), (11, 15), (11, 18), (11, 19), (11, 20), (31, 0)]) (fun x hx => by cases List.mem_singleton.mp hx; decide))
          have jm43 := hjo.kept ha hk43 (by decide) (by decide) (by decide)
          refine lv_aload_n hx hb (eX12_writeDuration (68, .aload_n 0, 1) (List.mem_of_getElem? (i := 32) rfl)) rfl (lv_at hl40 1 rfl) ?_
          refine tz_get (r := 11) (k := 0) (t := (0, 0, 2)) hx hb hh43 ha rfl rfl (hcl11 85 0 (0, 0, 2) (by decide) rfl).1 hf43 (eX12_writeDuration (69, .getfield 85, 3) (List.mem_of_getElem? (i := 33) rfl)) ?_
          refine ff_if_le hx hb (eX12_writeDuration (72, .ifCond .le 5, 3) (List.mem_of_getElem? (i := 34) rfl)) (tgt := 77) rfl (fun c44 => (by exfalso; omega)) (fun c44 => ?_)
          refine ff_iconst hx hb (eX12_writeDuration (75, .iconst 0, 1) (List.mem_of_getElem? (i := 35) rfl)) (by decide) (by decide) (fun v45 e45 => ?_)
          exact W.zret hx hb hr rfl (fun t ht hW => ⟨_, _, _, T, O, rfl, ⟨_, rfl, rfl⟩, by rw [ht]; exact hh43.l0, by rw [ht]; exact kp43.mono (by decide), by rw [ht]; exact hf43, by rw [ht]; exact ⟨hjt.kept ha kp43 (by decide) (by decide) (by decide), jm43, hkb⟩, rfl, Or.inl ⟨by omega, rfl, by unfold duV; omega⟩⟩) hh43.2.2.1 (eX12_writeDuration (76, .ireturn, 1) (List.mem_of_getElem? (i := 36) rfl))
        · skip
          refine ff_iconst hx hb (eX12_writeDuration (47, .iconst 1, 1) (List.mem_of_getElem? (i := 21) rfl)) (by decide) (by decide) (fun v46 e46 => ?_)
          refine lv_goto hx hb (eX12_writeDuration (48, .goto 4, 3) (List.mem_of_getElem? (i := 22) rfl)) (tgt := 52) rfl ?_
          refine lv_istore hx hb (eX12_writeDuration (52, .istore 8, 2) (List.mem_of_getElem? (i := 24) rfl)) hl (by decide) rfl (fun ls47 hl47 => ?_)
          refine lv_aload_n hx hb (eX12_writeDuration (54, .aload_n 0, 1) (List.mem_of_getElem? (i := 25) rfl)) rfl (lv_at hl47 1 rfl) ?_
          refine lv_iload hx hb (eX12_writeDuration (55, .iload 8, 2) (List.mem_of_getElem? (i := 26) rfl)) (lv_at hl47 0 rfl) ?_
          refine ff_if_eq hx hb (eX12_writeDuration (57, .ifCond .eq 7, 3) (List.mem_of_getElem? (i := 27) rfl)) (tgt := 64) rfl (fun c48 => (by exfalso; omega)) (fun c48 => ?_)
          refine ff_iconst hx hb (eX12_writeDuration (60, .iconst 0, 1) (List.mem_of_getElem? (i := 28) rfl)) (by decide) (by decide) (fun v49 e49 => ?_)
          refine lv_goto hx hb (eX12_writeDuration (61, .goto 4, 3) (List.mem_of_getElem? (i := 29) rfl)) (tgt := 65) rfl ?_
          refine tz_put (r := 11) (k := 0) (t := (0, 0, 2)) hx hb hD hh ha rfl rfl ((hcl11 85 0 (0, 0, 2) (by decide) rfl).2 (by decide)) (tz_i (by omega) (by omega)) (eX12_writeDuration (65, .putfield 85, 3) (List.mem_of_getElem? (i := 31) rfl)) (fun H50 lo50 hh50 hf50 hk50 _ hq50 => ?_)
          have mf50_a_14 := (hk50.1 a 11 14 11 0 fsX12 ha rfl (by decide) (by decide)).trans f0
          have mf50_a_15 := (hk50.1 a 11 15 11 0 fsX12 ha rfl (by decide) (by decide)).trans f1
          have mc50_wb := (hk50.2 wb 31 0 2 160 _ r0 rfl (by decide)).trans hc
          have kp50 := kp0.trans (hk50.mono (ms' := [(11, 0), (11, 15), (11, 18), (11, 19), (11, 20), (31, 0)]) (fun x hx => by cases List.mem_singleton.mp hx; decide))
          have jm50 := hjo.kept ha hk50 (by decide) (by decide) (by decide)
          refine lv_aload_n hx hb (eX12_writeDuration (68, .aload_n 0, 1) (List.mem_of_getElem? (i := 32) rfl)) rfl (lv_at hl47 1 rfl) ?_
          refine tz_get (r := 11) (k := 0) (t := (0, 0, 2)) hx hb hh50 ha rfl rfl (hcl11 85 0 (0, 0, 2) (by decide) rfl).1 hf50 (eX12_writeDuration (69, .getfield 85, 3) (List.mem_of_getElem? (i := 33) rfl)) ?_
          refine ff_if_le hx hb (eX12_writeDuration (72, .ifCond .le 5, 3) (List.mem_of_getElem? (i := 34) rfl)) (tgt := 77) rfl (fun c51 => ?_) (fun c51 => (by exfalso; omega))
          refine lv_aload_n hx hb (eX12_writeDuration (77, .aload_n 0, 1) (List.mem_of_getElem? (i := 37) rfl)) rfl (lv_at hl47 1 rfl) ?_
          refine ff_iconst hx hb (eX12_writeDuration (78, .iconst 0, 1) (List.mem_of_getElem? (i := 38) rfl)) (by decide) (by decide) (fun v52 e52 => ?_)
          obtain ⟨wb8, n8, z8, f8, r8, f81, hn8, hc8, hz8⟩ := id jm50
          refine tz_put (r := 11) (k := 15) (t := (0, 0, 120)) hx hb hD hh50 ha rfl rfl ((hcl11 447 15 (0, 0, 120) (by decide) rfl).2 (by decide)) (tz_i (by omega) (by omega)) (eX12_writeDuration (79, .putfield 447, 3) (List.mem_of_getElem? (i := 39) rfl)) (fun H53 lo53 hh53 hf53 hk53 _ hq53 => ?_)
          have mf53_a_14 := (hk53.1 a 11 14 11 0 fsX12 ha rfl (by decide) (by decide)).trans mf50_a_14
          have mf53_a_0 := (hk53.1 a 11 0 11 0 fsX12 ha rfl (by decide) (by decide)).trans hf50
          have mc53_wb := (hk53.2 wb 31 0 2 160 _ r0 rfl (by decide)).trans mc50_wb
          have kp53 := kp50.trans (hk53.mono (ms' := [(11, 0), (11, 15), (11, 18), (11, 19), (11, 20), (31, 0)]) (fun x hx => by cases List.mem_singleton.mp hx; decide))
          have hc9 := (hk53.2 wb8 31 0 2 160 _ r8 rfl (by decide)).trans hc8
          have hf9 := (hk53.1 a 11 14 11 0 fsX12 ha rfl (by decide) (by decide)).trans f8
          have jz : jRO D cA ro H53 a [] := ⟨wb8, _, _, hf9, r8, hf53, by show _ = (0 : Int); omega, hc9, fun i hi => absurd hi (Nat.not_lt_zero _)⟩
          refine lv_aload_n hx hb (eX12_writeDuration (82, .aload_n 0, 1) (List.mem_of_getElem? (i := 40) rfl)) rfl (lv_at hl47 1 rfl) ?_
          refine ff_bipush hx hb (eX12_writeDuration (83, .bipush 80, 2) (List.mem_of_getElem? (i := 41) rfl)) (by decide) (by decide) (fun v54 e54 => ?_)
          refine tz_rowV (As := [.int v54]) (st := []) (b := a) (C := RX12) (Ts := gT) hx hb hml hown h2 (fun _ h => h) (hX12_put l D cA ro sz H0 a v54 ([]) ha (by omega) (by omega) (by (try simp only [List.length_append, List.length_cons, List.length_nil, dgL_len]); omega)) ⟨rfl, rfl⟩ ⟨by decide, by decide⟩ ⟨by decide, by decide⟩ (tb_8 173 rfl rfl) (tb_1 12 rfl rfl) (tb_8 170 rfl rfl) (tb_8 172 rfl rfl) (tb_0 59 rfl rfl) (show yX12_put.cls ≠ "java/lang/invoke/MethodHandle" ∧ yX12_put.cls ≠ "java/lang/invoke/VarHandle" ∧ (parseMethodDescriptor yX12_put.desc).map (fun d => d.parameters.length) = some 1 by decide +kernel) zs_blind (zs_ob hh53 ha (show RTg[11]? = some (0, 11, 0, fsX12) from rfl) (zCX12 hKn.1)) (fun U hU hW => ⟨rfl, by rw [hU]; exact hh53.l0, zKb s U hW.alike hKn, by rw [hU]; exact jz⟩) hh53.2.2.1 hl47.1 (Nat.le_of_ble_eq_true rfl) (eX12_writeDuration (85, .invokevirtual 450, 3) (List.mem_of_getElem? (i := 42) rfl)) (fun r55 s55 t55 lo55 g55 f55 l55 => ?_)
          obtain ⟨q55, z55, c55, j55⟩ := f55
          cases q55
          rw [g55] at c55
          have hh55 : zh_ok D cA RTg ro sz H0 t55.heap lo55 := ⟨z55.1, z55.2.1, l55, z55.2.2.2⟩
          have kp55 := kp53.trans (c55.mono (ms' := [(11, 0), (11, 15), (11, 18), (11, 19), (11, 20), (31, 0)]) (by decide))
          have mf55_a_0 := (c55.1 a 11 0 11 0 fsX12 ha rfl (by decide) (by decide)).trans mf53_a_0
          refine W.eq (g2 := F0 m 88 ls47 []) rfl ?_
          refine lv_aload_n hx hb (eX12_writeDuration (88, .aload_n 0, 1) (List.mem_of_getElem? (i := 43) rfl)) rfl (lv_at hl47 1 rfl) ?_
          refine lv_lload_n hx hb (eX12_writeDuration (89, .lload_n 1, 1) (List.mem_of_getElem? (i := 44) rfl)) rfl (lv_at hl47 2 rfl) ?_
          refine ff_ldc2 (n := 12) hx hb hown h2 (clX12_ok 153 12 (List.mem_of_getElem? (i := 17) rfl)) (eX12_writeDuration (90, .ldc2_w 153, 3) (List.mem_of_getElem? (i := 45) rfl)) (fun v56 e56 => ?_)
          refine ff_ldivP hx hb (eX12_writeDuration (93, .ldiv, 1) (List.mem_of_getElem? (i := 46) rfl)) (by omega) (e56) (by decide) (fun v57 e57 => ?_)
          refine ff_bipush hx hb (eX12_writeDuration (94, .bipush 89, 2) (List.mem_of_getElem? (i := 47) rfl)) (by decide) (by decide) (fun v58 e58 => ?_)
          refine tz_rowV (As := [.long v57, .int v58]) (st := []) (b := a) (C := RX12) (Ts := gT) hx hb hml hown h2 (fun _ h => h) (hX12_putCount l D cA ro sz H0 a v57 v58 ([] ++ [v54.toInt]) ha (by omega) (by omega) (by omega) (by (try simp only [List.length_append, List.length_cons, List.length_nil, dgL_len]); omega)) ⟨rfl, rfl⟩ ⟨by decide, by decide⟩ ⟨by decide, by decide⟩ (tb_8 191 rfl rfl) (tb_1 12 rfl rfl) (tb_8 188 rfl rfl) (tb_8 190 rfl rfl) (tb_0 61 rfl rfl) (show yX12_putCount.cls ≠ "java/lang/invoke/MethodHandle" ∧ yX12_putCount.cls ≠ "java/lang/invoke/VarHandle" ∧ (parseMethodDescriptor yX12_putCount.desc).map (fun d => d.parameters.length) = some 2 by decide +kernel) zs_blind (zs_ob hh55 ha (show RTg[11]? = some (0, 11, 0, fsX12) from rfl) (zCX12 hKn.1)) (fun U hU hW => ⟨rfl, by rw [hU]; exact hh55.l0, zKb s U hW.alike hKn, by rw [hU]; exact j55⟩) hh55.2.2.1 hl47.1 (Nat.le_of_ble_eq_true rfl) (eX12_writeDuration (96, .invokevirtual 472, 3) (List.mem_of_getElem? (i := 48) rfl)) (fun r59 s59 t59 lo59 g59 f59 l59 => ?_)
          obtain ⟨q59, z59, c59, j59⟩ := f59
          cases q59
          rw [g59] at c59
          have hh59 : zh_ok D cA RTg ro sz H0 t59.heap lo59 := ⟨z59.1, z59.2.1, l59, z59.2.2.2⟩
          have kp59 := kp55.trans (c59.mono (ms' := [(11, 0), (11, 15), (11, 18), (11, 19), (11, 20), (31, 0)]) (by decide))
          have mf59_a_0 := (c59.1 a 11 0 11 0 fsX12 ha rfl (by decide) (by decide)).trans mf55_a_0
          refine W.eq (g2 := F0 m 99 ls47 []) rfl ?_
          refine lv_aload_n hx hb (eX12_writeDuration (99, .aload_n 0, 1) (List.mem_of_getElem? (i := 49) rfl)) rfl (lv_at hl47 1 rfl) ?_
          refine lv_lload_n hx hb (eX12_writeDuration (100, .lload_n 1, 1) (List.mem_of_getElem? (i := 50) rfl)) rfl (lv_at hl47 2 rfl) ?_
          refine ff_ldc2 (n := 12) hx hb hown h2 (clX12_ok 153 12 (List.mem_of_getElem? (i := 17) rfl)) (eX12_writeDuration (101, .ldc2_w 153, 3) (List.mem_of_getElem? (i := 51) rfl)) (fun v60 e60 => ?_)
          refine ff_lremP hx hb (eX12_writeDuration (104, .lrem, 1) (List.mem_of_getElem? (i := 52) rfl)) (by omega) (e60) (by decide) (fun v61 e61 => ?_)
          refine ff_bipush hx hb (eX12_writeDuration (105, .bipush 77, 2) (List.mem_of_getElem? (i := 53) rfl)) (by decide) (by decide) (fun v62 e62 => ?_)
          refine tz_rowV (As := [.long v61, .int v62]) (st := []) (b := a) (C := RX12) (Ts := gT) hx hb hml hown h2 (fun _ h => h) (hX12_putCount l D cA ro sz H0 a v61 v62 ([] ++ [v54.toInt] ++ cnL v57.toInt v58.toInt) ha (by omega) (by omega) (by omega) (by have hcl0 := cnL_len v57.toInt v58.toInt; (try simp only [List.length_append, List.length_cons, List.length_nil, dgL_len]); omega)) ⟨rfl, rfl⟩ ⟨by decide, by decide⟩ ⟨by decide, by decide⟩ (tb_8 191 rfl rfl) (tb_1 12 rfl rfl) (tb_8 188 rfl rfl) (tb_8 190 rfl rfl) (tb_0 61 rfl rfl) (show yX12_putCount.cls ≠ "java/lang/invoke/MethodHandle" ∧ yX12_putCount.cls ≠ "java/lang/invoke/VarHandle" ∧ (parseMethodDescriptor yX12_putCount.desc).map (fun d => d.parameters.length) = some 2 by decide +kernel) zs_blind (zs_ob hh59 ha (show RTg[11]? = some (0, 11, 0, fsX12) from rfl) (zCX12 hKn.1)) (fun U hU hW => ⟨rfl, by rw [hU]; exact hh59.l0, zKb s U hW.alike hKn, by rw [hU]; exact j59⟩) hh59.2.2.1 hl47.1 (Nat.le_of_ble_eq_true rfl) (eX12_writeDuration (107, .invokevirtual 472, 3) (List.mem_of_getElem? (i := 54) rfl)) (fun r63 s63 t63 lo63 g63 f63 l63 => ?_)
          obtain ⟨q63, z63, c63, j63⟩ := f63
          cases q63
          rw [g63] at c63
          have hh63 : zh_ok D cA RTg ro sz H0 t63.heap lo63 := ⟨z63.1, z63.2.1, l63, z63.2.2.2⟩
          have kp63 := kp59.trans (c63.mono (ms' := [(11, 0), (11, 15), (11, 18), (11, 19), (11, 20), (31, 0)]) (by decide))
          have mf63_a_0 := (c63.1 a 11 0 11 0 fsX12 ha rfl (by decide) (by decide)).trans mf59_a_0
          refine W.eq (g2 := F0 m 110 ls47 []) rfl ?_
          refine lv_aload_n hx hb (eX12_writeDuration (110, .aload_n 0, 1) (List.mem_of_getElem? (i := 55) rfl)) rfl (lv_at hl47 1 rfl) ?_
          refine lv_lload_n hx hb (eX12_writeDuration (111, .lload_n 3, 1) (List.mem_of_getElem? (i := 56) rfl)) rfl (lv_at hl47 3 rfl) ?_
          refine ff_bipush hx hb (eX12_writeDuration (112, .bipush 68, 2) (List.mem_of_getElem? (i := 57) rfl)) (by decide) (by decide) (fun v64 e64 => ?_)
          refine tz_rowV (As := [.long da, .int v64]) (st := []) (b := a) (C := RX12) (Ts := gT) hx hb hml hown h2 (fun _ h => h) (hX12_putCount l D cA ro sz H0 a da v64 ([] ++ [v54.toInt] ++ cnL v57.toInt v58.toInt ++ cnL v61.toInt v62.toInt) ha (by omega) (by omega) (by omega) (by have hcl0 := cnL_len v57.toInt v58.toInt; have hcl1 := cnL_len v61.toInt v62.toInt; (try simp only [List.length_append, List.length_cons, List.length_nil, dgL_len]); omega)) ⟨rfl, rfl⟩ ⟨by decide, by decide⟩ ⟨by decide, by decide⟩ (tb_8 191 rfl rfl) (tb_1 12 rfl rfl) (tb_8 188 rfl rfl) (tb_8 190 rfl rfl) (tb_0 61 rfl rfl) (show yX12_putCount.cls ≠ "java/lang/invoke/MethodHandle" ∧ yX12_putCount.cls ≠ "java/lang/invoke/VarHandle" ∧ (parseMethodDescriptor yX12_putCount.desc).map (fun d => d.parameters.length) = some 2 by decide +kernel) zs_blind (zs_ob hh63 ha (show RTg[11]? = some (0, 11, 0, fsX12) from rfl) (zCX12 hKn.1)) (fun U hU hW => ⟨rfl, by rw [hU]; exact hh63.l0, zKb s U hW.alike hKn, by rw [hU]; exact j63⟩) hh63.2.2.1 hl47.1 (Nat.le_of_ble_eq_true rfl) (eX12_writeDuration (114, .invokevirtual 472, 3) (List.mem_of_getElem? (i := 58) rfl)) (fun r65 s65 t65 lo65 g65 f65 l65 => ?_)
          obtain ⟨q65, z65, c65, j65⟩ := f65
          cases q65
          rw [g65] at c65
          have hh65 : zh_ok D cA RTg ro sz H0 t65.heap lo65 := ⟨z65.1, z65.2.1, l65, z65.2.2.2⟩
          have kp65 := kp63.trans (c65.mono (ms' := [(11, 0), (11, 15), (11, 18), (11, 19), (11, 20), (31, 0)]) (by decide))
          have mf65_a_0 := (c65.1 a 11 0 11 0 fsX12 ha rfl (by decide) (by decide)).trans mf63_a_0
          refine W.eq (g2 := F0 m 117 ls47 []) rfl ?_
          have j148 : ∀ (nv : Int32) (ls : Array Slot), ((nv.toInt = 1 ∧ (mo.toInt = 0 ∧ da.toInt = 0 ∧ se.toInt = 0 ∧ na.toInt = 0)) ∨ (nv.toInt = 0 ∧ ¬ (mo.toInt = 0 ∧ da.toInt = 0 ∧ se.toInt = 0 ∧ na.toInt = 0))) → lv_has ls 12 [(9, .int nv), (8, .int v46), (0, .ref a), (1, .long mo), (3, .long da), (5, .long se), (7, .int na)] → W p l e (headSpec (gW yX12_writeDuration cX12_writeDuration 12 (some .int)) { frames := 4, cells := 0, slots := 0, locals := 95 }).room s m ([.ref a, .long mo, .long da, .long se, .int na] : List Value).toArray below meth c t65.heap lo65 0 0 (MQ below (zk_QR D cA ro sz H0 a vI (spU mo.toInt da.toInt se.toInt na.toInt T O)) ([.ref a, .long mo, .long da, .long se, .int na] : List Value).toArray s 0 0 (zy_fr sz)) (F0 m 148 ls []) := by
            intro nv ls hcond148 hl
            have j165 : ∀ (ls : Array Slot), (0 < se.toInt ∨ 0 < na.toInt ∨ (mo.toInt = 0 ∧ da.toInt = 0 ∧ se.toInt = 0 ∧ na.toInt = 0)) → lv_has ls 12 [(9, .int nv), (8, .int v46), (0, .ref a), (1, .long mo), (3, .long da), (5, .long se), (7, .int na)] → W p l e (headSpec (gW yX12_writeDuration cX12_writeDuration 12 (some .int)) { frames := 4, cells := 0, slots := 0, locals := 95 }).room s m ([.ref a, .long mo, .long da, .long se, .int na] : List Value).toArray below meth c t65.heap lo65 0 0 (MQ below (zk_QR D cA ro sz H0 a vI (spU mo.toInt da.toInt se.toInt na.toInt T O)) ([.ref a, .long mo, .long da, .long se, .int na] : List Value).toArray s 0 0 (zy_fr sz)) (F0 m 165 ls []) := by
              intro ls hcond165 hl
              refine lv_aload_n hx hb (eX12_writeDuration (165, .aload_n 0, 1) (List.mem_of_getElem? (i := 85) rfl)) rfl (lv_at hl 2 rfl) ?_
              refine ff_bipush hx hb (eX12_writeDuration (166, .bipush 84, 2) (List.mem_of_getElem? (i := 86) rfl)) (by decide) (by decide) (fun v66 e66 => ?_)
              refine tz_rowV (As := [.int v66]) (st := []) (b := a) (C := RX12) (Ts := gT) hx hb hml hown h2 (fun _ h => h) (hX12_put l D cA ro sz H0 a v66 ([] ++ [v54.toInt] ++ cnL v57.toInt v58.toInt ++ cnL v61.toInt v62.toInt ++ cnL da.toInt v64.toInt) ha (by omega) (by omega) (by have hcl0 := cnL_len v57.toInt v58.toInt; have hcl1 := cnL_len v61.toInt v62.toInt; have hcl2 := cnL_len da.toInt v64.toInt; (try simp only [List.length_append, List.length_cons, List.length_nil, dgL_len]); omega)) ⟨rfl, rfl⟩ ⟨by decide, by decide⟩ ⟨by decide, by decide⟩ (tb_8 173 rfl rfl) (tb_1 12 rfl rfl) (tb_8 170 rfl rfl) (tb_8 172 rfl rfl) (tb_0 59 rfl rfl) (show yX12_put.cls ≠ "java/lang/invoke/MethodHandle" ∧ yX12_put.cls ≠ "java/lang/invoke/VarHandle" ∧ (parseMethodDescriptor yX12_put.desc).map (fun d => d.parameters.length) = some 1 by decide +kernel) zs_blind (zs_ob hh65 ha (show RTg[11]? = some (0, 11, 0, fsX12) from rfl) (zCX12 hKn.1)) (fun U hU hW => ⟨rfl, by rw [hU]; exact hh65.l0, zKb s U hW.alike hKn, by rw [hU]; exact j65⟩) hh65.2.2.1 hl.1 (Nat.le_of_ble_eq_true rfl) (eX12_writeDuration (168, .invokevirtual 450, 3) (List.mem_of_getElem? (i := 87) rfl)) (fun r67 s67 t67 lo67 g67 f67 l67 => ?_)
              obtain ⟨q67, z67, c67, j67⟩ := f67
              cases q67
              rw [g67] at c67
              have hh67 : zh_ok D cA RTg ro sz H0 t67.heap lo67 := ⟨z67.1, z67.2.1, l67, z67.2.2.2⟩
              have kp67 := kp65.trans (c67.mono (ms' := [(11, 0), (11, 15), (11, 18), (11, 19), (11, 20), (31, 0)]) (by decide))
              have mf67_a_0 := (c67.1 a 11 0 11 0 fsX12 ha rfl (by decide) (by decide)).trans mf65_a_0
              refine W.eq (g2 := F0 m 171 ls []) rfl ?_
              refine lv_aload_n hx hb (eX12_writeDuration (171, .aload_n 0, 1) (List.mem_of_getElem? (i := 88) rfl)) rfl (lv_at hl 2 rfl) ?_
              refine lv_lload hx hb (eX12_writeDuration (172, .lload 5, 2) (List.mem_of_getElem? (i := 89) rfl)) (lv_at hl 5 rfl) ?_
              refine ff_ldc2 (n := 3600) hx hb hown h2 (clX12_ok 424 3600 (List.mem_of_getElem? (i := 38) rfl)) (eX12_writeDuration (174, .ldc2_w 424, 3) (List.mem_of_getElem? (i := 90) rfl)) (fun v68 e68 => ?_)
              refine ff_ldivP hx hb (eX12_writeDuration (177, .ldiv, 1) (List.mem_of_getElem? (i := 91) rfl)) (by omega) (e68) (by decide) (fun v69 e69 => ?_)
              refine ff_bipush hx hb (eX12_writeDuration (178, .bipush 72, 2) (List.mem_of_getElem? (i := 92) rfl)) (by decide) (by decide) (fun v70 e70 => ?_)
              refine tz_rowV (As := [.long v69, .int v70]) (st := []) (b := a) (C := RX12) (Ts := gT) hx hb hml hown h2 (fun _ h => h) (hX12_putCount l D cA ro sz H0 a v69 v70 ([] ++ [v54.toInt] ++ cnL v57.toInt v58.toInt ++ cnL v61.toInt v62.toInt ++ cnL da.toInt v64.toInt ++ [v66.toInt]) ha (by omega) (by omega) (by omega) (by have hcl0 := cnL_len v57.toInt v58.toInt; have hcl1 := cnL_len v61.toInt v62.toInt; have hcl2 := cnL_len da.toInt v64.toInt; (try simp only [List.length_append, List.length_cons, List.length_nil, dgL_len]); omega)) ⟨rfl, rfl⟩ ⟨by decide, by decide⟩ ⟨by decide, by decide⟩ (tb_8 191 rfl rfl) (tb_1 12 rfl rfl) (tb_8 188 rfl rfl) (tb_8 190 rfl rfl) (tb_0 61 rfl rfl) (show yX12_putCount.cls ≠ "java/lang/invoke/MethodHandle" ∧ yX12_putCount.cls ≠ "java/lang/invoke/VarHandle" ∧ (parseMethodDescriptor yX12_putCount.desc).map (fun d => d.parameters.length) = some 2 by decide +kernel) zs_blind (zs_ob hh67 ha (show RTg[11]? = some (0, 11, 0, fsX12) from rfl) (zCX12 hKn.1)) (fun U hU hW => ⟨rfl, by rw [hU]; exact hh67.l0, zKb s U hW.alike hKn, by rw [hU]; exact j67⟩) hh67.2.2.1 hl.1 (Nat.le_of_ble_eq_true rfl) (eX12_writeDuration (180, .invokevirtual 472, 3) (List.mem_of_getElem? (i := 93) rfl)) (fun r71 s71 t71 lo71 g71 f71 l71 => ?_)
              obtain ⟨q71, z71, c71, j71⟩ := f71
              cases q71
              rw [g71] at c71
              have hh71 : zh_ok D cA RTg ro sz H0 t71.heap lo71 := ⟨z71.1, z71.2.1, l71, z71.2.2.2⟩
              have kp71 := kp67.trans (c71.mono (ms' := [(11, 0), (11, 15), (11, 18), (11, 19), (11, 20), (31, 0)]) (by decide))
              have mf71_a_0 := (c71.1 a 11 0 11 0 fsX12 ha rfl (by decide) (by decide)).trans mf67_a_0
              refine W.eq (g2 := F0 m 183 ls []) rfl ?_
              refine lv_aload_n hx hb (eX12_writeDuration (183, .aload_n 0, 1) (List.mem_of_getElem? (i := 94) rfl)) rfl (lv_at hl 2 rfl) ?_
              refine lv_lload hx hb (eX12_writeDuration (184, .lload 5, 2) (List.mem_of_getElem? (i := 95) rfl)) (lv_at hl 5 rfl) ?_
              refine ff_ldc2 (n := 60) hx hb hown h2 (clX12_ok 178 60 (List.mem_of_getElem? (i := 20) rfl)) (eX12_writeDuration (186, .ldc2_w 178, 3) (List.mem_of_getElem? (i := 96) rfl)) (fun v72 e72 => ?_)
              refine ff_ldivP hx hb (eX12_writeDuration (189, .ldiv, 1) (List.mem_of_getElem? (i := 97) rfl)) (by omega) (e72) (by decide) (fun v73 e73 => ?_)
              refine ff_ldc2 (n := 60) hx hb hown h2 (clX12_ok 178 60 (List.mem_of_getElem? (i := 20) rfl)) (eX12_writeDuration (190, .ldc2_w 178, 3) (List.mem_of_getElem? (i := 98) rfl)) (fun v74 e74 => ?_)
              refine ff_lremP hx hb (eX12_writeDuration (193, .lrem, 1) (List.mem_of_getElem? (i := 99) rfl)) (by omega) (e74) (by decide) (fun v75 e75 => ?_)
              refine ff_bipush hx hb (eX12_writeDuration (194, .bipush 77, 2) (List.mem_of_getElem? (i := 100) rfl)) (by decide) (by decide) (fun v76 e76 => ?_)
              refine tz_rowV (As := [.long v75, .int v76]) (st := []) (b := a) (C := RX12) (Ts := gT) hx hb hml hown h2 (fun _ h => h) (hX12_putCount l D cA ro sz H0 a v75 v76 ([] ++ [v54.toInt] ++ cnL v57.toInt v58.toInt ++ cnL v61.toInt v62.toInt ++ cnL da.toInt v64.toInt ++ [v66.toInt] ++ cnL v69.toInt v70.toInt) ha (by omega) (by omega) (by omega) (by have hcl0 := cnL_len v57.toInt v58.toInt; have hcl1 := cnL_len v61.toInt v62.toInt; have hcl2 := cnL_len da.toInt v64.toInt; have hcl3 := cnL_len v69.toInt v70.toInt; (try simp only [List.length_append, List.length_cons, List.length_nil, dgL_len]); omega)) ⟨rfl, rfl⟩ ⟨by decide, by decide⟩ ⟨by decide, by decide⟩ (tb_8 191 rfl rfl) (tb_1 12 rfl rfl) (tb_8 188 rfl rfl) (tb_8 190 rfl rfl) (tb_0 61 rfl rfl) (show yX12_putCount.cls ≠ "java/lang/invoke/MethodHandle" ∧ yX12_putCount.cls ≠ "java/lang/invoke/VarHandle" ∧ (parseMethodDescriptor yX12_putCount.desc).map (fun d => d.parameters.length) = some 2 by decide +kernel) zs_blind (zs_ob hh71 ha (show RTg[11]? = some (0, 11, 0, fsX12) from rfl) (zCX12 hKn.1)) (fun U hU hW => ⟨rfl, by rw [hU]; exact hh71.l0, zKb s U hW.alike hKn, by rw [hU]; exact j71⟩) hh71.2.2.1 hl.1 (Nat.le_of_ble_eq_true rfl) (eX12_writeDuration (196, .invokevirtual 472, 3) (List.mem_of_getElem? (i := 101) rfl)) (fun r77 s77 t77 lo77 g77 f77 l77 => ?_)
              obtain ⟨q77, z77, c77, j77⟩ := f77
              cases q77
              rw [g77] at c77
              have hh77 : zh_ok D cA RTg ro sz H0 t77.heap lo77 := ⟨z77.1, z77.2.1, l77, z77.2.2.2⟩
              have kp77 := kp71.trans (c77.mono (ms' := [(11, 0), (11, 15), (11, 18), (11, 19), (11, 20), (31, 0)]) (by decide))
              have mf77_a_0 := (c77.1 a 11 0 11 0 fsX12 ha rfl (by decide) (by decide)).trans mf71_a_0
              refine W.eq (g2 := F0 m 199 ls []) rfl ?_
              have j220 : ∀ (ls : Array Slot), (0 < se.toInt % 60 ∨ 0 < na.toInt ∨ (mo.toInt = 0 ∧ da.toInt = 0 ∧ se.toInt = 0 ∧ na.toInt = 0)) → lv_has ls 12 [(9, .int nv), (8, .int v46), (0, .ref a), (1, .long mo), (3, .long da), (5, .long se), (7, .int na)] → W p l e (headSpec (gW yX12_writeDuration cX12_writeDuration 12 (some .int)) { frames := 4, cells := 0, slots := 0, locals := 95 }).room s m ([.ref a, .long mo, .long da, .long se, .int na] : List Value).toArray below meth c t77.heap lo77 0 0 (MQ below (zk_QR D cA ro sz H0 a vI (spU mo.toInt da.toInt se.toInt na.toInt T O)) ([.ref a, .long mo, .long da, .long se, .int na] : List Value).toArray s 0 0 (zy_fr sz)) (F0 m 220 ls []) := by
                intro ls hcond220 hl
                refine lv_aload_n hx hb (eX12_writeDuration (220, .aload_n 0, 1) (List.mem_of_getElem? (i := 112) rfl)) rfl (lv_at hl 2 rfl) ?_
                refine lv_lload hx hb (eX12_writeDuration (221, .lload 5, 2) (List.mem_of_getElem? (i := 113) rfl)) (lv_at hl 5 rfl) ?_
                refine ff_ldc2 (n := 60) hx hb hown h2 (clX12_ok 178 60 (List.mem_of_getElem? (i := 20) rfl)) (eX12_writeDuration (223, .ldc2_w 178, 3) (List.mem_of_getElem? (i := 114) rfl)) (fun v78 e78 => ?_)
                refine ff_lremP hx hb (eX12_writeDuration (226, .lrem, 1) (List.mem_of_getElem? (i := 115) rfl)) (by omega) (e78) (by decide) (fun v79 e79 => ?_)
                refine tz_rowV (As := [.long v79]) (st := []) (b := a) (C := RX12) (Ts := gT) hx hb hml hown h2 (fun _ h => h) (hX12_putPlain l D cA ro sz H0 a v79 ([] ++ [v54.toInt] ++ cnL v57.toInt v58.toInt ++ cnL v61.toInt v62.toInt ++ cnL da.toInt v64.toInt ++ [v66.toInt] ++ cnL v69.toInt v70.toInt ++ cnL v75.toInt v76.toInt) ha (by omega) (by omega) (by have hcl0 := cnL_len v57.toInt v58.toInt; have hcl1 := cnL_len v61.toInt v62.toInt; have hcl2 := cnL_len da.toInt v64.toInt; have hcl3 := cnL_len v69.toInt v70.toInt; have hcl4 := cnL_len v75.toInt v76.toInt; (try simp only [List.length_append, List.length_cons, List.length_nil, dgL_len]); have hnl := ndN_le 13 v79.toInt; omega)) ⟨rfl, rfl⟩ ⟨by decide, by decide⟩ ⟨by decide, by decide⟩ (tb_8 195 rfl rfl) (tb_1 12 rfl rfl) (tb_8 192 rfl rfl) (tb_8 194 rfl rfl) (tb_0 62 rfl rfl) (show yX12_putPlain.cls ≠ "java/lang/invoke/MethodHandle" ∧ yX12_putPlain.cls ≠ "java/lang/invoke/VarHandle" ∧ (parseMethodDescriptor yX12_putPlain.desc).map (fun d => d.parameters.length) = some 1 by decide +kernel) zs_blind (zs_ob hh77 ha (show RTg[11]? = some (0, 11, 0, fsX12) from rfl) (zCX12 hKn.1)) (fun U hU hW => ⟨rfl, by rw [hU]; exact hh77.l0, zKb s U hW.alike hKn, by rw [hU]; exact j77⟩) hh77.2.2.1 hl.1 (Nat.le_of_ble_eq_true rfl) (eX12_writeDuration (227, .invokevirtual 467, 3) (List.mem_of_getElem? (i := 116) rfl)) (fun r80 s80 t80 lo80 g80 f80 l80 => ?_)
                obtain ⟨q80, z80, c80, j80⟩ := f80
                cases q80
                rw [g80] at c80
                have hh80 : zh_ok D cA RTg ro sz H0 t80.heap lo80 := ⟨z80.1, z80.2.1, l80, z80.2.2.2⟩
                have kp80 := kp77.trans (c80.mono (ms' := [(11, 0), (11, 15), (11, 18), (11, 19), (11, 20), (31, 0)]) (by decide))
                have mf80_a_0 := (c80.1 a 11 0 11 0 fsX12 ha rfl (by decide) (by decide)).trans mf77_a_0
                refine W.eq (g2 := F0 m 230 ls []) rfl ?_
                refine ff_bipush hx hb (eX12_writeDuration (230, .bipush 9, 2) (List.mem_of_getElem? (i := 117) rfl)) (by decide) (by decide) (fun v81 e81 => ?_)
                refine lv_istore hx hb (eX12_writeDuration (232, .istore 10, 2) (List.mem_of_getElem? (i := 118) rfl)) hl (by decide) rfl (fun ls82 hl82 => ?_)
                refine lv_iload hx hb (eX12_writeDuration (234, .iload 7, 2) (List.mem_of_getElem? (i := 119) rfl)) (lv_at hl82 7 rfl) ?_
                refine lv_istore hx hb (eX12_writeDuration (236, .istore 11, 2) (List.mem_of_getElem? (i := 120) rfl)) hl82 (by decide) rfl (fun ls83 hl83 => ?_)
                have loop : ∀ (d0 : Nat) (rv dv : Int32) (ls : Array Slot), dv.toInt = (d0 : Int) → d0 ≤ 9 → 0 ≤ rv.toInt → zdN 9 na.toInt = zdN d0 rv.toInt → lv_has ls 12 [(11, .int rv), (10, .int dv), (9, .int nv), (8, .int v46), (0, .ref a), (1, .long mo), (3, .long da), (5, .long se), (7, .int na)] → W p l e (headSpec (gW yX12_writeDuration cX12_writeDuration 12 (some .int)) { frames := 4, cells := 0, slots := 0, locals := 95 }).room s m ([.ref a, .long mo, .long da, .long se, .int na] : List Value).toArray below meth c t80.heap lo80 0 0 (MQ below (zk_QR D cA ro sz H0 a vI (spU mo.toInt da.toInt se.toInt na.toInt T O)) ([.ref a, .long mo, .long da, .long se, .int na] : List Value).toArray s 0 0 (zy_fr sz)) (F0 m 238 ls []) := by
                  intro d0
                  induction d0 with
                  | zero =>
                    intro rv dv ls hdv hd8 hr0 hzd hl
                    refine lv_iload hx hb (eX12_writeDuration (238, .iload 10, 2) (List.mem_of_getElem? (i := 121) rfl)) (lv_at hl 1 rfl) ?_
                    refine ff_if_le hx hb (eX12_writeDuration (240, .ifCond .le 24, 3) (List.mem_of_getElem? (i := 122) rfl)) (tgt := 264) rfl (fun c84 => ?_) (fun c84 => (by exfalso; omega))
                    have hzf : zdN 9 na.toInt = 0 := hzd
                    refine lv_aload_n hx hb (eX12_writeDuration (264, .aload_n 0, 1) (List.mem_of_getElem? (i := 133) rfl)) rfl (lv_at hl 4 rfl) ?_
                    refine lv_iload hx hb (eX12_writeDuration (265, .iload 7, 2) (List.mem_of_getElem? (i := 134) rfl)) (lv_at hl 8 rfl) ?_
                    refine lv_iload hx hb (eX12_writeDuration (267, .iload 10, 2) (List.mem_of_getElem? (i := 135) rfl)) (lv_at hl 1 rfl) ?_
                    refine tz_rowV (As := [.int na, .int dv]) (st := []) (b := a) (C := RX12) (Ts := gT) hx hb hml hown h2 (fun _ h => h) (hX12_putPart l D cA ro sz H0 a na dv (zdN 9 na.toInt) ([] ++ [v54.toInt] ++ cnL v57.toInt v58.toInt ++ cnL v61.toInt v62.toInt ++ cnL da.toInt v64.toInt ++ [v66.toInt] ++ cnL v69.toInt v70.toInt ++ cnL v75.toInt v76.toInt ++ dgL (ndN 13 v79.toInt) v79.toInt) ha (by omega) (by omega) (by omega) (by have hcl0 := cnL_len v57.toInt v58.toInt; have hcl1 := cnL_len v61.toInt v62.toInt; have hcl2 := cnL_len da.toInt v64.toInt; have hcl3 := cnL_len v69.toInt v70.toInt; have hcl4 := cnL_len v75.toInt v76.toInt; (try simp only [List.length_append, List.length_cons, List.length_nil, dgL_len]); have hnl := ndN_le 13 v79.toInt; have hz9 := zdN_le 9 na.toInt; omega)) ⟨rfl, rfl⟩ ⟨by decide, by decide⟩ ⟨by decide, by decide⟩ (tb_8 182 rfl rfl) (tb_1 12 rfl rfl) (tb_8 179 rfl rfl) (tb_8 181 rfl rfl) (tb_0 60 rfl rfl) (show yX12_putPart.cls ≠ "java/lang/invoke/MethodHandle" ∧ yX12_putPart.cls ≠ "java/lang/invoke/VarHandle" ∧ (parseMethodDescriptor yX12_putPart.desc).map (fun d => d.parameters.length) = some 2 by decide +kernel) zs_blind (zs_ob hh80 ha (show RTg[11]? = some (0, 11, 0, fsX12) from rfl) (zCX12 hKn.1)) (fun U hU hW => ⟨rfl, by rw [hU]; exact hh80.l0, zKb s U hW.alike hKn, by rw [hU]; exact j80⟩) hh80.2.2.1 hl.1 (Nat.le_of_ble_eq_true rfl) (eX12_writeDuration (269, .invokevirtual 464, 3) (List.mem_of_getElem? (i := 136) rfl)) (fun r85 s85 t85 lo85 g85 f85 l85 => ?_)
                    obtain ⟨q85, z85, c85, j85⟩ := f85
                    cases q85
                    rw [g85] at c85
                    have hh85 : zh_ok D cA RTg ro sz H0 t85.heap lo85 := ⟨z85.1, z85.2.1, l85, z85.2.2.2⟩
                    have kp85 := kp80.trans (c85.mono (ms' := [(11, 0), (11, 15), (11, 18), (11, 19), (11, 20), (31, 0)]) (by decide))
                    have mf85_a_0 := (c85.1 a 11 0 11 0 fsX12 ha rfl (by decide) (by decide)).trans mf80_a_0
                    refine W.eq (g2 := F0 m 272 ls []) rfl ?_
                    refine lv_aload_n hx hb (eX12_writeDuration (272, .aload_n 0, 1) (List.mem_of_getElem? (i := 137) rfl)) rfl (lv_at hl 4 rfl) ?_
                    refine ff_bipush hx hb (eX12_writeDuration (273, .bipush 83, 2) (List.mem_of_getElem? (i := 138) rfl)) (by decide) (by decide) (fun v86 e86 => ?_)
                    refine tz_rowV (As := [.int v86]) (st := []) (b := a) (C := RX12) (Ts := gT) hx hb hml hown h2 (fun _ h => h) (hX12_put l D cA ro sz H0 a v86 ([] ++ [v54.toInt] ++ cnL v57.toInt v58.toInt ++ cnL v61.toInt v62.toInt ++ cnL da.toInt v64.toInt ++ [v66.toInt] ++ cnL v69.toInt v70.toInt ++ cnL v75.toInt v76.toInt ++ dgL (ndN 13 v79.toInt) v79.toInt ++ ptL na.toInt (zdN 9 na.toInt)) ha (by omega) (by omega) (by have hcl0 := cnL_len v57.toInt v58.toInt; have hcl1 := cnL_len v61.toInt v62.toInt; have hcl2 := cnL_len da.toInt v64.toInt; have hcl3 := cnL_len v69.toInt v70.toInt; have hcl4 := cnL_len v75.toInt v76.toInt; (try simp only [List.length_append, List.length_cons, List.length_nil, dgL_len]); have hnl := ndN_le 13 v79.toInt; have hp9 := ptL_len na.toInt (zdN 9 na.toInt); have hz9 := zdN_le 9 na.toInt; omega)) ⟨rfl, rfl⟩ ⟨by decide, by decide⟩ ⟨by decide, by decide⟩ (tb_8 173 rfl rfl) (tb_1 12 rfl rfl) (tb_8 170 rfl rfl) (tb_8 172 rfl rfl) (tb_0 59 rfl rfl) (show yX12_put.cls ≠ "java/lang/invoke/MethodHandle" ∧ yX12_put.cls ≠ "java/lang/invoke/VarHandle" ∧ (parseMethodDescriptor yX12_put.desc).map (fun d => d.parameters.length) = some 1 by decide +kernel) zs_blind (zs_ob hh85 ha (show RTg[11]? = some (0, 11, 0, fsX12) from rfl) (zCX12 hKn.1)) (fun U hU hW => ⟨rfl, by rw [hU]; exact hh85.l0, zKb s U hW.alike hKn, by rw [hU]; exact j85⟩) hh85.2.2.1 hl.1 (Nat.le_of_ble_eq_true rfl) (eX12_writeDuration (275, .invokevirtual 450, 3) (List.mem_of_getElem? (i := 139) rfl)) (fun r87 s87 t87 lo87 g87 f87 l87 => ?_)
                    obtain ⟨q87, z87, c87, j87⟩ := f87
                    cases q87
                    rw [g87] at c87
                    have hh87 : zh_ok D cA RTg ro sz H0 t87.heap lo87 := ⟨z87.1, z87.2.1, l87, z87.2.2.2⟩
                    have kp87 := kp85.trans (c87.mono (ms' := [(11, 0), (11, 15), (11, 18), (11, 19), (11, 20), (31, 0)]) (by decide))
                    have mf87_a_0 := (c87.1 a 11 0 11 0 fsX12 ha rfl (by decide) (by decide)).trans mf85_a_0
                    refine W.eq (g2 := F0 m 278 ls []) rfl ?_
                    have hj88 := j87
                    obtain ⟨wb88, nw88, zw88, fa88, ra88, fb88, hn88, hc88, hz88⟩ := id hj88
                    refine lv_aload_n hx hb (eX12_writeDuration (278, .aload_n 0, 1) (List.mem_of_getElem? (i := 140) rfl)) rfl (lv_at hl 4 rfl) ?_
                    refine tz_get (r := 11) (k := 15) (t := (0, 0, 120)) hx hb hh87 ha rfl rfl (hcl11 447 15 (0, 0, 120) (by decide) rfl).1 fb88 (eX12_writeDuration (279, .getfield 447, 3) (List.mem_of_getElem? (i := 141) rfl)) ?_
                    have hO9 : [] ++ [v54.toInt] ++ cnL v57.toInt v58.toInt ++ cnL v61.toInt v62.toInt ++ cnL da.toInt v64.toInt ++ [v66.toInt] ++ cnL v69.toInt v70.toInt ++ cnL v75.toInt v76.toInt ++ dgL (ndN 13 v79.toInt) v79.toInt ++ ptL na.toInt (zdN 9 na.toInt) ++ [v86.toInt] = duL mo.toInt da.toInt se.toInt na.toInt := by
                      rw [show v57.toInt = mo.toInt / 12 by omega]
                      rw [show v58.toInt = 89 by omega]
                      rw [show v61.toInt = mo.toInt % 12 by omega]
                      rw [show v62.toInt = 77 by omega]
                      rw [show v64.toInt = 68 by omega]
                      rw [show v69.toInt = se.toInt / 3600 by omega]
                      rw [show v70.toInt = 72 by omega]
                      rw [show v75.toInt = se.toInt / 60 % 60 by omega]
                      rw [show v76.toInt = 77 by omega]
                      rw [show v54.toInt = 80 by omega]
                      rw [show v66.toInt = 84 by omega]
                      rw [show v86.toInt = 83 by omega]
                      unfold duL
                      rw [show v79.toInt = se.toInt % 60 by omega]
                      rw [if_pos (by omega), if_pos (by omega)]
                      unfold scL
                      by_cases hn0 : 0 < na.toInt
                      · rw [if_pos hn0]
                        simp only [List.nil_append, List.append_assoc]
                      · rw [if_neg hn0, show ptL na.toInt (zdN 9 na.toInt) = [] by rw [show na.toInt = 0 by omega]; rfl]
                        simp only [List.nil_append, List.append_nil, List.append_assoc]
                    have hj9 := hj88
                    rw [hO9] at hj9
                    have hl9 := hn88
                    rw [hO9] at hl9
                    have hok := duL_ok mo.toInt da.toInt se.toInt na.toInt
                    exact W.zret hx hb hr rfl (fun t ht hW => ⟨_, _, _, T, duL mo.toInt da.toInt se.toInt na.toInt, rfl, ⟨_, rfl, rfl⟩, by rw [ht]; exact hh87.l0, by rw [ht]; exact kp87.mono (by decide), by rw [ht]; exact mf87_a_0, by rw [ht]; exact ⟨hjt.kept ha kp87 (by decide) (by decide) (by decide), hj9, ⟨hkT, by have h7 := hok.2; omega, hok.1⟩⟩, rfl, Or.inr ⟨by omega, by unfold duV; omega, rfl, hl9⟩⟩) hh87.2.2.1 (eX12_writeDuration (282, .ireturn, 1) (List.mem_of_getElem? (i := 142) rfl))
                  | succ d0 ih =>
                    intro rv dv ls hdv hd8 hr0 hzd hl
                    refine lv_iload hx hb (eX12_writeDuration (238, .iload 10, 2) (List.mem_of_getElem? (i := 121) rfl)) (lv_at hl 1 rfl) ?_
                    refine ff_if_le hx hb (eX12_writeDuration (240, .ifCond .le 24, 3) (List.mem_of_getElem? (i := 122) rfl)) (tgt := 264) rfl (fun c89 => (by exfalso; omega)) (fun c89 => ?_)
                    refine lv_iload hx hb (eX12_writeDuration (243, .iload 11, 2) (List.mem_of_getElem? (i := 123) rfl)) (lv_at hl 0 rfl) ?_
                    refine ff_bipush hx hb (eX12_writeDuration (245, .bipush 10, 2) (List.mem_of_getElem? (i := 124) rfl)) (by decide) (by decide) (fun v90 e90 => ?_)
                    refine ff_iremP hx hb (eX12_writeDuration (247, .irem, 1) (List.mem_of_getElem? (i := 125) rfl)) (by omega) (e90) (by decide) (fun v91 e91 => ?_)
                    refine ff_if_ne hx hb (eX12_writeDuration (248, .ifCond .ne 16, 3) (List.mem_of_getElem? (i := 126) rfl)) (tgt := 264) rfl (fun c92 => ?_) (fun c92 => ?_)
                    · skip
                      have hzf := hzd.trans (zd_end (by omega))
                      refine lv_aload_n hx hb (eX12_writeDuration (264, .aload_n 0, 1) (List.mem_of_getElem? (i := 133) rfl)) rfl (lv_at hl 4 rfl) ?_
                      refine lv_iload hx hb (eX12_writeDuration (265, .iload 7, 2) (List.mem_of_getElem? (i := 134) rfl)) (lv_at hl 8 rfl) ?_
                      refine lv_iload hx hb (eX12_writeDuration (267, .iload 10, 2) (List.mem_of_getElem? (i := 135) rfl)) (lv_at hl 1 rfl) ?_
                      refine tz_rowV (As := [.int na, .int dv]) (st := []) (b := a) (C := RX12) (Ts := gT) hx hb hml hown h2 (fun _ h => h) (hX12_putPart l D cA ro sz H0 a na dv (zdN 9 na.toInt) ([] ++ [v54.toInt] ++ cnL v57.toInt v58.toInt ++ cnL v61.toInt v62.toInt ++ cnL da.toInt v64.toInt ++ [v66.toInt] ++ cnL v69.toInt v70.toInt ++ cnL v75.toInt v76.toInt ++ dgL (ndN 13 v79.toInt) v79.toInt) ha (by omega) (by omega) (by omega) (by have hcl0 := cnL_len v57.toInt v58.toInt; have hcl1 := cnL_len v61.toInt v62.toInt; have hcl2 := cnL_len da.toInt v64.toInt; have hcl3 := cnL_len v69.toInt v70.toInt; have hcl4 := cnL_len v75.toInt v76.toInt; (try simp only [List.length_append, List.length_cons, List.length_nil, dgL_len]); have hnl := ndN_le 13 v79.toInt; have hz9 := zdN_le 9 na.toInt; omega)) ⟨rfl, rfl⟩ ⟨by decide, by decide⟩ ⟨by decide, by decide⟩ (tb_8 182 rfl rfl) (tb_1 12 rfl rfl) (tb_8 179 rfl rfl) (tb_8 181 rfl rfl) (tb_0 60 rfl rfl) (show yX12_putPart.cls ≠ "java/lang/invoke/MethodHandle" ∧ yX12_putPart.cls ≠ "java/lang/invoke/VarHandle" ∧ (parseMethodDescriptor yX12_putPart.desc).map (fun d => d.parameters.length) = some 2 by decide +kernel) zs_blind (zs_ob hh80 ha (show RTg[11]? = some (0, 11, 0, fsX12) from rfl) (zCX12 hKn.1)) (fun U hU hW => ⟨rfl, by rw [hU]; exact hh80.l0, zKb s U hW.alike hKn, by rw [hU]; exact j80⟩) hh80.2.2.1 hl.1 (Nat.le_of_ble_eq_true rfl) (eX12_writeDuration (269, .invokevirtual 464, 3) (List.mem_of_getElem? (i := 136) rfl)) (fun r93 s93 t93 lo93 g93 f93 l93 => ?_)
                      obtain ⟨q93, z93, c93, j93⟩ := f93
                      cases q93
                      rw [g93] at c93
                      have hh93 : zh_ok D cA RTg ro sz H0 t93.heap lo93 := ⟨z93.1, z93.2.1, l93, z93.2.2.2⟩
                      have kp93 := kp80.trans (c93.mono (ms' := [(11, 0), (11, 15), (11, 18), (11, 19), (11, 20), (31, 0)]) (by decide))
                      have mf93_a_0 := (c93.1 a 11 0 11 0 fsX12 ha rfl (by decide) (by decide)).trans mf80_a_0
                      refine W.eq (g2 := F0 m 272 ls []) rfl ?_
                      refine lv_aload_n hx hb (eX12_writeDuration (272, .aload_n 0, 1) (List.mem_of_getElem? (i := 137) rfl)) rfl (lv_at hl 4 rfl) ?_
                      refine ff_bipush hx hb (eX12_writeDuration (273, .bipush 83, 2) (List.mem_of_getElem? (i := 138) rfl)) (by decide) (by decide) (fun v94 e94 => ?_)
                      refine tz_rowV (As := [.int v94]) (st := []) (b := a) (C := RX12) (Ts := gT) hx hb hml hown h2 (fun _ h => h) (hX12_put l D cA ro sz H0 a v94 ([] ++ [v54.toInt] ++ cnL v57.toInt v58.toInt ++ cnL v61.toInt v62.toInt ++ cnL da.toInt v64.toInt ++ [v66.toInt] ++ cnL v69.toInt v70.toInt ++ cnL v75.toInt v76.toInt ++ dgL (ndN 13 v79.toInt) v79.toInt ++ ptL na.toInt (zdN 9 na.toInt)) ha (by omega) (by omega) (by have hcl0 := cnL_len v57.toInt v58.toInt; have hcl1 := cnL_len v61.toInt v62.toInt; have hcl2 := cnL_len da.toInt v64.toInt; have hcl3 := cnL_len v69.toInt v70.toInt; have hcl4 := cnL_len v75.toInt v76.toInt; (try simp only [List.length_append, List.length_cons, List.length_nil, dgL_len]); have hnl := ndN_le 13 v79.toInt; have hp9 := ptL_len na.toInt (zdN 9 na.toInt); have hz9 := zdN_le 9 na.toInt; omega)) ⟨rfl, rfl⟩ ⟨by decide, by decide⟩ ⟨by decide, by decide⟩ (tb_8 173 rfl rfl) (tb_1 12 rfl rfl) (tb_8 170 rfl rfl) (tb_8 172 rfl rfl) (tb_0 59 rfl rfl) (show yX12_put.cls ≠ "java/lang/invoke/MethodHandle" ∧ yX12_put.cls ≠ "java/lang/invoke/VarHandle" ∧ (parseMethodDescriptor yX12_put.desc).map (fun d => d.parameters.length) = some 1 by decide +kernel) zs_blind (zs_ob hh93 ha (show RTg[11]? = some (0, 11, 0, fsX12) from rfl) (zCX12 hKn.1)) (fun U hU hW => ⟨rfl, by rw [hU]; exact hh93.l0, zKb s U hW.alike hKn, by rw [hU]; exact j93⟩) hh93.2.2.1 hl.1 (Nat.le_of_ble_eq_true rfl) (eX12_writeDuration (275, .invokevirtual 450, 3) (List.mem_of_getElem? (i := 139) rfl)) (fun r95 s95 t95 lo95 g95 f95 l95 => ?_)
                      obtain ⟨q95, z95, c95, j95⟩ := f95
                      cases q95
                      rw [g95] at c95
                      have hh95 : zh_ok D cA RTg ro sz H0 t95.heap lo95 := ⟨z95.1, z95.2.1, l95, z95.2.2.2⟩
                      have kp95 := kp93.trans (c95.mono (ms' := [(11, 0), (11, 15), (11, 18), (11, 19), (11, 20), (31, 0)]) (by decide))
                      have mf95_a_0 := (c95.1 a 11 0 11 0 fsX12 ha rfl (by decide) (by decide)).trans mf93_a_0
                      refine W.eq (g2 := F0 m 278 ls []) rfl ?_
                      have hj96 := j95
                      obtain ⟨wb96, nw96, zw96, fa96, ra96, fb96, hn96, hc96, hz96⟩ := id hj96
                      refine lv_aload_n hx hb (eX12_writeDuration (278, .aload_n 0, 1) (List.mem_of_getElem? (i := 140) rfl)) rfl (lv_at hl 4 rfl) ?_
                      refine tz_get (r := 11) (k := 15) (t := (0, 0, 120)) hx hb hh95 ha rfl rfl (hcl11 447 15 (0, 0, 120) (by decide) rfl).1 fb96 (eX12_writeDuration (279, .getfield 447, 3) (List.mem_of_getElem? (i := 141) rfl)) ?_
                      have hO9 : [] ++ [v54.toInt] ++ cnL v57.toInt v58.toInt ++ cnL v61.toInt v62.toInt ++ cnL da.toInt v64.toInt ++ [v66.toInt] ++ cnL v69.toInt v70.toInt ++ cnL v75.toInt v76.toInt ++ dgL (ndN 13 v79.toInt) v79.toInt ++ ptL na.toInt (zdN 9 na.toInt) ++ [v94.toInt] = duL mo.toInt da.toInt se.toInt na.toInt := by
                        rw [show v57.toInt = mo.toInt / 12 by omega]
                        rw [show v58.toInt = 89 by omega]
                        rw [show v61.toInt = mo.toInt % 12 by omega]
                        rw [show v62.toInt = 77 by omega]
                        rw [show v64.toInt = 68 by omega]
                        rw [show v69.toInt = se.toInt / 3600 by omega]
                        rw [show v70.toInt = 72 by omega]
                        rw [show v75.toInt = se.toInt / 60 % 60 by omega]
                        rw [show v76.toInt = 77 by omega]
                        rw [show v54.toInt = 80 by omega]
                        rw [show v66.toInt = 84 by omega]
                        rw [show v94.toInt = 83 by omega]
                        unfold duL
                        rw [show v79.toInt = se.toInt % 60 by omega]
                        rw [if_pos (by omega), if_pos (by omega)]
                        unfold scL
                        by_cases hn0 : 0 < na.toInt
                        · rw [if_pos hn0]
                          simp only [List.nil_append, List.append_assoc]
                        · rw [if_neg hn0, show ptL na.toInt (zdN 9 na.toInt) = [] by rw [show na.toInt = 0 by omega]; rfl]
                          simp only [List.nil_append, List.append_nil, List.append_assoc]
                      have hj9 := hj96
                      rw [hO9] at hj9
                      have hl9 := hn96
                      rw [hO9] at hl9
                      have hok := duL_ok mo.toInt da.toInt se.toInt na.toInt
                      exact W.zret hx hb hr rfl (fun t ht hW => ⟨_, _, _, T, duL mo.toInt da.toInt se.toInt na.toInt, rfl, ⟨_, rfl, rfl⟩, by rw [ht]; exact hh95.l0, by rw [ht]; exact kp95.mono (by decide), by rw [ht]; exact mf95_a_0, by rw [ht]; exact ⟨hjt.kept ha kp95 (by decide) (by decide) (by decide), hj9, ⟨hkT, by have h7 := hok.2; omega, hok.1⟩⟩, rfl, Or.inr ⟨by omega, by unfold duV; omega, rfl, hl9⟩⟩) hh95.2.2.1 (eX12_writeDuration (282, .ireturn, 1) (List.mem_of_getElem? (i := 142) rfl))
                    · skip
                      refine lv_iload hx hb (eX12_writeDuration (251, .iload 11, 2) (List.mem_of_getElem? (i := 127) rfl)) (lv_at hl 0 rfl) ?_
                      refine ff_bipush hx hb (eX12_writeDuration (253, .bipush 10, 2) (List.mem_of_getElem? (i := 128) rfl)) (by decide) (by decide) (fun v97 e97 => ?_)
                      refine ff_idivP hx hb (eX12_writeDuration (255, .idiv, 1) (List.mem_of_getElem? (i := 129) rfl)) (by omega) (e97) (by decide) (fun v98 e98 => ?_)
                      refine lv_istore hx hb (eX12_writeDuration (256, .istore 11, 2) (List.mem_of_getElem? (i := 130) rfl)) hl (by decide) rfl (fun ls99 hl99 => ?_)
                      refine ff_iinc (k := 1) hx hb (eX12_writeDuration (258, .iinc 10 (-1), 3) (List.mem_of_getElem? (i := 131) rfl)) hl99 rfl (by decide) (by decide) (by decide) (by omega) (by omega) (fun v100 e100 ls100 hl100 => ?_)
                      refine lv_goto hx hb (eX12_writeDuration (261, .goto (-23), 3) (List.mem_of_getElem? (i := 132) rfl)) (tgt := 238) rfl ?_
                      exact ih v98 v100 ls100 (by omega) (by omega) (by omega) (by rw [hzd, zd_go (by omega), show v98.toInt = rv.toInt / 10 by omega]) (lv_sub hl100 [1, 0, 2, 3, 4, 5, 6, 7, 8] rfl)
                exact loop 9 na v81 ls83 (by omega) (by omega) (by omega) (by rw [show na.toInt = na.toInt by omega]) (lv_sub hl83 [0, 1, 2, 3, 4, 5, 6, 7, 8] rfl)
              refine lv_lload hx hb (eX12_writeDuration (199, .lload 5, 2) (List.mem_of_getElem? (i := 102) rfl)) (lv_at hl 5 rfl) ?_
              refine ff_ldc2 (n := 60) hx hb hown h2 (clX12_ok 178 60 (List.mem_of_getElem? (i := 20) rfl)) (eX12_writeDuration (201, .ldc2_w 178, 3) (List.mem_of_getElem? (i := 103) rfl)) (fun v101 e101 => ?_)
              refine ff_lremP hx hb (eX12_writeDuration (204, .lrem, 1) (List.mem_of_getElem? (i := 104) rfl)) (by omega) (e101) (by decide) (fun v102 e102 => ?_)
              refine ff_lconst hx hb (eX12_writeDuration (205, .lconst 0, 1) (List.mem_of_getElem? (i := 105) rfl)) rfl (fun v103 e103 => ?_)
              refine ff_lcmp hx hb (eX12_writeDuration (206, .lcmp, 1) (List.mem_of_getElem? (i := 106) rfl)) (fun v104 e104 => ?_)
              refine ff_if_gt hx hb (eX12_writeDuration (207, .ifCond .gt 13, 3) (List.mem_of_getElem? (i := 107) rfl)) (tgt := 220) rfl (fun c105 => ?_) (fun c105 => ?_)
              · skip
                exact j220 ls (by omega) (lv_sub hl [0, 1, 2, 3, 4, 5, 6] rfl)
              · skip
                refine lv_iload hx hb (eX12_writeDuration (210, .iload 7, 2) (List.mem_of_getElem? (i := 108) rfl)) (lv_at hl 6 rfl) ?_
                refine ff_if_gt hx hb (eX12_writeDuration (212, .ifCond .gt 8, 3) (List.mem_of_getElem? (i := 109) rfl)) (tgt := 220) rfl (fun c106 => ?_) (fun c106 => ?_)
                · skip
                  exact j220 ls (by omega) (lv_sub hl [0, 1, 2, 3, 4, 5, 6] rfl)
                · skip
                  refine lv_iload hx hb (eX12_writeDuration (215, .iload 9, 2) (List.mem_of_getElem? (i := 110) rfl)) (lv_at hl 0 rfl) ?_
                  refine ff_if_eq hx hb (eX12_writeDuration (217, .ifCond .eq 61, 3) (List.mem_of_getElem? (i := 111) rfl)) (tgt := 278) rfl (fun c107 => ?_) (fun c107 => ?_)
                  · skip
                    have hj108 := j77
                    obtain ⟨wb108, nw108, zw108, fa108, ra108, fb108, hn108, hc108, hz108⟩ := id hj108
                    refine lv_aload_n hx hb (eX12_writeDuration (278, .aload_n 0, 1) (List.mem_of_getElem? (i := 140) rfl)) rfl (lv_at hl 2 rfl) ?_
                    refine tz_get (r := 11) (k := 15) (t := (0, 0, 120)) hx hb hh77 ha rfl rfl (hcl11 447 15 (0, 0, 120) (by decide) rfl).1 fb108 (eX12_writeDuration (279, .getfield 447, 3) (List.mem_of_getElem? (i := 141) rfl)) ?_
                    have hO9 : [] ++ [v54.toInt] ++ cnL v57.toInt v58.toInt ++ cnL v61.toInt v62.toInt ++ cnL da.toInt v64.toInt ++ [v66.toInt] ++ cnL v69.toInt v70.toInt ++ cnL v75.toInt v76.toInt = duL mo.toInt da.toInt se.toInt na.toInt := by
                      rw [show v57.toInt = mo.toInt / 12 by omega]
                      rw [show v58.toInt = 89 by omega]
                      rw [show v61.toInt = mo.toInt % 12 by omega]
                      rw [show v62.toInt = 77 by omega]
                      rw [show v64.toInt = 68 by omega]
                      rw [show v69.toInt = se.toInt / 3600 by omega]
                      rw [show v70.toInt = 72 by omega]
                      rw [show v75.toInt = se.toInt / 60 % 60 by omega]
                      rw [show v76.toInt = 77 by omega]
                      rw [show v54.toInt = 80 by omega]
                      rw [show v66.toInt = 84 by omega]
                      unfold duL
                      rw [if_pos (by omega), if_neg (by omega)]
                      simp only [List.nil_append, List.append_nil, List.append_assoc]
                    have hj9 := hj108
                    rw [hO9] at hj9
                    have hl9 := hn108
                    rw [hO9] at hl9
                    have hok := duL_ok mo.toInt da.toInt se.toInt na.toInt
                    exact W.zret hx hb hr rfl (fun t ht hW => ⟨_, _, _, T, duL mo.toInt da.toInt se.toInt na.toInt, rfl, ⟨_, rfl, rfl⟩, by rw [ht]; exact hh77.l0, by rw [ht]; exact kp77.mono (by decide), by rw [ht]; exact mf77_a_0, by rw [ht]; exact ⟨hjt.kept ha kp77 (by decide) (by decide) (by decide), hj9, ⟨hkT, by have h7 := hok.2; omega, hok.1⟩⟩, rfl, Or.inr ⟨by omega, by unfold duV; omega, rfl, hl9⟩⟩) hh77.2.2.1 (eX12_writeDuration (282, .ireturn, 1) (List.mem_of_getElem? (i := 142) rfl))
                  · skip
                    exact j220 ls (by omega) (lv_sub hl [0, 1, 2, 3, 4, 5, 6] rfl)
            refine lv_lload hx hb (eX12_writeDuration (148, .lload 5, 2) (List.mem_of_getElem? (i := 77) rfl)) (lv_at hl 5 rfl) ?_
            refine ff_lconst hx hb (eX12_writeDuration (150, .lconst 0, 1) (List.mem_of_getElem? (i := 78) rfl)) rfl (fun v109 e109 => ?_)
            refine ff_lcmp hx hb (eX12_writeDuration (151, .lcmp, 1) (List.mem_of_getElem? (i := 79) rfl)) (fun v110 e110 => ?_)
            refine ff_if_gt hx hb (eX12_writeDuration (152, .ifCond .gt 13, 3) (List.mem_of_getElem? (i := 80) rfl)) (tgt := 165) rfl (fun c111 => ?_) (fun c111 => ?_)
            · skip
              exact j165 ls (by omega) (lv_sub hl [0, 1, 2, 3, 4, 5, 6] rfl)
            · skip
              refine lv_iload hx hb (eX12_writeDuration (155, .iload 7, 2) (List.mem_of_getElem? (i := 81) rfl)) (lv_at hl 6 rfl) ?_
              refine ff_if_gt hx hb (eX12_writeDuration (157, .ifCond .gt 8, 3) (List.mem_of_getElem? (i := 82) rfl)) (tgt := 165) rfl (fun c112 => ?_) (fun c112 => ?_)
              · skip
                exact j165 ls (by omega) (lv_sub hl [0, 1, 2, 3, 4, 5, 6] rfl)
              · skip
                refine lv_iload hx hb (eX12_writeDuration (160, .iload 9, 2) (List.mem_of_getElem? (i := 83) rfl)) (lv_at hl 0 rfl) ?_
                refine ff_if_eq hx hb (eX12_writeDuration (162, .ifCond .eq 116, 3) (List.mem_of_getElem? (i := 84) rfl)) (tgt := 278) rfl (fun c113 => ?_) (fun c113 => ?_)
                · skip
                  have hj114 := j65
                  obtain ⟨wb114, nw114, zw114, fa114, ra114, fb114, hn114, hc114, hz114⟩ := id hj114
                  refine lv_aload_n hx hb (eX12_writeDuration (278, .aload_n 0, 1) (List.mem_of_getElem? (i := 140) rfl)) rfl (lv_at hl 2 rfl) ?_
                  refine tz_get (r := 11) (k := 15) (t := (0, 0, 120)) hx hb hh65 ha rfl rfl (hcl11 447 15 (0, 0, 120) (by decide) rfl).1 fb114 (eX12_writeDuration (279, .getfield 447, 3) (List.mem_of_getElem? (i := 141) rfl)) ?_
                  have hO9 : [] ++ [v54.toInt] ++ cnL v57.toInt v58.toInt ++ cnL v61.toInt v62.toInt ++ cnL da.toInt v64.toInt = duL mo.toInt da.toInt se.toInt na.toInt := by
                    rw [show v57.toInt = mo.toInt / 12 by omega]
                    rw [show v58.toInt = 89 by omega]
                    rw [show v61.toInt = mo.toInt % 12 by omega]
                    rw [show v62.toInt = 77 by omega]
                    rw [show v64.toInt = 68 by omega]
                    rw [show v54.toInt = 80 by omega]
                    unfold duL
                    rw [if_neg (by omega)]
                    simp only [List.nil_append, List.append_nil, List.append_assoc]
                  have hj9 := hj114
                  rw [hO9] at hj9
                  have hl9 := hn114
                  rw [hO9] at hl9
                  have hok := duL_ok mo.toInt da.toInt se.toInt na.toInt
                  exact W.zret hx hb hr rfl (fun t ht hW => ⟨_, _, _, T, duL mo.toInt da.toInt se.toInt na.toInt, rfl, ⟨_, rfl, rfl⟩, by rw [ht]; exact hh65.l0, by rw [ht]; exact kp65.mono (by decide), by rw [ht]; exact mf65_a_0, by rw [ht]; exact ⟨hjt.kept ha kp65 (by decide) (by decide) (by decide), hj9, ⟨hkT, by have h7 := hok.2; omega, hok.1⟩⟩, rfl, Or.inr ⟨by omega, by unfold duV; omega, rfl, hl9⟩⟩) hh65.2.2.1 (eX12_writeDuration (282, .ireturn, 1) (List.mem_of_getElem? (i := 142) rfl))
                · skip
                  exact j165 ls (by omega) (lv_sub hl [0, 1, 2, 3, 4, 5, 6] rfl)
          refine lv_lload_n hx hb (eX12_writeDuration (117, .lload_n 1, 1) (List.mem_of_getElem? (i := 59) rfl)) rfl (lv_at hl47 2 rfl) ?_
          refine ff_lconst hx hb (eX12_writeDuration (118, .lconst 0, 1) (List.mem_of_getElem? (i := 60) rfl)) rfl (fun v115 e115 => ?_)
          refine ff_lcmp hx hb (eX12_writeDuration (119, .lcmp, 1) (List.mem_of_getElem? (i := 61) rfl)) (fun v116 e116 => ?_)
          refine ff_if_ne hx hb (eX12_writeDuration (120, .ifCond .ne 25, 3) (List.mem_of_getElem? (i := 62) rfl)) (tgt := 145) rfl (fun c117 => ?_) (fun c117 => ?_)
          · skip
            refine ff_iconst hx hb (eX12_writeDuration (145, .iconst 0, 1) (List.mem_of_getElem? (i := 75) rfl)) (by decide) (by decide) (fun v118 e118 => ?_)
            refine lv_istore hx hb (eX12_writeDuration (146, .istore 9, 2) (List.mem_of_getElem? (i := 76) rfl)) hl47 (by decide) rfl (fun ls119 hl119 => ?_)
            exact j148 v118 ls119 (by omega) (lv_sub hl119 [0, 1, 2, 3, 4, 5, 6] rfl)
          · skip
            refine lv_lload_n hx hb (eX12_writeDuration (123, .lload_n 3, 1) (List.mem_of_getElem? (i := 63) rfl)) rfl (lv_at hl47 3 rfl) ?_
            refine ff_lconst hx hb (eX12_writeDuration (124, .lconst 0, 1) (List.mem_of_getElem? (i := 64) rfl)) rfl (fun v120 e120 => ?_)
            refine ff_lcmp hx hb (eX12_writeDuration (125, .lcmp, 1) (List.mem_of_getElem? (i := 65) rfl)) (fun v121 e121 => ?_)
            refine ff_if_ne hx hb (eX12_writeDuration (126, .ifCond .ne 19, 3) (List.mem_of_getElem? (i := 66) rfl)) (tgt := 145) rfl (fun c122 => ?_) (fun c122 => ?_)
            · skip
              refine ff_iconst hx hb (eX12_writeDuration (145, .iconst 0, 1) (List.mem_of_getElem? (i := 75) rfl)) (by decide) (by decide) (fun v123 e123 => ?_)
              refine lv_istore hx hb (eX12_writeDuration (146, .istore 9, 2) (List.mem_of_getElem? (i := 76) rfl)) hl47 (by decide) rfl (fun ls124 hl124 => ?_)
              exact j148 v123 ls124 (by omega) (lv_sub hl124 [0, 1, 2, 3, 4, 5, 6] rfl)
            · skip
              refine lv_lload hx hb (eX12_writeDuration (129, .lload 5, 2) (List.mem_of_getElem? (i := 67) rfl)) (lv_at hl47 4 rfl) ?_
              refine ff_lconst hx hb (eX12_writeDuration (131, .lconst 0, 1) (List.mem_of_getElem? (i := 68) rfl)) rfl (fun v125 e125 => ?_)
              refine ff_lcmp hx hb (eX12_writeDuration (132, .lcmp, 1) (List.mem_of_getElem? (i := 69) rfl)) (fun v126 e126 => ?_)
              refine ff_if_ne hx hb (eX12_writeDuration (133, .ifCond .ne 12, 3) (List.mem_of_getElem? (i := 70) rfl)) (tgt := 145) rfl (fun c127 => ?_) (fun c127 => ?_)
              · skip
                refine ff_iconst hx hb (eX12_writeDuration (145, .iconst 0, 1) (List.mem_of_getElem? (i := 75) rfl)) (by decide) (by decide) (fun v128 e128 => ?_)
                refine lv_istore hx hb (eX12_writeDuration (146, .istore 9, 2) (List.mem_of_getElem? (i := 76) rfl)) hl47 (by decide) rfl (fun ls129 hl129 => ?_)
                exact j148 v128 ls129 (by omega) (lv_sub hl129 [0, 1, 2, 3, 4, 5, 6] rfl)
              · skip
                refine lv_iload hx hb (eX12_writeDuration (136, .iload 7, 2) (List.mem_of_getElem? (i := 71) rfl)) (lv_at hl47 5 rfl) ?_
                refine ff_if_ne hx hb (eX12_writeDuration (138, .ifCond .ne 7, 3) (List.mem_of_getElem? (i := 72) rfl)) (tgt := 145) rfl (fun c130 => ?_) (fun c130 => ?_)
                · skip
                  refine ff_iconst hx hb (eX12_writeDuration (145, .iconst 0, 1) (List.mem_of_getElem? (i := 75) rfl)) (by decide) (by decide) (fun v131 e131 => ?_)
                  refine lv_istore hx hb (eX12_writeDuration (146, .istore 9, 2) (List.mem_of_getElem? (i := 76) rfl)) hl47 (by decide) rfl (fun ls132 hl132 => ?_)
                  exact j148 v131 ls132 (by omega) (lv_sub hl132 [0, 1, 2, 3, 4, 5, 6] rfl)
                · skip
                  refine ff_iconst hx hb (eX12_writeDuration (141, .iconst 1, 1) (List.mem_of_getElem? (i := 73) rfl)) (by decide) (by decide) (fun v133 e133 => ?_)
                  refine lv_goto hx hb (eX12_writeDuration (142, .goto 4, 3) (List.mem_of_getElem? (i := 74) rfl)) (tgt := 146) rfl ?_
                  refine lv_istore hx hb (eX12_writeDuration (146, .istore 9, 2) (List.mem_of_getElem? (i := 76) rfl)) hl47 (by decide) rfl (fun ls134 hl134 => ?_)
                  exact j148 v133 ls134 (by omega) (lv_sub hl134 [0, 1, 2, 3, 4, 5, 6] rfl)
