set_option maxRecDepth 100000 in
set_option maxHeartbeats 4000000 in
theorem hX12_writeInstant (l : Launch) (D : va_G) (cA : Nat → ClassId) (ro : Nat → Option Nat) (sz : Nat) (H0 : Heap) (a : Nat) (t0 : Int64) (na : Int32) (o : Int32) (dg : Int32) (L : List Int) (zc : Int) (T O : List Int) (ha : ro a = some 11)  : Met l yX12_writeInstant (gW yX12_writeInstant cX12_writeInstant 16 (some .int)) { frames := 3, cells := 0, slots := 0, locals := 72 } (zs_P D cA ro sz H0 (fun H => jRS D cA ro H a L zc ∧ jRK D cA ro H a T O) [.ref a, .long t0, .int na, .int o, .int dg]) (zk_QR D cA ro sz H0 a vI (spN t0.toInt na.toInt o.toInt dg.toInt L T O)) 0 0 (zy_fr sz) := by
  refine zy_ofW (cc := cX12_writeInstant) (maxL := 16) (ret := (some .int)) (by decide +kernel) rfl ?_
  intro p e s m args below meth c s1 B hml hv
  obtain ⟨rfl, hh, hKn, hJ⟩ := hv
  have hx := B.exec
  have hb := B.bytes
  have hr := B.returns
  have hlk := B.notSynchronized
  have hts0 := atoms_spec (ws := gW yX12_writeInstant cX12_writeInstant 16 (some .int)) B.pre
  have h2 : ∀ w ∈ gT, w.before ([.ref a, .long t0, .int na, .int o, .int dg] : List Value).toArray s = true := fun w hw => hts0 w (List.mem_cons_of_mem _ hw)
  have hown : s.vm.findClass RX12 = some m.cls := findClass_of_methodNamed B.named
  have hl := lv_entry [.ref a, .long t0, .int na, .int o, .int dg] (n := 16) (Nat.le_of_ble_eq_true rfl)
  rw [lg_entry_eq]
  generalize (lg_sl [.ref a, .long t0, .int na, .int o, .int dg] ++ List.replicate (16 - (lg_sl [.ref a, .long t0, .int na, .int o, .int dg]).length) Slot.unset).toArray = ls at hl ⊢
  have b_t0 := zn_i64 t0
  have b_na := zn_i32 na
  have b_o := zn_i32 o
  have b_dg := zn_i32 dg
  have hD := zD_all h2 hKn.1
  have hcl11 := fun (idx k : Nat) (t : zt_T) (h : (idx, 11, k) ∈ gfX12) (hk : fsX12[k]? = some t) => zf_clause (ro := ro) (ms := [(11, 0), (11, 15), (11, 18), (11, 19), (11, 20), (11, 21), (11, 22), (31, 0)]) h2 hown hKn.1 gfX12_ok (by decide +kernel) idx 11 k 11 0 fsX12 t h rfl hk
  have kp0 : zc_kept D RTg ro [(11, 0), (11, 15), (11, 18), (11, 19), (11, 20), (11, 21), (11, 22), (31, 0)] s.heap s.heap := zc_kept.refl
  obtain ⟨hjs, hjt, hjo, hkb⟩ := id hJ
  obtain ⟨wb, n, z, f0, r0, f1, hn, hc, hz⟩ := id hjo
  have hkT := hkb.1
  have hkO := hkb.2.1
  have hjl := hjs.2.2
  have hjL := hjl.2.1
  have hjr := hjs.1
  refine lv_aload_n hx hb (eX12_writeInstant (0, .aload_n 0, 1) (List.mem_of_getElem? (i := 0) rfl)) rfl (lv_at hl 0 rfl) ?_
  refine lv_lload_n hx hb (eX12_writeInstant (1, .lload_n 1, 1) (List.mem_of_getElem? (i := 1) rfl)) rfl (lv_at hl 1 rfl) ?_
  refine tz_rowV (As := [.long t0]) (st := []) (b := a) (C := RX12) (Ts := gT) hx hb hml hown h2 (fun _ h => h) (hX12_isInstant l D cA ro sz H0 a t0 L ha ) ⟨rfl, rfl⟩ ⟨by decide, by decide⟩ ⟨by decide, by decide⟩ (tb_7 141 rfl rfl) (tb_1 12 rfl rfl) (tb_7 138 rfl rfl) (tb_7 140 rfl rfl) (tb_0 13 rfl rfl) (show yX12_isInstant.cls ≠ "java/lang/invoke/MethodHandle" ∧ yX12_isInstant.cls ≠ "java/lang/invoke/VarHandle" ∧ (parseMethodDescriptor yX12_isInstant.desc).map (fun d => d.parameters.length) = some 1 by decide +kernel) zs_blind (zs_ob hh ha (show RTg[11]? = some (0, 11, 0, fsX12) from rfl) (zCX12 hKn.1)) (fun U hU hW => ⟨rfl, by rw [hU]; exact hh.l0, zKb s U hW.alike hKn, by rw [hU]; exact hjr⟩) hh.2.2.1 hl.1 (Nat.le_of_ble_eq_true rfl) (eX12_writeInstant (2, .invokevirtual 207, 3) (List.mem_of_getElem? (i := 2) rfl)) (fun r1 s1 t1 lo1 g1 f1 l1 => ?_)
  obtain ⟨z1, v1, q1, e1⟩ := f1
  cases q1
  rw [z1, g1]
  have hh1 : zh_ok D cA RTg ro sz H0 s.heap lo1 := ⟨hh.1, hh.2.1, l1, hh.2.2.2⟩
  refine W.eq (g2 := F0 m 5 ls [.int v1]) rfl ?_
  refine ff_if_eq hx hb (eX12_writeInstant (5, .ifCond .eq 41, 3) (List.mem_of_getElem? (i := 3) rfl)) (tgt := 46) rfl (fun c2 => ?_) (fun c2 => ?_)
  · skip
    refine ff_iconst hx hb (eX12_writeInstant (46, .iconst 0, 1) (List.mem_of_getElem? (i := 22) rfl)) (by decide) (by decide) (fun v3 e3 => ?_)
    refine lv_istore hx hb (eX12_writeInstant (47, .istore 6, 2) (List.mem_of_getElem? (i := 23) rfl)) hl (by decide) rfl (fun ls4 hl4 => ?_)
    refine lv_iload hx hb (eX12_writeInstant (49, .iload 6, 2) (List.mem_of_getElem? (i := 24) rfl)) (lv_at hl4 0 rfl) ?_
    refine ff_if_eq hx hb (eX12_writeInstant (51, .ifCond .eq 22, 3) (List.mem_of_getElem? (i := 25) rfl)) (tgt := 73) rfl (fun c5 => ?_) (fun c5 => (by exfalso; omega))
    refine lv_aload_n hx hb (eX12_writeInstant (73, .aload_n 0, 1) (List.mem_of_getElem? (i := 37) rfl)) rfl (lv_at hl4 1 rfl) ?_
    refine lv_iload hx hb (eX12_writeInstant (74, .iload 6, 2) (List.mem_of_getElem? (i := 38) rfl)) (lv_at hl4 0 rfl) ?_
    refine ff_if_eq hx hb (eX12_writeInstant (76, .ifCond .eq 7, 3) (List.mem_of_getElem? (i := 39) rfl)) (tgt := 83) rfl (fun c6 => ?_) (fun c6 => (by exfalso; omega))
    refine ff_iconst hx hb (eX12_writeInstant (83, .iconst 1, 1) (List.mem_of_getElem? (i := 42) rfl)) (by decide) (by decide) (fun v7 e7 => ?_)
    refine tz_put (r := 11) (k := 0) (t := (0, 0, 2)) hx hb hD hh1 ha rfl rfl ((hcl11 85 0 (0, 0, 2) (by decide) rfl).2 (by decide)) (tz_i (by omega) (by omega)) (eX12_writeInstant (84, .putfield 85, 3) (List.mem_of_getElem? (i := 43) rfl)) (fun H8 lo8 hh8 hf8 hk8 _ hq8 => ?_)
    have mf8_a_14 := (hk8.1 a 11 14 11 0 fsX12 ha rfl (by decide) (by decide)).trans f0
    have mf8_a_15 := (hk8.1 a 11 15 11 0 fsX12 ha rfl (by decide) (by decide)).trans f1
    have mc8_wb := (hk8.2 wb 31 0 2 160 _ r0 rfl (by decide)).trans hc
    have kp8 := kp0.trans (hk8.mono (ms' := [(11, 0), (11, 15), (11, 18), (11, 19), (11, 20), (11, 21), (11, 22), (31, 0)]) (fun x hx => by cases List.mem_singleton.mp hx; decide))
    have jm8 := hjo.kept ha hk8 (by decide) (by decide) (by decide)
    refine lv_aload_n hx hb (eX12_writeInstant (87, .aload_n 0, 1) (List.mem_of_getElem? (i := 44) rfl)) rfl (lv_at hl4 1 rfl) ?_
    refine tz_get (r := 11) (k := 0) (t := (0, 0, 2)) hx hb hh8 ha rfl rfl (hcl11 85 0 (0, 0, 2) (by decide) rfl).1 hf8 (eX12_writeInstant (88, .getfield 85, 3) (List.mem_of_getElem? (i := 45) rfl)) ?_
    refine ff_if_le hx hb (eX12_writeInstant (91, .ifCond .le 5, 3) (List.mem_of_getElem? (i := 46) rfl)) (tgt := 96) rfl (fun c9 => (by exfalso; omega)) (fun c9 => ?_)
    refine ff_iconst hx hb (eX12_writeInstant (94, .iconst 0, 1) (List.mem_of_getElem? (i := 47) rfl)) (by decide) (by decide) (fun v10 e10 => ?_)
    exact W.zret hx hb hr rfl (fun t ht hW => ⟨_, _, _, T, O, rfl, ⟨_, rfl, rfl⟩, by rw [ht]; exact hh8.l0, by rw [ht]; exact kp8.mono (by decide), by rw [ht]; exact hf8, by rw [ht]; exact ⟨hjt.kept ha kp8 (by decide) (by decide) (by decide), jm8, hkb⟩, rfl, Or.inl ⟨by omega, rfl, fun g => by obtain ⟨g1, g2, -⟩ := g; rcases e1 with h | h; omega; exact h.2 g1⟩⟩) hh8.2.2.1 (eX12_writeInstant (95, .ireturn, 1) (List.mem_of_getElem? (i := 48) rfl))
  · skip
    refine lv_iload_n hx hb (eX12_writeInstant (8, .iload_n 3, 1) (List.mem_of_getElem? (i := 4) rfl)) rfl (lv_at hl 2 rfl) ?_
    refine ff_i2l hx hb (eX12_writeInstant (9, .i2l, 1) (List.mem_of_getElem? (i := 5) rfl)) (fun v11 e11 => ?_)
    refine ff_lconst hx hb (eX12_writeInstant (10, .lconst 0, 1) (List.mem_of_getElem? (i := 6) rfl)) rfl (fun v12 e12 => ?_)
    refine ff_ldc2 (n := 999999999) hx hb hown h2 (clX12_ok 462 999999999 (List.mem_of_getElem? (i := 43) rfl)) (eX12_writeInstant (11, .ldc2_w 462, 3) (List.mem_of_getElem? (i := 7) rfl)) (fun v13 e13 => ?_)
    refine zu_S (vs := [.long v11, .long v12, .long v13]) (rest := []) hx hb hml hown hts0 zu_BT (hX12_isIn l v11 v12 v13) ⟨rfl, rfl⟩ ⟨by decide, by decide⟩ ⟨by decide, by decide⟩ (tb_7 47 rfl rfl) (tb_1 12 rfl rfl) (tb_7 45 rfl rfl) (tb_7 46 rfl rfl) (show yX12_isIn.cls ≠ "java/lang/invoke/MethodHandle" ∧ yX12_isIn.cls ≠ "java/lang/invoke/VarHandle" ∧ (parseMethodDescriptor yX12_isIn.desc).map (fun d => d.parameters.length) = some 3 by decide +kernel) rfl (fun _ _ _ => trivial) hl.1 (Nat.le_of_ble_eq_true rfl) (eX12_writeInstant (14, .invokestatic 130, 3) (List.mem_of_getElem? (i := 8) rfl)) (fun w14 f14 => ?_)
    obtain ⟨v14, rfl, e14⟩ := f14
    refine ff_if_eq hx hb (eX12_writeInstant (17, .ifCond .eq 29, 3) (List.mem_of_getElem? (i := 9) rfl)) (tgt := 46) rfl (fun c15 => ?_) (fun c15 => ?_)
    · skip
      refine ff_iconst hx hb (eX12_writeInstant (46, .iconst 0, 1) (List.mem_of_getElem? (i := 22) rfl)) (by decide) (by decide) (fun v16 e16 => ?_)
      refine lv_istore hx hb (eX12_writeInstant (47, .istore 6, 2) (List.mem_of_getElem? (i := 23) rfl)) hl (by decide) rfl (fun ls17 hl17 => ?_)
      refine lv_iload hx hb (eX12_writeInstant (49, .iload 6, 2) (List.mem_of_getElem? (i := 24) rfl)) (lv_at hl17 0 rfl) ?_
      refine ff_if_eq hx hb (eX12_writeInstant (51, .ifCond .eq 22, 3) (List.mem_of_getElem? (i := 25) rfl)) (tgt := 73) rfl (fun c18 => ?_) (fun c18 => (by exfalso; omega))
      refine lv_aload_n hx hb (eX12_writeInstant (73, .aload_n 0, 1) (List.mem_of_getElem? (i := 37) rfl)) rfl (lv_at hl17 1 rfl) ?_
      refine lv_iload hx hb (eX12_writeInstant (74, .iload 6, 2) (List.mem_of_getElem? (i := 38) rfl)) (lv_at hl17 0 rfl) ?_
      refine ff_if_eq hx hb (eX12_writeInstant (76, .ifCond .eq 7, 3) (List.mem_of_getElem? (i := 39) rfl)) (tgt := 83) rfl (fun c19 => ?_) (fun c19 => (by exfalso; omega))
      refine ff_iconst hx hb (eX12_writeInstant (83, .iconst 1, 1) (List.mem_of_getElem? (i := 42) rfl)) (by decide) (by decide) (fun v20 e20 => ?_)
      refine tz_put (r := 11) (k := 0) (t := (0, 0, 2)) hx hb hD hh1 ha rfl rfl ((hcl11 85 0 (0, 0, 2) (by decide) rfl).2 (by decide)) (tz_i (by omega) (by omega)) (eX12_writeInstant (84, .putfield 85, 3) (List.mem_of_getElem? (i := 43) rfl)) (fun H21 lo21 hh21 hf21 hk21 _ hq21 => ?_)
      have mf21_a_14 := (hk21.1 a 11 14 11 0 fsX12 ha rfl (by decide) (by decide)).trans f0
      have mf21_a_15 := (hk21.1 a 11 15 11 0 fsX12 ha rfl (by decide) (by decide)).trans f1
      have mc21_wb := (hk21.2 wb 31 0 2 160 _ r0 rfl (by decide)).trans hc
      have kp21 := kp0.trans (hk21.mono (ms' := [(11, 0), (11, 15), (11, 18), (11, 19), (11, 20), (11, 21), (11, 22), (31, 0)]) (fun x hx => by cases List.mem_singleton.mp hx; decide))
      have jm21 := hjo.kept ha hk21 (by decide) (by decide) (by decide)
      refine lv_aload_n hx hb (eX12_writeInstant (87, .aload_n 0, 1) (List.mem_of_getElem? (i := 44) rfl)) rfl (lv_at hl17 1 rfl) ?_
      refine tz_get (r := 11) (k := 0) (t := (0, 0, 2)) hx hb hh21 ha rfl rfl (hcl11 85 0 (0, 0, 2) (by decide) rfl).1 hf21 (eX12_writeInstant (88, .getfield 85, 3) (List.mem_of_getElem? (i := 45) rfl)) ?_
      refine ff_if_le hx hb (eX12_writeInstant (91, .ifCond .le 5, 3) (List.mem_of_getElem? (i := 46) rfl)) (tgt := 96) rfl (fun c22 => (by exfalso; omega)) (fun c22 => ?_)
      refine ff_iconst hx hb (eX12_writeInstant (94, .iconst 0, 1) (List.mem_of_getElem? (i := 47) rfl)) (by decide) (by decide) (fun v23 e23 => ?_)
      exact W.zret hx hb hr rfl (fun t ht hW => ⟨_, _, _, T, O, rfl, ⟨_, rfl, rfl⟩, by rw [ht]; exact hh21.l0, by rw [ht]; exact kp21.mono (by decide), by rw [ht]; exact hf21, by rw [ht]; exact ⟨hjt.kept ha kp21 (by decide) (by decide) (by decide), jm21, hkb⟩, rfl, Or.inl ⟨by omega, rfl, fun g => by obtain ⟨g1, g2, -⟩ := g; rcases e1 with h | h; omega; exact h.2 g1⟩⟩) hh21.2.2.1 (eX12_writeInstant (95, .ireturn, 1) (List.mem_of_getElem? (i := 48) rfl))
    · skip
      refine lv_iload hx hb (eX12_writeInstant (20, .iload 4, 2) (List.mem_of_getElem? (i := 10) rfl)) (lv_at hl 3 rfl) ?_
      refine ff_i2l hx hb (eX12_writeInstant (22, .i2l, 1) (List.mem_of_getElem? (i := 11) rfl)) (fun v24 e24 => ?_)
      refine zu_S (vs := [.long v24]) (rest := []) hx hb hml hown hts0 zu_BT (hX12_isOffset l v24) ⟨rfl, rfl⟩ ⟨by decide, by decide⟩ ⟨by decide, by decide⟩ (tb_7 153 rfl rfl) (tb_1 12 rfl rfl) (tb_7 151 rfl rfl) (tb_7 152 rfl rfl) (show yX12_isOffset.cls ≠ "java/lang/invoke/MethodHandle" ∧ yX12_isOffset.cls ≠ "java/lang/invoke/VarHandle" ∧ (parseMethodDescriptor yX12_isOffset.desc).map (fun d => d.parameters.length) = some 1 by decide +kernel) rfl (fun _ _ _ => trivial) hl.1 (Nat.le_of_ble_eq_true rfl) (eX12_writeInstant (23, .invokestatic 218, 3) (List.mem_of_getElem? (i := 12) rfl)) (fun w25 f25 => ?_)
      obtain ⟨v25, rfl, e25⟩ := f25
      refine ff_if_eq hx hb (eX12_writeInstant (26, .ifCond .eq 20, 3) (List.mem_of_getElem? (i := 13) rfl)) (tgt := 46) rfl (fun c26 => ?_) (fun c26 => ?_)
      · skip
        refine ff_iconst hx hb (eX12_writeInstant (46, .iconst 0, 1) (List.mem_of_getElem? (i := 22) rfl)) (by decide) (by decide) (fun v27 e27 => ?_)
        refine lv_istore hx hb (eX12_writeInstant (47, .istore 6, 2) (List.mem_of_getElem? (i := 23) rfl)) hl (by decide) rfl (fun ls28 hl28 => ?_)
        refine lv_iload hx hb (eX12_writeInstant (49, .iload 6, 2) (List.mem_of_getElem? (i := 24) rfl)) (lv_at hl28 0 rfl) ?_
        refine ff_if_eq hx hb (eX12_writeInstant (51, .ifCond .eq 22, 3) (List.mem_of_getElem? (i := 25) rfl)) (tgt := 73) rfl (fun c29 => ?_) (fun c29 => (by exfalso; omega))
        refine lv_aload_n hx hb (eX12_writeInstant (73, .aload_n 0, 1) (List.mem_of_getElem? (i := 37) rfl)) rfl (lv_at hl28 1 rfl) ?_
        refine lv_iload hx hb (eX12_writeInstant (74, .iload 6, 2) (List.mem_of_getElem? (i := 38) rfl)) (lv_at hl28 0 rfl) ?_
        refine ff_if_eq hx hb (eX12_writeInstant (76, .ifCond .eq 7, 3) (List.mem_of_getElem? (i := 39) rfl)) (tgt := 83) rfl (fun c30 => ?_) (fun c30 => (by exfalso; omega))
        refine ff_iconst hx hb (eX12_writeInstant (83, .iconst 1, 1) (List.mem_of_getElem? (i := 42) rfl)) (by decide) (by decide) (fun v31 e31 => ?_)
        refine tz_put (r := 11) (k := 0) (t := (0, 0, 2)) hx hb hD hh1 ha rfl rfl ((hcl11 85 0 (0, 0, 2) (by decide) rfl).2 (by decide)) (tz_i (by omega) (by omega)) (eX12_writeInstant (84, .putfield 85, 3) (List.mem_of_getElem? (i := 43) rfl)) (fun H32 lo32 hh32 hf32 hk32 _ hq32 => ?_)
        have mf32_a_14 := (hk32.1 a 11 14 11 0 fsX12 ha rfl (by decide) (by decide)).trans f0
        have mf32_a_15 := (hk32.1 a 11 15 11 0 fsX12 ha rfl (by decide) (by decide)).trans f1
        have mc32_wb := (hk32.2 wb 31 0 2 160 _ r0 rfl (by decide)).trans hc
        have kp32 := kp0.trans (hk32.mono (ms' := [(11, 0), (11, 15), (11, 18), (11, 19), (11, 20), (11, 21), (11, 22), (31, 0)]) (fun x hx => by cases List.mem_singleton.mp hx; decide))
        have jm32 := hjo.kept ha hk32 (by decide) (by decide) (by decide)
        refine lv_aload_n hx hb (eX12_writeInstant (87, .aload_n 0, 1) (List.mem_of_getElem? (i := 44) rfl)) rfl (lv_at hl28 1 rfl) ?_
        refine tz_get (r := 11) (k := 0) (t := (0, 0, 2)) hx hb hh32 ha rfl rfl (hcl11 85 0 (0, 0, 2) (by decide) rfl).1 hf32 (eX12_writeInstant (88, .getfield 85, 3) (List.mem_of_getElem? (i := 45) rfl)) ?_
        refine ff_if_le hx hb (eX12_writeInstant (91, .ifCond .le 5, 3) (List.mem_of_getElem? (i := 46) rfl)) (tgt := 96) rfl (fun c33 => (by exfalso; omega)) (fun c33 => ?_)
        refine ff_iconst hx hb (eX12_writeInstant (94, .iconst 0, 1) (List.mem_of_getElem? (i := 47) rfl)) (by decide) (by decide) (fun v34 e34 => ?_)
        exact W.zret hx hb hr rfl (fun t ht hW => ⟨_, _, _, T, O, rfl, ⟨_, rfl, rfl⟩, by rw [ht]; exact hh32.l0, by rw [ht]; exact kp32.mono (by decide), by rw [ht]; exact hf32, by rw [ht]; exact ⟨hjt.kept ha kp32 (by decide) (by decide) (by decide), jm32, hkb⟩, rfl, Or.inl ⟨by omega, rfl, fun g => by obtain ⟨g1, g2, -⟩ := g; rcases e1 with h | h; omega; exact h.2 g1⟩⟩) hh32.2.2.1 (eX12_writeInstant (95, .ireturn, 1) (List.mem_of_getElem? (i := 48) rfl))
      · skip
        refine lv_iload hx hb (eX12_writeInstant (29, .iload 5, 2) (List.mem_of_getElem? (i := 14) rfl)) (lv_at hl 4 rfl) ?_
        refine ff_i2l hx hb (eX12_writeInstant (31, .i2l, 1) (List.mem_of_getElem? (i := 15) rfl)) (fun v35 e35 => ?_)
        refine ff_lconst hx hb (eX12_writeInstant (32, .lconst 0, 1) (List.mem_of_getElem? (i := 16) rfl)) rfl (fun v36 e36 => ?_)
        refine ff_ldc2 (n := 9) hx hb hown h2 (clX12_ok 162 9 (List.mem_of_getElem? (i := 18) rfl)) (eX12_writeInstant (33, .ldc2_w 162, 3) (List.mem_of_getElem? (i := 17) rfl)) (fun v37 e37 => ?_)
        refine zu_S (vs := [.long v35, .long v36, .long v37]) (rest := []) hx hb hml hown hts0 zu_BT (hX12_isIn l v35 v36 v37) ⟨rfl, rfl⟩ ⟨by decide, by decide⟩ ⟨by decide, by decide⟩ (tb_7 47 rfl rfl) (tb_1 12 rfl rfl) (tb_7 45 rfl rfl) (tb_7 46 rfl rfl) (show yX12_isIn.cls ≠ "java/lang/invoke/MethodHandle" ∧ yX12_isIn.cls ≠ "java/lang/invoke/VarHandle" ∧ (parseMethodDescriptor yX12_isIn.desc).map (fun d => d.parameters.length) = some 3 by decide +kernel) rfl (fun _ _ _ => trivial) hl.1 (Nat.le_of_ble_eq_true rfl) (eX12_writeInstant (36, .invokestatic 130, 3) (List.mem_of_getElem? (i := 18) rfl)) (fun w38 f38 => ?_)
        obtain ⟨v38, rfl, e38⟩ := f38
        refine ff_if_eq hx hb (eX12_writeInstant (39, .ifCond .eq 7, 3) (List.mem_of_getElem? (i := 19) rfl)) (tgt := 46) rfl (fun c39 => ?_) (fun c39 => ?_)
        · skip
          refine ff_iconst hx hb (eX12_writeInstant (46, .iconst 0, 1) (List.mem_of_getElem? (i := 22) rfl)) (by decide) (by decide) (fun v40 e40 => ?_)
          refine lv_istore hx hb (eX12_writeInstant (47, .istore 6, 2) (List.mem_of_getElem? (i := 23) rfl)) hl (by decide) rfl (fun ls41 hl41 => ?_)
          refine lv_iload hx hb (eX12_writeInstant (49, .iload 6, 2) (List.mem_of_getElem? (i := 24) rfl)) (lv_at hl41 0 rfl) ?_
          refine ff_if_eq hx hb (eX12_writeInstant (51, .ifCond .eq 22, 3) (List.mem_of_getElem? (i := 25) rfl)) (tgt := 73) rfl (fun c42 => ?_) (fun c42 => (by exfalso; omega))
          refine lv_aload_n hx hb (eX12_writeInstant (73, .aload_n 0, 1) (List.mem_of_getElem? (i := 37) rfl)) rfl (lv_at hl41 1 rfl) ?_
          refine lv_iload hx hb (eX12_writeInstant (74, .iload 6, 2) (List.mem_of_getElem? (i := 38) rfl)) (lv_at hl41 0 rfl) ?_
          refine ff_if_eq hx hb (eX12_writeInstant (76, .ifCond .eq 7, 3) (List.mem_of_getElem? (i := 39) rfl)) (tgt := 83) rfl (fun c43 => ?_) (fun c43 => (by exfalso; omega))
          refine ff_iconst hx hb (eX12_writeInstant (83, .iconst 1, 1) (List.mem_of_getElem? (i := 42) rfl)) (by decide) (by decide) (fun v44 e44 => ?_)
          refine tz_put (r := 11) (k := 0) (t := (0, 0, 2)) hx hb hD hh1 ha rfl rfl ((hcl11 85 0 (0, 0, 2) (by decide) rfl).2 (by decide)) (tz_i (by omega) (by omega)) (eX12_writeInstant (84, .putfield 85, 3) (List.mem_of_getElem? (i := 43) rfl)) (fun H45 lo45 hh45 hf45 hk45 _ hq45 => ?_)
          have mf45_a_14 := (hk45.1 a 11 14 11 0 fsX12 ha rfl (by decide) (by decide)).trans f0
          have mf45_a_15 := (hk45.1 a 11 15 11 0 fsX12 ha rfl (by decide) (by decide)).trans f1
          have mc45_wb := (hk45.2 wb 31 0 2 160 _ r0 rfl (by decide)).trans hc
          have kp45 := kp0.trans (hk45.mono (ms' := [(11, 0), (11, 15), (11, 18), (11, 19), (11, 20), (11, 21), (11, 22), (31, 0)]) (fun x hx => by cases List.mem_singleton.mp hx; decide))
          have jm45 := hjo.kept ha hk45 (by decide) (by decide) (by decide)
          refine lv_aload_n hx hb (eX12_writeInstant (87, .aload_n 0, 1) (List.mem_of_getElem? (i := 44) rfl)) rfl (lv_at hl41 1 rfl) ?_
          refine tz_get (r := 11) (k := 0) (t := (0, 0, 2)) hx hb hh45 ha rfl rfl (hcl11 85 0 (0, 0, 2) (by decide) rfl).1 hf45 (eX12_writeInstant (88, .getfield 85, 3) (List.mem_of_getElem? (i := 45) rfl)) ?_
          refine ff_if_le hx hb (eX12_writeInstant (91, .ifCond .le 5, 3) (List.mem_of_getElem? (i := 46) rfl)) (tgt := 96) rfl (fun c46 => (by exfalso; omega)) (fun c46 => ?_)
          refine ff_iconst hx hb (eX12_writeInstant (94, .iconst 0, 1) (List.mem_of_getElem? (i := 47) rfl)) (by decide) (by decide) (fun v47 e47 => ?_)
          exact W.zret hx hb hr rfl (fun t ht hW => ⟨_, _, _, T, O, rfl, ⟨_, rfl, rfl⟩, by rw [ht]; exact hh45.l0, by rw [ht]; exact kp45.mono (by decide), by rw [ht]; exact hf45, by rw [ht]; exact ⟨hjt.kept ha kp45 (by decide) (by decide) (by decide), jm45, hkb⟩, rfl, Or.inl ⟨by omega, rfl, fun g => by obtain ⟨g1, g2, -⟩ := g; rcases e1 with h | h; omega; exact h.2 g1⟩⟩) hh45.2.2.1 (eX12_writeInstant (95, .ireturn, 1) (List.mem_of_getElem? (i := 48) rfl))
        · skip
          refine ff_iconst hx hb (eX12_writeInstant (42, .iconst 1, 1) (List.mem_of_getElem? (i := 20) rfl)) (by decide) (by decide) (fun v48 e48 => ?_)
          refine lv_goto hx hb (eX12_writeInstant (43, .goto 4, 3) (List.mem_of_getElem? (i := 21) rfl)) (tgt := 47) rfl ?_
          refine lv_istore hx hb (eX12_writeInstant (47, .istore 6, 2) (List.mem_of_getElem? (i := 23) rfl)) hl (by decide) rfl (fun ls49 hl49 => ?_)
          refine lv_iload hx hb (eX12_writeInstant (49, .iload 6, 2) (List.mem_of_getElem? (i := 24) rfl)) (lv_at hl49 0 rfl) ?_
          refine ff_if_eq hx hb (eX12_writeInstant (51, .ifCond .eq 22, 3) (List.mem_of_getElem? (i := 25) rfl)) (tgt := 73) rfl (fun c50 => (by exfalso; omega)) (fun c50 => ?_)
          refine lv_aload_n hx hb (eX12_writeInstant (54, .aload_n 0, 1) (List.mem_of_getElem? (i := 26) rfl)) rfl (lv_at hl49 1 rfl) ?_
          refine lv_lload_n hx hb (eX12_writeInstant (55, .lload_n 1, 1) (List.mem_of_getElem? (i := 27) rfl)) rfl (lv_at hl49 2 rfl) ?_
          refine tz_rowV (As := [.long t0]) (st := []) (b := a) (C := RX12) (Ts := gT) hx hb hml hown h2 (fun _ h => h) (hX12_read0 l D cA ro sz H0 a t0 L ha (by have h8 := lsI_b hjL (-365961662); have h9 := lsI_b hjL 364522972; unfold tOK at *; omega) (by have h8 := lsI_b hjL (-365961662); have h9 := lsI_b hjL 364522972; unfold tOK at *; omega)) ⟨rfl, rfl⟩ ⟨by decide, by decide⟩ ⟨by decide, by decide⟩ (tb_7 145 rfl rfl) (tb_1 12 rfl rfl) (tb_7 142 rfl rfl) (tb_7 144 rfl rfl) (tb_0 14 rfl rfl) (show yX12_read0.cls ≠ "java/lang/invoke/MethodHandle" ∧ yX12_read0.cls ≠ "java/lang/invoke/VarHandle" ∧ (parseMethodDescriptor yX12_read0.desc).map (fun d => d.parameters.length) = some 1 by decide +kernel) zs_blind (zs_ob hh1 ha (show RTg[11]? = some (0, 11, 0, fsX12) from rfl) (zCX12 hKn.1)) (fun U hU hW => ⟨rfl, by rw [hU]; exact hh1.l0, zKb s U hW.alike hKn, by rw [hU]; exact hjr⟩) hh1.2.2.1 hl49.1 (Nat.le_of_ble_eq_true rfl) (eX12_writeInstant (56, .invokevirtual 210, 3) (List.mem_of_getElem? (i := 28) rfl)) (fun r51 s51 t51 lo51 g51 f51 l51 => ?_)
          obtain ⟨q51, z51, c51, M51, S51, fM51, fS51, hM51, hS51⟩ := f51
          cases q51
          rw [g51] at c51
          have hh51 : zh_ok D cA RTg ro sz H0 t51.heap lo51 := ⟨z51.1, z51.2.1, l51, z51.2.2.2⟩
          have kp51 := kp0.trans (c51.mono (ms' := [(11, 0), (11, 15), (11, 18), (11, 19), (11, 20), (11, 21), (11, 22), (31, 0)]) (by decide))
          have mf51_a_14 := (c51.1 a 11 14 11 0 fsX12 ha rfl (by decide) (by decide)).trans f0
          have mf51_a_15 := (c51.1 a 11 15 11 0 fsX12 ha rfl (by decide) (by decide)).trans f1
          have jo51 := hjo.kept ha c51 (by decide) (by decide) (by decide)
          have jr51 := hjr.kept ha c51 (by decide)
          have hsec := rdM_sec hjL hM51
          have htok : tOK t0.toInt L := by rcases e1 with h | h; exact h.2; exfalso; omega
          have hmb : -1000000000000 ≤ M51.toInt ∧ M51.toInt ≤ 1000000000000 := by have h8 := lsI_b hjL (M51.toInt / 1440); have h9 := lsI_b hjL (-365961662); have h7 := lsI_b hjL 364522972; unfold stI at hsec; unfold tOK at htok; omega
          refine W.eq (g2 := F0 m 59 ls49 []) rfl ?_
          refine lv_aload_n hx hb (eX12_writeInstant (59, .aload_n 0, 1) (List.mem_of_getElem? (i := 29) rfl)) rfl (lv_at hl49 1 rfl) ?_
          refine lv_aload_n hx hb (eX12_writeInstant (60, .aload_n 0, 1) (List.mem_of_getElem? (i := 30) rfl)) rfl (lv_at hl49 1 rfl) ?_
          refine tz_get (r := 11) (k := 21) (t := (1, (-9223372036854775808), 9223372036854775807)) hx hb hh51 ha rfl rfl (hcl11 195 21 (1, (-9223372036854775808), 9223372036854775807) (by decide) rfl).1 fM51 (eX12_writeInstant (61, .getfield 195, 3) (List.mem_of_getElem? (i := 31) rfl)) ?_
          refine lv_iload hx hb (eX12_writeInstant (64, .iload 4, 2) (List.mem_of_getElem? (i := 32) rfl)) (lv_at hl49 4 rfl) ?_
          refine ff_i2l hx hb (eX12_writeInstant (66, .i2l, 1) (List.mem_of_getElem? (i := 33) rfl)) (fun v52 e52 => ?_)
          refine ff_ladd hx hb (eX12_writeInstant (67, .ladd, 1) (List.mem_of_getElem? (i := 34) rfl)) (by omega) (by omega) (fun v53 e53 => ?_)
          refine tz_rowV (As := [.long v53]) (st := []) (b := a) (C := RX12) (Ts := gT) hx hb hml hown h2 (fun _ h => h) (hX12_isMinute l D cA ro sz H0 a v53 L ha ) ⟨rfl, rfl⟩ ⟨by decide, by decide⟩ ⟨by decide, by decide⟩ (tb_7 117 rfl rfl) (tb_1 12 rfl rfl) (tb_7 114 rfl rfl) (tb_7 116 rfl rfl) (tb_0 9 rfl rfl) (show yX12_isMinute.cls ≠ "java/lang/invoke/MethodHandle" ∧ yX12_isMinute.cls ≠ "java/lang/invoke/VarHandle" ∧ (parseMethodDescriptor yX12_isMinute.desc).map (fun d => d.parameters.length) = some 1 by decide +kernel) zs_blind (zs_ob hh51 ha (show RTg[11]? = some (0, 11, 0, fsX12) from rfl) (zCX12 hKn.1)) (fun U hU hW => ⟨rfl, by rw [hU]; exact hh51.l0, zKb s U hW.alike hKn, by rw [hU]; exact jr51⟩) hh51.2.2.1 hl49.1 (Nat.le_of_ble_eq_true rfl) (eX12_writeInstant (68, .invokevirtual 201, 3) (List.mem_of_getElem? (i := 35) rfl)) (fun r54 s54 t54 lo54 g54 f54 l54 => ?_)
          obtain ⟨z54, v54, q54, e54⟩ := f54
          cases q54
          rw [z54, g54]
          have hh54 : zh_ok D cA RTg ro sz H0 t51.heap lo54 := ⟨hh51.1, hh51.2.1, l54, hh51.2.2.2⟩
          refine W.eq (g2 := F0 m 71 ls49 [.int v54]) rfl ?_
          refine lv_istore hx hb (eX12_writeInstant (71, .istore 6, 2) (List.mem_of_getElem? (i := 36) rfl)) hl49 (by decide) rfl (fun ls55 hl55 => ?_)
          refine lv_aload_n hx hb (eX12_writeInstant (73, .aload_n 0, 1) (List.mem_of_getElem? (i := 37) rfl)) rfl (lv_at hl55 1 rfl) ?_
          refine lv_iload hx hb (eX12_writeInstant (74, .iload 6, 2) (List.mem_of_getElem? (i := 38) rfl)) (lv_at hl55 0 rfl) ?_
          refine ff_if_eq hx hb (eX12_writeInstant (76, .ifCond .eq 7, 3) (List.mem_of_getElem? (i := 39) rfl)) (tgt := 83) rfl (fun c56 => ?_) (fun c56 => ?_)
          · skip
            refine ff_iconst hx hb (eX12_writeInstant (83, .iconst 1, 1) (List.mem_of_getElem? (i := 42) rfl)) (by decide) (by decide) (fun v57 e57 => ?_)
            refine tz_put (r := 11) (k := 0) (t := (0, 0, 2)) hx hb hD hh54 ha rfl rfl ((hcl11 85 0 (0, 0, 2) (by decide) rfl).2 (by decide)) (tz_i (by omega) (by omega)) (eX12_writeInstant (84, .putfield 85, 3) (List.mem_of_getElem? (i := 43) rfl)) (fun H58 lo58 hh58 hf58 hk58 _ hq58 => ?_)
            have mf58_a_14 := (hk58.1 a 11 14 11 0 fsX12 ha rfl (by decide) (by decide)).trans mf51_a_14
            have mf58_a_15 := (hk58.1 a 11 15 11 0 fsX12 ha rfl (by decide) (by decide)).trans mf51_a_15
            have mf58_a_21 := (hk58.1 a 11 21 11 0 fsX12 ha rfl (by decide) (by decide)).trans fM51
            have mf58_a_22 := (hk58.1 a 11 22 11 0 fsX12 ha rfl (by decide) (by decide)).trans fS51
            have kp58 := kp51.trans (hk58.mono (ms' := [(11, 0), (11, 15), (11, 18), (11, 19), (11, 20), (11, 21), (11, 22), (31, 0)]) (fun x hx => by cases List.mem_singleton.mp hx; decide))
            have jm58 := jo51.kept ha hk58 (by decide) (by decide) (by decide)
            refine lv_aload_n hx hb (eX12_writeInstant (87, .aload_n 0, 1) (List.mem_of_getElem? (i := 44) rfl)) rfl (lv_at hl55 1 rfl) ?_
            refine tz_get (r := 11) (k := 0) (t := (0, 0, 2)) hx hb hh58 ha rfl rfl (hcl11 85 0 (0, 0, 2) (by decide) rfl).1 hf58 (eX12_writeInstant (88, .getfield 85, 3) (List.mem_of_getElem? (i := 45) rfl)) ?_
            refine ff_if_le hx hb (eX12_writeInstant (91, .ifCond .le 5, 3) (List.mem_of_getElem? (i := 46) rfl)) (tgt := 96) rfl (fun c59 => (by exfalso; omega)) (fun c59 => ?_)
            refine ff_iconst hx hb (eX12_writeInstant (94, .iconst 0, 1) (List.mem_of_getElem? (i := 47) rfl)) (by decide) (by decide) (fun v60 e60 => ?_)
            exact W.zret hx hb hr rfl (fun t ht hW => ⟨_, _, _, T, O, rfl, ⟨_, rfl, rfl⟩, by rw [ht]; exact hh58.l0, by rw [ht]; exact kp58.mono (by decide), by rw [ht]; exact hf58, by rw [ht]; exact ⟨hjt.kept ha kp58 (by decide) (by decide) (by decide), jm58, hkb⟩, rfl, Or.inl ⟨by omega, rfl, fun g => by obtain ⟨-, -, M9, g1, g2⟩ := g; have g3 := rdM_one hM51 g1; rcases e54 with h | h; omega; exact h.2 (by rw [show v53.toInt = M9 + o.toInt by omega]; exact g2)⟩⟩) hh58.2.2.1 (eX12_writeInstant (95, .ireturn, 1) (List.mem_of_getElem? (i := 48) rfl))
          · skip
            refine ff_iconst hx hb (eX12_writeInstant (79, .iconst 0, 1) (List.mem_of_getElem? (i := 40) rfl)) (by decide) (by decide) (fun v61 e61 => ?_)
            refine lv_goto hx hb (eX12_writeInstant (80, .goto 4, 3) (List.mem_of_getElem? (i := 41) rfl)) (tgt := 84) rfl ?_
            refine tz_put (r := 11) (k := 0) (t := (0, 0, 2)) hx hb hD hh54 ha rfl rfl ((hcl11 85 0 (0, 0, 2) (by decide) rfl).2 (by decide)) (tz_i (by omega) (by omega)) (eX12_writeInstant (84, .putfield 85, 3) (List.mem_of_getElem? (i := 43) rfl)) (fun H62 lo62 hh62 hf62 hk62 _ hq62 => ?_)
            have mf62_a_14 := (hk62.1 a 11 14 11 0 fsX12 ha rfl (by decide) (by decide)).trans mf51_a_14
            have mf62_a_15 := (hk62.1 a 11 15 11 0 fsX12 ha rfl (by decide) (by decide)).trans mf51_a_15
            have mf62_a_21 := (hk62.1 a 11 21 11 0 fsX12 ha rfl (by decide) (by decide)).trans fM51
            have mf62_a_22 := (hk62.1 a 11 22 11 0 fsX12 ha rfl (by decide) (by decide)).trans fS51
            have kp62 := kp51.trans (hk62.mono (ms' := [(11, 0), (11, 15), (11, 18), (11, 19), (11, 20), (11, 21), (11, 22), (31, 0)]) (fun x hx => by cases List.mem_singleton.mp hx; decide))
            have jm62 := jo51.kept ha hk62 (by decide) (by decide) (by decide)
            refine lv_aload_n hx hb (eX12_writeInstant (87, .aload_n 0, 1) (List.mem_of_getElem? (i := 44) rfl)) rfl (lv_at hl55 1 rfl) ?_
            refine tz_get (r := 11) (k := 0) (t := (0, 0, 2)) hx hb hh62 ha rfl rfl (hcl11 85 0 (0, 0, 2) (by decide) rfl).1 hf62 (eX12_writeInstant (88, .getfield 85, 3) (List.mem_of_getElem? (i := 45) rfl)) ?_
            refine ff_if_le hx hb (eX12_writeInstant (91, .ifCond .le 5, 3) (List.mem_of_getElem? (i := 46) rfl)) (tgt := 96) rfl (fun c63 => ?_) (fun c63 => (by exfalso; omega))
            refine lv_aload_n hx hb (eX12_writeInstant (96, .aload_n 0, 1) (List.mem_of_getElem? (i := 49) rfl)) rfl (lv_at hl55 1 rfl) ?_
            refine ff_iconst hx hb (eX12_writeInstant (97, .iconst 0, 1) (List.mem_of_getElem? (i := 50) rfl)) (by decide) (by decide) (fun v64 e64 => ?_)
            obtain ⟨wb8, n8, z8, f8, r8, f81, hn8, hc8, hz8⟩ := id jm62
            refine tz_put (r := 11) (k := 15) (t := (0, 0, 120)) hx hb hD hh62 ha rfl rfl ((hcl11 447 15 (0, 0, 120) (by decide) rfl).2 (by decide)) (tz_i (by omega) (by omega)) (eX12_writeInstant (98, .putfield 447, 3) (List.mem_of_getElem? (i := 51) rfl)) (fun H65 lo65 hh65 hf65 hk65 _ hq65 => ?_)
            have mf65_a_14 := (hk65.1 a 11 14 11 0 fsX12 ha rfl (by decide) (by decide)).trans mf62_a_14
            have mf65_a_21 := (hk65.1 a 11 21 11 0 fsX12 ha rfl (by decide) (by decide)).trans mf62_a_21
            have mf65_a_22 := (hk65.1 a 11 22 11 0 fsX12 ha rfl (by decide) (by decide)).trans mf62_a_22
            have mf65_a_0 := (hk65.1 a 11 0 11 0 fsX12 ha rfl (by decide) (by decide)).trans hf62
            have kp65 := kp62.trans (hk65.mono (ms' := [(11, 0), (11, 15), (11, 18), (11, 19), (11, 20), (11, 21), (11, 22), (31, 0)]) (fun x hx => by cases List.mem_singleton.mp hx; decide))
            have hc9 := (hk65.2 wb8 31 0 2 160 _ r8 rfl (by decide)).trans hc8
            have hf9 := (hk65.1 a 11 14 11 0 fsX12 ha rfl (by decide) (by decide)).trans f8
            have jz : jRO D cA ro H65 a [] := ⟨wb8, _, _, hf9, r8, hf65, by show _ = (0 : Int); omega, hc9, fun i hi => absurd hi (Nat.not_lt_zero _)⟩
            refine lv_aload_n hx hb (eX12_writeInstant (101, .aload_n 0, 1) (List.mem_of_getElem? (i := 52) rfl)) rfl (lv_at hl55 1 rfl) ?_
            refine tz_get (r := 11) (k := 21) (t := (1, (-9223372036854775808), 9223372036854775807)) hx hb hh65 ha rfl rfl (hcl11 195 21 (1, (-9223372036854775808), 9223372036854775807) (by decide) rfl).1 mf65_a_21 (eX12_writeInstant (102, .getfield 195, 3) (List.mem_of_getElem? (i := 53) rfl)) ?_
            refine lv_iload hx hb (eX12_writeInstant (105, .iload 4, 2) (List.mem_of_getElem? (i := 54) rfl)) (lv_at hl55 4 rfl) ?_
            refine ff_i2l hx hb (eX12_writeInstant (107, .i2l, 1) (List.mem_of_getElem? (i := 55) rfl)) (fun v66 e66 => ?_)
            refine ff_ladd hx hb (eX12_writeInstant (108, .ladd, 1) (List.mem_of_getElem? (i := 56) rfl)) (by omega) (by omega) (fun v67 e67 => ?_)
            have hmok : mOK v67.toInt := by rcases e54 with h | h; rw [show v67.toInt = M51.toInt + o.toInt by omega]; rw [show v53.toInt = M51.toInt + o.toInt by omega] at h; exact h.2; exfalso; omega
            refine lv_lstore hx hb (eX12_writeInstant (109, .lstore 7, 2) (List.mem_of_getElem? (i := 57) rfl)) hl55 (by decide) rfl (fun ls68 hl68 => ?_)
            refine lv_aload_n hx hb (eX12_writeInstant (111, .aload_n 0, 1) (List.mem_of_getElem? (i := 58) rfl)) rfl (lv_at hl68 2 rfl) ?_
            refine tz_get (r := 11) (k := 22) (t := (0, (-2147483648), 2147483647)) hx hb hh65 ha rfl rfl (hcl11 198 22 (0, (-2147483648), 2147483647) (by decide) rfl).1 mf65_a_22 (eX12_writeInstant (112, .getfield 198, 3) (List.mem_of_getElem? (i := 59) rfl)) ?_
            refine lv_istore hx hb (eX12_writeInstant (115, .istore 9, 2) (List.mem_of_getElem? (i := 60) rfl)) hl68 (by decide) rfl (fun ls69 hl69 => ?_)
            refine lv_lload hx hb (eX12_writeInstant (117, .lload 7, 2) (List.mem_of_getElem? (i := 61) rfl)) (lv_at hl69 1 rfl) ?_
            refine ff_ldc2 (n := 1440) hx hb hown h2 (clX12_ok 180 1440 (List.mem_of_getElem? (i := 21) rfl)) (eX12_writeInstant (119, .ldc2_w 180, 3) (List.mem_of_getElem? (i := 62) rfl)) (fun v70 e70 => ?_)
            refine zu_S (vs := [.long v67, .long v70]) (rest := []) hx hb hml hown hts0 zu_BT (hX12_down1440 l v67 v70 (by omega) (by omega) (by omega)) ⟨rfl, rfl⟩ ⟨by decide, by decide⟩ ⟨by decide, by decide⟩ (tb_6 139 rfl rfl) (tb_1 12 rfl rfl) (tb_6 137 rfl rfl) (tb_6 138 rfl rfl) (show yX12_down.cls ≠ "java/lang/invoke/MethodHandle" ∧ yX12_down.cls ≠ "java/lang/invoke/VarHandle" ∧ (parseMethodDescriptor yX12_down.desc).map (fun d => d.parameters.length) = some 2 by decide +kernel) rfl (fun _ _ _ => trivial) hl69.1 (Nat.le_of_ble_eq_true rfl) (eX12_writeInstant (122, .invokestatic 99, 3) (List.mem_of_getElem? (i := 63) rfl)) (fun w71 f71 => ?_)
            obtain ⟨v71, rfl, e71⟩ := f71
            have hdb : -365961662 ≤ v71.toInt ∧ v71.toInt ≤ 364522971 := by unfold mOK at hmok; omega
            refine lv_lstore hx hb (eX12_writeInstant (125, .lstore 10, 2) (List.mem_of_getElem? (i := 64) rfl)) hl69 (by decide) rfl (fun ls72 hl72 => ?_)
            refine lv_aload_n hx hb (eX12_writeInstant (127, .aload_n 0, 1) (List.mem_of_getElem? (i := 65) rfl)) rfl (lv_at hl72 4 rfl) ?_
            refine lv_lload hx hb (eX12_writeInstant (128, .lload 10, 2) (List.mem_of_getElem? (i := 66) rfl)) (lv_at hl72 0 rfl) ?_
            refine tz_rowV (As := [.long v71]) (st := []) (b := a) (C := RX12) (Ts := gT) hx hb hml hown h2 (fun _ h => h) (hX12_civilO l D cA ro sz H0 a v71 ([]) ha (by omega) (by omega)) ⟨rfl, rfl⟩ ⟨by decide, by decide⟩ ⟨by decide, by decide⟩ (tb_7 71 rfl rfl) (tb_1 12 rfl rfl) (tb_7 68 rfl rfl) (tb_7 70 rfl rfl) (tb_0 6 rfl rfl) (show yX12_civil.cls ≠ "java/lang/invoke/MethodHandle" ∧ yX12_civil.cls ≠ "java/lang/invoke/VarHandle" ∧ (parseMethodDescriptor yX12_civil.desc).map (fun d => d.parameters.length) = some 1 by decide +kernel) zs_blind (zs_ob hh65 ha (show RTg[11]? = some (0, 11, 0, fsX12) from rfl) (zCX12 hKn.1)) (fun U hU hW => ⟨rfl, by rw [hU]; exact hh65.l0, zKb s U hW.alike hKn, by rw [hU]; exact jz⟩) hh65.2.2.1 hl72.1 (Nat.le_of_ble_eq_true rfl) (eX12_writeInstant (130, .invokevirtual 146, 3) (List.mem_of_getElem? (i := 67) rfl)) (fun r73 s73 t73 lo73 g73 f73 l73 => ?_)
            obtain ⟨q73, z73, u73, c73, y73, m73, d73, hy73, hm73, hd73, cv73⟩ := f73
            cases q73
            rw [g73] at c73
            have hh73 : zh_ok D cA RTg ro sz H0 t73.heap lo73 := ⟨z73.1, z73.2.1, l73, z73.2.2.2⟩
            have kp73 := kp65.trans (c73.mono (ms' := [(11, 0), (11, 15), (11, 18), (11, 19), (11, 20), (11, 21), (11, 22), (31, 0)]) (by decide))
            have mf73_a_21 := (c73.1 a 11 21 11 0 fsX12 ha rfl (by decide) (by decide)).trans mf65_a_21
            have mf73_a_22 := (c73.1 a 11 22 11 0 fsX12 ha rfl (by decide) (by decide)).trans mf65_a_22
            have mf73_a_0 := (c73.1 a 11 0 11 0 fsX12 ha rfl (by decide) (by decide)).trans mf65_a_0
            have jo73 := jz.kept ha c73 (by decide) (by decide) (by decide)
            have iy73 := cvP_isY cv73
            have by73 := isY_in iy73 (by omega) (by omega)
            have bv73 : 1 ≤ m73.toInt ∧ m73.toInt ≤ 12 ∧ 1 ≤ d73.toInt := ⟨cv73.1, cv73.2.1, cv73.2.2.1⟩
            refine W.eq (g2 := F0 m 133 ls72 []) rfl ?_
            refine lv_aload_n hx hb (eX12_writeInstant (133, .aload_n 0, 1) (List.mem_of_getElem? (i := 68) rfl)) rfl (lv_at hl72 4 rfl) ?_
            refine lv_aload_n hx hb (eX12_writeInstant (134, .aload_n 0, 1) (List.mem_of_getElem? (i := 69) rfl)) rfl (lv_at hl72 4 rfl) ?_
            refine tz_get (r := 11) (k := 18) (t := (1, (-9223372036854775808), 9223372036854775807)) hx hb hh73 ha rfl rfl (hcl11 127 18 (1, (-9223372036854775808), 9223372036854775807) (by decide) rfl).1 hy73 (eX12_writeInstant (135, .getfield 127, 3) (List.mem_of_getElem? (i := 70) rfl)) ?_
            refine tz_rowV (As := [.long y73]) (st := []) (b := a) (C := RX12) (Ts := gT) hx hb hml hown h2 (fun _ h => h) (hX12_putYear l D cA ro sz H0 a y73 ([]) ha (by omega) (by omega) (by show 0 + 7 ≤ 120; decide)) ⟨rfl, rfl⟩ ⟨by decide, by decide⟩ ⟨by decide, by decide⟩ (tb_8 164 rfl rfl) (tb_1 12 rfl rfl) (tb_8 161 rfl rfl) (tb_8 163 rfl rfl) (tb_0 57 rfl rfl) (show yX12_putYear.cls ≠ "java/lang/invoke/MethodHandle" ∧ yX12_putYear.cls ≠ "java/lang/invoke/VarHandle" ∧ (parseMethodDescriptor yX12_putYear.desc).map (fun d => d.parameters.length) = some 1 by decide +kernel) zs_blind (zs_ob hh73 ha (show RTg[11]? = some (0, 11, 0, fsX12) from rfl) (zCX12 hKn.1)) (fun U hU hW => ⟨rfl, by rw [hU]; exact hh73.l0, zKb s U hW.alike hKn, by rw [hU]; exact jo73⟩) hh73.2.2.1 hl72.1 (Nat.le_of_ble_eq_true rfl) (eX12_writeInstant (138, .invokevirtual 459, 3) (List.mem_of_getElem? (i := 71) rfl)) (fun r74 s74 t74 lo74 g74 f74 l74 => ?_)
            obtain ⟨v74, q74, z74, c74, j74, e74⟩ := f74
            cases q74
            rw [g74] at c74
            have hh74 : zh_ok D cA RTg ro sz H0 t74.heap lo74 := ⟨z74.1, z74.2.1, l74, z74.2.2.2⟩
            have kp74 := kp73.trans (c74.mono (ms' := [(11, 0), (11, 15), (11, 18), (11, 19), (11, 20), (11, 21), (11, 22), (31, 0)]) (by decide))
            have mf74_a_21 := (c74.1 a 11 21 11 0 fsX12 ha rfl (by decide) (by decide)).trans mf73_a_21
            have mf74_a_22 := (c74.1 a 11 22 11 0 fsX12 ha rfl (by decide) (by decide)).trans mf73_a_22
            have mf74_a_0 := (c74.1 a 11 0 11 0 fsX12 ha rfl (by decide) (by decide)).trans mf73_a_0
            have mf74_a_18 := (c74.1 a 11 18 11 0 fsX12 ha rfl (by decide) (by decide)).trans hy73
            have mf74_a_19 := (c74.1 a 11 19 11 0 fsX12 ha rfl (by decide) (by decide)).trans hm73
            have mf74_a_20 := (c74.1 a 11 20 11 0 fsX12 ha rfl (by decide) (by decide)).trans hd73
            refine W.eq (g2 := F0 m 141 ls72 [.int v74]) rfl ?_
            refine lv_istore hx hb (eX12_writeInstant (141, .istore 12, 2) (List.mem_of_getElem? (i := 72) rfl)) hl72 (by decide) rfl (fun ls75 hl75 => ?_)
            refine lv_aload_n hx hb (eX12_writeInstant (143, .aload_n 0, 1) (List.mem_of_getElem? (i := 73) rfl)) rfl (lv_at hl75 5 rfl) ?_
            refine ff_bipush hx hb (eX12_writeInstant (144, .bipush 45, 2) (List.mem_of_getElem? (i := 74) rfl)) (by decide) (by decide) (fun v76 e76 => ?_)
            refine tz_rowV (As := [.int v76]) (st := []) (b := a) (C := RX12) (Ts := gT) hx hb hml hown h2 (fun _ h => h) (hX12_put l D cA ro sz H0 a v76 ([] ++ yrL y73.toInt) ha (by omega) (by omega) (by have hyl := yrL_len y73.toInt; (try simp only [List.length_append, List.length_nil, List.length_cons, dgL_len]); omega)) ⟨rfl, rfl⟩ ⟨by decide, by decide⟩ ⟨by decide, by decide⟩ (tb_8 173 rfl rfl) (tb_1 12 rfl rfl) (tb_8 170 rfl rfl) (tb_8 172 rfl rfl) (tb_0 59 rfl rfl) (show yX12_put.cls ≠ "java/lang/invoke/MethodHandle" ∧ yX12_put.cls ≠ "java/lang/invoke/VarHandle" ∧ (parseMethodDescriptor yX12_put.desc).map (fun d => d.parameters.length) = some 1 by decide +kernel) zs_blind (zs_ob hh74 ha (show RTg[11]? = some (0, 11, 0, fsX12) from rfl) (zCX12 hKn.1)) (fun U hU hW => ⟨rfl, by rw [hU]; exact hh74.l0, zKb s U hW.alike hKn, by rw [hU]; exact j74⟩) hh74.2.2.1 hl75.1 (Nat.le_of_ble_eq_true rfl) (eX12_writeInstant (146, .invokevirtual 450, 3) (List.mem_of_getElem? (i := 75) rfl)) (fun r77 s77 t77 lo77 g77 f77 l77 => ?_)
            obtain ⟨q77, z77, c77, j77⟩ := f77
            cases q77
            rw [g77] at c77
            have hh77 : zh_ok D cA RTg ro sz H0 t77.heap lo77 := ⟨z77.1, z77.2.1, l77, z77.2.2.2⟩
            have kp77 := kp74.trans (c77.mono (ms' := [(11, 0), (11, 15), (11, 18), (11, 19), (11, 20), (11, 21), (11, 22), (31, 0)]) (by decide))
            have mf77_a_21 := (c77.1 a 11 21 11 0 fsX12 ha rfl (by decide) (by decide)).trans mf74_a_21
            have mf77_a_22 := (c77.1 a 11 22 11 0 fsX12 ha rfl (by decide) (by decide)).trans mf74_a_22
            have mf77_a_0 := (c77.1 a 11 0 11 0 fsX12 ha rfl (by decide) (by decide)).trans mf74_a_0
            have mf77_a_18 := (c77.1 a 11 18 11 0 fsX12 ha rfl (by decide) (by decide)).trans mf74_a_18
            have mf77_a_19 := (c77.1 a 11 19 11 0 fsX12 ha rfl (by decide) (by decide)).trans mf74_a_19
            have mf77_a_20 := (c77.1 a 11 20 11 0 fsX12 ha rfl (by decide) (by decide)).trans mf74_a_20
            refine W.eq (g2 := F0 m 149 ls75 []) rfl ?_
            refine lv_aload_n hx hb (eX12_writeInstant (149, .aload_n 0, 1) (List.mem_of_getElem? (i := 76) rfl)) rfl (lv_at hl75 5 rfl) ?_
            refine lv_aload_n hx hb (eX12_writeInstant (150, .aload_n 0, 1) (List.mem_of_getElem? (i := 77) rfl)) rfl (lv_at hl75 5 rfl) ?_
            refine tz_get (r := 11) (k := 19) (t := (0, (-2147483648), 2147483647)) hx hb hh77 ha rfl rfl (hcl11 124 19 (0, (-2147483648), 2147483647) (by decide) rfl).1 mf77_a_19 (eX12_writeInstant (151, .getfield 124, 3) (List.mem_of_getElem? (i := 78) rfl)) ?_
            refine ff_i2l hx hb (eX12_writeInstant (154, .i2l, 1) (List.mem_of_getElem? (i := 79) rfl)) (fun v78 e78 => ?_)
            refine ff_iconst hx hb (eX12_writeInstant (155, .iconst 2, 1) (List.mem_of_getElem? (i := 80) rfl)) (by decide) (by decide) (fun v79 e79 => ?_)
            refine tz_rowV (As := [.long v78, .int v79]) (st := []) (b := a) (C := RX12) (Ts := gT) hx hb hml hown h2 (fun _ h => h) (hX12_putNumber l D cA ro sz H0 a v78 v79 2 ([] ++ yrL y73.toInt ++ [v76.toInt]) ha (by omega) (by omega) (by omega) (by omega) (by have hyl := yrL_len y73.toInt; (try simp only [List.length_append, List.length_nil, List.length_cons, dgL_len]); omega)) ⟨rfl, rfl⟩ ⟨by decide, by decide⟩ ⟨by decide, by decide⟩ (tb_8 169 rfl rfl) (tb_1 12 rfl rfl) (tb_8 166 rfl rfl) (tb_8 168 rfl rfl) (tb_0 58 rfl rfl) (show yX12_putNumber.cls ≠ "java/lang/invoke/MethodHandle" ∧ yX12_putNumber.cls ≠ "java/lang/invoke/VarHandle" ∧ (parseMethodDescriptor yX12_putNumber.desc).map (fun d => d.parameters.length) = some 2 by decide +kernel) zs_blind (zs_ob hh77 ha (show RTg[11]? = some (0, 11, 0, fsX12) from rfl) (zCX12 hKn.1)) (fun U hU hW => ⟨rfl, by rw [hU]; exact hh77.l0, zKb s U hW.alike hKn, by rw [hU]; exact j77⟩) hh77.2.2.1 hl75.1 (Nat.le_of_ble_eq_true rfl) (eX12_writeInstant (156, .invokevirtual 453, 3) (List.mem_of_getElem? (i := 81) rfl)) (fun r80 s80 t80 lo80 g80 f80 l80 => ?_)
            obtain ⟨q80, z80, c80, j80⟩ := f80
            cases q80
            rw [g80] at c80
            have hh80 : zh_ok D cA RTg ro sz H0 t80.heap lo80 := ⟨z80.1, z80.2.1, l80, z80.2.2.2⟩
            have kp80 := kp77.trans (c80.mono (ms' := [(11, 0), (11, 15), (11, 18), (11, 19), (11, 20), (11, 21), (11, 22), (31, 0)]) (by decide))
            have mf80_a_21 := (c80.1 a 11 21 11 0 fsX12 ha rfl (by decide) (by decide)).trans mf77_a_21
            have mf80_a_22 := (c80.1 a 11 22 11 0 fsX12 ha rfl (by decide) (by decide)).trans mf77_a_22
            have mf80_a_0 := (c80.1 a 11 0 11 0 fsX12 ha rfl (by decide) (by decide)).trans mf77_a_0
            have mf80_a_18 := (c80.1 a 11 18 11 0 fsX12 ha rfl (by decide) (by decide)).trans mf77_a_18
            have mf80_a_19 := (c80.1 a 11 19 11 0 fsX12 ha rfl (by decide) (by decide)).trans mf77_a_19
            have mf80_a_20 := (c80.1 a 11 20 11 0 fsX12 ha rfl (by decide) (by decide)).trans mf77_a_20
            refine W.eq (g2 := F0 m 159 ls75 []) rfl ?_
            refine lv_aload_n hx hb (eX12_writeInstant (159, .aload_n 0, 1) (List.mem_of_getElem? (i := 82) rfl)) rfl (lv_at hl75 5 rfl) ?_
            refine ff_bipush hx hb (eX12_writeInstant (160, .bipush 45, 2) (List.mem_of_getElem? (i := 83) rfl)) (by decide) (by decide) (fun v81 e81 => ?_)
            refine tz_rowV (As := [.int v81]) (st := []) (b := a) (C := RX12) (Ts := gT) hx hb hml hown h2 (fun _ h => h) (hX12_put l D cA ro sz H0 a v81 ([] ++ yrL y73.toInt ++ [v76.toInt] ++ dgL 2 v78.toInt) ha (by omega) (by omega) (by have hyl := yrL_len y73.toInt; (try simp only [List.length_append, List.length_nil, List.length_cons, dgL_len]); omega)) ⟨rfl, rfl⟩ ⟨by decide, by decide⟩ ⟨by decide, by decide⟩ (tb_8 173 rfl rfl) (tb_1 12 rfl rfl) (tb_8 170 rfl rfl) (tb_8 172 rfl rfl) (tb_0 59 rfl rfl) (show yX12_put.cls ≠ "java/lang/invoke/MethodHandle" ∧ yX12_put.cls ≠ "java/lang/invoke/VarHandle" ∧ (parseMethodDescriptor yX12_put.desc).map (fun d => d.parameters.length) = some 1 by decide +kernel) zs_blind (zs_ob hh80 ha (show RTg[11]? = some (0, 11, 0, fsX12) from rfl) (zCX12 hKn.1)) (fun U hU hW => ⟨rfl, by rw [hU]; exact hh80.l0, zKb s U hW.alike hKn, by rw [hU]; exact j80⟩) hh80.2.2.1 hl75.1 (Nat.le_of_ble_eq_true rfl) (eX12_writeInstant (162, .invokevirtual 450, 3) (List.mem_of_getElem? (i := 84) rfl)) (fun r82 s82 t82 lo82 g82 f82 l82 => ?_)
            obtain ⟨q82, z82, c82, j82⟩ := f82
            cases q82
            rw [g82] at c82
            have hh82 : zh_ok D cA RTg ro sz H0 t82.heap lo82 := ⟨z82.1, z82.2.1, l82, z82.2.2.2⟩
            have kp82 := kp80.trans (c82.mono (ms' := [(11, 0), (11, 15), (11, 18), (11, 19), (11, 20), (11, 21), (11, 22), (31, 0)]) (by decide))
            have mf82_a_21 := (c82.1 a 11 21 11 0 fsX12 ha rfl (by decide) (by decide)).trans mf80_a_21
            have mf82_a_22 := (c82.1 a 11 22 11 0 fsX12 ha rfl (by decide) (by decide)).trans mf80_a_22
            have mf82_a_0 := (c82.1 a 11 0 11 0 fsX12 ha rfl (by decide) (by decide)).trans mf80_a_0
            have mf82_a_18 := (c82.1 a 11 18 11 0 fsX12 ha rfl (by decide) (by decide)).trans mf80_a_18
            have mf82_a_19 := (c82.1 a 11 19 11 0 fsX12 ha rfl (by decide) (by decide)).trans mf80_a_19
            have mf82_a_20 := (c82.1 a 11 20 11 0 fsX12 ha rfl (by decide) (by decide)).trans mf80_a_20
            refine W.eq (g2 := F0 m 165 ls75 []) rfl ?_
            refine lv_aload_n hx hb (eX12_writeInstant (165, .aload_n 0, 1) (List.mem_of_getElem? (i := 85) rfl)) rfl (lv_at hl75 5 rfl) ?_
            refine lv_aload_n hx hb (eX12_writeInstant (166, .aload_n 0, 1) (List.mem_of_getElem? (i := 86) rfl)) rfl (lv_at hl75 5 rfl) ?_
            refine tz_get (r := 11) (k := 20) (t := (0, (-2147483648), 2147483647)) hx hb hh82 ha rfl rfl (hcl11 121 20 (0, (-2147483648), 2147483647) (by decide) rfl).1 mf82_a_20 (eX12_writeInstant (167, .getfield 121, 3) (List.mem_of_getElem? (i := 87) rfl)) ?_
            refine ff_i2l hx hb (eX12_writeInstant (170, .i2l, 1) (List.mem_of_getElem? (i := 88) rfl)) (fun v83 e83 => ?_)
            refine ff_iconst hx hb (eX12_writeInstant (171, .iconst 2, 1) (List.mem_of_getElem? (i := 89) rfl)) (by decide) (by decide) (fun v84 e84 => ?_)
            refine tz_rowV (As := [.long v83, .int v84]) (st := []) (b := a) (C := RX12) (Ts := gT) hx hb hml hown h2 (fun _ h => h) (hX12_putNumber l D cA ro sz H0 a v83 v84 2 ([] ++ yrL y73.toInt ++ [v76.toInt] ++ dgL 2 v78.toInt ++ [v81.toInt]) ha (by omega) (by omega) (by omega) (by omega) (by have hyl := yrL_len y73.toInt; (try simp only [List.length_append, List.length_nil, List.length_cons, dgL_len]); omega)) ⟨rfl, rfl⟩ ⟨by decide, by decide⟩ ⟨by decide, by decide⟩ (tb_8 169 rfl rfl) (tb_1 12 rfl rfl) (tb_8 166 rfl rfl) (tb_8 168 rfl rfl) (tb_0 58 rfl rfl) (show yX12_putNumber.cls ≠ "java/lang/invoke/MethodHandle" ∧ yX12_putNumber.cls ≠ "java/lang/invoke/VarHandle" ∧ (parseMethodDescriptor yX12_putNumber.desc).map (fun d => d.parameters.length) = some 2 by decide +kernel) zs_blind (zs_ob hh82 ha (show RTg[11]? = some (0, 11, 0, fsX12) from rfl) (zCX12 hKn.1)) (fun U hU hW => ⟨rfl, by rw [hU]; exact hh82.l0, zKb s U hW.alike hKn, by rw [hU]; exact j82⟩) hh82.2.2.1 hl75.1 (Nat.le_of_ble_eq_true rfl) (eX12_writeInstant (172, .invokevirtual 453, 3) (List.mem_of_getElem? (i := 90) rfl)) (fun r85 s85 t85 lo85 g85 f85 l85 => ?_)
            obtain ⟨q85, z85, c85, j85⟩ := f85
            cases q85
            rw [g85] at c85
            have hh85 : zh_ok D cA RTg ro sz H0 t85.heap lo85 := ⟨z85.1, z85.2.1, l85, z85.2.2.2⟩
            have kp85 := kp82.trans (c85.mono (ms' := [(11, 0), (11, 15), (11, 18), (11, 19), (11, 20), (11, 21), (11, 22), (31, 0)]) (by decide))
            have mf85_a_21 := (c85.1 a 11 21 11 0 fsX12 ha rfl (by decide) (by decide)).trans mf82_a_21
            have mf85_a_22 := (c85.1 a 11 22 11 0 fsX12 ha rfl (by decide) (by decide)).trans mf82_a_22
            have mf85_a_0 := (c85.1 a 11 0 11 0 fsX12 ha rfl (by decide) (by decide)).trans mf82_a_0
            have mf85_a_18 := (c85.1 a 11 18 11 0 fsX12 ha rfl (by decide) (by decide)).trans mf82_a_18
            have mf85_a_19 := (c85.1 a 11 19 11 0 fsX12 ha rfl (by decide) (by decide)).trans mf82_a_19
            have mf85_a_20 := (c85.1 a 11 20 11 0 fsX12 ha rfl (by decide) (by decide)).trans mf82_a_20
            refine W.eq (g2 := F0 m 175 ls75 []) rfl ?_
            refine lv_aload_n hx hb (eX12_writeInstant (175, .aload_n 0, 1) (List.mem_of_getElem? (i := 91) rfl)) rfl (lv_at hl75 5 rfl) ?_
            refine ff_bipush hx hb (eX12_writeInstant (176, .bipush 84, 2) (List.mem_of_getElem? (i := 92) rfl)) (by decide) (by decide) (fun v86 e86 => ?_)
            refine tz_rowV (As := [.int v86]) (st := []) (b := a) (C := RX12) (Ts := gT) hx hb hml hown h2 (fun _ h => h) (hX12_put l D cA ro sz H0 a v86 ([] ++ yrL y73.toInt ++ [v76.toInt] ++ dgL 2 v78.toInt ++ [v81.toInt] ++ dgL 2 v83.toInt) ha (by omega) (by omega) (by have hyl := yrL_len y73.toInt; (try simp only [List.length_append, List.length_nil, List.length_cons, dgL_len]); omega)) ⟨rfl, rfl⟩ ⟨by decide, by decide⟩ ⟨by decide, by decide⟩ (tb_8 173 rfl rfl) (tb_1 12 rfl rfl) (tb_8 170 rfl rfl) (tb_8 172 rfl rfl) (tb_0 59 rfl rfl) (show yX12_put.cls ≠ "java/lang/invoke/MethodHandle" ∧ yX12_put.cls ≠ "java/lang/invoke/VarHandle" ∧ (parseMethodDescriptor yX12_put.desc).map (fun d => d.parameters.length) = some 1 by decide +kernel) zs_blind (zs_ob hh85 ha (show RTg[11]? = some (0, 11, 0, fsX12) from rfl) (zCX12 hKn.1)) (fun U hU hW => ⟨rfl, by rw [hU]; exact hh85.l0, zKb s U hW.alike hKn, by rw [hU]; exact j85⟩) hh85.2.2.1 hl75.1 (Nat.le_of_ble_eq_true rfl) (eX12_writeInstant (178, .invokevirtual 450, 3) (List.mem_of_getElem? (i := 93) rfl)) (fun r87 s87 t87 lo87 g87 f87 l87 => ?_)
            obtain ⟨q87, z87, c87, j87⟩ := f87
            cases q87
            rw [g87] at c87
            have hh87 : zh_ok D cA RTg ro sz H0 t87.heap lo87 := ⟨z87.1, z87.2.1, l87, z87.2.2.2⟩
            have kp87 := kp85.trans (c87.mono (ms' := [(11, 0), (11, 15), (11, 18), (11, 19), (11, 20), (11, 21), (11, 22), (31, 0)]) (by decide))
            have mf87_a_21 := (c87.1 a 11 21 11 0 fsX12 ha rfl (by decide) (by decide)).trans mf85_a_21
            have mf87_a_22 := (c87.1 a 11 22 11 0 fsX12 ha rfl (by decide) (by decide)).trans mf85_a_22
            have mf87_a_0 := (c87.1 a 11 0 11 0 fsX12 ha rfl (by decide) (by decide)).trans mf85_a_0
            have mf87_a_18 := (c87.1 a 11 18 11 0 fsX12 ha rfl (by decide) (by decide)).trans mf85_a_18
            have mf87_a_19 := (c87.1 a 11 19 11 0 fsX12 ha rfl (by decide) (by decide)).trans mf85_a_19
            have mf87_a_20 := (c87.1 a 11 20 11 0 fsX12 ha rfl (by decide) (by decide)).trans mf85_a_20
            refine W.eq (g2 := F0 m 181 ls75 []) rfl ?_
            refine lv_lload hx hb (eX12_writeInstant (181, .lload 7, 2) (List.mem_of_getElem? (i := 94) rfl)) (lv_at hl75 3 rfl) ?_
            refine lv_lload hx hb (eX12_writeInstant (183, .lload 10, 2) (List.mem_of_getElem? (i := 95) rfl)) (lv_at hl75 1 rfl) ?_
            refine ff_ldc2 (n := 1440) hx hb hown h2 (clX12_ok 180 1440 (List.mem_of_getElem? (i := 21) rfl)) (eX12_writeInstant (185, .ldc2_w 180, 3) (List.mem_of_getElem? (i := 96) rfl)) (fun v88 e88 => ?_)
            refine ff_lmulR hx hb (eX12_writeInstant (188, .lmul, 1) (List.mem_of_getElem? (i := 97) rfl)) (e88) (by omega) (by omega) (fun v89 e89 => ?_)
            refine ff_lsub hx hb (eX12_writeInstant (189, .lsub, 1) (List.mem_of_getElem? (i := 98) rfl)) (by omega) (by omega) (fun v90 e90 => ?_)
            refine lv_lstore hx hb (eX12_writeInstant (190, .lstore 13, 2) (List.mem_of_getElem? (i := 99) rfl)) hl75 (by decide) rfl (fun ls91 hl91 => ?_)
            refine lv_aload_n hx hb (eX12_writeInstant (192, .aload_n 0, 1) (List.mem_of_getElem? (i := 100) rfl)) rfl (lv_at hl91 6 rfl) ?_
            refine lv_lload hx hb (eX12_writeInstant (193, .lload 13, 2) (List.mem_of_getElem? (i := 101) rfl)) (lv_at hl91 0 rfl) ?_
            refine ff_ldc2 (n := 60) hx hb hown h2 (clX12_ok 178 60 (List.mem_of_getElem? (i := 20) rfl)) (eX12_writeInstant (195, .ldc2_w 178, 3) (List.mem_of_getElem? (i := 102) rfl)) (fun v92 e92 => ?_)
            refine ff_ldivP hx hb (eX12_writeInstant (198, .ldiv, 1) (List.mem_of_getElem? (i := 103) rfl)) (by omega) (e92) (by decide) (fun v93 e93 => ?_)
            refine ff_iconst hx hb (eX12_writeInstant (199, .iconst 2, 1) (List.mem_of_getElem? (i := 104) rfl)) (by decide) (by decide) (fun v94 e94 => ?_)
            refine tz_rowV (As := [.long v93, .int v94]) (st := []) (b := a) (C := RX12) (Ts := gT) hx hb hml hown h2 (fun _ h => h) (hX12_putNumber l D cA ro sz H0 a v93 v94 2 ([] ++ yrL y73.toInt ++ [v76.toInt] ++ dgL 2 v78.toInt ++ [v81.toInt] ++ dgL 2 v83.toInt ++ [v86.toInt]) ha (by omega) (by omega) (by omega) (by omega) (by have hyl := yrL_len y73.toInt; (try simp only [List.length_append, List.length_nil, List.length_cons, dgL_len]); omega)) ⟨rfl, rfl⟩ ⟨by decide, by decide⟩ ⟨by decide, by decide⟩ (tb_8 169 rfl rfl) (tb_1 12 rfl rfl) (tb_8 166 rfl rfl) (tb_8 168 rfl rfl) (tb_0 58 rfl rfl) (show yX12_putNumber.cls ≠ "java/lang/invoke/MethodHandle" ∧ yX12_putNumber.cls ≠ "java/lang/invoke/VarHandle" ∧ (parseMethodDescriptor yX12_putNumber.desc).map (fun d => d.parameters.length) = some 2 by decide +kernel) zs_blind (zs_ob hh87 ha (show RTg[11]? = some (0, 11, 0, fsX12) from rfl) (zCX12 hKn.1)) (fun U hU hW => ⟨rfl, by rw [hU]; exact hh87.l0, zKb s U hW.alike hKn, by rw [hU]; exact j87⟩) hh87.2.2.1 hl91.1 (Nat.le_of_ble_eq_true rfl) (eX12_writeInstant (200, .invokevirtual 453, 3) (List.mem_of_getElem? (i := 105) rfl)) (fun r95 s95 t95 lo95 g95 f95 l95 => ?_)
            obtain ⟨q95, z95, c95, j95⟩ := f95
            cases q95
            rw [g95] at c95
            have hh95 : zh_ok D cA RTg ro sz H0 t95.heap lo95 := ⟨z95.1, z95.2.1, l95, z95.2.2.2⟩
            have kp95 := kp87.trans (c95.mono (ms' := [(11, 0), (11, 15), (11, 18), (11, 19), (11, 20), (11, 21), (11, 22), (31, 0)]) (by decide))
            have mf95_a_21 := (c95.1 a 11 21 11 0 fsX12 ha rfl (by decide) (by decide)).trans mf87_a_21
            have mf95_a_22 := (c95.1 a 11 22 11 0 fsX12 ha rfl (by decide) (by decide)).trans mf87_a_22
            have mf95_a_0 := (c95.1 a 11 0 11 0 fsX12 ha rfl (by decide) (by decide)).trans mf87_a_0
            have mf95_a_18 := (c95.1 a 11 18 11 0 fsX12 ha rfl (by decide) (by decide)).trans mf87_a_18
            have mf95_a_19 := (c95.1 a 11 19 11 0 fsX12 ha rfl (by decide) (by decide)).trans mf87_a_19
            have mf95_a_20 := (c95.1 a 11 20 11 0 fsX12 ha rfl (by decide) (by decide)).trans mf87_a_20
            refine W.eq (g2 := F0 m 203 ls91 []) rfl ?_
            refine lv_aload_n hx hb (eX12_writeInstant (203, .aload_n 0, 1) (List.mem_of_getElem? (i := 106) rfl)) rfl (lv_at hl91 6 rfl) ?_
            refine ff_bipush hx hb (eX12_writeInstant (204, .bipush 58, 2) (List.mem_of_getElem? (i := 107) rfl)) (by decide) (by decide) (fun v96 e96 => ?_)
            refine tz_rowV (As := [.int v96]) (st := []) (b := a) (C := RX12) (Ts := gT) hx hb hml hown h2 (fun _ h => h) (hX12_put l D cA ro sz H0 a v96 ([] ++ yrL y73.toInt ++ [v76.toInt] ++ dgL 2 v78.toInt ++ [v81.toInt] ++ dgL 2 v83.toInt ++ [v86.toInt] ++ dgL 2 v93.toInt) ha (by omega) (by omega) (by have hyl := yrL_len y73.toInt; (try simp only [List.length_append, List.length_nil, List.length_cons, dgL_len]); omega)) ⟨rfl, rfl⟩ ⟨by decide, by decide⟩ ⟨by decide, by decide⟩ (tb_8 173 rfl rfl) (tb_1 12 rfl rfl) (tb_8 170 rfl rfl) (tb_8 172 rfl rfl) (tb_0 59 rfl rfl) (show yX12_put.cls ≠ "java/lang/invoke/MethodHandle" ∧ yX12_put.cls ≠ "java/lang/invoke/VarHandle" ∧ (parseMethodDescriptor yX12_put.desc).map (fun d => d.parameters.length) = some 1 by decide +kernel) zs_blind (zs_ob hh95 ha (show RTg[11]? = some (0, 11, 0, fsX12) from rfl) (zCX12 hKn.1)) (fun U hU hW => ⟨rfl, by rw [hU]; exact hh95.l0, zKb s U hW.alike hKn, by rw [hU]; exact j95⟩) hh95.2.2.1 hl91.1 (Nat.le_of_ble_eq_true rfl) (eX12_writeInstant (206, .invokevirtual 450, 3) (List.mem_of_getElem? (i := 108) rfl)) (fun r97 s97 t97 lo97 g97 f97 l97 => ?_)
            obtain ⟨q97, z97, c97, j97⟩ := f97
            cases q97
            rw [g97] at c97
            have hh97 : zh_ok D cA RTg ro sz H0 t97.heap lo97 := ⟨z97.1, z97.2.1, l97, z97.2.2.2⟩
            have kp97 := kp95.trans (c97.mono (ms' := [(11, 0), (11, 15), (11, 18), (11, 19), (11, 20), (11, 21), (11, 22), (31, 0)]) (by decide))
            have mf97_a_21 := (c97.1 a 11 21 11 0 fsX12 ha rfl (by decide) (by decide)).trans mf95_a_21
            have mf97_a_22 := (c97.1 a 11 22 11 0 fsX12 ha rfl (by decide) (by decide)).trans mf95_a_22
            have mf97_a_0 := (c97.1 a 11 0 11 0 fsX12 ha rfl (by decide) (by decide)).trans mf95_a_0
            have mf97_a_18 := (c97.1 a 11 18 11 0 fsX12 ha rfl (by decide) (by decide)).trans mf95_a_18
            have mf97_a_19 := (c97.1 a 11 19 11 0 fsX12 ha rfl (by decide) (by decide)).trans mf95_a_19
            have mf97_a_20 := (c97.1 a 11 20 11 0 fsX12 ha rfl (by decide) (by decide)).trans mf95_a_20
            refine W.eq (g2 := F0 m 209 ls91 []) rfl ?_
            refine lv_aload_n hx hb (eX12_writeInstant (209, .aload_n 0, 1) (List.mem_of_getElem? (i := 109) rfl)) rfl (lv_at hl91 6 rfl) ?_
            refine lv_lload hx hb (eX12_writeInstant (210, .lload 13, 2) (List.mem_of_getElem? (i := 110) rfl)) (lv_at hl91 0 rfl) ?_
            refine ff_ldc2 (n := 60) hx hb hown h2 (clX12_ok 178 60 (List.mem_of_getElem? (i := 20) rfl)) (eX12_writeInstant (212, .ldc2_w 178, 3) (List.mem_of_getElem? (i := 111) rfl)) (fun v98 e98 => ?_)
            refine ff_lremP hx hb (eX12_writeInstant (215, .lrem, 1) (List.mem_of_getElem? (i := 112) rfl)) (by omega) (e98) (by decide) (fun v99 e99 => ?_)
            refine ff_iconst hx hb (eX12_writeInstant (216, .iconst 2, 1) (List.mem_of_getElem? (i := 113) rfl)) (by decide) (by decide) (fun v100 e100 => ?_)
            refine tz_rowV (As := [.long v99, .int v100]) (st := []) (b := a) (C := RX12) (Ts := gT) hx hb hml hown h2 (fun _ h => h) (hX12_putNumber l D cA ro sz H0 a v99 v100 2 ([] ++ yrL y73.toInt ++ [v76.toInt] ++ dgL 2 v78.toInt ++ [v81.toInt] ++ dgL 2 v83.toInt ++ [v86.toInt] ++ dgL 2 v93.toInt ++ [v96.toInt]) ha (by omega) (by omega) (by omega) (by omega) (by have hyl := yrL_len y73.toInt; (try simp only [List.length_append, List.length_nil, List.length_cons, dgL_len]); omega)) ⟨rfl, rfl⟩ ⟨by decide, by decide⟩ ⟨by decide, by decide⟩ (tb_8 169 rfl rfl) (tb_1 12 rfl rfl) (tb_8 166 rfl rfl) (tb_8 168 rfl rfl) (tb_0 58 rfl rfl) (show yX12_putNumber.cls ≠ "java/lang/invoke/MethodHandle" ∧ yX12_putNumber.cls ≠ "java/lang/invoke/VarHandle" ∧ (parseMethodDescriptor yX12_putNumber.desc).map (fun d => d.parameters.length) = some 2 by decide +kernel) zs_blind (zs_ob hh97 ha (show RTg[11]? = some (0, 11, 0, fsX12) from rfl) (zCX12 hKn.1)) (fun U hU hW => ⟨rfl, by rw [hU]; exact hh97.l0, zKb s U hW.alike hKn, by rw [hU]; exact j97⟩) hh97.2.2.1 hl91.1 (Nat.le_of_ble_eq_true rfl) (eX12_writeInstant (217, .invokevirtual 453, 3) (List.mem_of_getElem? (i := 114) rfl)) (fun r101 s101 t101 lo101 g101 f101 l101 => ?_)
            obtain ⟨q101, z101, c101, j101⟩ := f101
            cases q101
            rw [g101] at c101
            have hh101 : zh_ok D cA RTg ro sz H0 t101.heap lo101 := ⟨z101.1, z101.2.1, l101, z101.2.2.2⟩
            have kp101 := kp97.trans (c101.mono (ms' := [(11, 0), (11, 15), (11, 18), (11, 19), (11, 20), (11, 21), (11, 22), (31, 0)]) (by decide))
            have mf101_a_21 := (c101.1 a 11 21 11 0 fsX12 ha rfl (by decide) (by decide)).trans mf97_a_21
            have mf101_a_22 := (c101.1 a 11 22 11 0 fsX12 ha rfl (by decide) (by decide)).trans mf97_a_22
            have mf101_a_0 := (c101.1 a 11 0 11 0 fsX12 ha rfl (by decide) (by decide)).trans mf97_a_0
            have mf101_a_18 := (c101.1 a 11 18 11 0 fsX12 ha rfl (by decide) (by decide)).trans mf97_a_18
            have mf101_a_19 := (c101.1 a 11 19 11 0 fsX12 ha rfl (by decide) (by decide)).trans mf97_a_19
            have mf101_a_20 := (c101.1 a 11 20 11 0 fsX12 ha rfl (by decide) (by decide)).trans mf97_a_20
            refine W.eq (g2 := F0 m 220 ls91 []) rfl ?_
            refine lv_aload_n hx hb (eX12_writeInstant (220, .aload_n 0, 1) (List.mem_of_getElem? (i := 115) rfl)) rfl (lv_at hl91 6 rfl) ?_
            refine ff_bipush hx hb (eX12_writeInstant (221, .bipush 58, 2) (List.mem_of_getElem? (i := 116) rfl)) (by decide) (by decide) (fun v102 e102 => ?_)
            refine tz_rowV (As := [.int v102]) (st := []) (b := a) (C := RX12) (Ts := gT) hx hb hml hown h2 (fun _ h => h) (hX12_put l D cA ro sz H0 a v102 ([] ++ yrL y73.toInt ++ [v76.toInt] ++ dgL 2 v78.toInt ++ [v81.toInt] ++ dgL 2 v83.toInt ++ [v86.toInt] ++ dgL 2 v93.toInt ++ [v96.toInt] ++ dgL 2 v99.toInt) ha (by omega) (by omega) (by have hyl := yrL_len y73.toInt; (try simp only [List.length_append, List.length_nil, List.length_cons, dgL_len]); omega)) ⟨rfl, rfl⟩ ⟨by decide, by decide⟩ ⟨by decide, by decide⟩ (tb_8 173 rfl rfl) (tb_1 12 rfl rfl) (tb_8 170 rfl rfl) (tb_8 172 rfl rfl) (tb_0 59 rfl rfl) (show yX12_put.cls ≠ "java/lang/invoke/MethodHandle" ∧ yX12_put.cls ≠ "java/lang/invoke/VarHandle" ∧ (parseMethodDescriptor yX12_put.desc).map (fun d => d.parameters.length) = some 1 by decide +kernel) zs_blind (zs_ob hh101 ha (show RTg[11]? = some (0, 11, 0, fsX12) from rfl) (zCX12 hKn.1)) (fun U hU hW => ⟨rfl, by rw [hU]; exact hh101.l0, zKb s U hW.alike hKn, by rw [hU]; exact j101⟩) hh101.2.2.1 hl91.1 (Nat.le_of_ble_eq_true rfl) (eX12_writeInstant (223, .invokevirtual 450, 3) (List.mem_of_getElem? (i := 117) rfl)) (fun r103 s103 t103 lo103 g103 f103 l103 => ?_)
            obtain ⟨q103, z103, c103, j103⟩ := f103
            cases q103
            rw [g103] at c103
            have hh103 : zh_ok D cA RTg ro sz H0 t103.heap lo103 := ⟨z103.1, z103.2.1, l103, z103.2.2.2⟩
            have kp103 := kp101.trans (c103.mono (ms' := [(11, 0), (11, 15), (11, 18), (11, 19), (11, 20), (11, 21), (11, 22), (31, 0)]) (by decide))
            have mf103_a_21 := (c103.1 a 11 21 11 0 fsX12 ha rfl (by decide) (by decide)).trans mf101_a_21
            have mf103_a_22 := (c103.1 a 11 22 11 0 fsX12 ha rfl (by decide) (by decide)).trans mf101_a_22
            have mf103_a_0 := (c103.1 a 11 0 11 0 fsX12 ha rfl (by decide) (by decide)).trans mf101_a_0
            have mf103_a_18 := (c103.1 a 11 18 11 0 fsX12 ha rfl (by decide) (by decide)).trans mf101_a_18
            have mf103_a_19 := (c103.1 a 11 19 11 0 fsX12 ha rfl (by decide) (by decide)).trans mf101_a_19
            have mf103_a_20 := (c103.1 a 11 20 11 0 fsX12 ha rfl (by decide) (by decide)).trans mf101_a_20
            refine W.eq (g2 := F0 m 226 ls91 []) rfl ?_
            refine lv_aload_n hx hb (eX12_writeInstant (226, .aload_n 0, 1) (List.mem_of_getElem? (i := 118) rfl)) rfl (lv_at hl91 6 rfl) ?_
            refine lv_iload hx hb (eX12_writeInstant (227, .iload 9, 2) (List.mem_of_getElem? (i := 119) rfl)) (lv_at hl91 3 rfl) ?_
            refine ff_i2l hx hb (eX12_writeInstant (229, .i2l, 1) (List.mem_of_getElem? (i := 120) rfl)) (fun v104 e104 => ?_)
            refine ff_iconst hx hb (eX12_writeInstant (230, .iconst 2, 1) (List.mem_of_getElem? (i := 121) rfl)) (by decide) (by decide) (fun v105 e105 => ?_)
            refine tz_rowV (As := [.long v104, .int v105]) (st := []) (b := a) (C := RX12) (Ts := gT) hx hb hml hown h2 (fun _ h => h) (hX12_putNumber l D cA ro sz H0 a v104 v105 2 ([] ++ yrL y73.toInt ++ [v76.toInt] ++ dgL 2 v78.toInt ++ [v81.toInt] ++ dgL 2 v83.toInt ++ [v86.toInt] ++ dgL 2 v93.toInt ++ [v96.toInt] ++ dgL 2 v99.toInt ++ [v102.toInt]) ha (by omega) (by omega) (by omega) (by omega) (by have hyl := yrL_len y73.toInt; (try simp only [List.length_append, List.length_nil, List.length_cons, dgL_len]); omega)) ⟨rfl, rfl⟩ ⟨by decide, by decide⟩ ⟨by decide, by decide⟩ (tb_8 169 rfl rfl) (tb_1 12 rfl rfl) (tb_8 166 rfl rfl) (tb_8 168 rfl rfl) (tb_0 58 rfl rfl) (show yX12_putNumber.cls ≠ "java/lang/invoke/MethodHandle" ∧ yX12_putNumber.cls ≠ "java/lang/invoke/VarHandle" ∧ (parseMethodDescriptor yX12_putNumber.desc).map (fun d => d.parameters.length) = some 2 by decide +kernel) zs_blind (zs_ob hh103 ha (show RTg[11]? = some (0, 11, 0, fsX12) from rfl) (zCX12 hKn.1)) (fun U hU hW => ⟨rfl, by rw [hU]; exact hh103.l0, zKb s U hW.alike hKn, by rw [hU]; exact j103⟩) hh103.2.2.1 hl91.1 (Nat.le_of_ble_eq_true rfl) (eX12_writeInstant (231, .invokevirtual 453, 3) (List.mem_of_getElem? (i := 122) rfl)) (fun r106 s106 t106 lo106 g106 f106 l106 => ?_)
            obtain ⟨q106, z106, c106, j106⟩ := f106
            cases q106
            rw [g106] at c106
            have hh106 : zh_ok D cA RTg ro sz H0 t106.heap lo106 := ⟨z106.1, z106.2.1, l106, z106.2.2.2⟩
            have kp106 := kp103.trans (c106.mono (ms' := [(11, 0), (11, 15), (11, 18), (11, 19), (11, 20), (11, 21), (11, 22), (31, 0)]) (by decide))
            have mf106_a_21 := (c106.1 a 11 21 11 0 fsX12 ha rfl (by decide) (by decide)).trans mf103_a_21
            have mf106_a_22 := (c106.1 a 11 22 11 0 fsX12 ha rfl (by decide) (by decide)).trans mf103_a_22
            have mf106_a_0 := (c106.1 a 11 0 11 0 fsX12 ha rfl (by decide) (by decide)).trans mf103_a_0
            have mf106_a_18 := (c106.1 a 11 18 11 0 fsX12 ha rfl (by decide) (by decide)).trans mf103_a_18
            have mf106_a_19 := (c106.1 a 11 19 11 0 fsX12 ha rfl (by decide) (by decide)).trans mf103_a_19
            have mf106_a_20 := (c106.1 a 11 20 11 0 fsX12 ha rfl (by decide) (by decide)).trans mf103_a_20
            refine W.eq (g2 := F0 m 234 ls91 []) rfl ?_
            refine lv_aload_n hx hb (eX12_writeInstant (234, .aload_n 0, 1) (List.mem_of_getElem? (i := 123) rfl)) rfl (lv_at hl91 6 rfl) ?_
            refine lv_iload_n hx hb (eX12_writeInstant (235, .iload_n 3, 1) (List.mem_of_getElem? (i := 124) rfl)) rfl (lv_at hl91 8 rfl) ?_
            refine lv_iload hx hb (eX12_writeInstant (236, .iload 5, 2) (List.mem_of_getElem? (i := 125) rfl)) (lv_at hl91 10 rfl) ?_
            refine tz_rowV (As := [.int na, .int dg]) (st := []) (b := a) (C := RX12) (Ts := gT) hx hb hml hown h2 (fun _ h => h) (hX12_putPart l D cA ro sz H0 a na dg dg.toInt.toNat ([] ++ yrL y73.toInt ++ [v76.toInt] ++ dgL 2 v78.toInt ++ [v81.toInt] ++ dgL 2 v83.toInt ++ [v86.toInt] ++ dgL 2 v93.toInt ++ [v96.toInt] ++ dgL 2 v99.toInt ++ [v102.toInt] ++ dgL 2 v104.toInt) ha (by omega) (by omega) (by omega) (by have hyl := yrL_len y73.toInt; (try simp only [List.length_append, List.length_nil, List.length_cons, dgL_len]); omega)) ⟨rfl, rfl⟩ ⟨by decide, by decide⟩ ⟨by decide, by decide⟩ (tb_8 182 rfl rfl) (tb_1 12 rfl rfl) (tb_8 179 rfl rfl) (tb_8 181 rfl rfl) (tb_0 60 rfl rfl) (show yX12_putPart.cls ≠ "java/lang/invoke/MethodHandle" ∧ yX12_putPart.cls ≠ "java/lang/invoke/VarHandle" ∧ (parseMethodDescriptor yX12_putPart.desc).map (fun d => d.parameters.length) = some 2 by decide +kernel) zs_blind (zs_ob hh106 ha (show RTg[11]? = some (0, 11, 0, fsX12) from rfl) (zCX12 hKn.1)) (fun U hU hW => ⟨rfl, by rw [hU]; exact hh106.l0, zKb s U hW.alike hKn, by rw [hU]; exact j106⟩) hh106.2.2.1 hl91.1 (Nat.le_of_ble_eq_true rfl) (eX12_writeInstant (238, .invokevirtual 464, 3) (List.mem_of_getElem? (i := 126) rfl)) (fun r107 s107 t107 lo107 g107 f107 l107 => ?_)
            obtain ⟨q107, z107, c107, j107⟩ := f107
            cases q107
            rw [g107] at c107
            have hh107 : zh_ok D cA RTg ro sz H0 t107.heap lo107 := ⟨z107.1, z107.2.1, l107, z107.2.2.2⟩
            have kp107 := kp106.trans (c107.mono (ms' := [(11, 0), (11, 15), (11, 18), (11, 19), (11, 20), (11, 21), (11, 22), (31, 0)]) (by decide))
            have mf107_a_21 := (c107.1 a 11 21 11 0 fsX12 ha rfl (by decide) (by decide)).trans mf106_a_21
            have mf107_a_22 := (c107.1 a 11 22 11 0 fsX12 ha rfl (by decide) (by decide)).trans mf106_a_22
            have mf107_a_0 := (c107.1 a 11 0 11 0 fsX12 ha rfl (by decide) (by decide)).trans mf106_a_0
            have mf107_a_18 := (c107.1 a 11 18 11 0 fsX12 ha rfl (by decide) (by decide)).trans mf106_a_18
            have mf107_a_19 := (c107.1 a 11 19 11 0 fsX12 ha rfl (by decide) (by decide)).trans mf106_a_19
            have mf107_a_20 := (c107.1 a 11 20 11 0 fsX12 ha rfl (by decide) (by decide)).trans mf106_a_20
            refine W.eq (g2 := F0 m 241 ls91 []) rfl ?_
            refine lv_iload hx hb (eX12_writeInstant (241, .iload 4, 2) (List.mem_of_getElem? (i := 127) rfl)) (lv_at hl91 9 rfl) ?_
            refine ff_if_ne hx hb (eX12_writeInstant (243, .ifCond .ne 12, 3) (List.mem_of_getElem? (i := 128) rfl)) (tgt := 255) rfl (fun c108 => ?_) (fun c108 => ?_)
            · skip
              refine lv_iload hx hb (eX12_writeInstant (255, .iload 4, 2) (List.mem_of_getElem? (i := 133) rfl)) (lv_at hl91 9 rfl) ?_
              refine ff_if_ge hx hb (eX12_writeInstant (257, .ifCond .ge 9, 3) (List.mem_of_getElem? (i := 134) rfl)) (tgt := 266) rfl (fun c109 => ?_) (fun c109 => ?_)
              · skip
                refine lv_iload hx hb (eX12_writeInstant (266, .iload 4, 2) (List.mem_of_getElem? (i := 138) rfl)) (lv_at hl91 9 rfl) ?_
                refine lv_istore hx hb (eX12_writeInstant (268, .istore 15, 2) (List.mem_of_getElem? (i := 139) rfl)) hl91 (by decide) rfl (fun ls110 hl110 => ?_)
                refine lv_aload_n hx hb (eX12_writeInstant (270, .aload_n 0, 1) (List.mem_of_getElem? (i := 140) rfl)) rfl (lv_at hl110 7 rfl) ?_
                refine lv_iload hx hb (eX12_writeInstant (271, .iload 4, 2) (List.mem_of_getElem? (i := 141) rfl)) (lv_at hl110 10 rfl) ?_
                refine ff_if_ge hx hb (eX12_writeInstant (273, .ifCond .ge 8, 3) (List.mem_of_getElem? (i := 142) rfl)) (tgt := 281) rfl (fun c111 => ?_) (fun c111 => (by exfalso; omega))
                refine ff_bipush hx hb (eX12_writeInstant (281, .bipush 43, 2) (List.mem_of_getElem? (i := 145) rfl)) (by decide) (by decide) (fun v112 e112 => ?_)
                refine tz_rowV (As := [.int v112]) (st := []) (b := a) (C := RX12) (Ts := gT) hx hb hml hown h2 (fun _ h => h) (hX12_put l D cA ro sz H0 a v112 ([] ++ yrL y73.toInt ++ [v76.toInt] ++ dgL 2 v78.toInt ++ [v81.toInt] ++ dgL 2 v83.toInt ++ [v86.toInt] ++ dgL 2 v93.toInt ++ [v96.toInt] ++ dgL 2 v99.toInt ++ [v102.toInt] ++ dgL 2 v104.toInt ++ ptL na.toInt dg.toInt.toNat) ha (by omega) (by omega) (by have hyl := yrL_len y73.toInt; have hpl := ptL_len na.toInt dg.toInt.toNat; (try simp only [List.length_append, List.length_nil, List.length_cons, dgL_len]); omega)) ⟨rfl, rfl⟩ ⟨by decide, by decide⟩ ⟨by decide, by decide⟩ (tb_8 173 rfl rfl) (tb_1 12 rfl rfl) (tb_8 170 rfl rfl) (tb_8 172 rfl rfl) (tb_0 59 rfl rfl) (show yX12_put.cls ≠ "java/lang/invoke/MethodHandle" ∧ yX12_put.cls ≠ "java/lang/invoke/VarHandle" ∧ (parseMethodDescriptor yX12_put.desc).map (fun d => d.parameters.length) = some 1 by decide +kernel) zs_blind (zs_ob hh107 ha (show RTg[11]? = some (0, 11, 0, fsX12) from rfl) (zCX12 hKn.1)) (fun U hU hW => ⟨rfl, by rw [hU]; exact hh107.l0, zKb s U hW.alike hKn, by rw [hU]; exact j107⟩) hh107.2.2.1 hl110.1 (Nat.le_of_ble_eq_true rfl) (eX12_writeInstant (283, .invokevirtual 450, 3) (List.mem_of_getElem? (i := 146) rfl)) (fun r113 s113 t113 lo113 g113 f113 l113 => ?_)
                obtain ⟨q113, z113, c113, j113⟩ := f113
                cases q113
                rw [g113] at c113
                have hh113 : zh_ok D cA RTg ro sz H0 t113.heap lo113 := ⟨z113.1, z113.2.1, l113, z113.2.2.2⟩
                have kp113 := kp107.trans (c113.mono (ms' := [(11, 0), (11, 15), (11, 18), (11, 19), (11, 20), (11, 21), (11, 22), (31, 0)]) (by decide))
                have mf113_a_21 := (c113.1 a 11 21 11 0 fsX12 ha rfl (by decide) (by decide)).trans mf107_a_21
                have mf113_a_22 := (c113.1 a 11 22 11 0 fsX12 ha rfl (by decide) (by decide)).trans mf107_a_22
                have mf113_a_0 := (c113.1 a 11 0 11 0 fsX12 ha rfl (by decide) (by decide)).trans mf107_a_0
                have mf113_a_18 := (c113.1 a 11 18 11 0 fsX12 ha rfl (by decide) (by decide)).trans mf107_a_18
                have mf113_a_19 := (c113.1 a 11 19 11 0 fsX12 ha rfl (by decide) (by decide)).trans mf107_a_19
                have mf113_a_20 := (c113.1 a 11 20 11 0 fsX12 ha rfl (by decide) (by decide)).trans mf107_a_20
                refine W.eq (g2 := F0 m 286 ls110 []) rfl ?_
                refine lv_aload_n hx hb (eX12_writeInstant (286, .aload_n 0, 1) (List.mem_of_getElem? (i := 147) rfl)) rfl (lv_at hl110 7 rfl) ?_
                refine lv_iload hx hb (eX12_writeInstant (287, .iload 15, 2) (List.mem_of_getElem? (i := 148) rfl)) (lv_at hl110 0 rfl) ?_
                refine ff_bipush hx hb (eX12_writeInstant (289, .bipush 60, 2) (List.mem_of_getElem? (i := 149) rfl)) (by decide) (by decide) (fun v114 e114 => ?_)
                refine ff_idivP hx hb (eX12_writeInstant (291, .idiv, 1) (List.mem_of_getElem? (i := 150) rfl)) (by omega) (e114) (by decide) (fun v115 e115 => ?_)
                refine ff_i2l hx hb (eX12_writeInstant (292, .i2l, 1) (List.mem_of_getElem? (i := 151) rfl)) (fun v116 e116 => ?_)
                refine ff_iconst hx hb (eX12_writeInstant (293, .iconst 2, 1) (List.mem_of_getElem? (i := 152) rfl)) (by decide) (by decide) (fun v117 e117 => ?_)
                refine tz_rowV (As := [.long v116, .int v117]) (st := []) (b := a) (C := RX12) (Ts := gT) hx hb hml hown h2 (fun _ h => h) (hX12_putNumber l D cA ro sz H0 a v116 v117 2 ([] ++ yrL y73.toInt ++ [v76.toInt] ++ dgL 2 v78.toInt ++ [v81.toInt] ++ dgL 2 v83.toInt ++ [v86.toInt] ++ dgL 2 v93.toInt ++ [v96.toInt] ++ dgL 2 v99.toInt ++ [v102.toInt] ++ dgL 2 v104.toInt ++ ptL na.toInt dg.toInt.toNat ++ [v112.toInt]) ha (by omega) (by omega) (by omega) (by omega) (by have hyl := yrL_len y73.toInt; have hpl := ptL_len na.toInt dg.toInt.toNat; (try simp only [List.length_append, List.length_nil, List.length_cons, dgL_len]); omega)) ⟨rfl, rfl⟩ ⟨by decide, by decide⟩ ⟨by decide, by decide⟩ (tb_8 169 rfl rfl) (tb_1 12 rfl rfl) (tb_8 166 rfl rfl) (tb_8 168 rfl rfl) (tb_0 58 rfl rfl) (show yX12_putNumber.cls ≠ "java/lang/invoke/MethodHandle" ∧ yX12_putNumber.cls ≠ "java/lang/invoke/VarHandle" ∧ (parseMethodDescriptor yX12_putNumber.desc).map (fun d => d.parameters.length) = some 2 by decide +kernel) zs_blind (zs_ob hh113 ha (show RTg[11]? = some (0, 11, 0, fsX12) from rfl) (zCX12 hKn.1)) (fun U hU hW => ⟨rfl, by rw [hU]; exact hh113.l0, zKb s U hW.alike hKn, by rw [hU]; exact j113⟩) hh113.2.2.1 hl110.1 (Nat.le_of_ble_eq_true rfl) (eX12_writeInstant (294, .invokevirtual 453, 3) (List.mem_of_getElem? (i := 153) rfl)) (fun r118 s118 t118 lo118 g118 f118 l118 => ?_)
                obtain ⟨q118, z118, c118, j118⟩ := f118
                cases q118
                rw [g118] at c118
                have hh118 : zh_ok D cA RTg ro sz H0 t118.heap lo118 := ⟨z118.1, z118.2.1, l118, z118.2.2.2⟩
                have kp118 := kp113.trans (c118.mono (ms' := [(11, 0), (11, 15), (11, 18), (11, 19), (11, 20), (11, 21), (11, 22), (31, 0)]) (by decide))
                have mf118_a_21 := (c118.1 a 11 21 11 0 fsX12 ha rfl (by decide) (by decide)).trans mf113_a_21
                have mf118_a_22 := (c118.1 a 11 22 11 0 fsX12 ha rfl (by decide) (by decide)).trans mf113_a_22
                have mf118_a_0 := (c118.1 a 11 0 11 0 fsX12 ha rfl (by decide) (by decide)).trans mf113_a_0
                have mf118_a_18 := (c118.1 a 11 18 11 0 fsX12 ha rfl (by decide) (by decide)).trans mf113_a_18
                have mf118_a_19 := (c118.1 a 11 19 11 0 fsX12 ha rfl (by decide) (by decide)).trans mf113_a_19
                have mf118_a_20 := (c118.1 a 11 20 11 0 fsX12 ha rfl (by decide) (by decide)).trans mf113_a_20
                refine W.eq (g2 := F0 m 297 ls110 []) rfl ?_
                refine lv_aload_n hx hb (eX12_writeInstant (297, .aload_n 0, 1) (List.mem_of_getElem? (i := 154) rfl)) rfl (lv_at hl110 7 rfl) ?_
                refine ff_bipush hx hb (eX12_writeInstant (298, .bipush 58, 2) (List.mem_of_getElem? (i := 155) rfl)) (by decide) (by decide) (fun v119 e119 => ?_)
                refine tz_rowV (As := [.int v119]) (st := []) (b := a) (C := RX12) (Ts := gT) hx hb hml hown h2 (fun _ h => h) (hX12_put l D cA ro sz H0 a v119 ([] ++ yrL y73.toInt ++ [v76.toInt] ++ dgL 2 v78.toInt ++ [v81.toInt] ++ dgL 2 v83.toInt ++ [v86.toInt] ++ dgL 2 v93.toInt ++ [v96.toInt] ++ dgL 2 v99.toInt ++ [v102.toInt] ++ dgL 2 v104.toInt ++ ptL na.toInt dg.toInt.toNat ++ [v112.toInt] ++ dgL 2 v116.toInt) ha (by omega) (by omega) (by have hyl := yrL_len y73.toInt; have hpl := ptL_len na.toInt dg.toInt.toNat; (try simp only [List.length_append, List.length_nil, List.length_cons, dgL_len]); omega)) ⟨rfl, rfl⟩ ⟨by decide, by decide⟩ ⟨by decide, by decide⟩ (tb_8 173 rfl rfl) (tb_1 12 rfl rfl) (tb_8 170 rfl rfl) (tb_8 172 rfl rfl) (tb_0 59 rfl rfl) (show yX12_put.cls ≠ "java/lang/invoke/MethodHandle" ∧ yX12_put.cls ≠ "java/lang/invoke/VarHandle" ∧ (parseMethodDescriptor yX12_put.desc).map (fun d => d.parameters.length) = some 1 by decide +kernel) zs_blind (zs_ob hh118 ha (show RTg[11]? = some (0, 11, 0, fsX12) from rfl) (zCX12 hKn.1)) (fun U hU hW => ⟨rfl, by rw [hU]; exact hh118.l0, zKb s U hW.alike hKn, by rw [hU]; exact j118⟩) hh118.2.2.1 hl110.1 (Nat.le_of_ble_eq_true rfl) (eX12_writeInstant (300, .invokevirtual 450, 3) (List.mem_of_getElem? (i := 156) rfl)) (fun r120 s120 t120 lo120 g120 f120 l120 => ?_)
                obtain ⟨q120, z120, c120, j120⟩ := f120
                cases q120
                rw [g120] at c120
                have hh120 : zh_ok D cA RTg ro sz H0 t120.heap lo120 := ⟨z120.1, z120.2.1, l120, z120.2.2.2⟩
                have kp120 := kp118.trans (c120.mono (ms' := [(11, 0), (11, 15), (11, 18), (11, 19), (11, 20), (11, 21), (11, 22), (31, 0)]) (by decide))
                have mf120_a_21 := (c120.1 a 11 21 11 0 fsX12 ha rfl (by decide) (by decide)).trans mf118_a_21
                have mf120_a_22 := (c120.1 a 11 22 11 0 fsX12 ha rfl (by decide) (by decide)).trans mf118_a_22
                have mf120_a_0 := (c120.1 a 11 0 11 0 fsX12 ha rfl (by decide) (by decide)).trans mf118_a_0
                have mf120_a_18 := (c120.1 a 11 18 11 0 fsX12 ha rfl (by decide) (by decide)).trans mf118_a_18
                have mf120_a_19 := (c120.1 a 11 19 11 0 fsX12 ha rfl (by decide) (by decide)).trans mf118_a_19
                have mf120_a_20 := (c120.1 a 11 20 11 0 fsX12 ha rfl (by decide) (by decide)).trans mf118_a_20
                refine W.eq (g2 := F0 m 303 ls110 []) rfl ?_
                refine lv_aload_n hx hb (eX12_writeInstant (303, .aload_n 0, 1) (List.mem_of_getElem? (i := 157) rfl)) rfl (lv_at hl110 7 rfl) ?_
                refine lv_iload hx hb (eX12_writeInstant (304, .iload 15, 2) (List.mem_of_getElem? (i := 158) rfl)) (lv_at hl110 0 rfl) ?_
                refine ff_bipush hx hb (eX12_writeInstant (306, .bipush 60, 2) (List.mem_of_getElem? (i := 159) rfl)) (by decide) (by decide) (fun v121 e121 => ?_)
                refine ff_iremP hx hb (eX12_writeInstant (308, .irem, 1) (List.mem_of_getElem? (i := 160) rfl)) (by omega) (e121) (by decide) (fun v122 e122 => ?_)
                refine ff_i2l hx hb (eX12_writeInstant (309, .i2l, 1) (List.mem_of_getElem? (i := 161) rfl)) (fun v123 e123 => ?_)
                refine ff_iconst hx hb (eX12_writeInstant (310, .iconst 2, 1) (List.mem_of_getElem? (i := 162) rfl)) (by decide) (by decide) (fun v124 e124 => ?_)
                refine tz_rowV (As := [.long v123, .int v124]) (st := []) (b := a) (C := RX12) (Ts := gT) hx hb hml hown h2 (fun _ h => h) (hX12_putNumber l D cA ro sz H0 a v123 v124 2 ([] ++ yrL y73.toInt ++ [v76.toInt] ++ dgL 2 v78.toInt ++ [v81.toInt] ++ dgL 2 v83.toInt ++ [v86.toInt] ++ dgL 2 v93.toInt ++ [v96.toInt] ++ dgL 2 v99.toInt ++ [v102.toInt] ++ dgL 2 v104.toInt ++ ptL na.toInt dg.toInt.toNat ++ [v112.toInt] ++ dgL 2 v116.toInt ++ [v119.toInt]) ha (by omega) (by omega) (by omega) (by omega) (by have hyl := yrL_len y73.toInt; have hpl := ptL_len na.toInt dg.toInt.toNat; (try simp only [List.length_append, List.length_nil, List.length_cons, dgL_len]); omega)) ⟨rfl, rfl⟩ ⟨by decide, by decide⟩ ⟨by decide, by decide⟩ (tb_8 169 rfl rfl) (tb_1 12 rfl rfl) (tb_8 166 rfl rfl) (tb_8 168 rfl rfl) (tb_0 58 rfl rfl) (show yX12_putNumber.cls ≠ "java/lang/invoke/MethodHandle" ∧ yX12_putNumber.cls ≠ "java/lang/invoke/VarHandle" ∧ (parseMethodDescriptor yX12_putNumber.desc).map (fun d => d.parameters.length) = some 2 by decide +kernel) zs_blind (zs_ob hh120 ha (show RTg[11]? = some (0, 11, 0, fsX12) from rfl) (zCX12 hKn.1)) (fun U hU hW => ⟨rfl, by rw [hU]; exact hh120.l0, zKb s U hW.alike hKn, by rw [hU]; exact j120⟩) hh120.2.2.1 hl110.1 (Nat.le_of_ble_eq_true rfl) (eX12_writeInstant (311, .invokevirtual 453, 3) (List.mem_of_getElem? (i := 163) rfl)) (fun r125 s125 t125 lo125 g125 f125 l125 => ?_)
                obtain ⟨q125, z125, c125, j125⟩ := f125
                cases q125
                rw [g125] at c125
                have hh125 : zh_ok D cA RTg ro sz H0 t125.heap lo125 := ⟨z125.1, z125.2.1, l125, z125.2.2.2⟩
                have kp125 := kp120.trans (c125.mono (ms' := [(11, 0), (11, 15), (11, 18), (11, 19), (11, 20), (11, 21), (11, 22), (31, 0)]) (by decide))
                have mf125_a_21 := (c125.1 a 11 21 11 0 fsX12 ha rfl (by decide) (by decide)).trans mf120_a_21
                have mf125_a_22 := (c125.1 a 11 22 11 0 fsX12 ha rfl (by decide) (by decide)).trans mf120_a_22
                have mf125_a_0 := (c125.1 a 11 0 11 0 fsX12 ha rfl (by decide) (by decide)).trans mf120_a_0
                have mf125_a_18 := (c125.1 a 11 18 11 0 fsX12 ha rfl (by decide) (by decide)).trans mf120_a_18
                have mf125_a_19 := (c125.1 a 11 19 11 0 fsX12 ha rfl (by decide) (by decide)).trans mf120_a_19
                have mf125_a_20 := (c125.1 a 11 20 11 0 fsX12 ha rfl (by decide) (by decide)).trans mf120_a_20
                refine W.eq (g2 := F0 m 314 ls110 []) rfl ?_
                have hj126 := j125
                obtain ⟨wb126, nw126, zw126, fa126, ra126, fb126, hn126, hc126, hz126⟩ := id hj126
                refine lv_aload_n hx hb (eX12_writeInstant (314, .aload_n 0, 1) (List.mem_of_getElem? (i := 164) rfl)) rfl (lv_at hl110 7 rfl) ?_
                refine tz_get (r := 11) (k := 15) (t := (0, 0, 120)) hx hb hh125 ha rfl rfl (hcl11 447 15 (0, 0, 120) (by decide) rfl).1 fb126 (eX12_writeInstant (315, .getfield 447, 3) (List.mem_of_getElem? (i := 165) rfl)) ?_
                have hcv2 : cvP ((M51.toInt + o.toInt) / 1440) y73.toInt m73.toInt d73.toInt := by rw [show (M51.toInt + o.toInt) / 1440 = v71.toInt by omega]; exact cv73
                have hO9 : [] ++ yrL y73.toInt ++ [v76.toInt] ++ dgL 2 v78.toInt ++ [v81.toInt] ++ dgL 2 v83.toInt ++ [v86.toInt] ++ dgL 2 v93.toInt ++ [v96.toInt] ++ dgL 2 v99.toInt ++ [v102.toInt] ++ dgL 2 v104.toInt ++ ptL na.toInt dg.toInt.toNat ++ [v112.toInt] ++ dgL 2 v116.toInt ++ [v119.toInt] ++ dgL 2 v123.toInt = wiL (M51.toInt + o.toInt) y73.toInt m73.toInt d73.toInt (t0.toInt - stI L M51.toInt) na.toInt dg.toInt.toNat o.toInt := by
                  rw [show v76.toInt = 45 by omega]
                  rw [show v78.toInt = m73.toInt by omega]
                  rw [show v81.toInt = 45 by omega]
                  rw [show v83.toInt = d73.toInt by omega]
                  rw [show v86.toInt = 84 by omega]
                  rw [show v93.toInt = ((M51.toInt + o.toInt) % 1440 / 60) by omega]
                  rw [show v96.toInt = 58 by omega]
                  rw [show v99.toInt = ((M51.toInt + o.toInt) % 1440 % 60) by omega]
                  rw [show v102.toInt = 58 by omega]
                  rw [show v104.toInt = (t0.toInt - stI L M51.toInt) by omega]
                  rw [show v112.toInt = 43 by omega]
                  rw [show v116.toInt = ((o.toInt) / 60) by omega]
                  rw [show v119.toInt = 58 by omega]
                  rw [show v123.toInt = ((o.toInt) % 60) by omega]
                  unfold wiL ofL
                  rw [if_neg (by omega)]
                  simp only [show ¬ o.toInt < 0 by omega, if_false]
                  simp [mdL, dsL, tmL]
                have hj9 := hj126
                rw [hO9] at hj9
                have hl9 := hn126
                rw [hO9] at hl9
                have hok := wiL_ok (M51.toInt + o.toInt) y73.toInt m73.toInt d73.toInt (t0.toInt - stI L M51.toInt) na.toInt o.toInt (show dg.toInt.toNat ≤ 9 by omega)
                exact W.zret hx hb hr rfl (fun t ht hW => ⟨_, _, _, T, wiL (M51.toInt + o.toInt) y73.toInt m73.toInt d73.toInt (t0.toInt - stI L M51.toInt) na.toInt dg.toInt.toNat o.toInt, rfl, ⟨_, rfl, rfl⟩, by rw [ht]; exact hh125.l0, by rw [ht]; exact kp125.mono (by decide), by rw [ht]; exact mf125_a_0, by rw [ht]; exact ⟨hjt.kept ha kp125 (by decide) (by decide) (by decide), hj9, ⟨hkT, by have h7 := hok.2; omega, hok.1⟩⟩, rfl, Or.inr ⟨by omega, ⟨htok, by omega, M51.toInt, hM51, by rw [show M51.toInt + o.toInt = v67.toInt by omega]; exact hmok⟩, ⟨M51.toInt, _, _, _, hM51, hcv2, rfl⟩, hl9⟩⟩) hh125.2.2.1 (eX12_writeInstant (318, .ireturn, 1) (List.mem_of_getElem? (i := 166) rfl))
              · skip
                refine lv_iload hx hb (eX12_writeInstant (260, .iload 4, 2) (List.mem_of_getElem? (i := 135) rfl)) (lv_at hl91 9 rfl) ?_
                refine ff_ineg hx hb (eX12_writeInstant (262, .ineg, 1) (List.mem_of_getElem? (i := 136) rfl)) (by omega) (by omega) (fun v127 e127 => ?_)
                refine lv_goto hx hb (eX12_writeInstant (263, .goto 5, 3) (List.mem_of_getElem? (i := 137) rfl)) (tgt := 268) rfl ?_
                refine lv_istore hx hb (eX12_writeInstant (268, .istore 15, 2) (List.mem_of_getElem? (i := 139) rfl)) hl91 (by decide) rfl (fun ls128 hl128 => ?_)
                refine lv_aload_n hx hb (eX12_writeInstant (270, .aload_n 0, 1) (List.mem_of_getElem? (i := 140) rfl)) rfl (lv_at hl128 7 rfl) ?_
                refine lv_iload hx hb (eX12_writeInstant (271, .iload 4, 2) (List.mem_of_getElem? (i := 141) rfl)) (lv_at hl128 10 rfl) ?_
                refine ff_if_ge hx hb (eX12_writeInstant (273, .ifCond .ge 8, 3) (List.mem_of_getElem? (i := 142) rfl)) (tgt := 281) rfl (fun c129 => (by exfalso; omega)) (fun c129 => ?_)
                refine ff_bipush hx hb (eX12_writeInstant (276, .bipush 45, 2) (List.mem_of_getElem? (i := 143) rfl)) (by decide) (by decide) (fun v130 e130 => ?_)
                refine lv_goto hx hb (eX12_writeInstant (278, .goto 5, 3) (List.mem_of_getElem? (i := 144) rfl)) (tgt := 283) rfl ?_
                refine tz_rowV (As := [.int v130]) (st := []) (b := a) (C := RX12) (Ts := gT) hx hb hml hown h2 (fun _ h => h) (hX12_put l D cA ro sz H0 a v130 ([] ++ yrL y73.toInt ++ [v76.toInt] ++ dgL 2 v78.toInt ++ [v81.toInt] ++ dgL 2 v83.toInt ++ [v86.toInt] ++ dgL 2 v93.toInt ++ [v96.toInt] ++ dgL 2 v99.toInt ++ [v102.toInt] ++ dgL 2 v104.toInt ++ ptL na.toInt dg.toInt.toNat) ha (by omega) (by omega) (by have hyl := yrL_len y73.toInt; have hpl := ptL_len na.toInt dg.toInt.toNat; (try simp only [List.length_append, List.length_nil, List.length_cons, dgL_len]); omega)) ⟨rfl, rfl⟩ ⟨by decide, by decide⟩ ⟨by decide, by decide⟩ (tb_8 173 rfl rfl) (tb_1 12 rfl rfl) (tb_8 170 rfl rfl) (tb_8 172 rfl rfl) (tb_0 59 rfl rfl) (show yX12_put.cls ≠ "java/lang/invoke/MethodHandle" ∧ yX12_put.cls ≠ "java/lang/invoke/VarHandle" ∧ (parseMethodDescriptor yX12_put.desc).map (fun d => d.parameters.length) = some 1 by decide +kernel) zs_blind (zs_ob hh107 ha (show RTg[11]? = some (0, 11, 0, fsX12) from rfl) (zCX12 hKn.1)) (fun U hU hW => ⟨rfl, by rw [hU]; exact hh107.l0, zKb s U hW.alike hKn, by rw [hU]; exact j107⟩) hh107.2.2.1 hl128.1 (Nat.le_of_ble_eq_true rfl) (eX12_writeInstant (283, .invokevirtual 450, 3) (List.mem_of_getElem? (i := 146) rfl)) (fun r131 s131 t131 lo131 g131 f131 l131 => ?_)
                obtain ⟨q131, z131, c131, j131⟩ := f131
                cases q131
                rw [g131] at c131
                have hh131 : zh_ok D cA RTg ro sz H0 t131.heap lo131 := ⟨z131.1, z131.2.1, l131, z131.2.2.2⟩
                have kp131 := kp107.trans (c131.mono (ms' := [(11, 0), (11, 15), (11, 18), (11, 19), (11, 20), (11, 21), (11, 22), (31, 0)]) (by decide))
                have mf131_a_21 := (c131.1 a 11 21 11 0 fsX12 ha rfl (by decide) (by decide)).trans mf107_a_21
                have mf131_a_22 := (c131.1 a 11 22 11 0 fsX12 ha rfl (by decide) (by decide)).trans mf107_a_22
                have mf131_a_0 := (c131.1 a 11 0 11 0 fsX12 ha rfl (by decide) (by decide)).trans mf107_a_0
                have mf131_a_18 := (c131.1 a 11 18 11 0 fsX12 ha rfl (by decide) (by decide)).trans mf107_a_18
                have mf131_a_19 := (c131.1 a 11 19 11 0 fsX12 ha rfl (by decide) (by decide)).trans mf107_a_19
                have mf131_a_20 := (c131.1 a 11 20 11 0 fsX12 ha rfl (by decide) (by decide)).trans mf107_a_20
                refine W.eq (g2 := F0 m 286 ls128 []) rfl ?_
                refine lv_aload_n hx hb (eX12_writeInstant (286, .aload_n 0, 1) (List.mem_of_getElem? (i := 147) rfl)) rfl (lv_at hl128 7 rfl) ?_
                refine lv_iload hx hb (eX12_writeInstant (287, .iload 15, 2) (List.mem_of_getElem? (i := 148) rfl)) (lv_at hl128 0 rfl) ?_
                refine ff_bipush hx hb (eX12_writeInstant (289, .bipush 60, 2) (List.mem_of_getElem? (i := 149) rfl)) (by decide) (by decide) (fun v132 e132 => ?_)
                refine ff_idivP hx hb (eX12_writeInstant (291, .idiv, 1) (List.mem_of_getElem? (i := 150) rfl)) (by omega) (e132) (by decide) (fun v133 e133 => ?_)
                refine ff_i2l hx hb (eX12_writeInstant (292, .i2l, 1) (List.mem_of_getElem? (i := 151) rfl)) (fun v134 e134 => ?_)
                refine ff_iconst hx hb (eX12_writeInstant (293, .iconst 2, 1) (List.mem_of_getElem? (i := 152) rfl)) (by decide) (by decide) (fun v135 e135 => ?_)
                refine tz_rowV (As := [.long v134, .int v135]) (st := []) (b := a) (C := RX12) (Ts := gT) hx hb hml hown h2 (fun _ h => h) (hX12_putNumber l D cA ro sz H0 a v134 v135 2 ([] ++ yrL y73.toInt ++ [v76.toInt] ++ dgL 2 v78.toInt ++ [v81.toInt] ++ dgL 2 v83.toInt ++ [v86.toInt] ++ dgL 2 v93.toInt ++ [v96.toInt] ++ dgL 2 v99.toInt ++ [v102.toInt] ++ dgL 2 v104.toInt ++ ptL na.toInt dg.toInt.toNat ++ [v130.toInt]) ha (by omega) (by omega) (by omega) (by omega) (by have hyl := yrL_len y73.toInt; have hpl := ptL_len na.toInt dg.toInt.toNat; (try simp only [List.length_append, List.length_nil, List.length_cons, dgL_len]); omega)) ⟨rfl, rfl⟩ ⟨by decide, by decide⟩ ⟨by decide, by decide⟩ (tb_8 169 rfl rfl) (tb_1 12 rfl rfl) (tb_8 166 rfl rfl) (tb_8 168 rfl rfl) (tb_0 58 rfl rfl) (show yX12_putNumber.cls ≠ "java/lang/invoke/MethodHandle" ∧ yX12_putNumber.cls ≠ "java/lang/invoke/VarHandle" ∧ (parseMethodDescriptor yX12_putNumber.desc).map (fun d => d.parameters.length) = some 2 by decide +kernel) zs_blind (zs_ob hh131 ha (show RTg[11]? = some (0, 11, 0, fsX12) from rfl) (zCX12 hKn.1)) (fun U hU hW => ⟨rfl, by rw [hU]; exact hh131.l0, zKb s U hW.alike hKn, by rw [hU]; exact j131⟩) hh131.2.2.1 hl128.1 (Nat.le_of_ble_eq_true rfl) (eX12_writeInstant (294, .invokevirtual 453, 3) (List.mem_of_getElem? (i := 153) rfl)) (fun r136 s136 t136 lo136 g136 f136 l136 => ?_)
                obtain ⟨q136, z136, c136, j136⟩ := f136
                cases q136
                rw [g136] at c136
                have hh136 : zh_ok D cA RTg ro sz H0 t136.heap lo136 := ⟨z136.1, z136.2.1, l136, z136.2.2.2⟩
                have kp136 := kp131.trans (c136.mono (ms' := [(11, 0), (11, 15), (11, 18), (11, 19), (11, 20), (11, 21), (11, 22), (31, 0)]) (by decide))
                have mf136_a_21 := (c136.1 a 11 21 11 0 fsX12 ha rfl (by decide) (by decide)).trans mf131_a_21
                have mf136_a_22 := (c136.1 a 11 22 11 0 fsX12 ha rfl (by decide) (by decide)).trans mf131_a_22
                have mf136_a_0 := (c136.1 a 11 0 11 0 fsX12 ha rfl (by decide) (by decide)).trans mf131_a_0
                have mf136_a_18 := (c136.1 a 11 18 11 0 fsX12 ha rfl (by decide) (by decide)).trans mf131_a_18
                have mf136_a_19 := (c136.1 a 11 19 11 0 fsX12 ha rfl (by decide) (by decide)).trans mf131_a_19
                have mf136_a_20 := (c136.1 a 11 20 11 0 fsX12 ha rfl (by decide) (by decide)).trans mf131_a_20
                refine W.eq (g2 := F0 m 297 ls128 []) rfl ?_
                refine lv_aload_n hx hb (eX12_writeInstant (297, .aload_n 0, 1) (List.mem_of_getElem? (i := 154) rfl)) rfl (lv_at hl128 7 rfl) ?_
                refine ff_bipush hx hb (eX12_writeInstant (298, .bipush 58, 2) (List.mem_of_getElem? (i := 155) rfl)) (by decide) (by decide) (fun v137 e137 => ?_)
                refine tz_rowV (As := [.int v137]) (st := []) (b := a) (C := RX12) (Ts := gT) hx hb hml hown h2 (fun _ h => h) (hX12_put l D cA ro sz H0 a v137 ([] ++ yrL y73.toInt ++ [v76.toInt] ++ dgL 2 v78.toInt ++ [v81.toInt] ++ dgL 2 v83.toInt ++ [v86.toInt] ++ dgL 2 v93.toInt ++ [v96.toInt] ++ dgL 2 v99.toInt ++ [v102.toInt] ++ dgL 2 v104.toInt ++ ptL na.toInt dg.toInt.toNat ++ [v130.toInt] ++ dgL 2 v134.toInt) ha (by omega) (by omega) (by have hyl := yrL_len y73.toInt; have hpl := ptL_len na.toInt dg.toInt.toNat; (try simp only [List.length_append, List.length_nil, List.length_cons, dgL_len]); omega)) ⟨rfl, rfl⟩ ⟨by decide, by decide⟩ ⟨by decide, by decide⟩ (tb_8 173 rfl rfl) (tb_1 12 rfl rfl) (tb_8 170 rfl rfl) (tb_8 172 rfl rfl) (tb_0 59 rfl rfl) (show yX12_put.cls ≠ "java/lang/invoke/MethodHandle" ∧ yX12_put.cls ≠ "java/lang/invoke/VarHandle" ∧ (parseMethodDescriptor yX12_put.desc).map (fun d => d.parameters.length) = some 1 by decide +kernel) zs_blind (zs_ob hh136 ha (show RTg[11]? = some (0, 11, 0, fsX12) from rfl) (zCX12 hKn.1)) (fun U hU hW => ⟨rfl, by rw [hU]; exact hh136.l0, zKb s U hW.alike hKn, by rw [hU]; exact j136⟩) hh136.2.2.1 hl128.1 (Nat.le_of_ble_eq_true rfl) (eX12_writeInstant (300, .invokevirtual 450, 3) (List.mem_of_getElem? (i := 156) rfl)) (fun r138 s138 t138 lo138 g138 f138 l138 => ?_)
                obtain ⟨q138, z138, c138, j138⟩ := f138
                cases q138
                rw [g138] at c138
                have hh138 : zh_ok D cA RTg ro sz H0 t138.heap lo138 := ⟨z138.1, z138.2.1, l138, z138.2.2.2⟩
                have kp138 := kp136.trans (c138.mono (ms' := [(11, 0), (11, 15), (11, 18), (11, 19), (11, 20), (11, 21), (11, 22), (31, 0)]) (by decide))
                have mf138_a_21 := (c138.1 a 11 21 11 0 fsX12 ha rfl (by decide) (by decide)).trans mf136_a_21
                have mf138_a_22 := (c138.1 a 11 22 11 0 fsX12 ha rfl (by decide) (by decide)).trans mf136_a_22
                have mf138_a_0 := (c138.1 a 11 0 11 0 fsX12 ha rfl (by decide) (by decide)).trans mf136_a_0
                have mf138_a_18 := (c138.1 a 11 18 11 0 fsX12 ha rfl (by decide) (by decide)).trans mf136_a_18
                have mf138_a_19 := (c138.1 a 11 19 11 0 fsX12 ha rfl (by decide) (by decide)).trans mf136_a_19
                have mf138_a_20 := (c138.1 a 11 20 11 0 fsX12 ha rfl (by decide) (by decide)).trans mf136_a_20
                refine W.eq (g2 := F0 m 303 ls128 []) rfl ?_
                refine lv_aload_n hx hb (eX12_writeInstant (303, .aload_n 0, 1) (List.mem_of_getElem? (i := 157) rfl)) rfl (lv_at hl128 7 rfl) ?_
                refine lv_iload hx hb (eX12_writeInstant (304, .iload 15, 2) (List.mem_of_getElem? (i := 158) rfl)) (lv_at hl128 0 rfl) ?_
                refine ff_bipush hx hb (eX12_writeInstant (306, .bipush 60, 2) (List.mem_of_getElem? (i := 159) rfl)) (by decide) (by decide) (fun v139 e139 => ?_)
                refine ff_iremP hx hb (eX12_writeInstant (308, .irem, 1) (List.mem_of_getElem? (i := 160) rfl)) (by omega) (e139) (by decide) (fun v140 e140 => ?_)
                refine ff_i2l hx hb (eX12_writeInstant (309, .i2l, 1) (List.mem_of_getElem? (i := 161) rfl)) (fun v141 e141 => ?_)
                refine ff_iconst hx hb (eX12_writeInstant (310, .iconst 2, 1) (List.mem_of_getElem? (i := 162) rfl)) (by decide) (by decide) (fun v142 e142 => ?_)
                refine tz_rowV (As := [.long v141, .int v142]) (st := []) (b := a) (C := RX12) (Ts := gT) hx hb hml hown h2 (fun _ h => h) (hX12_putNumber l D cA ro sz H0 a v141 v142 2 ([] ++ yrL y73.toInt ++ [v76.toInt] ++ dgL 2 v78.toInt ++ [v81.toInt] ++ dgL 2 v83.toInt ++ [v86.toInt] ++ dgL 2 v93.toInt ++ [v96.toInt] ++ dgL 2 v99.toInt ++ [v102.toInt] ++ dgL 2 v104.toInt ++ ptL na.toInt dg.toInt.toNat ++ [v130.toInt] ++ dgL 2 v134.toInt ++ [v137.toInt]) ha (by omega) (by omega) (by omega) (by omega) (by have hyl := yrL_len y73.toInt; have hpl := ptL_len na.toInt dg.toInt.toNat; (try simp only [List.length_append, List.length_nil, List.length_cons, dgL_len]); omega)) ⟨rfl, rfl⟩ ⟨by decide, by decide⟩ ⟨by decide, by decide⟩ (tb_8 169 rfl rfl) (tb_1 12 rfl rfl) (tb_8 166 rfl rfl) (tb_8 168 rfl rfl) (tb_0 58 rfl rfl) (show yX12_putNumber.cls ≠ "java/lang/invoke/MethodHandle" ∧ yX12_putNumber.cls ≠ "java/lang/invoke/VarHandle" ∧ (parseMethodDescriptor yX12_putNumber.desc).map (fun d => d.parameters.length) = some 2 by decide +kernel) zs_blind (zs_ob hh138 ha (show RTg[11]? = some (0, 11, 0, fsX12) from rfl) (zCX12 hKn.1)) (fun U hU hW => ⟨rfl, by rw [hU]; exact hh138.l0, zKb s U hW.alike hKn, by rw [hU]; exact j138⟩) hh138.2.2.1 hl128.1 (Nat.le_of_ble_eq_true rfl) (eX12_writeInstant (311, .invokevirtual 453, 3) (List.mem_of_getElem? (i := 163) rfl)) (fun r143 s143 t143 lo143 g143 f143 l143 => ?_)
                obtain ⟨q143, z143, c143, j143⟩ := f143
                cases q143
                rw [g143] at c143
                have hh143 : zh_ok D cA RTg ro sz H0 t143.heap lo143 := ⟨z143.1, z143.2.1, l143, z143.2.2.2⟩
                have kp143 := kp138.trans (c143.mono (ms' := [(11, 0), (11, 15), (11, 18), (11, 19), (11, 20), (11, 21), (11, 22), (31, 0)]) (by decide))
                have mf143_a_21 := (c143.1 a 11 21 11 0 fsX12 ha rfl (by decide) (by decide)).trans mf138_a_21
                have mf143_a_22 := (c143.1 a 11 22 11 0 fsX12 ha rfl (by decide) (by decide)).trans mf138_a_22
                have mf143_a_0 := (c143.1 a 11 0 11 0 fsX12 ha rfl (by decide) (by decide)).trans mf138_a_0
                have mf143_a_18 := (c143.1 a 11 18 11 0 fsX12 ha rfl (by decide) (by decide)).trans mf138_a_18
                have mf143_a_19 := (c143.1 a 11 19 11 0 fsX12 ha rfl (by decide) (by decide)).trans mf138_a_19
                have mf143_a_20 := (c143.1 a 11 20 11 0 fsX12 ha rfl (by decide) (by decide)).trans mf138_a_20
                refine W.eq (g2 := F0 m 314 ls128 []) rfl ?_
                have hj144 := j143
                obtain ⟨wb144, nw144, zw144, fa144, ra144, fb144, hn144, hc144, hz144⟩ := id hj144
                refine lv_aload_n hx hb (eX12_writeInstant (314, .aload_n 0, 1) (List.mem_of_getElem? (i := 164) rfl)) rfl (lv_at hl128 7 rfl) ?_
                refine tz_get (r := 11) (k := 15) (t := (0, 0, 120)) hx hb hh143 ha rfl rfl (hcl11 447 15 (0, 0, 120) (by decide) rfl).1 fb144 (eX12_writeInstant (315, .getfield 447, 3) (List.mem_of_getElem? (i := 165) rfl)) ?_
                have hcv2 : cvP ((M51.toInt + o.toInt) / 1440) y73.toInt m73.toInt d73.toInt := by rw [show (M51.toInt + o.toInt) / 1440 = v71.toInt by omega]; exact cv73
                have hO9 : [] ++ yrL y73.toInt ++ [v76.toInt] ++ dgL 2 v78.toInt ++ [v81.toInt] ++ dgL 2 v83.toInt ++ [v86.toInt] ++ dgL 2 v93.toInt ++ [v96.toInt] ++ dgL 2 v99.toInt ++ [v102.toInt] ++ dgL 2 v104.toInt ++ ptL na.toInt dg.toInt.toNat ++ [v130.toInt] ++ dgL 2 v134.toInt ++ [v137.toInt] ++ dgL 2 v141.toInt = wiL (M51.toInt + o.toInt) y73.toInt m73.toInt d73.toInt (t0.toInt - stI L M51.toInt) na.toInt dg.toInt.toNat o.toInt := by
                  rw [show v76.toInt = 45 by omega]
                  rw [show v78.toInt = m73.toInt by omega]
                  rw [show v81.toInt = 45 by omega]
                  rw [show v83.toInt = d73.toInt by omega]
                  rw [show v86.toInt = 84 by omega]
                  rw [show v93.toInt = ((M51.toInt + o.toInt) % 1440 / 60) by omega]
                  rw [show v96.toInt = 58 by omega]
                  rw [show v99.toInt = ((M51.toInt + o.toInt) % 1440 % 60) by omega]
                  rw [show v102.toInt = 58 by omega]
                  rw [show v104.toInt = (t0.toInt - stI L M51.toInt) by omega]
                  rw [show v130.toInt = 45 by omega]
                  rw [show v134.toInt = ((-o.toInt) / 60) by omega]
                  rw [show v137.toInt = 58 by omega]
                  rw [show v141.toInt = ((-o.toInt) % 60) by omega]
                  unfold wiL ofL
                  rw [if_neg (by omega)]
                  simp only [show o.toInt < 0 by omega, if_true]
                  simp [mdL, dsL, tmL]
                have hj9 := hj144
                rw [hO9] at hj9
                have hl9 := hn144
                rw [hO9] at hl9
                have hok := wiL_ok (M51.toInt + o.toInt) y73.toInt m73.toInt d73.toInt (t0.toInt - stI L M51.toInt) na.toInt o.toInt (show dg.toInt.toNat ≤ 9 by omega)
                exact W.zret hx hb hr rfl (fun t ht hW => ⟨_, _, _, T, wiL (M51.toInt + o.toInt) y73.toInt m73.toInt d73.toInt (t0.toInt - stI L M51.toInt) na.toInt dg.toInt.toNat o.toInt, rfl, ⟨_, rfl, rfl⟩, by rw [ht]; exact hh143.l0, by rw [ht]; exact kp143.mono (by decide), by rw [ht]; exact mf143_a_0, by rw [ht]; exact ⟨hjt.kept ha kp143 (by decide) (by decide) (by decide), hj9, ⟨hkT, by have h7 := hok.2; omega, hok.1⟩⟩, rfl, Or.inr ⟨by omega, ⟨htok, by omega, M51.toInt, hM51, by rw [show M51.toInt + o.toInt = v67.toInt by omega]; exact hmok⟩, ⟨M51.toInt, _, _, _, hM51, hcv2, rfl⟩, hl9⟩⟩) hh143.2.2.1 (eX12_writeInstant (318, .ireturn, 1) (List.mem_of_getElem? (i := 166) rfl))
            · skip
              refine lv_aload_n hx hb (eX12_writeInstant (246, .aload_n 0, 1) (List.mem_of_getElem? (i := 129) rfl)) rfl (lv_at hl91 6 rfl) ?_
              refine ff_bipush hx hb (eX12_writeInstant (247, .bipush 90, 2) (List.mem_of_getElem? (i := 130) rfl)) (by decide) (by decide) (fun v145 e145 => ?_)
              refine tz_rowV (As := [.int v145]) (st := []) (b := a) (C := RX12) (Ts := gT) hx hb hml hown h2 (fun _ h => h) (hX12_put l D cA ro sz H0 a v145 ([] ++ yrL y73.toInt ++ [v76.toInt] ++ dgL 2 v78.toInt ++ [v81.toInt] ++ dgL 2 v83.toInt ++ [v86.toInt] ++ dgL 2 v93.toInt ++ [v96.toInt] ++ dgL 2 v99.toInt ++ [v102.toInt] ++ dgL 2 v104.toInt ++ ptL na.toInt dg.toInt.toNat) ha (by omega) (by omega) (by have hyl := yrL_len y73.toInt; have hpl := ptL_len na.toInt dg.toInt.toNat; (try simp only [List.length_append, List.length_nil, List.length_cons, dgL_len]); omega)) ⟨rfl, rfl⟩ ⟨by decide, by decide⟩ ⟨by decide, by decide⟩ (tb_8 173 rfl rfl) (tb_1 12 rfl rfl) (tb_8 170 rfl rfl) (tb_8 172 rfl rfl) (tb_0 59 rfl rfl) (show yX12_put.cls ≠ "java/lang/invoke/MethodHandle" ∧ yX12_put.cls ≠ "java/lang/invoke/VarHandle" ∧ (parseMethodDescriptor yX12_put.desc).map (fun d => d.parameters.length) = some 1 by decide +kernel) zs_blind (zs_ob hh107 ha (show RTg[11]? = some (0, 11, 0, fsX12) from rfl) (zCX12 hKn.1)) (fun U hU hW => ⟨rfl, by rw [hU]; exact hh107.l0, zKb s U hW.alike hKn, by rw [hU]; exact j107⟩) hh107.2.2.1 hl91.1 (Nat.le_of_ble_eq_true rfl) (eX12_writeInstant (249, .invokevirtual 450, 3) (List.mem_of_getElem? (i := 131) rfl)) (fun r146 s146 t146 lo146 g146 f146 l146 => ?_)
              obtain ⟨q146, z146, c146, j146⟩ := f146
              cases q146
              rw [g146] at c146
              have hh146 : zh_ok D cA RTg ro sz H0 t146.heap lo146 := ⟨z146.1, z146.2.1, l146, z146.2.2.2⟩
              have kp146 := kp107.trans (c146.mono (ms' := [(11, 0), (11, 15), (11, 18), (11, 19), (11, 20), (11, 21), (11, 22), (31, 0)]) (by decide))
              have mf146_a_21 := (c146.1 a 11 21 11 0 fsX12 ha rfl (by decide) (by decide)).trans mf107_a_21
              have mf146_a_22 := (c146.1 a 11 22 11 0 fsX12 ha rfl (by decide) (by decide)).trans mf107_a_22
              have mf146_a_0 := (c146.1 a 11 0 11 0 fsX12 ha rfl (by decide) (by decide)).trans mf107_a_0
              have mf146_a_18 := (c146.1 a 11 18 11 0 fsX12 ha rfl (by decide) (by decide)).trans mf107_a_18
              have mf146_a_19 := (c146.1 a 11 19 11 0 fsX12 ha rfl (by decide) (by decide)).trans mf107_a_19
              have mf146_a_20 := (c146.1 a 11 20 11 0 fsX12 ha rfl (by decide) (by decide)).trans mf107_a_20
              refine W.eq (g2 := F0 m 252 ls91 []) rfl ?_
              refine lv_goto hx hb (eX12_writeInstant (252, .goto 62, 3) (List.mem_of_getElem? (i := 132) rfl)) (tgt := 314) rfl ?_
              have hj147 := j146
              obtain ⟨wb147, nw147, zw147, fa147, ra147, fb147, hn147, hc147, hz147⟩ := id hj147
              refine lv_aload_n hx hb (eX12_writeInstant (314, .aload_n 0, 1) (List.mem_of_getElem? (i := 164) rfl)) rfl (lv_at hl91 6 rfl) ?_
              refine tz_get (r := 11) (k := 15) (t := (0, 0, 120)) hx hb hh146 ha rfl rfl (hcl11 447 15 (0, 0, 120) (by decide) rfl).1 fb147 (eX12_writeInstant (315, .getfield 447, 3) (List.mem_of_getElem? (i := 165) rfl)) ?_
              have hcv2 : cvP ((M51.toInt + o.toInt) / 1440) y73.toInt m73.toInt d73.toInt := by rw [show (M51.toInt + o.toInt) / 1440 = v71.toInt by omega]; exact cv73
              have hO9 : [] ++ yrL y73.toInt ++ [v76.toInt] ++ dgL 2 v78.toInt ++ [v81.toInt] ++ dgL 2 v83.toInt ++ [v86.toInt] ++ dgL 2 v93.toInt ++ [v96.toInt] ++ dgL 2 v99.toInt ++ [v102.toInt] ++ dgL 2 v104.toInt ++ ptL na.toInt dg.toInt.toNat ++ [v145.toInt] = wiL (M51.toInt + o.toInt) y73.toInt m73.toInt d73.toInt (t0.toInt - stI L M51.toInt) na.toInt dg.toInt.toNat o.toInt := by
                rw [show v76.toInt = 45 by omega]
                rw [show v78.toInt = m73.toInt by omega]
                rw [show v81.toInt = 45 by omega]
                rw [show v83.toInt = d73.toInt by omega]
                rw [show v86.toInt = 84 by omega]
                rw [show v93.toInt = ((M51.toInt + o.toInt) % 1440 / 60) by omega]
                rw [show v96.toInt = 58 by omega]
                rw [show v99.toInt = ((M51.toInt + o.toInt) % 1440 % 60) by omega]
                rw [show v102.toInt = 58 by omega]
                rw [show v104.toInt = (t0.toInt - stI L M51.toInt) by omega]
                rw [show v145.toInt = 90 by omega]
                unfold wiL ofL
                rw [if_pos (by omega)]
                simp [mdL, dsL, tmL]
              have hj9 := hj147
              rw [hO9] at hj9
              have hl9 := hn147
              rw [hO9] at hl9
              have hok := wiL_ok (M51.toInt + o.toInt) y73.toInt m73.toInt d73.toInt (t0.toInt - stI L M51.toInt) na.toInt o.toInt (show dg.toInt.toNat ≤ 9 by omega)
              exact W.zret hx hb hr rfl (fun t ht hW => ⟨_, _, _, T, wiL (M51.toInt + o.toInt) y73.toInt m73.toInt d73.toInt (t0.toInt - stI L M51.toInt) na.toInt dg.toInt.toNat o.toInt, rfl, ⟨_, rfl, rfl⟩, by rw [ht]; exact hh146.l0, by rw [ht]; exact kp146.mono (by decide), by rw [ht]; exact mf146_a_0, by rw [ht]; exact ⟨hjt.kept ha kp146 (by decide) (by decide) (by decide), hj9, ⟨hkT, by have h7 := hok.2; omega, hok.1⟩⟩, rfl, Or.inr ⟨by omega, ⟨htok, by omega, M51.toInt, hM51, by rw [show M51.toInt + o.toInt = v67.toInt by omega]; exact hmok⟩, ⟨M51.toInt, _, _, _, hM51, hcv2, rfl⟩, hl9⟩⟩) hh146.2.2.1 (eX12_writeInstant (318, .ireturn, 1) (List.mem_of_getElem? (i := 166) rfl))
