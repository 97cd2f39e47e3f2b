set_option maxRecDepth 100000 in
set_option maxHeartbeats 4000000 in
theorem hX12_put (l : Launch) (D : va_G) (cA : Nat → ClassId) (ro : Nat → Option Nat) (sz : Nat) (H0 : Heap) (a : Nat) (v : Int32) (O : List Int) (ha : ro a = some 11) (hv1 : 0 ≤ v.toInt) (hv2 : v.toInt ≤ 127) (hlen : O.length < 120) : Met l yX12_put (gW yX12_put cX12_put 2 none) { frames := 0, cells := 0, slots := 0, locals := 0 } (zs_P D cA ro sz H0 (fun H => jRO D cA ro H a O) [.ref a, .int v]) (zs_apR D cA ro sz H0 a (O ++ [v.toInt])) 0 0 (zy_fr sz) := by
  refine zy_ofW (cc := cX12_put) (maxL := 2) (ret := none) (by decide +kernel) rfl ?_
  intro p e s m args below meth c s1 B hml hv
  obtain ⟨rfl, hh, hKn, hJ⟩ := hv
  have hx := B.exec
  have hb := B.bytes
  have hr := B.returns
  have hlk := B.notSynchronized
  have hts0 := atoms_spec (ws := gW yX12_put cX12_put 2 none) B.pre
  have h2 : ∀ w ∈ gT, w.before ([.ref a, .int v] : List Value).toArray s = true := fun w hw => hts0 w (List.mem_cons_of_mem _ hw)
  have hown : s.vm.findClass RX12 = some m.cls := findClass_of_methodNamed B.named
  have hl := lv_entry [.ref a, .int v] (n := 2) (Nat.le_of_ble_eq_true rfl)
  rw [lg_entry_eq]
  generalize (lg_sl [.ref a, .int v] ++ List.replicate (2 - (lg_sl [.ref a, .int v]).length) Slot.unset).toArray = ls at hl ⊢
  have b_v := zn_i32 v
  have hD := zD_all h2 hKn.1
  have hcl11 := fun (idx k : Nat) (t : zt_T) (h : (idx, 11, k) ∈ gfX12) (hk : fsX12[k]? = some t) => zf_clause (ro := ro) (ms := [(11, 15), (31, 0)]) h2 hown hKn.1 gfX12_ok (by decide +kernel) idx 11 k 11 0 fsX12 t h rfl hk
  have kp0 : zc_kept D RTg ro [(11, 15), (31, 0)] s.heap s.heap := zc_kept.refl
  obtain ⟨wb, n, z, f0, r0, f1, hn, hc, hz⟩ := id hJ
  obtain ⟨n9, g9, n1, n2⟩ := zh_fT (k := 15) (t := (0, 0, 120)) hh ha (show RTg[11]? = some (0, 11, 0, fsX12) from rfl) rfl
  cases f1.symm.trans g9
  dsimp only at n1 n2
  clear g9
  obtain ⟨-, z9, c9, hy9⟩ := zh_arr hh r0 (show RTg[31]? = some (1, 2, 160, [(0, (-128), 127)]) from rfl)
  have hy : ∀ i, i < 160 → zt_ok ro (z i) (0, (-128), 127) := zs_arr (hc.symm.trans c9) hy9
  refine lv_aload_n hx hb (eX12_put (0, .aload_n 0, 1) (List.mem_of_getElem? (i := 0) rfl)) rfl (lv_at hl 0 rfl) ?_
  refine tz_get (r := 11) (k := 14) (t := (66, 0, 0)) hx hb hh ha rfl rfl (hcl11 44 14 (66, 0, 0) (by decide) rfl).1 f0 (eX12_put (1, .getfield 44, 3) (List.mem_of_getElem? (i := 1) rfl)) ?_
  refine lv_aload_n hx hb (eX12_put (4, .aload_n 0, 1) (List.mem_of_getElem? (i := 2) rfl)) rfl (lv_at hl 0 rfl) ?_
  refine tz_get (r := 11) (k := 15) (t := (0, 0, 120)) hx hb hh ha rfl rfl (hcl11 447 15 (0, 0, 120) (by decide) rfl).1 f1 (eX12_put (5, .getfield 447, 3) (List.mem_of_getElem? (i := 3) rfl)) ?_
  refine lv_iload_n hx hb (eX12_put (8, .iload_n 1, 1) (List.mem_of_getElem? (i := 4) rfl)) rfl (lv_at hl 1 rfl) ?_
  refine ff_i2b hx hb (by omega) (by omega) (eX12_put (9, .i2b, 1) (List.mem_of_getElem? (i := 5) rfl)) (fun v1 e1 => ?_)
  have hzz := jY_app (d := v1) (c := v.toInt) hz (by omega)
  rw [← show n.toNatClampNeg = O.length by show n.toInt.toNat = O.length; omega] at hzz
  refine tz_bast hx hb (zAr hKn.1 2 (by decide)) hh r0 (show RTg[31]? = some (1, 2, 160, [(0, (-128), 127)]) from rfl) hc hy (by omega) (by omega) (by omega) (by omega) (eX12_put (10, .bastore, 1) (List.mem_of_getElem? (i := 6) rfl)) (fun H2 lo2 hh2 hc2 hk2 hq2 _ => ?_)
  have mf2_a_14 := (hk2.1 a 11 14 11 0 fsX12 ha rfl (by decide) (by decide)).trans f0
  have mf2_a_15 := (hk2.1 a 11 15 11 0 fsX12 ha rfl (by decide) (by decide)).trans f1
  have kp2 := kp0.trans (hk2.mono (ms' := [(11, 15), (31, 0)]) (fun x hx => by cases List.mem_singleton.mp hx; decide))
  have hy2 := tz_upd (j := n.toNatClampNeg) hy (x := .int v1) (show zt_ok ro (.int v1) (0, (-128), 127) from tz_i (by omega) (by omega))
  refine lv_aload_n hx hb (eX12_put (11, .aload_n 0, 1) (List.mem_of_getElem? (i := 7) rfl)) rfl (lv_at hl 0 rfl) ?_
  refine lv_dup hx hb (eX12_put (12, .dup, 1) (List.mem_of_getElem? (i := 8) rfl)) rfl ?_
  refine tz_get (r := 11) (k := 15) (t := (0, 0, 120)) hx hb hh2 ha rfl rfl (hcl11 447 15 (0, 0, 120) (by decide) rfl).1 mf2_a_15 (eX12_put (13, .getfield 447, 3) (List.mem_of_getElem? (i := 9) rfl)) ?_
  refine ff_iconst hx hb (eX12_put (16, .iconst 1, 1) (List.mem_of_getElem? (i := 10) rfl)) (by decide) (by decide) (fun v3 e3 => ?_)
  refine ff_iadd hx hb (eX12_put (17, .iadd, 1) (List.mem_of_getElem? (i := 11) rfl)) (by omega) (by omega) (fun v4 e4 => ?_)
  refine tz_put (r := 11) (k := 15) (t := (0, 0, 120)) hx hb hD hh2 ha rfl rfl ((hcl11 447 15 (0, 0, 120) (by decide) rfl).2 (by decide)) (tz_i (by omega) (by omega)) (eX12_put (18, .putfield 447, 3) (List.mem_of_getElem? (i := 12) rfl)) (fun H5 lo5 hh5 hf5 hk5 _ hq5 => ?_)
  have mf5_a_14 := (hk5.1 a 11 14 11 0 fsX12 ha rfl (by decide) (by decide)).trans mf2_a_14
  have mc5_wb := (hk5.2 wb 31 0 2 160 _ r0 rfl (by decide)).trans hc2
  have kp5 := kp2.trans (hk5.mono (ms' := [(11, 15), (31, 0)]) (fun x hx => by cases List.mem_singleton.mp hx; decide))
  exact W.vret hx hb hr (fun t ht hW => ⟨rfl, by rw [ht]; exact hh5.l0, by rw [ht]; exact kp5, by rw [ht]; exact ⟨wb, _, _, mf5_a_14, r0, hf5, by rw [List.length_append]; show _ = ((O.length + 1 : Nat) : Int); omega, mc5_wb, hzz⟩⟩) hh5.2.2.1 (eX12_put (21, .return_, 1) (List.mem_of_getElem? (i := 13) rfl))
set_option maxRecDepth 100000 in
set_option maxHeartbeats 4000000 in
theorem hX12_putNumber (l : Launch) (D : va_G) (cA : Nat → ClassId) (ro : Nat → Option Nat) (sz : Nat) (H0 : Heap) (a : Nat) (value : Int64) (dn : Int32) (N : Nat) (O : List Int) (ha : ro a = some 11) (hN : dn.toInt = (N : Int)) (hN1 : 1 ≤ N) (hN2 : N ≤ 14) (hv0 : 0 ≤ value.toInt) (hlen : O.length + N ≤ 120) : Met l yX12_putNumber (gW yX12_putNumber cX12_putNumber 7 none) { frames := 1, cells := 0, slots := 0, locals := 21 } (zs_P D cA ro sz H0 (fun H => jRO D cA ro H a O) [.ref a, .long value, .int dn]) (zs_apR D cA ro sz H0 a (O ++ dgL N value.toInt)) 0 0 (zy_fr sz) := by
  refine zy_ofW (cc := cX12_putNumber) (maxL := 7) (ret := none) (by decide +kernel) rfl ?_
  intro p e s m args below meth c s1 B hml hv
  obtain ⟨rfl, hh, hKn, hJ⟩ := hv
  have hx := B.exec
  have hb := B.bytes
  have hr := B.returns
  have hlk := B.notSynchronized
  have hts0 := atoms_spec (ws := gW yX12_putNumber cX12_putNumber 7 none) B.pre
  have h2 : ∀ w ∈ gT, w.before ([.ref a, .long value, .int dn] : List Value).toArray s = true := fun w hw => hts0 w (List.mem_cons_of_mem _ hw)
  have hown : s.vm.findClass RX12 = some m.cls := findClass_of_methodNamed B.named
  have hl := lv_entry [.ref a, .long value, .int dn] (n := 7) (Nat.le_of_ble_eq_true rfl)
  rw [lg_entry_eq]
  generalize (lg_sl [.ref a, .long value, .int dn] ++ List.replicate (7 - (lg_sl [.ref a, .long value, .int dn]).length) Slot.unset).toArray = ls at hl ⊢
  have b_value := zn_i64 value
  have b_dn := zn_i32 dn
  have hD := zD_all h2 hKn.1
  have hcl11 := fun (idx k : Nat) (t : zt_T) (h : (idx, 11, k) ∈ gfX12) (hk : fsX12[k]? = some t) => zf_clause (ro := ro) (ms := [(11, 15), (31, 0)]) h2 hown hKn.1 gfX12_ok (by decide +kernel) idx 11 k 11 0 fsX12 t h rfl hk
  have kp0 : zc_kept D RTg ro [(11, 15), (31, 0)] s.heap s.heap := zc_kept.refl
  obtain ⟨wb, n, z, f0, r0, f1, hn, hc, hz⟩ := id hJ
  obtain ⟨n9, g9, n1, n2⟩ := zh_fT (k := 15) (t := (0, 0, 120)) hh ha (show RTg[11]? = some (0, 11, 0, fsX12) from rfl) rfl
  cases f1.symm.trans g9
  dsimp only at n1 n2
  clear g9
  obtain ⟨-, z9, c9, hy9⟩ := zh_arr hh r0 (show RTg[31]? = some (1, 2, 160, [(0, (-128), 127)]) from rfl)
  have hy : ∀ i, i < 160 → zt_ok ro (z i) (0, (-128), 127) := zs_arr (hc.symm.trans c9) hy9
  refine ff_lconst hx hb (eX12_putNumber (0, .lconst 1, 1) (List.mem_of_getElem? (i := 0) rfl)) rfl (fun v1 e1 => ?_)
  refine lv_lstore hx hb (eX12_putNumber (1, .lstore 4, 2) (List.mem_of_getElem? (i := 1) rfl)) hl (by decide) rfl (fun ls2 hl2 => ?_)
  refine ff_iconst hx hb (eX12_putNumber (3, .iconst 1, 1) (List.mem_of_getElem? (i := 2) rfl)) (by decide) (by decide) (fun v3 e3 => ?_)
  refine lv_istore hx hb (eX12_putNumber (4, .istore 6, 2) (List.mem_of_getElem? (i := 3) rfl)) hl2 (by decide) rfl (fun ls4 hl4 => ?_)
  have loop2 : ∀ (j : Nat) (C : List Int) (iv : Int32) (bv : Int64) (ls : Array Slot) (H : Heap) (lo0 : List Loc), j ≤ 14 → bv.toInt = 10 ^ j / 10 → zh_ok D cA RTg ro sz H0 H lo0 → zc_kept D RTg ro [(11, 15), (31, 0)] s.heap H → jRO D cA ro H a C → C ++ dgL j value.toInt = O ++ dgL N value.toInt → lv_has ls 7 [(4, .long bv), (6, .int iv), (0, .ref a), (1, .long value), (3, .int dn)] → W p l e (headSpec (gW yX12_putNumber cX12_putNumber 7 none) { frames := 1, cells := 0, slots := 0, locals := 21 }).room s m ([.ref a, .long value, .int dn] : List Value).toArray below meth c H lo0 0 0 (MQ below (zs_apR D cA ro sz H0 a (O ++ dgL N value.toInt)) ([.ref a, .long value, .int dn] : List Value).toArray s 0 0 (zy_fr sz)) (F0 m 26 ls []) := by
    intro j
    induction j with
    | zero =>
      intro C iv bv ls H lo0 hj hbv hh0 kpl hjo hC hl
      rw [Int.pow_zero] at hbv
      refine lv_lload hx hb (eX12_putNumber (26, .lload 4, 2) (List.mem_of_getElem? (i := 13) rfl)) (lv_at hl 0 rfl) ?_
      refine ff_lconst hx hb (eX12_putNumber (28, .lconst 0, 1) (List.mem_of_getElem? (i := 14) rfl)) rfl (fun v5 e5 => ?_)
      refine ff_lcmp hx hb (eX12_putNumber (29, .lcmp, 1) (List.mem_of_getElem? (i := 15) rfl)) (fun v6 e6 => ?_)
      refine ff_if_le hx hb (eX12_putNumber (30, .ifCond .le 30, 3) (List.mem_of_getElem? (i := 16) rfl)) (tgt := 60) rfl (fun c7 => ?_) (fun c7 => (by exfalso; omega))
      have hJ9 : jRO D cA ro H a (O ++ dgL N value.toInt) := by
        have h9 := hjo
        rw [show dgL 0 value.toInt = [] from rfl, List.append_nil] at hC
        rw [← hC]
        exact h9
      exact W.vret hx hb hr (fun t ht hW => ⟨rfl, by rw [ht]; exact hh0.l0, by rw [ht]; exact kpl, by rw [ht]; exact hJ9⟩) hh0.2.2.1 (eX12_putNumber (60, .return_, 1) (List.mem_of_getElem? (i := 32) rfl))
    | succ j ih =>
      intro C iv bv ls H lo0 hj hbv hh0 kpl hjo hC hl
      rw [p10_dn] at hbv
      have hp := p10_lt (k := j) (by omega)
      have hlC := congrArg List.length hC
      rw [List.length_append, List.length_append, dgL_len, dgL_len] at hlC
      refine lv_lload hx hb (eX12_putNumber (26, .lload 4, 2) (List.mem_of_getElem? (i := 13) rfl)) (lv_at hl 0 rfl) ?_
      refine ff_lconst hx hb (eX12_putNumber (28, .lconst 0, 1) (List.mem_of_getElem? (i := 14) rfl)) rfl (fun v8 e8 => ?_)
      refine ff_lcmp hx hb (eX12_putNumber (29, .lcmp, 1) (List.mem_of_getElem? (i := 15) rfl)) (fun v9 e9 => ?_)
      refine ff_if_le hx hb (eX12_putNumber (30, .ifCond .le 30, 3) (List.mem_of_getElem? (i := 16) rfl)) (tgt := 60) rfl (fun c10 => (by exfalso; omega)) (fun c10 => ?_)
      refine lv_aload_n hx hb (eX12_putNumber (33, .aload_n 0, 1) (List.mem_of_getElem? (i := 17) rfl)) rfl (lv_at hl 2 rfl) ?_
      refine ff_bipush hx hb (eX12_putNumber (34, .bipush 48, 2) (List.mem_of_getElem? (i := 18) rfl)) (by decide) (by decide) (fun v11 e11 => ?_)
      refine lv_lload_n hx hb (eX12_putNumber (36, .lload_n 1, 1) (List.mem_of_getElem? (i := 19) rfl)) rfl (lv_at hl 3 rfl) ?_
      refine lv_lload hx hb (eX12_putNumber (37, .lload 4, 2) (List.mem_of_getElem? (i := 20) rfl)) (lv_at hl 0 rfl) ?_
      refine ff_ldivV hx hb (eX12_putNumber (39, .ldiv, 1) (List.mem_of_getElem? (i := 21) rfl)) (by omega) (by omega) (fun v12 e12 => ?_)
      refine ff_ldc2 (n := 10) hx hb hown h2 (clX12_ok 373 10 (List.mem_of_getElem? (i := 32) rfl)) (eX12_putNumber (40, .ldc2_w 373, 3) (List.mem_of_getElem? (i := 22) rfl)) (fun v13 e13 => ?_)
      refine ff_lrem hx hb (eX12_putNumber (43, .lrem, 1) (List.mem_of_getElem? (i := 23) rfl)) (e13) (by decide) (fun v14 e14 => ?_)
      refine ff_l2i hx hb (eX12_putNumber (44, .l2i, 1) (List.mem_of_getElem? (i := 24) rfl)) (by omega) (by omega) (fun v15 e15 => ?_)
      refine ff_iadd hx hb (eX12_putNumber (45, .iadd, 1) (List.mem_of_getElem? (i := 25) rfl)) (by omega) (by omega) (fun v16 e16 => ?_)
      refine tz_rowV (As := [.int v16]) (st := []) (b := a) (C := RX12) (Ts := gT) hx hb hml hown h2 (fun _ h => h) (hX12_put l D cA ro sz H0 a v16 C ha (by omega) (by omega) (by omega)) ⟨rfl, rfl⟩ ⟨by decide, by decide⟩ ⟨by decide, by decide⟩ (tb_8 173 rfl rfl) (tb_1 12 rfl rfl) (tb_8 170 rfl rfl) (tb_8 172 rfl rfl) (tb_0 59 rfl rfl) (show yX12_put.cls ≠ "java/lang/invoke/MethodHandle" ∧ yX12_put.cls ≠ "java/lang/invoke/VarHandle" ∧ (parseMethodDescriptor yX12_put.desc).map (fun d => d.parameters.length) = some 1 by decide +kernel) zs_blind (zs_ob hh0 ha (show RTg[11]? = some (0, 11, 0, fsX12) from rfl) (zCX12 hKn.1)) (fun U hU hW => ⟨rfl, by rw [hU]; exact hh0.l0, zKb s U hW.alike hKn, by rw [hU]; exact hjo⟩) hh0.2.2.1 hl.1 (Nat.le_of_ble_eq_true rfl) (eX12_putNumber (46, .invokevirtual 450, 3) (List.mem_of_getElem? (i := 26) rfl)) (fun r17 s17 t17 lo17 g17 f17 l17 => ?_)
      obtain ⟨q17, z17, c17, j17⟩ := f17
      cases q17
      rw [g17] at c17
      have hh17 : zh_ok D cA RTg ro sz H0 t17.heap lo17 := ⟨z17.1, z17.2.1, l17, z17.2.2.2⟩
      have kp17 := kpl.trans (c17.mono (ms' := [(11, 15), (31, 0)]) (by decide))
      refine W.eq (g2 := F0 m 49 ls []) rfl ?_
      refine lv_lload hx hb (eX12_putNumber (49, .lload 4, 2) (List.mem_of_getElem? (i := 27) rfl)) (lv_at hl 0 rfl) ?_
      refine ff_ldc2 (n := 10) hx hb hown h2 (clX12_ok 373 10 (List.mem_of_getElem? (i := 32) rfl)) (eX12_putNumber (51, .ldc2_w 373, 3) (List.mem_of_getElem? (i := 28) rfl)) (fun v18 e18 => ?_)
      refine ff_ldivP hx hb (eX12_putNumber (54, .ldiv, 1) (List.mem_of_getElem? (i := 29) rfl)) (by omega) (e18) (by decide) (fun v19 e19 => ?_)
      refine lv_lstore hx hb (eX12_putNumber (55, .lstore 4, 2) (List.mem_of_getElem? (i := 30) rfl)) hl (by decide) rfl (fun ls20 hl20 => ?_)
      refine lv_goto hx hb (eX12_putNumber (57, .goto (-31), 3) (List.mem_of_getElem? (i := 31) rfl)) (tgt := 26) rfl ?_
      exact ih (C ++ [v16.toInt]) iv v19 ls20 _ _ (by omega) (by omega) hh17 kp17 j17 (by rw [← hC, dgL_cons, List.append_assoc, List.singleton_append, show v16.toInt = 48 + dvN j value.toInt % 10 by unfold dvN; rw [← hbv]; omega]) (lv_sub hl20 [0, 1, 2, 3, 4] rfl)
  have loop : ∀ (m0 k : Nat) (iv : Int32) (bv : Int64) (ls : Array Slot), k + 1 + m0 = N → iv.toInt = (k : Int) + 1 → bv.toInt = 10 ^ k → lv_has ls 7 [(6, .int iv), (4, .long bv), (0, .ref a), (1, .long value), (3, .int dn)] → W p l e (headSpec (gW yX12_putNumber cX12_putNumber 7 none) { frames := 1, cells := 0, slots := 0, locals := 21 }).room s m ([.ref a, .long value, .int dn] : List Value).toArray below meth c s.heap [] 0 0 (MQ below (zs_apR D cA ro sz H0 a (O ++ dgL N value.toInt)) ([.ref a, .long value, .int dn] : List Value).toArray s 0 0 (zy_fr sz)) (F0 m 6 ls []) := by
    intro m0
    induction m0 with
    | zero =>
      intro k iv bv ls hk hiv hbv hl
      have hp := p10_lt (k := k) (by omega)
      refine lv_iload hx hb (eX12_putNumber (6, .iload 6, 2) (List.mem_of_getElem? (i := 4) rfl)) (lv_at hl 0 rfl) ?_
      refine lv_iload_n hx hb (eX12_putNumber (8, .iload_n 3, 1) (List.mem_of_getElem? (i := 5) rfl)) rfl (lv_at hl 4 rfl) ?_
      refine ff_icmp_ge hx hb (eX12_putNumber (9, .if_icmp .ge 17, 3) (List.mem_of_getElem? (i := 6) rfl)) (tgt := 26) rfl (fun c21 => ?_) (fun c21 => (by exfalso; omega))
      exact loop2 N O iv bv ls s.heap _ (by omega) (by rw [show N = k + 1 by omega, p10_dn]; exact hbv) hh kp0 hJ rfl (lv_sub hl [1, 0, 2, 3, 4] rfl)
    | succ m0 ih =>
      intro k iv bv ls hk hiv hbv hl
      have hp := p10_lt (k := k) (by omega)
      refine lv_iload hx hb (eX12_putNumber (6, .iload 6, 2) (List.mem_of_getElem? (i := 4) rfl)) (lv_at hl 0 rfl) ?_
      refine lv_iload_n hx hb (eX12_putNumber (8, .iload_n 3, 1) (List.mem_of_getElem? (i := 5) rfl)) rfl (lv_at hl 4 rfl) ?_
      refine ff_icmp_ge hx hb (eX12_putNumber (9, .if_icmp .ge 17, 3) (List.mem_of_getElem? (i := 6) rfl)) (tgt := 26) rfl (fun c22 => (by exfalso; omega)) (fun c22 => ?_)
      refine lv_lload hx hb (eX12_putNumber (12, .lload 4, 2) (List.mem_of_getElem? (i := 7) rfl)) (lv_at hl 1 rfl) ?_
      refine ff_ldc2 (n := 10) hx hb hown h2 (clX12_ok 373 10 (List.mem_of_getElem? (i := 32) rfl)) (eX12_putNumber (14, .ldc2_w 373, 3) (List.mem_of_getElem? (i := 8) rfl)) (fun v23 e23 => ?_)
      refine ff_lmulR hx hb (eX12_putNumber (17, .lmul, 1) (List.mem_of_getElem? (i := 9) rfl)) (e23) (by omega) (by omega) (fun v24 e24 => ?_)
      refine lv_lstore hx hb (eX12_putNumber (18, .lstore 4, 2) (List.mem_of_getElem? (i := 10) rfl)) hl (by decide) rfl (fun ls25 hl25 => ?_)
      refine ff_iinc (k := 1) hx hb (eX12_putNumber (20, .iinc 6 1, 3) (List.mem_of_getElem? (i := 11) rfl)) hl25 rfl (by decide) (by decide) (by decide) (by omega) (by omega) (fun v26 e26 ls26 hl26 => ?_)
      refine lv_goto hx hb (eX12_putNumber (23, .goto (-17), 3) (List.mem_of_getElem? (i := 12) rfl)) (tgt := 6) rfl ?_
      exact ih (k + 1) v26 v24 ls26 (by omega) (by omega) (by rw [Int.pow_succ]; omega) (lv_sub hl26 [0, 1, 2, 3, 4] rfl)
  exact loop (N - 1) 0 v3 v1 ls4 (by omega) (by omega) (by rw [Int.pow_zero]; omega) (lv_sub hl4 [0, 1, 2, 3, 4] rfl)
set_option maxRecDepth 100000 in
set_option maxHeartbeats 4000000 in
theorem hX12_putYear (l : Launch) (D : va_G) (cA : Nat → ClassId) (ro : Nat → Option Nat) (sz : Nat) (H0 : Heap) (a : Nat) (y : Int64) (O : List Int) (ha : ro a = some 11) (hy1 : -1000000 ≤ y.toInt) (hy2 : y.toInt ≤ 1000000) (hlen : O.length + 7 ≤ 120) : Met l yX12_putYear (gW yX12_putYear cX12_putYear 3 (some .boolean)) { frames := 2, cells := 0, slots := 0, locals := 47 } (zs_P D cA ro sz H0 (fun H => jRO D cA ro H a O) [.ref a, .long y]) (fun _ st oc t => ∃ r : Int32, oc = .returned (some (.int r)) ∧ zh_ok D cA RTg ro sz H0 t.heap [] ∧ zc_kept D RTg ro [(11, 15), (31, 0)] st.heap t.heap ∧ jRO D cA ro t.heap a (O ++ yrL y.toInt) ∧ ((r.toInt = 0 ∧ 0 ≤ y.toInt ∧ y.toInt ≤ 9999) ∨ (r.toInt = 1 ∧ (y.toInt < 0 ∨ 9999 < y.toInt)))) 0 0 (zy_fr sz) := by
  refine zy_ofW (cc := cX12_putYear) (maxL := 3) (ret := (some .boolean)) (by decide +kernel) rfl ?_
  intro p e s m args below meth c s1 B hml hv
  obtain ⟨rfl, hh, hKn, hJ⟩ := hv
  have hx := B.exec
  have hb := B.bytes
  have hr := B.returns
  have hlk := B.notSynchronized
  have hts0 := atoms_spec (ws := gW yX12_putYear cX12_putYear 3 (some .boolean)) B.pre
  have h2 : ∀ w ∈ gT, w.before ([.ref a, .long y] : List Value).toArray s = true := fun w hw => hts0 w (List.mem_cons_of_mem _ hw)
  have hown : s.vm.findClass RX12 = some m.cls := findClass_of_methodNamed B.named
  have hl := lv_entry [.ref a, .long y] (n := 3) (Nat.le_of_ble_eq_true rfl)
  rw [lg_entry_eq]
  generalize (lg_sl [.ref a, .long y] ++ List.replicate (3 - (lg_sl [.ref a, .long y]).length) Slot.unset).toArray = ls at hl ⊢
  have b_y := zn_i64 y
  have hD := zD_all h2 hKn.1
  have hcl11 := fun (idx k : Nat) (t : zt_T) (h : (idx, 11, k) ∈ gfX12) (hk : fsX12[k]? = some t) => zf_clause (ro := ro) (ms := [(11, 15), (31, 0)]) h2 hown hKn.1 gfX12_ok (by decide +kernel) idx 11 k 11 0 fsX12 t h rfl hk
  have kp0 : zc_kept D RTg ro [(11, 15), (31, 0)] s.heap s.heap := zc_kept.refl
  obtain ⟨wb, n, z, f0, r0, f1, hn, hc, hz⟩ := id hJ
  obtain ⟨n9, g9, n1, n2⟩ := zh_fT (k := 15) (t := (0, 0, 120)) hh ha (show RTg[11]? = some (0, 11, 0, fsX12) from rfl) rfl
  cases f1.symm.trans g9
  dsimp only at n1 n2
  clear g9
  obtain ⟨-, z9, c9, hy9⟩ := zh_arr hh r0 (show RTg[31]? = some (1, 2, 160, [(0, (-128), 127)]) from rfl)
  have hy : ∀ i, i < 160 → zt_ok ro (z i) (0, (-128), 127) := zs_arr (hc.symm.trans c9) hy9
  refine lv_lload_n hx hb (eX12_putYear (0, .lload_n 1, 1) (List.mem_of_getElem? (i := 0) rfl)) rfl (lv_at hl 1 rfl) ?_
  refine ff_lconst hx hb (eX12_putYear (1, .lconst 0, 1) (List.mem_of_getElem? (i := 1) rfl)) rfl (fun v1 e1 => ?_)
  refine ff_ldc2 (n := 9999) hx hb hown h2 (clX12_ok 457 9999 (List.mem_of_getElem? (i := 42) rfl)) (eX12_putYear (2, .ldc2_w 457, 3) (List.mem_of_getElem? (i := 2) rfl)) (fun v2 e2 => ?_)
  refine zu_S (vs := [.long y, .long v1, .long v2]) (rest := []) hx hb hml hown hts0 zu_BT (hX12_isIn l y v1 v2) ⟨rfl, rfl⟩ ⟨by decide, by decide⟩ ⟨by decide, by decide⟩ (tb_7 47 rfl rfl) (tb_1 12 rfl rfl) (tb_7 45 rfl rfl) (tb_7 46 rfl rfl) (show yX12_isIn.cls ≠ "java/lang/invoke/MethodHandle" ∧ yX12_isIn.cls ≠ "java/lang/invoke/VarHandle" ∧ (parseMethodDescriptor yX12_isIn.desc).map (fun d => d.parameters.length) = some 3 by decide +kernel) rfl (fun _ _ _ => trivial) hl.1 (Nat.le_of_ble_eq_true rfl) (eX12_putYear (5, .invokestatic 130, 3) (List.mem_of_getElem? (i := 3) rfl)) (fun w3 f3 => ?_)
  obtain ⟨v3, rfl, e3⟩ := f3
  refine ff_if_eq hx hb (eX12_putYear (8, .ifCond .eq 11, 3) (List.mem_of_getElem? (i := 4) rfl)) (tgt := 19) rfl (fun c4 => ?_) (fun c4 => ?_)
  · skip
    refine lv_aload_n hx hb (eX12_putYear (19, .aload_n 0, 1) (List.mem_of_getElem? (i := 11) rfl)) rfl (lv_at hl 0 rfl) ?_
    refine lv_lload_n hx hb (eX12_putYear (20, .lload_n 1, 1) (List.mem_of_getElem? (i := 12) rfl)) rfl (lv_at hl 1 rfl) ?_
    refine ff_lconst hx hb (eX12_putYear (21, .lconst 0, 1) (List.mem_of_getElem? (i := 13) rfl)) rfl (fun v5 e5 => ?_)
    refine ff_lcmp hx hb (eX12_putYear (22, .lcmp, 1) (List.mem_of_getElem? (i := 14) rfl)) (fun v6 e6 => ?_)
    refine ff_if_ge hx hb (eX12_putYear (23, .ifCond .ge 8, 3) (List.mem_of_getElem? (i := 15) rfl)) (tgt := 31) rfl (fun c7 => ?_) (fun c7 => ?_)
    · skip
      refine ff_bipush hx hb (eX12_putYear (31, .bipush 43, 2) (List.mem_of_getElem? (i := 18) rfl)) (by decide) (by decide) (fun v8 e8 => ?_)
      refine tz_rowV (As := [.int v8]) (st := []) (b := a) (C := RX12) (Ts := gT) hx hb hml hown h2 (fun _ h => h) (hX12_put l D cA ro sz H0 a v8 (O) ha (by omega) (by omega) (by have hlO := hlen; (try simp only [List.length_append, dgL_len, List.length_cons, List.length_nil]); omega)) ⟨rfl, rfl⟩ ⟨by decide, by decide⟩ ⟨by decide, by decide⟩ (tb_8 173 rfl rfl) (tb_1 12 rfl rfl) (tb_8 170 rfl rfl) (tb_8 172 rfl rfl) (tb_0 59 rfl rfl) (show yX12_put.cls ≠ "java/lang/invoke/MethodHandle" ∧ yX12_put.cls ≠ "java/lang/invoke/VarHandle" ∧ (parseMethodDescriptor yX12_put.desc).map (fun d => d.parameters.length) = some 1 by decide +kernel) zs_blind (zs_ob hh ha (show RTg[11]? = some (0, 11, 0, fsX12) from rfl) (zCX12 hKn.1)) (fun U hU hW => ⟨rfl, by rw [hU]; exact hh.l0, zKb s U hW.alike hKn, by rw [hU]; exact hJ⟩) hh.2.2.1 hl.1 (Nat.le_of_ble_eq_true rfl) (eX12_putYear (33, .invokevirtual 450, 3) (List.mem_of_getElem? (i := 19) rfl)) (fun r9 s9 t9 lo9 g9 f9 l9 => ?_)
      obtain ⟨q9, z9, c9, j9⟩ := f9
      cases q9
      rw [g9] at c9
      have hh9 : zh_ok D cA RTg ro sz H0 t9.heap lo9 := ⟨z9.1, z9.2.1, l9, z9.2.2.2⟩
      have kp9 := kp0.trans (c9.mono (ms' := [(11, 15), (31, 0)]) (by decide))
      refine W.eq (g2 := F0 m 36 ls []) rfl ?_
      refine lv_aload_n hx hb (eX12_putYear (36, .aload_n 0, 1) (List.mem_of_getElem? (i := 20) rfl)) rfl (lv_at hl 0 rfl) ?_
      refine lv_lload_n hx hb (eX12_putYear (37, .lload_n 1, 1) (List.mem_of_getElem? (i := 21) rfl)) rfl (lv_at hl 1 rfl) ?_
      refine ff_lconst hx hb (eX12_putYear (38, .lconst 0, 1) (List.mem_of_getElem? (i := 22) rfl)) rfl (fun v10 e10 => ?_)
      refine ff_lcmp hx hb (eX12_putYear (39, .lcmp, 1) (List.mem_of_getElem? (i := 23) rfl)) (fun v11 e11 => ?_)
      refine ff_if_ge hx hb (eX12_putYear (40, .ifCond .ge 8, 3) (List.mem_of_getElem? (i := 24) rfl)) (tgt := 48) rfl (fun c12 => ?_) (fun c12 => (by exfalso; omega))
      refine lv_lload_n hx hb (eX12_putYear (48, .lload_n 1, 1) (List.mem_of_getElem? (i := 28) rfl)) rfl (lv_at hl 1 rfl) ?_
      refine ff_bipush hx hb (eX12_putYear (49, .bipush 6, 2) (List.mem_of_getElem? (i := 29) rfl)) (by decide) (by decide) (fun v13 e13 => ?_)
      refine tz_rowV (As := [.long y, .int v13]) (st := []) (b := a) (C := RX12) (Ts := gT) hx hb hml hown h2 (fun _ h => h) (hX12_putNumber l D cA ro sz H0 a y v13 6 (O ++ [v8.toInt]) ha (by omega) (by omega) (by omega) (by omega) (by have hlO := hlen; (try simp only [List.length_append, dgL_len, List.length_cons, List.length_nil]); omega)) ⟨rfl, rfl⟩ ⟨by decide, by decide⟩ ⟨by decide, by decide⟩ (tb_8 169 rfl rfl) (tb_1 12 rfl rfl) (tb_8 166 rfl rfl) (tb_8 168 rfl rfl) (tb_0 58 rfl rfl) (show yX12_putNumber.cls ≠ "java/lang/invoke/MethodHandle" ∧ yX12_putNumber.cls ≠ "java/lang/invoke/VarHandle" ∧ (parseMethodDescriptor yX12_putNumber.desc).map (fun d => d.parameters.length) = some 2 by decide +kernel) zs_blind (zs_ob hh9 ha (show RTg[11]? = some (0, 11, 0, fsX12) from rfl) (zCX12 hKn.1)) (fun U hU hW => ⟨rfl, by rw [hU]; exact hh9.l0, zKb s U hW.alike hKn, by rw [hU]; exact j9⟩) hh9.2.2.1 hl.1 (Nat.le_of_ble_eq_true rfl) (eX12_putYear (51, .invokevirtual 453, 3) (List.mem_of_getElem? (i := 30) rfl)) (fun r14 s14 t14 lo14 g14 f14 l14 => ?_)
      obtain ⟨q14, z14, c14, j14⟩ := f14
      cases q14
      rw [g14] at c14
      have hh14 : zh_ok D cA RTg ro sz H0 t14.heap lo14 := ⟨z14.1, z14.2.1, l14, z14.2.2.2⟩
      have kp14 := kp9.trans (c14.mono (ms' := [(11, 15), (31, 0)]) (by decide))
      refine W.eq (g2 := F0 m 54 ls []) rfl ?_
      refine ff_iconst hx hb (eX12_putYear (54, .iconst 1, 1) (List.mem_of_getElem? (i := 31) rfl)) (by decide) (by decide) (fun v15 e15 => ?_)
      have hJ9 : jRO D cA ro t14.heap a (O ++ yrL y.toInt) := by
        have h9 := j14
        rw [show v8.toInt = 43 by omega] at h9
        unfold yrL
        rw [if_neg (by omega)]
        simp only [show ¬ y.toInt < 0 by omega, if_false]
        simpa only [List.append_assoc] using h9
      exact W.zret hx hb hr (zn_bool (by omega) (by omega)) (fun t ht hW => ⟨_, rfl, by rw [ht]; exact hh14.l0, by rw [ht]; exact kp14, by rw [ht]; exact hJ9, Or.inr ⟨by omega, by omega⟩⟩) hh14.2.2.1 (eX12_putYear (55, .ireturn, 1) (List.mem_of_getElem? (i := 32) rfl))
    · skip
      refine ff_bipush hx hb (eX12_putYear (26, .bipush 45, 2) (List.mem_of_getElem? (i := 16) rfl)) (by decide) (by decide) (fun v16 e16 => ?_)
      refine lv_goto hx hb (eX12_putYear (28, .goto 5, 3) (List.mem_of_getElem? (i := 17) rfl)) (tgt := 33) rfl ?_
      refine tz_rowV (As := [.int v16]) (st := []) (b := a) (C := RX12) (Ts := gT) hx hb hml hown h2 (fun _ h => h) (hX12_put l D cA ro sz H0 a v16 (O) ha (by omega) (by omega) (by have hlO := hlen; (try simp only [List.length_append, dgL_len, List.length_cons, List.length_nil]); omega)) ⟨rfl, rfl⟩ ⟨by decide, by decide⟩ ⟨by decide, by decide⟩ (tb_8 173 rfl rfl) (tb_1 12 rfl rfl) (tb_8 170 rfl rfl) (tb_8 172 rfl rfl) (tb_0 59 rfl rfl) (show yX12_put.cls ≠ "java/lang/invoke/MethodHandle" ∧ yX12_put.cls ≠ "java/lang/invoke/VarHandle" ∧ (parseMethodDescriptor yX12_put.desc).map (fun d => d.parameters.length) = some 1 by decide +kernel) zs_blind (zs_ob hh ha (show RTg[11]? = some (0, 11, 0, fsX12) from rfl) (zCX12 hKn.1)) (fun U hU hW => ⟨rfl, by rw [hU]; exact hh.l0, zKb s U hW.alike hKn, by rw [hU]; exact hJ⟩) hh.2.2.1 hl.1 (Nat.le_of_ble_eq_true rfl) (eX12_putYear (33, .invokevirtual 450, 3) (List.mem_of_getElem? (i := 19) rfl)) (fun r17 s17 t17 lo17 g17 f17 l17 => ?_)
      obtain ⟨q17, z17, c17, j17⟩ := f17
      cases q17
      rw [g17] at c17
      have hh17 : zh_ok D cA RTg ro sz H0 t17.heap lo17 := ⟨z17.1, z17.2.1, l17, z17.2.2.2⟩
      have kp17 := kp0.trans (c17.mono (ms' := [(11, 15), (31, 0)]) (by decide))
      refine W.eq (g2 := F0 m 36 ls []) rfl ?_
      refine lv_aload_n hx hb (eX12_putYear (36, .aload_n 0, 1) (List.mem_of_getElem? (i := 20) rfl)) rfl (lv_at hl 0 rfl) ?_
      refine lv_lload_n hx hb (eX12_putYear (37, .lload_n 1, 1) (List.mem_of_getElem? (i := 21) rfl)) rfl (lv_at hl 1 rfl) ?_
      refine ff_lconst hx hb (eX12_putYear (38, .lconst 0, 1) (List.mem_of_getElem? (i := 22) rfl)) rfl (fun v18 e18 => ?_)
      refine ff_lcmp hx hb (eX12_putYear (39, .lcmp, 1) (List.mem_of_getElem? (i := 23) rfl)) (fun v19 e19 => ?_)
      refine ff_if_ge hx hb (eX12_putYear (40, .ifCond .ge 8, 3) (List.mem_of_getElem? (i := 24) rfl)) (tgt := 48) rfl (fun c20 => (by exfalso; omega)) (fun c20 => ?_)
      refine lv_lload_n hx hb (eX12_putYear (43, .lload_n 1, 1) (List.mem_of_getElem? (i := 25) rfl)) rfl (lv_at hl 1 rfl) ?_
      refine ff_lneg hx hb (eX12_putYear (44, .lneg, 1) (List.mem_of_getElem? (i := 26) rfl)) (by omega) (by omega) (fun v21 e21 => ?_)
      refine lv_goto hx hb (eX12_putYear (45, .goto 4, 3) (List.mem_of_getElem? (i := 27) rfl)) (tgt := 49) rfl ?_
      refine ff_bipush hx hb (eX12_putYear (49, .bipush 6, 2) (List.mem_of_getElem? (i := 29) rfl)) (by decide) (by decide) (fun v22 e22 => ?_)
      refine tz_rowV (As := [.long v21, .int v22]) (st := []) (b := a) (C := RX12) (Ts := gT) hx hb hml hown h2 (fun _ h => h) (hX12_putNumber l D cA ro sz H0 a v21 v22 6 (O ++ [v16.toInt]) ha (by omega) (by omega) (by omega) (by omega) (by have hlO := hlen; (try simp only [List.length_append, dgL_len, List.length_cons, List.length_nil]); omega)) ⟨rfl, rfl⟩ ⟨by decide, by decide⟩ ⟨by decide, by decide⟩ (tb_8 169 rfl rfl) (tb_1 12 rfl rfl) (tb_8 166 rfl rfl) (tb_8 168 rfl rfl) (tb_0 58 rfl rfl) (show yX12_putNumber.cls ≠ "java/lang/invoke/MethodHandle" ∧ yX12_putNumber.cls ≠ "java/lang/invoke/VarHandle" ∧ (parseMethodDescriptor yX12_putNumber.desc).map (fun d => d.parameters.length) = some 2 by decide +kernel) zs_blind (zs_ob hh17 ha (show RTg[11]? = some (0, 11, 0, fsX12) from rfl) (zCX12 hKn.1)) (fun U hU hW => ⟨rfl, by rw [hU]; exact hh17.l0, zKb s U hW.alike hKn, by rw [hU]; exact j17⟩) hh17.2.2.1 hl.1 (Nat.le_of_ble_eq_true rfl) (eX12_putYear (51, .invokevirtual 453, 3) (List.mem_of_getElem? (i := 30) rfl)) (fun r23 s23 t23 lo23 g23 f23 l23 => ?_)
      obtain ⟨q23, z23, c23, j23⟩ := f23
      cases q23
      rw [g23] at c23
      have hh23 : zh_ok D cA RTg ro sz H0 t23.heap lo23 := ⟨z23.1, z23.2.1, l23, z23.2.2.2⟩
      have kp23 := kp17.trans (c23.mono (ms' := [(11, 15), (31, 0)]) (by decide))
      refine W.eq (g2 := F0 m 54 ls []) rfl ?_
      refine ff_iconst hx hb (eX12_putYear (54, .iconst 1, 1) (List.mem_of_getElem? (i := 31) rfl)) (by decide) (by decide) (fun v24 e24 => ?_)
      have hJ9 : jRO D cA ro t23.heap a (O ++ yrL y.toInt) := by
        have h9 := j23
        rw [show v16.toInt = 45 by omega] at h9
        rw [show v21.toInt = -y.toInt by omega] at h9
        unfold yrL
        rw [if_neg (by omega)]
        simp only [show y.toInt < 0 by omega, if_true]
        simpa only [List.append_assoc] using h9
      exact W.zret hx hb hr (zn_bool (by omega) (by omega)) (fun t ht hW => ⟨_, rfl, by rw [ht]; exact hh23.l0, by rw [ht]; exact kp23, by rw [ht]; exact hJ9, Or.inr ⟨by omega, by omega⟩⟩) hh23.2.2.1 (eX12_putYear (55, .ireturn, 1) (List.mem_of_getElem? (i := 32) rfl))
  · skip
    refine lv_aload_n hx hb (eX12_putYear (11, .aload_n 0, 1) (List.mem_of_getElem? (i := 5) rfl)) rfl (lv_at hl 0 rfl) ?_
    refine lv_lload_n hx hb (eX12_putYear (12, .lload_n 1, 1) (List.mem_of_getElem? (i := 6) rfl)) rfl (lv_at hl 1 rfl) ?_
    refine ff_iconst hx hb (eX12_putYear (13, .iconst 4, 1) (List.mem_of_getElem? (i := 7) rfl)) (by decide) (by decide) (fun v25 e25 => ?_)
    refine tz_rowV (As := [.long y, .int v25]) (st := []) (b := a) (C := RX12) (Ts := gT) hx hb hml hown h2 (fun _ h => h) (hX12_putNumber l D cA ro sz H0 a y v25 4 (O) ha (by omega) (by omega) (by omega) (by omega) (by have hlO := hlen; (try simp only [List.length_append, dgL_len, List.length_cons, List.length_nil]); omega)) ⟨rfl, rfl⟩ ⟨by decide, by decide⟩ ⟨by decide, by decide⟩ (tb_8 169 rfl rfl) (tb_1 12 rfl rfl) (tb_8 166 rfl rfl) (tb_8 168 rfl rfl) (tb_0 58 rfl rfl) (show yX12_putNumber.cls ≠ "java/lang/invoke/MethodHandle" ∧ yX12_putNumber.cls ≠ "java/lang/invoke/VarHandle" ∧ (parseMethodDescriptor yX12_putNumber.desc).map (fun d => d.parameters.length) = some 2 by decide +kernel) zs_blind (zs_ob hh ha (show RTg[11]? = some (0, 11, 0, fsX12) from rfl) (zCX12 hKn.1)) (fun U hU hW => ⟨rfl, by rw [hU]; exact hh.l0, zKb s U hW.alike hKn, by rw [hU]; exact hJ⟩) hh.2.2.1 hl.1 (Nat.le_of_ble_eq_true rfl) (eX12_putYear (14, .invokevirtual 453, 3) (List.mem_of_getElem? (i := 8) rfl)) (fun r26 s26 t26 lo26 g26 f26 l26 => ?_)
    obtain ⟨q26, z26, c26, j26⟩ := f26
    cases q26
    rw [g26] at c26
    have hh26 : zh_ok D cA RTg ro sz H0 t26.heap lo26 := ⟨z26.1, z26.2.1, l26, z26.2.2.2⟩
    have kp26 := kp0.trans (c26.mono (ms' := [(11, 15), (31, 0)]) (by decide))
    refine W.eq (g2 := F0 m 17 ls []) rfl ?_
    refine ff_iconst hx hb (eX12_putYear (17, .iconst 0, 1) (List.mem_of_getElem? (i := 9) rfl)) (by decide) (by decide) (fun v27 e27 => ?_)
    have hJ9 : jRO D cA ro t26.heap a (O ++ yrL y.toInt) := by
      have h9 := j26
      unfold yrL
      rw [if_pos (by omega)]
      exact h9
    exact W.zret hx hb hr (zn_bool (by omega) (by omega)) (fun t ht hW => ⟨_, rfl, by rw [ht]; exact hh26.l0, by rw [ht]; exact kp26, by rw [ht]; exact hJ9, Or.inl ⟨by omega, by omega, by omega⟩⟩) hh26.2.2.1 (eX12_putYear (18, .ireturn, 1) (List.mem_of_getElem? (i := 10) rfl))
