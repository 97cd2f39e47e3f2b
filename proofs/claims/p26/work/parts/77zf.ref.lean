set_option maxRecDepth 100000 in
set_option maxHeartbeats 4000000 in
theorem hX12_putPlain (l : Launch) (D : va_G) (cA : Nat → ClassId) (ro : Nat → Option Nat) (sz : Nat) (H0 : Heap) (a : Nat) (value : Int64) (O : List Int) (ha : ro a = some 11) (hv0 : 0 ≤ value.toInt) (hv1 : value.toInt < 10000000000000) (hlen : O.length + ndN 13 value.toInt ≤ 120) : Met l yX12_putPlain (gW yX12_putPlain cX12_putPlain 6 none) { frames := 2, cells := 0, slots := 0, locals := 47 } (zs_P D cA ro sz H0 (fun H => jRO D cA ro H a O) [.ref a, .long value]) (zs_apR D cA ro sz H0 a (O ++ dgL (ndN 13 value.toInt) value.toInt)) 0 0 (zy_fr sz) := by
  refine zy_ofW (cc := cX12_putPlain) (maxL := 6) (ret := none) (by decide +kernel) rfl ?_
  intro p e s m args below meth c s1 B hml hv
  obtain ⟨rfl, hh, hKn, hJ⟩ := hv
  have hx := B.exec
  have hb := B.bytes
  have hr := B.returns
  have hlk := B.notSynchronized
  have hts0 := atoms_spec (ws := gW yX12_putPlain cX12_putPlain 6 none) B.pre
  have h2 : ∀ w ∈ gT, w.before ([.ref a, .long value] : List Value).toArray s = true := fun w hw => hts0 w (List.mem_cons_of_mem _ hw)
  have hown : s.vm.findClass RX12 = some m.cls := findClass_of_methodNamed B.named
  have hl := lv_entry [.ref a, .long value] (n := 6) (Nat.le_of_ble_eq_true rfl)
  rw [lg_entry_eq]
  generalize (lg_sl [.ref a, .long value] ++ List.replicate (6 - (lg_sl [.ref a, .long value]).length) Slot.unset).toArray = ls at hl ⊢
  have b_value := zn_i64 value
  have hD := zD_all h2 hKn.1
  have hcl11 := fun (idx k : Nat) (t : zt_T) (h : (idx, 11, k) ∈ gfX12) (hk : fsX12[k]? = some t) => zf_clause (ro := ro) (ms := [(11, 15), (31, 0)]) h2 hown hKn.1 gfX12_ok (by decide +kernel) idx 11 k 11 0 fsX12 t h rfl hk
  have kp0 : zc_kept D RTg ro [(11, 15), (31, 0)] s.heap s.heap := zc_kept.refl
  obtain ⟨wb, n, z, f0, r0, f1, hn, hc, hz⟩ := id hJ
  obtain ⟨n9, g9, n1, n2⟩ := zh_fT (k := 15) (t := (0, 0, 120)) hh ha (show RTg[11]? = some (0, 11, 0, fsX12) from rfl) rfl
  cases f1.symm.trans g9
  dsimp only at n1 n2
  clear g9
  obtain ⟨-, z9, c9, hy9⟩ := zh_arr hh r0 (show RTg[31]? = some (1, 2, 160, [(0, (-128), 127)]) from rfl)
  have hy : ∀ i, i < 160 → zt_ok ro (z i) (0, (-128), 127) := zs_arr (hc.symm.trans c9) hy9
  refine ff_iconst hx hb (eX12_putPlain (0, .iconst 1, 1) (List.mem_of_getElem? (i := 0) rfl)) (by decide) (by decide) (fun v1 e1 => ?_)
  refine lv_istore_n hx hb (eX12_putPlain (1, .istore_n 3, 1) (List.mem_of_getElem? (i := 1) rfl)) rfl hl (by decide) rfl (fun ls2 hl2 => ?_)
  refine lv_lload_n hx hb (eX12_putPlain (2, .lload_n 1, 1) (List.mem_of_getElem? (i := 2) rfl)) rfl (lv_at hl2 2 rfl) ?_
  refine lv_lstore hx hb (eX12_putPlain (3, .lstore 4, 2) (List.mem_of_getElem? (i := 3) rfl)) hl2 (by decide) rfl (fun ls3 hl3 => ?_)
  have loop : ∀ (f : Nat) (dv : Int32) (rv : Int64) (ls : Array Slot), 0 ≤ rv.toInt → rv.toInt < 10 ^ f → (ndN 13 value.toInt : Int) = dv.toInt - 1 + (ndN f rv.toInt : Int) → 1 ≤ dv.toInt → dv.toInt + f ≤ 18 → lv_has ls 6 [(4, .long rv), (3, .int dv), (0, .ref a), (1, .long value)] → W p l e (headSpec (gW yX12_putPlain cX12_putPlain 6 none) { frames := 2, cells := 0, slots := 0, locals := 47 }).room s m ([.ref a, .long value] : List Value).toArray below meth c s.heap [] 0 0 (MQ below (zs_apR D cA ro sz H0 a (O ++ dgL (ndN 13 value.toInt) value.toInt)) ([.ref a, .long value] : List Value).toArray s 0 0 (zy_fr sz)) (F0 m 5 ls []) := by
    intro f
    induction f with
    | zero =>
      intro dv rv ls hu0 huf hnd hd1 hd2 hl
      rw [Int.pow_zero] at huf
      refine lv_lload hx hb (eX12_putPlain (5, .lload 4, 2) (List.mem_of_getElem? (i := 4) rfl)) (lv_at hl 0 rfl) ?_
      refine ff_ldc2 (n := 10) hx hb hown h2 (clX12_ok 373 10 (List.mem_of_getElem? (i := 32) rfl)) (eX12_putPlain (7, .ldc2_w 373, 3) (List.mem_of_getElem? (i := 5) rfl)) (fun v4 e4 => ?_)
      refine ff_lcmp hx hb (eX12_putPlain (10, .lcmp, 1) (List.mem_of_getElem? (i := 6) rfl)) (fun v5 e5 => ?_)
      refine ff_if_lt hx hb (eX12_putPlain (11, .ifCond .lt 17, 3) (List.mem_of_getElem? (i := 7) rfl)) (tgt := 28) rfl (fun c6 => ?_) (fun c6 => (by exfalso; omega))
      have hend : (ndN 13 value.toInt : Int) = dv.toInt := by rw [hnd, nd_end (by omega)]; omega
      have hnl := ndN_le 13 value.toInt
      refine lv_aload_n hx hb (eX12_putPlain (28, .aload_n 0, 1) (List.mem_of_getElem? (i := 14) rfl)) rfl (lv_at hl 2 rfl) ?_
      refine lv_lload_n hx hb (eX12_putPlain (29, .lload_n 1, 1) (List.mem_of_getElem? (i := 15) rfl)) rfl (lv_at hl 3 rfl) ?_
      refine lv_iload_n hx hb (eX12_putPlain (30, .iload_n 3, 1) (List.mem_of_getElem? (i := 16) rfl)) rfl (lv_at hl 1 rfl) ?_
      refine tz_rowV (As := [.long value, .int dv]) (st := []) (b := a) (C := RX12) (Ts := gT) hx hb hml hown h2 (fun _ h => h) (hX12_putNumber l D cA ro sz H0 a value dv (ndN 13 value.toInt) O ha (by omega) (by omega) (by omega) (by omega) hlen) ⟨rfl, rfl⟩ ⟨by decide, by decide⟩ ⟨by decide, by decide⟩ (tb_8 169 rfl rfl) (tb_1 12 rfl rfl) (tb_8 166 rfl rfl) (tb_8 168 rfl rfl) (tb_0 58 rfl rfl) (show yX12_putNumber.cls ≠ "java/lang/invoke/MethodHandle" ∧ yX12_putNumber.cls ≠ "java/lang/invoke/VarHandle" ∧ (parseMethodDescriptor yX12_putNumber.desc).map (fun d => d.parameters.length) = some 2 by decide +kernel) zs_blind (zs_ob hh ha (show RTg[11]? = some (0, 11, 0, fsX12) from rfl) (zCX12 hKn.1)) (fun U hU hW => ⟨rfl, by rw [hU]; exact hh.l0, zKb s U hW.alike hKn, by rw [hU]; exact hJ⟩) hh.2.2.1 hl.1 (Nat.le_of_ble_eq_true rfl) (eX12_putPlain (31, .invokevirtual 453, 3) (List.mem_of_getElem? (i := 17) rfl)) (fun r7 s7 t7 lo7 g7 f7 l7 => ?_)
      obtain ⟨q7, z7, c7, j7⟩ := f7
      cases q7
      rw [g7] at c7
      have hh7 : zh_ok D cA RTg ro sz H0 t7.heap lo7 := ⟨z7.1, z7.2.1, l7, z7.2.2.2⟩
      have kp7 := kp0.trans (c7.mono (ms' := [(11, 15), (31, 0)]) (by decide))
      refine W.eq (g2 := F0 m 34 ls []) rfl ?_
      have hJ9 : jRO D cA ro t7.heap a (O ++ dgL (ndN 13 value.toInt) value.toInt) := by
        have h9 := j7
        exact h9
      exact W.vret hx hb hr (fun t ht hW => ⟨rfl, by rw [ht]; exact hh7.l0, by rw [ht]; exact kp7, by rw [ht]; exact hJ9⟩) hh7.2.2.1 (eX12_putPlain (34, .return_, 1) (List.mem_of_getElem? (i := 18) rfl))
    | succ f ih =>
      intro dv rv ls hu0 huf hnd hd1 hd2 hl
      refine lv_lload hx hb (eX12_putPlain (5, .lload 4, 2) (List.mem_of_getElem? (i := 4) rfl)) (lv_at hl 0 rfl) ?_
      refine ff_ldc2 (n := 10) hx hb hown h2 (clX12_ok 373 10 (List.mem_of_getElem? (i := 32) rfl)) (eX12_putPlain (7, .ldc2_w 373, 3) (List.mem_of_getElem? (i := 5) rfl)) (fun v8 e8 => ?_)
      refine ff_lcmp hx hb (eX12_putPlain (10, .lcmp, 1) (List.mem_of_getElem? (i := 6) rfl)) (fun v9 e9 => ?_)
      refine ff_if_lt hx hb (eX12_putPlain (11, .ifCond .lt 17, 3) (List.mem_of_getElem? (i := 7) rfl)) (tgt := 28) rfl (fun c10 => ?_) (fun c10 => ?_)
      · skip
        have hend : (ndN 13 value.toInt : Int) = dv.toInt := by rw [hnd, nd_end (by omega)]; omega
        have hnl := ndN_le 13 value.toInt
        refine lv_aload_n hx hb (eX12_putPlain (28, .aload_n 0, 1) (List.mem_of_getElem? (i := 14) rfl)) rfl (lv_at hl 2 rfl) ?_
        refine lv_lload_n hx hb (eX12_putPlain (29, .lload_n 1, 1) (List.mem_of_getElem? (i := 15) rfl)) rfl (lv_at hl 3 rfl) ?_
        refine lv_iload_n hx hb (eX12_putPlain (30, .iload_n 3, 1) (List.mem_of_getElem? (i := 16) rfl)) rfl (lv_at hl 1 rfl) ?_
        refine tz_rowV (As := [.long value, .int dv]) (st := []) (b := a) (C := RX12) (Ts := gT) hx hb hml hown h2 (fun _ h => h) (hX12_putNumber l D cA ro sz H0 a value dv (ndN 13 value.toInt) O ha (by omega) (by omega) (by omega) (by omega) hlen) ⟨rfl, rfl⟩ ⟨by decide, by decide⟩ ⟨by decide, by decide⟩ (tb_8 169 rfl rfl) (tb_1 12 rfl rfl) (tb_8 166 rfl rfl) (tb_8 168 rfl rfl) (tb_0 58 rfl rfl) (show yX12_putNumber.cls ≠ "java/lang/invoke/MethodHandle" ∧ yX12_putNumber.cls ≠ "java/lang/invoke/VarHandle" ∧ (parseMethodDescriptor yX12_putNumber.desc).map (fun d => d.parameters.length) = some 2 by decide +kernel) zs_blind (zs_ob hh ha (show RTg[11]? = some (0, 11, 0, fsX12) from rfl) (zCX12 hKn.1)) (fun U hU hW => ⟨rfl, by rw [hU]; exact hh.l0, zKb s U hW.alike hKn, by rw [hU]; exact hJ⟩) hh.2.2.1 hl.1 (Nat.le_of_ble_eq_true rfl) (eX12_putPlain (31, .invokevirtual 453, 3) (List.mem_of_getElem? (i := 17) rfl)) (fun r11 s11 t11 lo11 g11 f11 l11 => ?_)
        obtain ⟨q11, z11, c11, j11⟩ := f11
        cases q11
        rw [g11] at c11
        have hh11 : zh_ok D cA RTg ro sz H0 t11.heap lo11 := ⟨z11.1, z11.2.1, l11, z11.2.2.2⟩
        have kp11 := kp0.trans (c11.mono (ms' := [(11, 15), (31, 0)]) (by decide))
        refine W.eq (g2 := F0 m 34 ls []) rfl ?_
        have hJ9 : jRO D cA ro t11.heap a (O ++ dgL (ndN 13 value.toInt) value.toInt) := by
          have h9 := j11
          exact h9
        exact W.vret hx hb hr (fun t ht hW => ⟨rfl, by rw [ht]; exact hh11.l0, by rw [ht]; exact kp11, by rw [ht]; exact hJ9⟩) hh11.2.2.1 (eX12_putPlain (34, .return_, 1) (List.mem_of_getElem? (i := 18) rfl))
      · skip
        refine ff_iinc (k := 1) hx hb (eX12_putPlain (14, .iinc 3 1, 3) (List.mem_of_getElem? (i := 8) rfl)) hl rfl (by decide) (by decide) (by decide) (by omega) (by omega) (fun v12 e12 ls12 hl12 => ?_)
        refine lv_lload hx hb (eX12_putPlain (17, .lload 4, 2) (List.mem_of_getElem? (i := 9) rfl)) (lv_at hl12 1 rfl) ?_
        refine ff_ldc2 (n := 10) hx hb hown h2 (clX12_ok 373 10 (List.mem_of_getElem? (i := 32) rfl)) (eX12_putPlain (19, .ldc2_w 373, 3) (List.mem_of_getElem? (i := 10) rfl)) (fun v13 e13 => ?_)
        refine ff_ldivP hx hb (eX12_putPlain (22, .ldiv, 1) (List.mem_of_getElem? (i := 11) rfl)) (by omega) (e13) (by decide) (fun v14 e14 => ?_)
        refine lv_lstore hx hb (eX12_putPlain (23, .lstore 4, 2) (List.mem_of_getElem? (i := 12) rfl)) hl12 (by decide) rfl (fun ls15 hl15 => ?_)
        refine lv_goto hx hb (eX12_putPlain (25, .goto (-20), 3) (List.mem_of_getElem? (i := 13) rfl)) (tgt := 5) rfl ?_
        obtain ⟨g9, hg1, hg2, hg3⟩ := nd_step (u := rv.toInt) (by omega) huf
        cases Nat.succ.inj hg1
        rw [hg2] at hnd
        have hnd2 : (ndN 13 value.toInt : Int) = dv.toInt - 1 + (1 + (ndN f (rv.toInt / 10) : Int)) := by rw [hnd]; omega
        have hq9 : v14.toInt = rv.toInt / 10 := by omega
        exact ih v12 v14 ls15 (by omega) (by rw [hq9]; exact hg3) (by rw [hq9]; omega) (by omega) (by omega) (lv_sub hl15 [0, 1, 2, 3] rfl)
  exact loop 13 v1 value ls3 (by omega) (by show value.toInt < 10 ^ 13; omega) (by omega) (by omega) (by omega) (lv_sub hl3 [0, 1, 2, 3] rfl)
set_option maxRecDepth 100000 in
set_option maxHeartbeats 4000000 in
theorem hX12_putPart (l : Launch) (D : va_G) (cA : Nat → ClassId) (ro : Nat → Option Nat) (sz : Nat) (H0 : Heap) (a : Nat) (na : Int32) (dn : Int32) (N : Nat) (O : List Int) (ha : ro a = some 11) (hN : dn.toInt = (N : Int)) (hN9 : N ≤ 9) (hna : 0 ≤ na.toInt) (hlen : O.length + N + 1 ≤ 120) : Met l yX12_putPart (gW yX12_putPart cX12_putPart 6 none) { frames := 2, cells := 0, slots := 0, locals := 47 } (zs_P D cA ro sz H0 (fun H => jRO D cA ro H a O) [.ref a, .int na, .int dn]) (zs_apR D cA ro sz H0 a (O ++ ptL na.toInt N)) 0 0 (zy_fr sz) := by
  refine zy_ofW (cc := cX12_putPart) (maxL := 6) (ret := none) (by decide +kernel) rfl ?_
  intro p e s m args below meth c s1 B hml hv
  obtain ⟨rfl, hh, hKn, hJ⟩ := hv
  have hx := B.exec
  have hb := B.bytes
  have hr := B.returns
  have hlk := B.notSynchronized
  have hts0 := atoms_spec (ws := gW yX12_putPart cX12_putPart 6 none) B.pre
  have h2 : ∀ w ∈ gT, w.before ([.ref a, .int na, .int dn] : List Value).toArray s = true := fun w hw => hts0 w (List.mem_cons_of_mem _ hw)
  have hown : s.vm.findClass RX12 = some m.cls := findClass_of_methodNamed B.named
  have hl := lv_entry [.ref a, .int na, .int dn] (n := 6) (Nat.le_of_ble_eq_true rfl)
  rw [lg_entry_eq]
  generalize (lg_sl [.ref a, .int na, .int dn] ++ List.replicate (6 - (lg_sl [.ref a, .int na, .int dn]).length) Slot.unset).toArray = ls at hl ⊢
  have b_na := zn_i32 na
  have b_dn := zn_i32 dn
  have hD := zD_all h2 hKn.1
  have hcl11 := fun (idx k : Nat) (t : zt_T) (h : (idx, 11, k) ∈ gfX12) (hk : fsX12[k]? = some t) => zf_clause (ro := ro) (ms := [(11, 15), (31, 0)]) h2 hown hKn.1 gfX12_ok (by decide +kernel) idx 11 k 11 0 fsX12 t h rfl hk
  have kp0 : zc_kept D RTg ro [(11, 15), (31, 0)] s.heap s.heap := zc_kept.refl
  obtain ⟨wb, n, z, f0, r0, f1, hn, hc, hz⟩ := id hJ
  obtain ⟨n9, g9, n1, n2⟩ := zh_fT (k := 15) (t := (0, 0, 120)) hh ha (show RTg[11]? = some (0, 11, 0, fsX12) from rfl) rfl
  cases f1.symm.trans g9
  dsimp only at n1 n2
  clear g9
  obtain ⟨-, z9, c9, hy9⟩ := zh_arr hh r0 (show RTg[31]? = some (1, 2, 160, [(0, (-128), 127)]) from rfl)
  have hy : ∀ i, i < 160 → zt_ok ro (z i) (0, (-128), 127) := zs_arr (hc.symm.trans c9) hy9
  refine lv_iload_n hx hb (eX12_putPart (0, .iload_n 2, 1) (List.mem_of_getElem? (i := 0) rfl)) rfl (lv_at hl 2 rfl) ?_
  refine ff_if_le hx hb (eX12_putPart (1, .ifCond .le 40, 3) (List.mem_of_getElem? (i := 1) rfl)) (tgt := 41) rfl (fun c1 => ?_) (fun c1 => ?_)
  · skip
    have hJ9 : jRO D cA ro s.heap a (O ++ ptL na.toInt N) := by
      have h9 := hJ
      unfold ptL
      rw [if_pos (by omega), List.append_nil]
      exact h9
    exact W.vret hx hb hr (fun t ht hW => ⟨rfl, by rw [ht]; exact hh.l0, by rw [ht]; exact kp0, by rw [ht]; exact hJ9⟩) hh.2.2.1 (eX12_putPart (41, .return_, 1) (List.mem_of_getElem? (i := 23) rfl))
  · skip
    refine lv_aload_n hx hb (eX12_putPart (4, .aload_n 0, 1) (List.mem_of_getElem? (i := 2) rfl)) rfl (lv_at hl 0 rfl) ?_
    refine ff_bipush hx hb (eX12_putPart (5, .bipush 46, 2) (List.mem_of_getElem? (i := 3) rfl)) (by decide) (by decide) (fun v2 e2 => ?_)
    refine tz_rowV (As := [.int v2]) (st := []) (b := a) (C := RX12) (Ts := gT) hx hb hml hown h2 (fun _ h => h) (hX12_put l D cA ro sz H0 a v2 (O) ha (by omega) (by omega) (by have hlO := hlen; (try simp only [List.length_append, dgL_len, List.length_cons, List.length_nil]); omega)) ⟨rfl, rfl⟩ ⟨by decide, by decide⟩ ⟨by decide, by decide⟩ (tb_8 173 rfl rfl) (tb_1 12 rfl rfl) (tb_8 170 rfl rfl) (tb_8 172 rfl rfl) (tb_0 59 rfl rfl) (show yX12_put.cls ≠ "java/lang/invoke/MethodHandle" ∧ yX12_put.cls ≠ "java/lang/invoke/VarHandle" ∧ (parseMethodDescriptor yX12_put.desc).map (fun d => d.parameters.length) = some 1 by decide +kernel) zs_blind (zs_ob hh ha (show RTg[11]? = some (0, 11, 0, fsX12) from rfl) (zCX12 hKn.1)) (fun U hU hW => ⟨rfl, by rw [hU]; exact hh.l0, zKb s U hW.alike hKn, by rw [hU]; exact hJ⟩) hh.2.2.1 hl.1 (Nat.le_of_ble_eq_true rfl) (eX12_putPart (7, .invokevirtual 450, 3) (List.mem_of_getElem? (i := 4) rfl)) (fun r3 s3 t3 lo3 g3 f3 l3 => ?_)
    obtain ⟨q3, z3, c3, j3⟩ := f3
    cases q3
    rw [g3] at c3
    have hh3 : zh_ok D cA RTg ro sz H0 t3.heap lo3 := ⟨z3.1, z3.2.1, l3, z3.2.2.2⟩
    have kp3 := kp0.trans (c3.mono (ms' := [(11, 15), (31, 0)]) (by decide))
    refine W.eq (g2 := F0 m 10 ls []) rfl ?_
    refine lv_iload_n hx hb (eX12_putPart (10, .iload_n 1, 1) (List.mem_of_getElem? (i := 5) rfl)) rfl (lv_at hl 1 rfl) ?_
    refine ff_i2l hx hb (eX12_putPart (11, .i2l, 1) (List.mem_of_getElem? (i := 6) rfl)) (fun v4 e4 => ?_)
    refine lv_lstore_n hx hb (eX12_putPart (12, .lstore_n 3, 1) (List.mem_of_getElem? (i := 7) rfl)) rfl hl (by decide) rfl (fun ls5 hl5 => ?_)
    refine lv_iload_n hx hb (eX12_putPart (13, .iload_n 2, 1) (List.mem_of_getElem? (i := 8) rfl)) rfl (lv_at hl5 3 rfl) ?_
    refine lv_istore hx hb (eX12_putPart (14, .istore 5, 2) (List.mem_of_getElem? (i := 9) rfl)) hl5 (by decide) rfl (fun ls6 hl6 => ?_)
    have loop : ∀ (m0 k0 : Nat) (iv : Int32) (rv : Int64) (ls : Array Slot) (lo0 : List Loc), zh_ok D cA RTg ro sz H0 t3.heap lo0 → N + k0 + m0 = 9 → iv.toInt = (N : Int) + k0 → rv.toInt = dvN k0 na.toInt → lv_has ls 6 [(5, .int iv), (3, .long rv), (0, .ref a), (1, .int na), (2, .int dn)] → W p l e (headSpec (gW yX12_putPart cX12_putPart 6 none) { frames := 2, cells := 0, slots := 0, locals := 47 }).room s m ([.ref a, .int na, .int dn] : List Value).toArray below meth c t3.heap lo0 0 0 (MQ below (zs_apR D cA ro sz H0 a (O ++ ptL na.toInt N)) ([.ref a, .int na, .int dn] : List Value).toArray s 0 0 (zy_fr sz)) (F0 m 16 ls []) := by
      intro m0
      induction m0 with
      | zero =>
        intro k0 iv rv ls lo0 hh0 hk hiv hrv hl
        have hrv0 : 0 ≤ rv.toInt ∧ rv.toInt ≤ na.toInt := by rw [hrv]; unfold dvN; exact ⟨Int.ediv_nonneg (by omega) (Int.pow_nonneg (by decide)), Int.ediv_le_self _ (by omega)⟩
        refine lv_iload hx hb (eX12_putPart (16, .iload 5, 2) (List.mem_of_getElem? (i := 10) rfl)) (lv_at hl 0 rfl) ?_
        refine ff_bipush hx hb (eX12_putPart (18, .bipush 9, 2) (List.mem_of_getElem? (i := 11) rfl)) (by decide) (by decide) (fun v7 e7 => ?_)
        refine ff_icmp_ge hx hb (eX12_putPart (20, .if_icmp .ge 15, 3) (List.mem_of_getElem? (i := 12) rfl)) (tgt := 35) rfl (fun c8 => ?_) (fun c8 => (by exfalso; omega))
        refine lv_aload_n hx hb (eX12_putPart (35, .aload_n 0, 1) (List.mem_of_getElem? (i := 19) rfl)) rfl (lv_at hl 2 rfl) ?_
        refine lv_lload_n hx hb (eX12_putPart (36, .lload_n 3, 1) (List.mem_of_getElem? (i := 20) rfl)) rfl (lv_at hl 1 rfl) ?_
        refine lv_iload_n hx hb (eX12_putPart (37, .iload_n 2, 1) (List.mem_of_getElem? (i := 21) rfl)) rfl (lv_at hl 4 rfl) ?_
        refine tz_rowV (As := [.long rv, .int dn]) (st := []) (b := a) (C := RX12) (Ts := gT) hx hb hml hown h2 (fun _ h => h) (hX12_putNumber l D cA ro sz H0 a rv dn N (O ++ [v2.toInt]) ha (by omega) (by omega) (by omega) (by omega) (by have hlO := hlen; (try simp only [List.length_append, dgL_len, List.length_cons, List.length_nil]); omega)) ⟨rfl, rfl⟩ ⟨by decide, by decide⟩ ⟨by decide, by decide⟩ (tb_8 169 rfl rfl) (tb_1 12 rfl rfl) (tb_8 166 rfl rfl) (tb_8 168 rfl rfl) (tb_0 58 rfl rfl) (show yX12_putNumber.cls ≠ "java/lang/invoke/MethodHandle" ∧ yX12_putNumber.cls ≠ "java/lang/invoke/VarHandle" ∧ (parseMethodDescriptor yX12_putNumber.desc).map (fun d => d.parameters.length) = some 2 by decide +kernel) zs_blind (zs_ob hh0 ha (show RTg[11]? = some (0, 11, 0, fsX12) from rfl) (zCX12 hKn.1)) (fun U hU hW => ⟨rfl, by rw [hU]; exact hh0.l0, zKb s U hW.alike hKn, by rw [hU]; exact j3⟩) hh0.2.2.1 hl.1 (Nat.le_of_ble_eq_true rfl) (eX12_putPart (38, .invokevirtual 453, 3) (List.mem_of_getElem? (i := 22) rfl)) (fun r9 s9 t9 lo9 g9 f9 l9 => ?_)
        obtain ⟨q9, z9, c9, j9⟩ := f9
        cases q9
        rw [g9] at c9
        have hh9 : zh_ok D cA RTg ro sz H0 t9.heap lo9 := ⟨z9.1, z9.2.1, l9, z9.2.2.2⟩
        have kp9 := kp3.trans (c9.mono (ms' := [(11, 15), (31, 0)]) (by decide))
        refine W.eq (g2 := F0 m 41 ls []) rfl ?_
        have hJ9 : jRO D cA ro t9.heap a (O ++ ptL na.toInt N) := by
          have h9 := j9
          rw [show v2.toInt = 46 by omega, show rv.toInt = dvN k0 na.toInt by omega] at h9
          unfold ptL
          rw [if_neg (by omega), show 9 - N = k0 by omega]
          simpa only [List.append_assoc] using h9
        exact W.vret hx hb hr (fun t ht hW => ⟨rfl, by rw [ht]; exact hh9.l0, by rw [ht]; exact kp9, by rw [ht]; exact hJ9⟩) hh9.2.2.1 (eX12_putPart (41, .return_, 1) (List.mem_of_getElem? (i := 23) rfl))
      | succ m0 ih =>
        intro k0 iv rv ls lo0 hh0 hk hiv hrv hl
        have hrv0 : 0 ≤ rv.toInt ∧ rv.toInt ≤ na.toInt := by rw [hrv]; unfold dvN; exact ⟨Int.ediv_nonneg (by omega) (Int.pow_nonneg (by decide)), Int.ediv_le_self _ (by omega)⟩
        refine lv_iload hx hb (eX12_putPart (16, .iload 5, 2) (List.mem_of_getElem? (i := 10) rfl)) (lv_at hl 0 rfl) ?_
        refine ff_bipush hx hb (eX12_putPart (18, .bipush 9, 2) (List.mem_of_getElem? (i := 11) rfl)) (by decide) (by decide) (fun v10 e10 => ?_)
        refine ff_icmp_ge hx hb (eX12_putPart (20, .if_icmp .ge 15, 3) (List.mem_of_getElem? (i := 12) rfl)) (tgt := 35) rfl (fun c11 => (by exfalso; omega)) (fun c11 => ?_)
        refine lv_lload_n hx hb (eX12_putPart (23, .lload_n 3, 1) (List.mem_of_getElem? (i := 13) rfl)) rfl (lv_at hl 1 rfl) ?_
        refine ff_ldc2 (n := 10) hx hb hown h2 (clX12_ok 373 10 (List.mem_of_getElem? (i := 32) rfl)) (eX12_putPart (24, .ldc2_w 373, 3) (List.mem_of_getElem? (i := 14) rfl)) (fun v12 e12 => ?_)
        refine ff_ldivP hx hb (eX12_putPart (27, .ldiv, 1) (List.mem_of_getElem? (i := 15) rfl)) (by omega) (e12) (by decide) (fun v13 e13 => ?_)
        refine lv_lstore_n hx hb (eX12_putPart (28, .lstore_n 3, 1) (List.mem_of_getElem? (i := 16) rfl)) rfl hl (by decide) rfl (fun ls14 hl14 => ?_)
        refine ff_iinc (k := 1) hx hb (eX12_putPart (29, .iinc 5 1, 3) (List.mem_of_getElem? (i := 17) rfl)) hl14 rfl (by decide) (by decide) (by decide) (by omega) (by omega) (fun v15 e15 ls15 hl15 => ?_)
        refine lv_goto hx hb (eX12_putPart (32, .goto (-16), 3) (List.mem_of_getElem? (i := 18) rfl)) (tgt := 16) rfl ?_
        exact ih (k0 + 1) v15 v13 ls15 _ hh0 (by omega) (by omega) (by rw [dvN_succ, ← hrv]; omega) (lv_sub hl15 [0, 1, 2, 3, 4] rfl)
    exact loop (9 - N) 0 dn v4 ls6 _ hh3 (by omega) (by omega) (by have h0 := dvN_zero na.toInt; omega) (lv_sub hl6 [0, 1, 2, 3, 4] rfl)
set_option maxRecDepth 100000 in
set_option maxHeartbeats 4000000 in
theorem hX12_putCount (l : Launch) (D : va_G) (cA : Nat → ClassId) (ro : Nat → Option Nat) (sz : Nat) (H0 : Heap) (a : Nat) (v : Int64) (c0 : Int32) (O : List Int) (ha : ro a = some 11) (hv1 : v.toInt < 10000000000000) (hc1 : 0 ≤ c0.toInt) (hc2 : c0.toInt ≤ 127) (hlen : O.length + 15 ≤ 120) : Met l yX12_putCount (gW yX12_putCount cX12_putCount 4 none) { frames := 3, cells := 0, slots := 0, locals := 72 } (zs_P D cA ro sz H0 (fun H => jRO D cA ro H a O) [.ref a, .long v, .int c0]) (zs_apR D cA ro sz H0 a (O ++ cnL v.toInt c0.toInt)) 0 0 (zy_fr sz) := by
  refine zy_ofW (cc := cX12_putCount) (maxL := 4) (ret := none) (by decide +kernel) rfl ?_
  intro p e s m args below meth c s1 B hml hv
  obtain ⟨rfl, hh, hKn, hJ⟩ := hv
  have hx := B.exec
  have hb := B.bytes
  have hr := B.returns
  have hlk := B.notSynchronized
  have hts0 := atoms_spec (ws := gW yX12_putCount cX12_putCount 4 none) B.pre
  have h2 : ∀ w ∈ gT, w.before ([.ref a, .long v, .int c0] : List Value).toArray s = true := fun w hw => hts0 w (List.mem_cons_of_mem _ hw)
  have hown : s.vm.findClass RX12 = some m.cls := findClass_of_methodNamed B.named
  have hl := lv_entry [.ref a, .long v, .int c0] (n := 4) (Nat.le_of_ble_eq_true rfl)
  rw [lg_entry_eq]
  generalize (lg_sl [.ref a, .long v, .int c0] ++ List.replicate (4 - (lg_sl [.ref a, .long v, .int c0]).length) Slot.unset).toArray = ls at hl ⊢
  have b_v := zn_i64 v
  have b_c0 := zn_i32 c0
  have hD := zD_all h2 hKn.1
  have hcl11 := fun (idx k : Nat) (t : zt_T) (h : (idx, 11, k) ∈ gfX12) (hk : fsX12[k]? = some t) => zf_clause (ro := ro) (ms := [(11, 15), (31, 0)]) h2 hown hKn.1 gfX12_ok (by decide +kernel) idx 11 k 11 0 fsX12 t h rfl hk
  have kp0 : zc_kept D RTg ro [(11, 15), (31, 0)] s.heap s.heap := zc_kept.refl
  obtain ⟨wb, n, z, f0, r0, f1, hn, hc, hz⟩ := id hJ
  obtain ⟨n9, g9, n1, n2⟩ := zh_fT (k := 15) (t := (0, 0, 120)) hh ha (show RTg[11]? = some (0, 11, 0, fsX12) from rfl) rfl
  cases f1.symm.trans g9
  dsimp only at n1 n2
  clear g9
  obtain ⟨-, z9, c9, hy9⟩ := zh_arr hh r0 (show RTg[31]? = some (1, 2, 160, [(0, (-128), 127)]) from rfl)
  have hy : ∀ i, i < 160 → zt_ok ro (z i) (0, (-128), 127) := zs_arr (hc.symm.trans c9) hy9
  refine lv_lload_n hx hb (eX12_putCount (0, .lload_n 1, 1) (List.mem_of_getElem? (i := 0) rfl)) rfl (lv_at hl 1 rfl) ?_
  refine ff_lconst hx hb (eX12_putCount (1, .lconst 0, 1) (List.mem_of_getElem? (i := 1) rfl)) rfl (fun v1 e1 => ?_)
  refine ff_lcmp hx hb (eX12_putCount (2, .lcmp, 1) (List.mem_of_getElem? (i := 2) rfl)) (fun v2 e2 => ?_)
  refine ff_if_le hx hb (eX12_putCount (3, .ifCond .le 13, 3) (List.mem_of_getElem? (i := 3) rfl)) (tgt := 16) rfl (fun c3 => ?_) (fun c3 => ?_)
  · skip
    have hJ9 : jRO D cA ro s.heap a (O ++ cnL v.toInt c0.toInt) := by
      have h9 := hJ
      unfold cnL
      rw [if_neg (by omega), List.append_nil]
      exact h9
    exact W.vret hx hb hr (fun t ht hW => ⟨rfl, by rw [ht]; exact hh.l0, by rw [ht]; exact kp0, by rw [ht]; exact hJ9⟩) hh.2.2.1 (eX12_putCount (16, .return_, 1) (List.mem_of_getElem? (i := 10) rfl))
  · skip
    refine lv_aload_n hx hb (eX12_putCount (6, .aload_n 0, 1) (List.mem_of_getElem? (i := 4) rfl)) rfl (lv_at hl 0 rfl) ?_
    refine lv_lload_n hx hb (eX12_putCount (7, .lload_n 1, 1) (List.mem_of_getElem? (i := 5) rfl)) rfl (lv_at hl 1 rfl) ?_
    refine tz_rowV (As := [.long v]) (st := []) (b := a) (C := RX12) (Ts := gT) hx hb hml hown h2 (fun _ h => h) (hX12_putPlain l D cA ro sz H0 a v (O) ha (by omega) (by omega) (by have hlO := hlen; have hnl := ndN_le 13 v.toInt; omega)) ⟨rfl, rfl⟩ ⟨by decide, by decide⟩ ⟨by decide, by decide⟩ (tb_8 195 rfl rfl) (tb_1 12 rfl rfl) (tb_8 192 rfl rfl) (tb_8 194 rfl rfl) (tb_0 62 rfl rfl) (show yX12_putPlain.cls ≠ "java/lang/invoke/MethodHandle" ∧ yX12_putPlain.cls ≠ "java/lang/invoke/VarHandle" ∧ (parseMethodDescriptor yX12_putPlain.desc).map (fun d => d.parameters.length) = some 1 by decide +kernel) zs_blind (zs_ob hh ha (show RTg[11]? = some (0, 11, 0, fsX12) from rfl) (zCX12 hKn.1)) (fun U hU hW => ⟨rfl, by rw [hU]; exact hh.l0, zKb s U hW.alike hKn, by rw [hU]; exact hJ⟩) hh.2.2.1 hl.1 (Nat.le_of_ble_eq_true rfl) (eX12_putCount (8, .invokevirtual 467, 3) (List.mem_of_getElem? (i := 6) rfl)) (fun r4 s4 t4 lo4 g4 f4 l4 => ?_)
    obtain ⟨q4, z4, c4, j4⟩ := f4
    cases q4
    rw [g4] at c4
    have hh4 : zh_ok D cA RTg ro sz H0 t4.heap lo4 := ⟨z4.1, z4.2.1, l4, z4.2.2.2⟩
    have kp4 := kp0.trans (c4.mono (ms' := [(11, 15), (31, 0)]) (by decide))
    refine W.eq (g2 := F0 m 11 ls []) rfl ?_
    refine lv_aload_n hx hb (eX12_putCount (11, .aload_n 0, 1) (List.mem_of_getElem? (i := 7) rfl)) rfl (lv_at hl 0 rfl) ?_
    refine lv_iload_n hx hb (eX12_putCount (12, .iload_n 3, 1) (List.mem_of_getElem? (i := 8) rfl)) rfl (lv_at hl 2 rfl) ?_
    refine tz_rowV (As := [.int c0]) (st := []) (b := a) (C := RX12) (Ts := gT) hx hb hml hown h2 (fun _ h => h) (hX12_put l D cA ro sz H0 a c0 (O ++ dgL (ndN 13 v.toInt) v.toInt) ha (by omega) (by omega) (by have hlO := hlen; have hnl := ndN_le 13 v.toInt; simp only [List.length_append, dgL_len]; omega)) ⟨rfl, rfl⟩ ⟨by decide, by decide⟩ ⟨by decide, by decide⟩ (tb_8 173 rfl rfl) (tb_1 12 rfl rfl) (tb_8 170 rfl rfl) (tb_8 172 rfl rfl) (tb_0 59 rfl rfl) (show yX12_put.cls ≠ "java/lang/invoke/MethodHandle" ∧ yX12_put.cls ≠ "java/lang/invoke/VarHandle" ∧ (parseMethodDescriptor yX12_put.desc).map (fun d => d.parameters.length) = some 1 by decide +kernel) zs_blind (zs_ob hh4 ha (show RTg[11]? = some (0, 11, 0, fsX12) from rfl) (zCX12 hKn.1)) (fun U hU hW => ⟨rfl, by rw [hU]; exact hh4.l0, zKb s U hW.alike hKn, by rw [hU]; exact j4⟩) hh4.2.2.1 hl.1 (Nat.le_of_ble_eq_true rfl) (eX12_putCount (13, .invokevirtual 450, 3) (List.mem_of_getElem? (i := 9) rfl)) (fun r5 s5 t5 lo5 g5 f5 l5 => ?_)
    obtain ⟨q5, z5, c5, j5⟩ := f5
    cases q5
    rw [g5] at c5
    have hh5 : zh_ok D cA RTg ro sz H0 t5.heap lo5 := ⟨z5.1, z5.2.1, l5, z5.2.2.2⟩
    have kp5 := kp4.trans (c5.mono (ms' := [(11, 15), (31, 0)]) (by decide))
    refine W.eq (g2 := F0 m 16 ls []) rfl ?_
    have hJ9 : jRO D cA ro t5.heap a (O ++ cnL v.toInt c0.toInt) := by
      have h9 := j5
      unfold cnL
      rw [if_pos (by omega)]
      simpa only [List.append_assoc] using h9
    exact W.vret hx hb hr (fun t ht hW => ⟨rfl, by rw [ht]; exact hh5.l0, by rw [ht]; exact kp5, by rw [ht]; exact hJ9⟩) hh5.2.2.1 (eX12_putCount (16, .return_, 1) (List.mem_of_getElem? (i := 10) rfl))
