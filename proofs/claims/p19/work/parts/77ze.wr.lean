set_option maxRecDepth 100000 in
set_option maxHeartbeats 4000000 in
theorem hX9_putTime (l : Launch) (D : va_G) (cA : Nat → ClassId) (ro : Nat → Option Nat) (sz : Nat) (H0 : Heap) (wr : Nat) (mi : Int32) (se : Int32) (O : List Int) (hwr : ro wr = some 8) (hm1 : 0 ≤ mi.toInt) (hm2 : mi.toInt ≤ 1439) (hs1 : 0 ≤ se.toInt) (hlen : O.length + 9 ≤ 120) : Met l yX9_putTime (gW yX9_putTime cX9_putTime 3 none) { frames := 1, cells := 0, slots := 0, locals := 26 } (zs_P D cA ro sz H0 (fun H => jW D cA ro H wr O) [.ref wr, .int mi, .int se]) (zs_app D cA ro sz H0 wr (O ++ tmL mi.toInt se.toInt)) 0 0 (zy_fr sz) := by
  refine zy_ofW (cc := cX9_putTime) (maxL := 3) (ret := none) (by decide +kernel) rfl ?_
  intro p e s m args below meth c s1 B hml hv
  obtain ⟨rfl, hh, hKn, hJ⟩ := hv
  have hx := B.exec
  have hb := B.bytes
  have hr := B.returns
  have hlk := B.notSynchronized
  have hts0 := atoms_spec (ws := gW yX9_putTime cX9_putTime 3 none) B.pre
  have h2 : ∀ w ∈ gT, w.before ([.ref wr, .int mi, .int se] : List Value).toArray s = true := fun w hw => hts0 w (List.mem_cons_of_mem _ hw)
  have hown : s.vm.findClass RX9 = some m.cls := findClass_of_methodNamed B.named
  have hl := lv_entry [.ref wr, .int mi, .int se] (n := 3) (Nat.le_of_ble_eq_true rfl)
  rw [lg_entry_eq]
  generalize (lg_sl [.ref wr, .int mi, .int se] ++ List.replicate (3 - (lg_sl [.ref wr, .int mi, .int se]).length) Slot.unset).toArray = ls at hl ⊢
  have b_mi := zn_i32 mi
  have b_se := zn_i32 se
  have hD := zD_all h2 hKn.1
  have hcl8 := fun (idx k : Nat) (t : zt_T) (h : (idx, 8, k) ∈ gfX9) (hk : fsX9[k]? = some t) => zf_clause (ro := ro) (ms := [(8, 1), (16, 0)]) h2 hown hKn.1 gfX9_ok (by decide +kernel) idx 8 k 8 0 fsX9 t h rfl hk
  have kp0 : zc_kept D RTg ro [(8, 1), (16, 0)] s.heap s.heap := zc_kept.refl
  obtain ⟨wb, n, z, f0, r0, f1, hn, hc, hz⟩ := id hJ
  obtain ⟨n9, g9, n1, n2⟩ := zh_fT (k := 1) (t := (0, 0, 120)) hh hwr (show RTg[8]? = some (0, 8, 0, fsX9) from rfl) rfl
  cases f1.symm.trans g9
  dsimp only at n1 n2
  clear g9
  obtain ⟨-, z9, c9, hy9⟩ := zh_arr hh r0 (show RTg[16]? = some (1, 2, 120, [(0, (-128), 127)]) from rfl)
  have hy : ∀ i, i < 120 → zt_ok ro (z i) (0, (-128), 127) := zs_arr (hc.symm.trans c9) hy9
  refine lv_aload_n hx hb (eX9_putTime (0, .aload_n 0, 1) (List.mem_of_getElem? (i := 0) rfl)) rfl (lv_at hl 0 rfl) ?_
  refine ff_bipush hx hb (eX9_putTime (1, .bipush 84, 2) (List.mem_of_getElem? (i := 1) rfl)) (by decide) (by decide) (fun v1 e1 => ?_)
  refine tz_rowV (As := [.int v1]) (st := []) (b := wr) (C := RX9) (Ts := gT) hx hb hml hown h2 (fun _ h => h) (hX9_put l D cA ro sz H0 wr v1 (O) hwr (by omega) (by omega) (by have hlO := hlen; (try simp only [List.length_append, dgL_len, List.length_cons, List.length_nil]); omega)) ⟨rfl, rfl⟩ ⟨by decide, by decide⟩ ⟨by decide, by decide⟩ (tb_5 227 rfl rfl) (tb_1 6 rfl rfl) (tb_5 224 rfl rfl) (tb_5 225 rfl rfl) (tb_5 226 rfl rfl) (show yX9_put.cls ≠ "java/lang/invoke/MethodHandle" ∧ yX9_put.cls ≠ "java/lang/invoke/VarHandle" ∧ (parseMethodDescriptor yX9_put.desc).map (fun d => d.parameters.length) = some 1 by decide +kernel) zs_blind (zs_ob hh hwr (show RTg[8]? = some (0, 8, 0, fsX9) from rfl) (zCX9 hKn.1)) (fun U hU hW => ⟨rfl, by rw [hU]; exact hh.l0, zKb s U hW.alike hKn, by rw [hU]; exact hJ⟩) hh.2.2.1 hl.1 (Nat.le_of_ble_eq_true rfl) (eX9_putTime (3, .invokevirtual 19, 3) (List.mem_of_getElem? (i := 2) rfl)) (fun r2 s2 t2 lo2 g2 f2 l2 => ?_)
  obtain ⟨q2, z2, c2, j2⟩ := f2
  cases q2
  rw [g2] at c2
  have hh2 : zh_ok D cA RTg ro sz H0 t2.heap lo2 := ⟨z2.1, z2.2.1, l2, z2.2.2.2⟩
  have kp2 := kp0.trans (c2.mono (ms' := [(8, 1), (16, 0)]) (by decide))
  refine W.eq (g2 := F0 m 6 ls []) rfl ?_
  refine lv_aload_n hx hb (eX9_putTime (6, .aload_n 0, 1) (List.mem_of_getElem? (i := 3) rfl)) rfl (lv_at hl 0 rfl) ?_
  refine lv_iload_n hx hb (eX9_putTime (7, .iload_n 1, 1) (List.mem_of_getElem? (i := 4) rfl)) rfl (lv_at hl 1 rfl) ?_
  refine ff_bipush hx hb (eX9_putTime (8, .bipush 60, 2) (List.mem_of_getElem? (i := 5) rfl)) (by decide) (by decide) (fun v3 e3 => ?_)
  refine ff_idivP hx hb (eX9_putTime (10, .idiv, 1) (List.mem_of_getElem? (i := 6) rfl)) (by omega) (e3) (by decide) (fun v4 e4 => ?_)
  refine ff_i2l hx hb (eX9_putTime (11, .i2l, 1) (List.mem_of_getElem? (i := 7) rfl)) (fun v5 e5 => ?_)
  refine ff_iconst hx hb (eX9_putTime (12, .iconst 2, 1) (List.mem_of_getElem? (i := 8) rfl)) (by decide) (by decide) (fun v6 e6 => ?_)
  refine tz_rowV (As := [.long v5, .int v6]) (st := []) (b := wr) (C := RX9) (Ts := gT) hx hb hml hown h2 (fun _ h => h) (hX9_putDigits l D cA ro sz H0 wr v5 v6 2 (O ++ [v1.toInt]) hwr (by omega) (by omega) (by have hlO := hlen; (try simp only [List.length_append, dgL_len, List.length_cons, List.length_nil]); omega)) ⟨rfl, rfl⟩ ⟨by decide, by decide⟩ ⟨by decide, by decide⟩ (tb_5 221 rfl rfl) (tb_1 6 rfl rfl) (tb_5 218 rfl rfl) (tb_5 219 rfl rfl) (tb_5 220 rfl rfl) (show yX9_putDigits.cls ≠ "java/lang/invoke/MethodHandle" ∧ yX9_putDigits.cls ≠ "java/lang/invoke/VarHandle" ∧ (parseMethodDescriptor yX9_putDigits.desc).map (fun d => d.parameters.length) = some 2 by decide +kernel) zs_blind (zs_ob hh2 hwr (show RTg[8]? = some (0, 8, 0, fsX9) from rfl) (zCX9 hKn.1)) (fun U hU hW => ⟨rfl, by rw [hU]; exact hh2.l0, zKb s U hW.alike hKn, by rw [hU]; exact j2⟩) hh2.2.2.1 hl.1 (Nat.le_of_ble_eq_true rfl) (eX9_putTime (13, .invokevirtual 27, 3) (List.mem_of_getElem? (i := 9) rfl)) (fun r7 s7 t7 lo7 g7 f7 l7 => ?_)
  obtain ⟨q7, z7, c7, j7⟩ := f7
  cases q7
  rw [g7] at c7
  have hh7 : zh_ok D cA RTg ro sz H0 t7.heap lo7 := ⟨z7.1, z7.2.1, l7, z7.2.2.2⟩
  have kp7 := kp2.trans (c7.mono (ms' := [(8, 1), (16, 0)]) (by decide))
  refine W.eq (g2 := F0 m 16 ls []) rfl ?_
  refine lv_aload_n hx hb (eX9_putTime (16, .aload_n 0, 1) (List.mem_of_getElem? (i := 10) rfl)) rfl (lv_at hl 0 rfl) ?_
  refine ff_bipush hx hb (eX9_putTime (17, .bipush 58, 2) (List.mem_of_getElem? (i := 11) rfl)) (by decide) (by decide) (fun v8 e8 => ?_)
  refine tz_rowV (As := [.int v8]) (st := []) (b := wr) (C := RX9) (Ts := gT) hx hb hml hown h2 (fun _ h => h) (hX9_put l D cA ro sz H0 wr v8 (O ++ [v1.toInt] ++ dgL 2 v5.toInt) hwr (by omega) (by omega) (by have hlO := hlen; (try simp only [List.length_append, dgL_len, List.length_cons, List.length_nil]); omega)) ⟨rfl, rfl⟩ ⟨by decide, by decide⟩ ⟨by decide, by decide⟩ (tb_5 227 rfl rfl) (tb_1 6 rfl rfl) (tb_5 224 rfl rfl) (tb_5 225 rfl rfl) (tb_5 226 rfl rfl) (show yX9_put.cls ≠ "java/lang/invoke/MethodHandle" ∧ yX9_put.cls ≠ "java/lang/invoke/VarHandle" ∧ (parseMethodDescriptor yX9_put.desc).map (fun d => d.parameters.length) = some 1 by decide +kernel) zs_blind (zs_ob hh7 hwr (show RTg[8]? = some (0, 8, 0, fsX9) from rfl) (zCX9 hKn.1)) (fun U hU hW => ⟨rfl, by rw [hU]; exact hh7.l0, zKb s U hW.alike hKn, by rw [hU]; exact j7⟩) hh7.2.2.1 hl.1 (Nat.le_of_ble_eq_true rfl) (eX9_putTime (19, .invokevirtual 19, 3) (List.mem_of_getElem? (i := 12) rfl)) (fun r9 s9 t9 lo9 g9 f9 l9 => ?_)
  obtain ⟨q9, z9, c9, j9⟩ := f9
  cases q9
  rw [g9] at c9
  have hh9 : zh_ok D cA RTg ro sz H0 t9.heap lo9 := ⟨z9.1, z9.2.1, l9, z9.2.2.2⟩
  have kp9 := kp7.trans (c9.mono (ms' := [(8, 1), (16, 0)]) (by decide))
  refine W.eq (g2 := F0 m 22 ls []) rfl ?_
  refine lv_aload_n hx hb (eX9_putTime (22, .aload_n 0, 1) (List.mem_of_getElem? (i := 13) rfl)) rfl (lv_at hl 0 rfl) ?_
  refine lv_iload_n hx hb (eX9_putTime (23, .iload_n 1, 1) (List.mem_of_getElem? (i := 14) rfl)) rfl (lv_at hl 1 rfl) ?_
  refine ff_bipush hx hb (eX9_putTime (24, .bipush 60, 2) (List.mem_of_getElem? (i := 15) rfl)) (by decide) (by decide) (fun v10 e10 => ?_)
  refine ff_iremP hx hb (eX9_putTime (26, .irem, 1) (List.mem_of_getElem? (i := 16) rfl)) (by omega) (e10) (by decide) (fun v11 e11 => ?_)
  refine ff_i2l hx hb (eX9_putTime (27, .i2l, 1) (List.mem_of_getElem? (i := 17) rfl)) (fun v12 e12 => ?_)
  refine ff_iconst hx hb (eX9_putTime (28, .iconst 2, 1) (List.mem_of_getElem? (i := 18) rfl)) (by decide) (by decide) (fun v13 e13 => ?_)
  refine tz_rowV (As := [.long v12, .int v13]) (st := []) (b := wr) (C := RX9) (Ts := gT) hx hb hml hown h2 (fun _ h => h) (hX9_putDigits l D cA ro sz H0 wr v12 v13 2 (O ++ [v1.toInt] ++ dgL 2 v5.toInt ++ [v8.toInt]) hwr (by omega) (by omega) (by have hlO := hlen; (try simp only [List.length_append, dgL_len, List.length_cons, List.length_nil]); omega)) ⟨rfl, rfl⟩ ⟨by decide, by decide⟩ ⟨by decide, by decide⟩ (tb_5 221 rfl rfl) (tb_1 6 rfl rfl) (tb_5 218 rfl rfl) (tb_5 219 rfl rfl) (tb_5 220 rfl rfl) (show yX9_putDigits.cls ≠ "java/lang/invoke/MethodHandle" ∧ yX9_putDigits.cls ≠ "java/lang/invoke/VarHandle" ∧ (parseMethodDescriptor yX9_putDigits.desc).map (fun d => d.parameters.length) = some 2 by decide +kernel) zs_blind (zs_ob hh9 hwr (show RTg[8]? = some (0, 8, 0, fsX9) from rfl) (zCX9 hKn.1)) (fun U hU hW => ⟨rfl, by rw [hU]; exact hh9.l0, zKb s U hW.alike hKn, by rw [hU]; exact j9⟩) hh9.2.2.1 hl.1 (Nat.le_of_ble_eq_true rfl) (eX9_putTime (29, .invokevirtual 27, 3) (List.mem_of_getElem? (i := 19) rfl)) (fun r14 s14 t14 lo14 g14 f14 l14 => ?_)
  obtain ⟨q14, z14, c14, j14⟩ := f14
  cases q14
  rw [g14] at c14
  have hh14 : zh_ok D cA RTg ro sz H0 t14.heap lo14 := ⟨z14.1, z14.2.1, l14, z14.2.2.2⟩
  have kp14 := kp9.trans (c14.mono (ms' := [(8, 1), (16, 0)]) (by decide))
  refine W.eq (g2 := F0 m 32 ls []) rfl ?_
  refine lv_aload_n hx hb (eX9_putTime (32, .aload_n 0, 1) (List.mem_of_getElem? (i := 20) rfl)) rfl (lv_at hl 0 rfl) ?_
  refine ff_bipush hx hb (eX9_putTime (33, .bipush 58, 2) (List.mem_of_getElem? (i := 21) rfl)) (by decide) (by decide) (fun v15 e15 => ?_)
  refine tz_rowV (As := [.int v15]) (st := []) (b := wr) (C := RX9) (Ts := gT) hx hb hml hown h2 (fun _ h => h) (hX9_put l D cA ro sz H0 wr v15 (O ++ [v1.toInt] ++ dgL 2 v5.toInt ++ [v8.toInt] ++ dgL 2 v12.toInt) hwr (by omega) (by omega) (by have hlO := hlen; (try simp only [List.length_append, dgL_len, List.length_cons, List.length_nil]); omega)) ⟨rfl, rfl⟩ ⟨by decide, by decide⟩ ⟨by decide, by decide⟩ (tb_5 227 rfl rfl) (tb_1 6 rfl rfl) (tb_5 224 rfl rfl) (tb_5 225 rfl rfl) (tb_5 226 rfl rfl) (show yX9_put.cls ≠ "java/lang/invoke/MethodHandle" ∧ yX9_put.cls ≠ "java/lang/invoke/VarHandle" ∧ (parseMethodDescriptor yX9_put.desc).map (fun d => d.parameters.length) = some 1 by decide +kernel) zs_blind (zs_ob hh14 hwr (show RTg[8]? = some (0, 8, 0, fsX9) from rfl) (zCX9 hKn.1)) (fun U hU hW => ⟨rfl, by rw [hU]; exact hh14.l0, zKb s U hW.alike hKn, by rw [hU]; exact j14⟩) hh14.2.2.1 hl.1 (Nat.le_of_ble_eq_true rfl) (eX9_putTime (35, .invokevirtual 19, 3) (List.mem_of_getElem? (i := 22) rfl)) (fun r16 s16 t16 lo16 g16 f16 l16 => ?_)
  obtain ⟨q16, z16, c16, j16⟩ := f16
  cases q16
  rw [g16] at c16
  have hh16 : zh_ok D cA RTg ro sz H0 t16.heap lo16 := ⟨z16.1, z16.2.1, l16, z16.2.2.2⟩
  have kp16 := kp14.trans (c16.mono (ms' := [(8, 1), (16, 0)]) (by decide))
  refine W.eq (g2 := F0 m 38 ls []) rfl ?_
  refine lv_aload_n hx hb (eX9_putTime (38, .aload_n 0, 1) (List.mem_of_getElem? (i := 23) rfl)) rfl (lv_at hl 0 rfl) ?_
  refine lv_iload_n hx hb (eX9_putTime (39, .iload_n 2, 1) (List.mem_of_getElem? (i := 24) rfl)) rfl (lv_at hl 2 rfl) ?_
  refine ff_i2l hx hb (eX9_putTime (40, .i2l, 1) (List.mem_of_getElem? (i := 25) rfl)) (fun v17 e17 => ?_)
  refine ff_iconst hx hb (eX9_putTime (41, .iconst 2, 1) (List.mem_of_getElem? (i := 26) rfl)) (by decide) (by decide) (fun v18 e18 => ?_)
  refine tz_rowV (As := [.long v17, .int v18]) (st := []) (b := wr) (C := RX9) (Ts := gT) hx hb hml hown h2 (fun _ h => h) (hX9_putDigits l D cA ro sz H0 wr v17 v18 2 (O ++ [v1.toInt] ++ dgL 2 v5.toInt ++ [v8.toInt] ++ dgL 2 v12.toInt ++ [v15.toInt]) hwr (by omega) (by omega) (by have hlO := hlen; (try simp only [List.length_append, dgL_len, List.length_cons, List.length_nil]); omega)) ⟨rfl, rfl⟩ ⟨by decide, by decide⟩ ⟨by decide, by decide⟩ (tb_5 221 rfl rfl) (tb_1 6 rfl rfl) (tb_5 218 rfl rfl) (tb_5 219 rfl rfl) (tb_5 220 rfl rfl) (show yX9_putDigits.cls ≠ "java/lang/invoke/MethodHandle" ∧ yX9_putDigits.cls ≠ "java/lang/invoke/VarHandle" ∧ (parseMethodDescriptor yX9_putDigits.desc).map (fun d => d.parameters.length) = some 2 by decide +kernel) zs_blind (zs_ob hh16 hwr (show RTg[8]? = some (0, 8, 0, fsX9) from rfl) (zCX9 hKn.1)) (fun U hU hW => ⟨rfl, by rw [hU]; exact hh16.l0, zKb s U hW.alike hKn, by rw [hU]; exact j16⟩) hh16.2.2.1 hl.1 (Nat.le_of_ble_eq_true rfl) (eX9_putTime (42, .invokevirtual 27, 3) (List.mem_of_getElem? (i := 27) rfl)) (fun r19 s19 t19 lo19 g19 f19 l19 => ?_)
  obtain ⟨q19, z19, c19, j19⟩ := f19
  cases q19
  rw [g19] at c19
  have hh19 : zh_ok D cA RTg ro sz H0 t19.heap lo19 := ⟨z19.1, z19.2.1, l19, z19.2.2.2⟩
  have kp19 := kp16.trans (c19.mono (ms' := [(8, 1), (16, 0)]) (by decide))
  refine W.eq (g2 := F0 m 45 ls []) rfl ?_
  have hJ9 : jW D cA ro t19.heap wr (O ++ tmL mi.toInt se.toInt) := by
    have h9 := j19
    rw [show v1.toInt = 84 by omega] at h9
    rw [show v5.toInt = (mi.toInt / 60) by omega] at h9
    rw [show v8.toInt = 58 by omega] at h9
    rw [show v12.toInt = (mi.toInt % 60) by omega] at h9
    rw [show v15.toInt = 58 by omega] at h9
    rw [show v17.toInt = se.toInt by omega] at h9
    unfold tmL
    simpa only [List.append_assoc] using h9
  exact W.vret hx hb hr (fun t ht hW => ⟨rfl, by rw [ht]; exact hh19.l0, by rw [ht]; exact kp19, by rw [ht]; exact hJ9⟩) hh19.2.2.1 (eX9_putTime (45, .return_, 1) (List.mem_of_getElem? (i := 28) rfl))
set_option maxRecDepth 100000 in
set_option maxHeartbeats 4000000 in
theorem hX9_putPart (l : Launch) (D : va_G) (cA : Nat → ClassId) (ro : Nat → Option Nat) (sz : Nat) (H0 : Heap) (wr : Nat) (na : Int32) (dn : Int32) (N : Nat) (O : List Int) (hwr : ro wr = some 8) (hN : dn.toInt = (N : Int)) (hN9 : N ≤ 9) (hna : 0 ≤ na.toInt) (hlen : O.length + N + 1 ≤ 120) : Met l yX9_putPart (gW yX9_putPart cX9_putPart 5 none) { frames := 1, cells := 0, slots := 0, locals := 26 } (zs_P D cA ro sz H0 (fun H => jW D cA ro H wr O) [.ref wr, .int na, .int dn]) (zs_app D cA ro sz H0 wr (O ++ ptL na.toInt N)) 0 0 (zy_fr sz) := by
  refine zy_ofW (cc := cX9_putPart) (maxL := 5) (ret := none) (by decide +kernel) rfl ?_
  intro p e s m args below meth c s1 B hml hv
  obtain ⟨rfl, hh, hKn, hJ⟩ := hv
  have hx := B.exec
  have hb := B.bytes
  have hr := B.returns
  have hlk := B.notSynchronized
  have hts0 := atoms_spec (ws := gW yX9_putPart cX9_putPart 5 none) B.pre
  have h2 : ∀ w ∈ gT, w.before ([.ref wr, .int na, .int dn] : List Value).toArray s = true := fun w hw => hts0 w (List.mem_cons_of_mem _ hw)
  have hown : s.vm.findClass RX9 = some m.cls := findClass_of_methodNamed B.named
  have hl := lv_entry [.ref wr, .int na, .int dn] (n := 5) (Nat.le_of_ble_eq_true rfl)
  rw [lg_entry_eq]
  generalize (lg_sl [.ref wr, .int na, .int dn] ++ List.replicate (5 - (lg_sl [.ref wr, .int na, .int dn]).length) Slot.unset).toArray = ls at hl ⊢
  have b_na := zn_i32 na
  have b_dn := zn_i32 dn
  have hD := zD_all h2 hKn.1
  have hcl8 := fun (idx k : Nat) (t : zt_T) (h : (idx, 8, k) ∈ gfX9) (hk : fsX9[k]? = some t) => zf_clause (ro := ro) (ms := [(8, 1), (16, 0)]) h2 hown hKn.1 gfX9_ok (by decide +kernel) idx 8 k 8 0 fsX9 t h rfl hk
  have kp0 : zc_kept D RTg ro [(8, 1), (16, 0)] s.heap s.heap := zc_kept.refl
  obtain ⟨wb, n, z, f0, r0, f1, hn, hc, hz⟩ := id hJ
  obtain ⟨n9, g9, n1, n2⟩ := zh_fT (k := 1) (t := (0, 0, 120)) hh hwr (show RTg[8]? = some (0, 8, 0, fsX9) from rfl) rfl
  cases f1.symm.trans g9
  dsimp only at n1 n2
  clear g9
  obtain ⟨-, z9, c9, hy9⟩ := zh_arr hh r0 (show RTg[16]? = some (1, 2, 120, [(0, (-128), 127)]) from rfl)
  have hy : ∀ i, i < 120 → zt_ok ro (z i) (0, (-128), 127) := zs_arr (hc.symm.trans c9) hy9
  refine lv_iload_n hx hb (eX9_putPart (0, .iload_n 2, 1) (List.mem_of_getElem? (i := 0) rfl)) rfl (lv_at hl 2 rfl) ?_
  refine ff_if_ne hx hb (eX9_putPart (1, .ifCond .ne 4, 3) (List.mem_of_getElem? (i := 1) rfl)) (tgt := 5) rfl (fun c1 => ?_) (fun c1 => ?_)
  · skip
    refine lv_iload_n hx hb (eX9_putPart (5, .iload_n 1, 1) (List.mem_of_getElem? (i := 3) rfl)) rfl (lv_at hl 1 rfl) ?_
    refine lv_istore_n hx hb (eX9_putPart (6, .istore_n 3, 1) (List.mem_of_getElem? (i := 4) rfl)) rfl hl (by decide) rfl (fun ls2 hl2 => ?_)
    refine lv_iload_n hx hb (eX9_putPart (7, .iload_n 2, 1) (List.mem_of_getElem? (i := 5) rfl)) rfl (lv_at hl2 3 rfl) ?_
    refine lv_istore hx hb (eX9_putPart (8, .istore 4, 2) (List.mem_of_getElem? (i := 6) rfl)) hl2 (by decide) rfl (fun ls3 hl3 => ?_)
    have loop : ∀ (m0 k0 : Nat) (iv : Int32) (rv : Int32) (ls : Array Slot) (lo0 : List Loc), zh_ok D cA RTg ro sz H0 s.heap lo0 → N + k0 + m0 = 9 → iv.toInt = (N : Int) + k0 → rv.toInt = dvN k0 na.toInt → lv_has ls 5 [(4, .int iv), (3, .int rv), (0, .ref wr), (1, .int na), (2, .int dn)] → W p l e (headSpec (gW yX9_putPart cX9_putPart 5 none) { frames := 1, cells := 0, slots := 0, locals := 26 }).room s m ([.ref wr, .int na, .int dn] : List Value).toArray below meth c s.heap lo0 0 0 (MQ below (zs_app D cA ro sz H0 wr (O ++ ptL na.toInt N)) ([.ref wr, .int na, .int dn] : List Value).toArray s 0 0 (zy_fr sz)) (F0 m 10 ls []) := by
      intro m0
      induction m0 with
      | zero =>
        intro k0 iv rv ls lo0 hh0 hk hiv hrv hl
        have hrv0 : 0 ≤ rv.toInt ∧ rv.toInt ≤ na.toInt := by rw [hrv]; unfold dvN; exact ⟨Int.ediv_nonneg (by omega) (Int.pow_nonneg (by decide)), Int.ediv_le_self _ (by omega)⟩
        refine lv_iload hx hb (eX9_putPart (10, .iload 4, 2) (List.mem_of_getElem? (i := 7) rfl)) (lv_at hl 0 rfl) ?_
        refine ff_bipush hx hb (eX9_putPart (12, .bipush 9, 2) (List.mem_of_getElem? (i := 8) rfl)) (by decide) (by decide) (fun v4 e4 => ?_)
        refine ff_icmp_ge hx hb (eX9_putPart (14, .if_icmp .ge 14, 3) (List.mem_of_getElem? (i := 9) rfl)) (tgt := 28) rfl (fun c5 => ?_) (fun c5 => (by exfalso; omega))
        refine lv_aload_n hx hb (eX9_putPart (28, .aload_n 0, 1) (List.mem_of_getElem? (i := 16) rfl)) rfl (lv_at hl 2 rfl) ?_
        refine ff_bipush hx hb (eX9_putPart (29, .bipush 46, 2) (List.mem_of_getElem? (i := 17) rfl)) (by decide) (by decide) (fun v6 e6 => ?_)
        refine tz_rowV (As := [.int v6]) (st := []) (b := wr) (C := RX9) (Ts := gT) hx hb hml hown h2 (fun _ h => h) (hX9_put l D cA ro sz H0 wr v6 (O) hwr (by omega) (by omega) (by have hlO := hlen; (try simp only [List.length_append, dgL_len, List.length_cons, List.length_nil]); omega)) ⟨rfl, rfl⟩ ⟨by decide, by decide⟩ ⟨by decide, by decide⟩ (tb_5 227 rfl rfl) (tb_1 6 rfl rfl) (tb_5 224 rfl rfl) (tb_5 225 rfl rfl) (tb_5 226 rfl rfl) (show yX9_put.cls ≠ "java/lang/invoke/MethodHandle" ∧ yX9_put.cls ≠ "java/lang/invoke/VarHandle" ∧ (parseMethodDescriptor yX9_put.desc).map (fun d => d.parameters.length) = some 1 by decide +kernel) zs_blind (zs_ob hh0 hwr (show RTg[8]? = some (0, 8, 0, fsX9) from rfl) (zCX9 hKn.1)) (fun U hU hW => ⟨rfl, by rw [hU]; exact hh0.l0, zKb s U hW.alike hKn, by rw [hU]; exact hJ⟩) hh0.2.2.1 hl.1 (Nat.le_of_ble_eq_true rfl) (eX9_putPart (31, .invokevirtual 19, 3) (List.mem_of_getElem? (i := 18) rfl)) (fun r7 s7 t7 lo7 g7 f7 l7 => ?_)
        obtain ⟨q7, z7, c7, j7⟩ := f7
        cases q7
        rw [g7] at c7
        have hh7 : zh_ok D cA RTg ro sz H0 t7.heap lo7 := ⟨z7.1, z7.2.1, l7, z7.2.2.2⟩
        have kp7 := kp0.trans (c7.mono (ms' := [(8, 1), (16, 0)]) (by decide))
        refine W.eq (g2 := F0 m 34 ls []) rfl ?_
        refine lv_aload_n hx hb (eX9_putPart (34, .aload_n 0, 1) (List.mem_of_getElem? (i := 19) rfl)) rfl (lv_at hl 2 rfl) ?_
        refine lv_iload_n hx hb (eX9_putPart (35, .iload_n 3, 1) (List.mem_of_getElem? (i := 20) rfl)) rfl (lv_at hl 1 rfl) ?_
        refine ff_i2l hx hb (eX9_putPart (36, .i2l, 1) (List.mem_of_getElem? (i := 21) rfl)) (fun v8 e8 => ?_)
        refine lv_iload_n hx hb (eX9_putPart (37, .iload_n 2, 1) (List.mem_of_getElem? (i := 22) rfl)) rfl (lv_at hl 4 rfl) ?_
        refine tz_rowV (As := [.long v8, .int dn]) (st := []) (b := wr) (C := RX9) (Ts := gT) hx hb hml hown h2 (fun _ h => h) (hX9_putDigits l D cA ro sz H0 wr v8 dn N (O ++ [v6.toInt]) hwr (by omega) (by omega) (by have hlO := hlen; (try simp only [List.length_append, dgL_len, List.length_cons, List.length_nil]); omega)) ⟨rfl, rfl⟩ ⟨by decide, by decide⟩ ⟨by decide, by decide⟩ (tb_5 221 rfl rfl) (tb_1 6 rfl rfl) (tb_5 218 rfl rfl) (tb_5 219 rfl rfl) (tb_5 220 rfl rfl) (show yX9_putDigits.cls ≠ "java/lang/invoke/MethodHandle" ∧ yX9_putDigits.cls ≠ "java/lang/invoke/VarHandle" ∧ (parseMethodDescriptor yX9_putDigits.desc).map (fun d => d.parameters.length) = some 2 by decide +kernel) zs_blind (zs_ob hh7 hwr (show RTg[8]? = some (0, 8, 0, fsX9) from rfl) (zCX9 hKn.1)) (fun U hU hW => ⟨rfl, by rw [hU]; exact hh7.l0, zKb s U hW.alike hKn, by rw [hU]; exact j7⟩) hh7.2.2.1 hl.1 (Nat.le_of_ble_eq_true rfl) (eX9_putPart (38, .invokevirtual 27, 3) (List.mem_of_getElem? (i := 23) rfl)) (fun r9 s9 t9 lo9 g9 f9 l9 => ?_)
        obtain ⟨q9, z9, c9, j9⟩ := f9
        cases q9
        rw [g9] at c9
        have hh9 : zh_ok D cA RTg ro sz H0 t9.heap lo9 := ⟨z9.1, z9.2.1, l9, z9.2.2.2⟩
        have kp9 := kp7.trans (c9.mono (ms' := [(8, 1), (16, 0)]) (by decide))
        refine W.eq (g2 := F0 m 41 ls []) rfl ?_
        have hJ9 : jW D cA ro t9.heap wr (O ++ ptL na.toInt N) := by
          have h9 := j9
          rw [show v6.toInt = 46 by omega, show v8.toInt = dvN k0 na.toInt by omega] at h9
          unfold ptL
          rw [if_neg (by omega), show 9 - N = k0 by omega]
          simpa only [List.append_assoc] using h9
        exact W.vret hx hb hr (fun t ht hW => ⟨rfl, by rw [ht]; exact hh9.l0, by rw [ht]; exact kp9, by rw [ht]; exact hJ9⟩) hh9.2.2.1 (eX9_putPart (41, .return_, 1) (List.mem_of_getElem? (i := 24) rfl))
      | succ m0 ih =>
        intro k0 iv rv ls lo0 hh0 hk hiv hrv hl
        have hrv0 : 0 ≤ rv.toInt ∧ rv.toInt ≤ na.toInt := by rw [hrv]; unfold dvN; exact ⟨Int.ediv_nonneg (by omega) (Int.pow_nonneg (by decide)), Int.ediv_le_self _ (by omega)⟩
        refine lv_iload hx hb (eX9_putPart (10, .iload 4, 2) (List.mem_of_getElem? (i := 7) rfl)) (lv_at hl 0 rfl) ?_
        refine ff_bipush hx hb (eX9_putPart (12, .bipush 9, 2) (List.mem_of_getElem? (i := 8) rfl)) (by decide) (by decide) (fun v10 e10 => ?_)
        refine ff_icmp_ge hx hb (eX9_putPart (14, .if_icmp .ge 14, 3) (List.mem_of_getElem? (i := 9) rfl)) (tgt := 28) rfl (fun c11 => (by exfalso; omega)) (fun c11 => ?_)
        refine lv_iload_n hx hb (eX9_putPart (17, .iload_n 3, 1) (List.mem_of_getElem? (i := 10) rfl)) rfl (lv_at hl 1 rfl) ?_
        refine ff_bipush hx hb (eX9_putPart (18, .bipush 10, 2) (List.mem_of_getElem? (i := 11) rfl)) (by decide) (by decide) (fun v12 e12 => ?_)
        refine ff_idivP hx hb (eX9_putPart (20, .idiv, 1) (List.mem_of_getElem? (i := 12) rfl)) (by omega) (e12) (by decide) (fun v13 e13 => ?_)
        refine lv_istore_n hx hb (eX9_putPart (21, .istore_n 3, 1) (List.mem_of_getElem? (i := 13) rfl)) rfl hl (by decide) rfl (fun ls14 hl14 => ?_)
        refine ff_iinc (k := 1) hx hb (eX9_putPart (22, .iinc 4 1, 3) (List.mem_of_getElem? (i := 14) rfl)) hl14 rfl (by decide) (by decide) (by decide) (by omega) (by omega) (fun v15 e15 ls15 hl15 => ?_)
        refine lv_goto hx hb (eX9_putPart (25, .goto (-15), 3) (List.mem_of_getElem? (i := 15) rfl)) (tgt := 10) rfl ?_
        exact ih (k0 + 1) v15 v13 ls15 _ hh0 (by omega) (by omega) (by rw [dvN_succ, ← hrv]; omega) (lv_sub hl15 [0, 1, 2, 3, 4] rfl)
    exact loop (9 - N) 0 dn na ls3 _ hh (by omega) (by omega) (by have h0 := dvN_zero na.toInt; omega) (lv_sub hl3 [0, 1, 2, 3, 4] rfl)
  · skip
    have hJ9 : jW D cA ro s.heap wr (O ++ ptL na.toInt N) := by
      have h9 := hJ
      unfold ptL
      rw [if_pos (by omega), List.append_nil]
      exact h9
    exact W.vret hx hb hr (fun t ht hW => ⟨rfl, by rw [ht]; exact hh.l0, by rw [ht]; exact kp0, by rw [ht]; exact hJ9⟩) hh.2.2.1 (eX9_putPart (4, .return_, 1) (List.mem_of_getElem? (i := 2) rfl))
set_option maxRecDepth 100000 in
set_option maxHeartbeats 4000000 in
theorem hX9_putOffset (l : Launch) (D : va_G) (cA : Nat → ClassId) (ro : Nat → Option Nat) (sz : Nat) (H0 : Heap) (wr : Nat) (o : Int32) (O : List Int) (hwr : ro wr = some 8) (ho1 : -1439 ≤ o.toInt) (ho2 : o.toInt ≤ 1439) (hlen : O.length + 6 ≤ 120) : Met l yX9_putOffset (gW yX9_putOffset cX9_putOffset 3 none) { frames := 1, cells := 0, slots := 0, locals := 26 } (zs_P D cA ro sz H0 (fun H => jW D cA ro H wr O) [.ref wr, .int o]) (zs_app D cA ro sz H0 wr (O ++ ofL o.toInt)) 0 0 (zy_fr sz) := by
  refine zy_ofW (cc := cX9_putOffset) (maxL := 3) (ret := none) (by decide +kernel) rfl ?_
  intro p e s m args below meth c s1 B hml hv
  obtain ⟨rfl, hh, hKn, hJ⟩ := hv
  have hx := B.exec
  have hb := B.bytes
  have hr := B.returns
  have hlk := B.notSynchronized
  have hts0 := atoms_spec (ws := gW yX9_putOffset cX9_putOffset 3 none) B.pre
  have h2 : ∀ w ∈ gT, w.before ([.ref wr, .int o] : List Value).toArray s = true := fun w hw => hts0 w (List.mem_cons_of_mem _ hw)
  have hown : s.vm.findClass RX9 = some m.cls := findClass_of_methodNamed B.named
  have hl := lv_entry [.ref wr, .int o] (n := 3) (Nat.le_of_ble_eq_true rfl)
  rw [lg_entry_eq]
  generalize (lg_sl [.ref wr, .int o] ++ List.replicate (3 - (lg_sl [.ref wr, .int o]).length) Slot.unset).toArray = ls at hl ⊢
  have b_o := zn_i32 o
  have hD := zD_all h2 hKn.1
  have hcl8 := fun (idx k : Nat) (t : zt_T) (h : (idx, 8, k) ∈ gfX9) (hk : fsX9[k]? = some t) => zf_clause (ro := ro) (ms := [(8, 1), (16, 0)]) h2 hown hKn.1 gfX9_ok (by decide +kernel) idx 8 k 8 0 fsX9 t h rfl hk
  have kp0 : zc_kept D RTg ro [(8, 1), (16, 0)] s.heap s.heap := zc_kept.refl
  obtain ⟨wb, n, z, f0, r0, f1, hn, hc, hz⟩ := id hJ
  obtain ⟨n9, g9, n1, n2⟩ := zh_fT (k := 1) (t := (0, 0, 120)) hh hwr (show RTg[8]? = some (0, 8, 0, fsX9) from rfl) rfl
  cases f1.symm.trans g9
  dsimp only at n1 n2
  clear g9
  obtain ⟨-, z9, c9, hy9⟩ := zh_arr hh r0 (show RTg[16]? = some (1, 2, 120, [(0, (-128), 127)]) from rfl)
  have hy : ∀ i, i < 120 → zt_ok ro (z i) (0, (-128), 127) := zs_arr (hc.symm.trans c9) hy9
  refine lv_iload_n hx hb (eX9_putOffset (0, .iload_n 1, 1) (List.mem_of_getElem? (i := 0) rfl)) rfl (lv_at hl 1 rfl) ?_
  refine ff_if_ne hx hb (eX9_putOffset (1, .ifCond .ne 10, 3) (List.mem_of_getElem? (i := 1) rfl)) (tgt := 11) rfl (fun c1 => ?_) (fun c1 => ?_)
  · skip
    refine lv_iload_n hx hb (eX9_putOffset (11, .iload_n 1, 1) (List.mem_of_getElem? (i := 6) rfl)) rfl (lv_at hl 1 rfl) ?_
    refine zu_S (vs := [.int o]) (rest := []) hx hb hml hown hts0 zu_BT (hJ9_abs l o (by omega)) ⟨rfl, rfl⟩ ⟨by decide, by decide⟩ ⟨by decide, by decide⟩ (tb_5 230 rfl rfl) (tb_1 18 rfl rfl) (tb_5 228 rfl rfl) (tb_5 229 rfl rfl) (show yJ9_abs_0f7a4.cls ≠ "java/lang/invoke/MethodHandle" ∧ yJ9_abs_0f7a4.cls ≠ "java/lang/invoke/VarHandle" ∧ (parseMethodDescriptor yJ9_abs_0f7a4.desc).map (fun d => d.parameters.length) = some 1 by decide +kernel) rfl (fun _ _ _ => trivial) hl.1 (Nat.le_of_ble_eq_true rfl) (eX9_putOffset (12, .invokestatic 35, 3) (List.mem_of_getElem? (i := 7) rfl)) (fun w2 f2 => ?_)
    obtain ⟨v2, rfl, e2⟩ := f2
    refine lv_istore_n hx hb (eX9_putOffset (15, .istore_n 2, 1) (List.mem_of_getElem? (i := 8) rfl)) rfl hl (by decide) rfl (fun ls3 hl3 => ?_)
    refine lv_aload_n hx hb (eX9_putOffset (16, .aload_n 0, 1) (List.mem_of_getElem? (i := 9) rfl)) rfl (lv_at hl3 1 rfl) ?_
    refine lv_iload_n hx hb (eX9_putOffset (17, .iload_n 1, 1) (List.mem_of_getElem? (i := 10) rfl)) rfl (lv_at hl3 2 rfl) ?_
    refine ff_if_ge hx hb (eX9_putOffset (18, .ifCond .ge 8, 3) (List.mem_of_getElem? (i := 11) rfl)) (tgt := 26) rfl (fun c4 => ?_) (fun c4 => ?_)
    · skip
      refine ff_bipush hx hb (eX9_putOffset (26, .bipush 43, 2) (List.mem_of_getElem? (i := 14) rfl)) (by decide) (by decide) (fun v5 e5 => ?_)
      refine tz_rowV (As := [.int v5]) (st := []) (b := wr) (C := RX9) (Ts := gT) hx hb hml hown h2 (fun _ h => h) (hX9_put l D cA ro sz H0 wr v5 (O) hwr (by omega) (by omega) (by have hlO := hlen; (try simp only [List.length_append, dgL_len, List.length_cons, List.length_nil]); omega)) ⟨rfl, rfl⟩ ⟨by decide, by decide⟩ ⟨by decide, by decide⟩ (tb_5 227 rfl rfl) (tb_1 6 rfl rfl) (tb_5 224 rfl rfl) (tb_5 225 rfl rfl) (tb_5 226 rfl rfl) (show yX9_put.cls ≠ "java/lang/invoke/MethodHandle" ∧ yX9_put.cls ≠ "java/lang/invoke/VarHandle" ∧ (parseMethodDescriptor yX9_put.desc).map (fun d => d.parameters.length) = some 1 by decide +kernel) zs_blind (zs_ob hh hwr (show RTg[8]? = some (0, 8, 0, fsX9) from rfl) (zCX9 hKn.1)) (fun U hU hW => ⟨rfl, by rw [hU]; exact hh.l0, zKb s U hW.alike hKn, by rw [hU]; exact hJ⟩) hh.2.2.1 hl3.1 (Nat.le_of_ble_eq_true rfl) (eX9_putOffset (28, .invokevirtual 19, 3) (List.mem_of_getElem? (i := 15) rfl)) (fun r6 s6 t6 lo6 g6 f6 l6 => ?_)
      obtain ⟨q6, z6, c6, j6⟩ := f6
      cases q6
      rw [g6] at c6
      have hh6 : zh_ok D cA RTg ro sz H0 t6.heap lo6 := ⟨z6.1, z6.2.1, l6, z6.2.2.2⟩
      have kp6 := kp0.trans (c6.mono (ms' := [(8, 1), (16, 0)]) (by decide))
      refine W.eq (g2 := F0 m 31 ls3 []) rfl ?_
      refine lv_aload_n hx hb (eX9_putOffset (31, .aload_n 0, 1) (List.mem_of_getElem? (i := 16) rfl)) rfl (lv_at hl3 1 rfl) ?_
      refine lv_iload_n hx hb (eX9_putOffset (32, .iload_n 2, 1) (List.mem_of_getElem? (i := 17) rfl)) rfl (lv_at hl3 0 rfl) ?_
      refine ff_bipush hx hb (eX9_putOffset (33, .bipush 60, 2) (List.mem_of_getElem? (i := 18) rfl)) (by decide) (by decide) (fun v7 e7 => ?_)
      refine ff_idivP hx hb (eX9_putOffset (35, .idiv, 1) (List.mem_of_getElem? (i := 19) rfl)) (by omega) (e7) (by decide) (fun v8 e8 => ?_)
      refine ff_i2l hx hb (eX9_putOffset (36, .i2l, 1) (List.mem_of_getElem? (i := 20) rfl)) (fun v9 e9 => ?_)
      refine ff_iconst hx hb (eX9_putOffset (37, .iconst 2, 1) (List.mem_of_getElem? (i := 21) rfl)) (by decide) (by decide) (fun v10 e10 => ?_)
      refine tz_rowV (As := [.long v9, .int v10]) (st := []) (b := wr) (C := RX9) (Ts := gT) hx hb hml hown h2 (fun _ h => h) (hX9_putDigits l D cA ro sz H0 wr v9 v10 2 (O ++ [v5.toInt]) hwr (by omega) (by omega) (by have hlO := hlen; (try simp only [List.length_append, dgL_len, List.length_cons, List.length_nil]); omega)) ⟨rfl, rfl⟩ ⟨by decide, by decide⟩ ⟨by decide, by decide⟩ (tb_5 221 rfl rfl) (tb_1 6 rfl rfl) (tb_5 218 rfl rfl) (tb_5 219 rfl rfl) (tb_5 220 rfl rfl) (show yX9_putDigits.cls ≠ "java/lang/invoke/MethodHandle" ∧ yX9_putDigits.cls ≠ "java/lang/invoke/VarHandle" ∧ (parseMethodDescriptor yX9_putDigits.desc).map (fun d => d.parameters.length) = some 2 by decide +kernel) zs_blind (zs_ob hh6 hwr (show RTg[8]? = some (0, 8, 0, fsX9) from rfl) (zCX9 hKn.1)) (fun U hU hW => ⟨rfl, by rw [hU]; exact hh6.l0, zKb s U hW.alike hKn, by rw [hU]; exact j6⟩) hh6.2.2.1 hl3.1 (Nat.le_of_ble_eq_true rfl) (eX9_putOffset (38, .invokevirtual 27, 3) (List.mem_of_getElem? (i := 22) rfl)) (fun r11 s11 t11 lo11 g11 f11 l11 => ?_)
      obtain ⟨q11, z11, c11, j11⟩ := f11
      cases q11
      rw [g11] at c11
      have hh11 : zh_ok D cA RTg ro sz H0 t11.heap lo11 := ⟨z11.1, z11.2.1, l11, z11.2.2.2⟩
      have kp11 := kp6.trans (c11.mono (ms' := [(8, 1), (16, 0)]) (by decide))
      refine W.eq (g2 := F0 m 41 ls3 []) rfl ?_
      refine lv_aload_n hx hb (eX9_putOffset (41, .aload_n 0, 1) (List.mem_of_getElem? (i := 23) rfl)) rfl (lv_at hl3 1 rfl) ?_
      refine ff_bipush hx hb (eX9_putOffset (42, .bipush 58, 2) (List.mem_of_getElem? (i := 24) rfl)) (by decide) (by decide) (fun v12 e12 => ?_)
      refine tz_rowV (As := [.int v12]) (st := []) (b := wr) (C := RX9) (Ts := gT) hx hb hml hown h2 (fun _ h => h) (hX9_put l D cA ro sz H0 wr v12 (O ++ [v5.toInt] ++ dgL 2 v9.toInt) hwr (by omega) (by omega) (by have hlO := hlen; (try simp only [List.length_append, dgL_len, List.length_cons, List.length_nil]); omega)) ⟨rfl, rfl⟩ ⟨by decide, by decide⟩ ⟨by decide, by decide⟩ (tb_5 227 rfl rfl) (tb_1 6 rfl rfl) (tb_5 224 rfl rfl) (tb_5 225 rfl rfl) (tb_5 226 rfl rfl) (show yX9_put.cls ≠ "java/lang/invoke/MethodHandle" ∧ yX9_put.cls ≠ "java/lang/invoke/VarHandle" ∧ (parseMethodDescriptor yX9_put.desc).map (fun d => d.parameters.length) = some 1 by decide +kernel) zs_blind (zs_ob hh11 hwr (show RTg[8]? = some (0, 8, 0, fsX9) from rfl) (zCX9 hKn.1)) (fun U hU hW => ⟨rfl, by rw [hU]; exact hh11.l0, zKb s U hW.alike hKn, by rw [hU]; exact j11⟩) hh11.2.2.1 hl3.1 (Nat.le_of_ble_eq_true rfl) (eX9_putOffset (44, .invokevirtual 19, 3) (List.mem_of_getElem? (i := 25) rfl)) (fun r13 s13 t13 lo13 g13 f13 l13 => ?_)
      obtain ⟨q13, z13, c13, j13⟩ := f13
      cases q13
      rw [g13] at c13
      have hh13 : zh_ok D cA RTg ro sz H0 t13.heap lo13 := ⟨z13.1, z13.2.1, l13, z13.2.2.2⟩
      have kp13 := kp11.trans (c13.mono (ms' := [(8, 1), (16, 0)]) (by decide))
      refine W.eq (g2 := F0 m 47 ls3 []) rfl ?_
      refine lv_aload_n hx hb (eX9_putOffset (47, .aload_n 0, 1) (List.mem_of_getElem? (i := 26) rfl)) rfl (lv_at hl3 1 rfl) ?_
      refine lv_iload_n hx hb (eX9_putOffset (48, .iload_n 2, 1) (List.mem_of_getElem? (i := 27) rfl)) rfl (lv_at hl3 0 rfl) ?_
      refine ff_bipush hx hb (eX9_putOffset (49, .bipush 60, 2) (List.mem_of_getElem? (i := 28) rfl)) (by decide) (by decide) (fun v14 e14 => ?_)
      refine ff_iremP hx hb (eX9_putOffset (51, .irem, 1) (List.mem_of_getElem? (i := 29) rfl)) (by omega) (e14) (by decide) (fun v15 e15 => ?_)
      refine ff_i2l hx hb (eX9_putOffset (52, .i2l, 1) (List.mem_of_getElem? (i := 30) rfl)) (fun v16 e16 => ?_)
      refine ff_iconst hx hb (eX9_putOffset (53, .iconst 2, 1) (List.mem_of_getElem? (i := 31) rfl)) (by decide) (by decide) (fun v17 e17 => ?_)
      refine tz_rowV (As := [.long v16, .int v17]) (st := []) (b := wr) (C := RX9) (Ts := gT) hx hb hml hown h2 (fun _ h => h) (hX9_putDigits l D cA ro sz H0 wr v16 v17 2 (O ++ [v5.toInt] ++ dgL 2 v9.toInt ++ [v12.toInt]) hwr (by omega) (by omega) (by have hlO := hlen; (try simp only [List.length_append, dgL_len, List.length_cons, List.length_nil]); omega)) ⟨rfl, rfl⟩ ⟨by decide, by decide⟩ ⟨by decide, by decide⟩ (tb_5 221 rfl rfl) (tb_1 6 rfl rfl) (tb_5 218 rfl rfl) (tb_5 219 rfl rfl) (tb_5 220 rfl rfl) (show yX9_putDigits.cls ≠ "java/lang/invoke/MethodHandle" ∧ yX9_putDigits.cls ≠ "java/lang/invoke/VarHandle" ∧ (parseMethodDescriptor yX9_putDigits.desc).map (fun d => d.parameters.length) = some 2 by decide +kernel) zs_blind (zs_ob hh13 hwr (show RTg[8]? = some (0, 8, 0, fsX9) from rfl) (zCX9 hKn.1)) (fun U hU hW => ⟨rfl, by rw [hU]; exact hh13.l0, zKb s U hW.alike hKn, by rw [hU]; exact j13⟩) hh13.2.2.1 hl3.1 (Nat.le_of_ble_eq_true rfl) (eX9_putOffset (54, .invokevirtual 27, 3) (List.mem_of_getElem? (i := 32) rfl)) (fun r18 s18 t18 lo18 g18 f18 l18 => ?_)
      obtain ⟨q18, z18, c18, j18⟩ := f18
      cases q18
      rw [g18] at c18
      have hh18 : zh_ok D cA RTg ro sz H0 t18.heap lo18 := ⟨z18.1, z18.2.1, l18, z18.2.2.2⟩
      have kp18 := kp13.trans (c18.mono (ms' := [(8, 1), (16, 0)]) (by decide))
      refine W.eq (g2 := F0 m 57 ls3 []) rfl ?_
      have hJ9 : jW D cA ro t18.heap wr (O ++ ofL o.toInt) := by
        have h9 := j18
        rw [show v5.toInt = 43 by omega] at h9
        rw [show v9.toInt = ((o.toInt) / 60) by omega] at h9
        rw [show v12.toInt = 58 by omega] at h9
        rw [show v16.toInt = ((o.toInt) % 60) by omega] at h9
        unfold ofL
        rw [if_neg (by omega)]
        simp only [show ¬ o.toInt < 0 by omega, if_false]
        simpa only [List.append_assoc] using h9
      exact W.vret hx hb hr (fun t ht hW => ⟨rfl, by rw [ht]; exact hh18.l0, by rw [ht]; exact kp18, by rw [ht]; exact hJ9⟩) hh18.2.2.1 (eX9_putOffset (57, .return_, 1) (List.mem_of_getElem? (i := 33) rfl))
    · skip
      refine ff_bipush hx hb (eX9_putOffset (21, .bipush 45, 2) (List.mem_of_getElem? (i := 12) rfl)) (by decide) (by decide) (fun v19 e19 => ?_)
      refine lv_goto hx hb (eX9_putOffset (23, .goto 5, 3) (List.mem_of_getElem? (i := 13) rfl)) (tgt := 28) rfl ?_
      refine tz_rowV (As := [.int v19]) (st := []) (b := wr) (C := RX9) (Ts := gT) hx hb hml hown h2 (fun _ h => h) (hX9_put l D cA ro sz H0 wr v19 (O) hwr (by omega) (by omega) (by have hlO := hlen; (try simp only [List.length_append, dgL_len, List.length_cons, List.length_nil]); omega)) ⟨rfl, rfl⟩ ⟨by decide, by decide⟩ ⟨by decide, by decide⟩ (tb_5 227 rfl rfl) (tb_1 6 rfl rfl) (tb_5 224 rfl rfl) (tb_5 225 rfl rfl) (tb_5 226 rfl rfl) (show yX9_put.cls ≠ "java/lang/invoke/MethodHandle" ∧ yX9_put.cls ≠ "java/lang/invoke/VarHandle" ∧ (parseMethodDescriptor yX9_put.desc).map (fun d => d.parameters.length) = some 1 by decide +kernel) zs_blind (zs_ob hh hwr (show RTg[8]? = some (0, 8, 0, fsX9) from rfl) (zCX9 hKn.1)) (fun U hU hW => ⟨rfl, by rw [hU]; exact hh.l0, zKb s U hW.alike hKn, by rw [hU]; exact hJ⟩) hh.2.2.1 hl3.1 (Nat.le_of_ble_eq_true rfl) (eX9_putOffset (28, .invokevirtual 19, 3) (List.mem_of_getElem? (i := 15) rfl)) (fun r20 s20 t20 lo20 g20 f20 l20 => ?_)
      obtain ⟨q20, z20, c20, j20⟩ := f20
      cases q20
      rw [g20] at c20
      have hh20 : zh_ok D cA RTg ro sz H0 t20.heap lo20 := ⟨z20.1, z20.2.1, l20, z20.2.2.2⟩
      have kp20 := kp0.trans (c20.mono (ms' := [(8, 1), (16, 0)]) (by decide))
      refine W.eq (g2 := F0 m 31 ls3 []) rfl ?_
      refine lv_aload_n hx hb (eX9_putOffset (31, .aload_n 0, 1) (List.mem_of_getElem? (i := 16) rfl)) rfl (lv_at hl3 1 rfl) ?_
      refine lv_iload_n hx hb (eX9_putOffset (32, .iload_n 2, 1) (List.mem_of_getElem? (i := 17) rfl)) rfl (lv_at hl3 0 rfl) ?_
      refine ff_bipush hx hb (eX9_putOffset (33, .bipush 60, 2) (List.mem_of_getElem? (i := 18) rfl)) (by decide) (by decide) (fun v21 e21 => ?_)
      refine ff_idivP hx hb (eX9_putOffset (35, .idiv, 1) (List.mem_of_getElem? (i := 19) rfl)) (by omega) (e21) (by decide) (fun v22 e22 => ?_)
      refine ff_i2l hx hb (eX9_putOffset (36, .i2l, 1) (List.mem_of_getElem? (i := 20) rfl)) (fun v23 e23 => ?_)
      refine ff_iconst hx hb (eX9_putOffset (37, .iconst 2, 1) (List.mem_of_getElem? (i := 21) rfl)) (by decide) (by decide) (fun v24 e24 => ?_)
      refine tz_rowV (As := [.long v23, .int v24]) (st := []) (b := wr) (C := RX9) (Ts := gT) hx hb hml hown h2 (fun _ h => h) (hX9_putDigits l D cA ro sz H0 wr v23 v24 2 (O ++ [v19.toInt]) hwr (by omega) (by omega) (by have hlO := hlen; (try simp only [List.length_append, dgL_len, List.length_cons, List.length_nil]); omega)) ⟨rfl, rfl⟩ ⟨by decide, by decide⟩ ⟨by decide, by decide⟩ (tb_5 221 rfl rfl) (tb_1 6 rfl rfl) (tb_5 218 rfl rfl) (tb_5 219 rfl rfl) (tb_5 220 rfl rfl) (show yX9_putDigits.cls ≠ "java/lang/invoke/MethodHandle" ∧ yX9_putDigits.cls ≠ "java/lang/invoke/VarHandle" ∧ (parseMethodDescriptor yX9_putDigits.desc).map (fun d => d.parameters.length) = some 2 by decide +kernel) zs_blind (zs_ob hh20 hwr (show RTg[8]? = some (0, 8, 0, fsX9) from rfl) (zCX9 hKn.1)) (fun U hU hW => ⟨rfl, by rw [hU]; exact hh20.l0, zKb s U hW.alike hKn, by rw [hU]; exact j20⟩) hh20.2.2.1 hl3.1 (Nat.le_of_ble_eq_true rfl) (eX9_putOffset (38, .invokevirtual 27, 3) (List.mem_of_getElem? (i := 22) rfl)) (fun r25 s25 t25 lo25 g25 f25 l25 => ?_)
      obtain ⟨q25, z25, c25, j25⟩ := f25
      cases q25
      rw [g25] at c25
      have hh25 : zh_ok D cA RTg ro sz H0 t25.heap lo25 := ⟨z25.1, z25.2.1, l25, z25.2.2.2⟩
      have kp25 := kp20.trans (c25.mono (ms' := [(8, 1), (16, 0)]) (by decide))
      refine W.eq (g2 := F0 m 41 ls3 []) rfl ?_
      refine lv_aload_n hx hb (eX9_putOffset (41, .aload_n 0, 1) (List.mem_of_getElem? (i := 23) rfl)) rfl (lv_at hl3 1 rfl) ?_
      refine ff_bipush hx hb (eX9_putOffset (42, .bipush 58, 2) (List.mem_of_getElem? (i := 24) rfl)) (by decide) (by decide) (fun v26 e26 => ?_)
      refine tz_rowV (As := [.int v26]) (st := []) (b := wr) (C := RX9) (Ts := gT) hx hb hml hown h2 (fun _ h => h) (hX9_put l D cA ro sz H0 wr v26 (O ++ [v19.toInt] ++ dgL 2 v23.toInt) hwr (by omega) (by omega) (by have hlO := hlen; (try simp only [List.length_append, dgL_len, List.length_cons, List.length_nil]); omega)) ⟨rfl, rfl⟩ ⟨by decide, by decide⟩ ⟨by decide, by decide⟩ (tb_5 227 rfl rfl) (tb_1 6 rfl rfl) (tb_5 224 rfl rfl) (tb_5 225 rfl rfl) (tb_5 226 rfl rfl) (show yX9_put.cls ≠ "java/lang/invoke/MethodHandle" ∧ yX9_put.cls ≠ "java/lang/invoke/VarHandle" ∧ (parseMethodDescriptor yX9_put.desc).map (fun d => d.parameters.length) = some 1 by decide +kernel) zs_blind (zs_ob hh25 hwr (show RTg[8]? = some (0, 8, 0, fsX9) from rfl) (zCX9 hKn.1)) (fun U hU hW => ⟨rfl, by rw [hU]; exact hh25.l0, zKb s U hW.alike hKn, by rw [hU]; exact j25⟩) hh25.2.2.1 hl3.1 (Nat.le_of_ble_eq_true rfl) (eX9_putOffset (44, .invokevirtual 19, 3) (List.mem_of_getElem? (i := 25) rfl)) (fun r27 s27 t27 lo27 g27 f27 l27 => ?_)
      obtain ⟨q27, z27, c27, j27⟩ := f27
      cases q27
      rw [g27] at c27
      have hh27 : zh_ok D cA RTg ro sz H0 t27.heap lo27 := ⟨z27.1, z27.2.1, l27, z27.2.2.2⟩
      have kp27 := kp25.trans (c27.mono (ms' := [(8, 1), (16, 0)]) (by decide))
      refine W.eq (g2 := F0 m 47 ls3 []) rfl ?_
      refine lv_aload_n hx hb (eX9_putOffset (47, .aload_n 0, 1) (List.mem_of_getElem? (i := 26) rfl)) rfl (lv_at hl3 1 rfl) ?_
      refine lv_iload_n hx hb (eX9_putOffset (48, .iload_n 2, 1) (List.mem_of_getElem? (i := 27) rfl)) rfl (lv_at hl3 0 rfl) ?_
      refine ff_bipush hx hb (eX9_putOffset (49, .bipush 60, 2) (List.mem_of_getElem? (i := 28) rfl)) (by decide) (by decide) (fun v28 e28 => ?_)
      refine ff_iremP hx hb (eX9_putOffset (51, .irem, 1) (List.mem_of_getElem? (i := 29) rfl)) (by omega) (e28) (by decide) (fun v29 e29 => ?_)
      refine ff_i2l hx hb (eX9_putOffset (52, .i2l, 1) (List.mem_of_getElem? (i := 30) rfl)) (fun v30 e30 => ?_)
      refine ff_iconst hx hb (eX9_putOffset (53, .iconst 2, 1) (List.mem_of_getElem? (i := 31) rfl)) (by decide) (by decide) (fun v31 e31 => ?_)
      refine tz_rowV (As := [.long v30, .int v31]) (st := []) (b := wr) (C := RX9) (Ts := gT) hx hb hml hown h2 (fun _ h => h) (hX9_putDigits l D cA ro sz H0 wr v30 v31 2 (O ++ [v19.toInt] ++ dgL 2 v23.toInt ++ [v26.toInt]) hwr (by omega) (by omega) (by have hlO := hlen; (try simp only [List.length_append, dgL_len, List.length_cons, List.length_nil]); omega)) ⟨rfl, rfl⟩ ⟨by decide, by decide⟩ ⟨by decide, by decide⟩ (tb_5 221 rfl rfl) (tb_1 6 rfl rfl) (tb_5 218 rfl rfl) (tb_5 219 rfl rfl) (tb_5 220 rfl rfl) (show yX9_putDigits.cls ≠ "java/lang/invoke/MethodHandle" ∧ yX9_putDigits.cls ≠ "java/lang/invoke/VarHandle" ∧ (parseMethodDescriptor yX9_putDigits.desc).map (fun d => d.parameters.length) = some 2 by decide +kernel) zs_blind (zs_ob hh27 hwr (show RTg[8]? = some (0, 8, 0, fsX9) from rfl) (zCX9 hKn.1)) (fun U hU hW => ⟨rfl, by rw [hU]; exact hh27.l0, zKb s U hW.alike hKn, by rw [hU]; exact j27⟩) hh27.2.2.1 hl3.1 (Nat.le_of_ble_eq_true rfl) (eX9_putOffset (54, .invokevirtual 27, 3) (List.mem_of_getElem? (i := 32) rfl)) (fun r32 s32 t32 lo32 g32 f32 l32 => ?_)
      obtain ⟨q32, z32, c32, j32⟩ := f32
      cases q32
      rw [g32] at c32
      have hh32 : zh_ok D cA RTg ro sz H0 t32.heap lo32 := ⟨z32.1, z32.2.1, l32, z32.2.2.2⟩
      have kp32 := kp27.trans (c32.mono (ms' := [(8, 1), (16, 0)]) (by decide))
      refine W.eq (g2 := F0 m 57 ls3 []) rfl ?_
      have hJ9 : jW D cA ro t32.heap wr (O ++ ofL o.toInt) := by
        have h9 := j32
        rw [show v19.toInt = 45 by omega] at h9
        rw [show v23.toInt = ((-o.toInt) / 60) by omega] at h9
        rw [show v26.toInt = 58 by omega] at h9
        rw [show v30.toInt = ((-o.toInt) % 60) by omega] at h9
        unfold ofL
        rw [if_neg (by omega)]
        simp only [show o.toInt < 0 by omega, if_true]
        simpa only [List.append_assoc] using h9
      exact W.vret hx hb hr (fun t ht hW => ⟨rfl, by rw [ht]; exact hh32.l0, by rw [ht]; exact kp32, by rw [ht]; exact hJ9⟩) hh32.2.2.1 (eX9_putOffset (57, .return_, 1) (List.mem_of_getElem? (i := 33) rfl))
  · skip
    refine lv_aload_n hx hb (eX9_putOffset (4, .aload_n 0, 1) (List.mem_of_getElem? (i := 2) rfl)) rfl (lv_at hl 0 rfl) ?_
    refine ff_bipush hx hb (eX9_putOffset (5, .bipush 90, 2) (List.mem_of_getElem? (i := 3) rfl)) (by decide) (by decide) (fun v33 e33 => ?_)
    refine tz_rowV (As := [.int v33]) (st := []) (b := wr) (C := RX9) (Ts := gT) hx hb hml hown h2 (fun _ h => h) (hX9_put l D cA ro sz H0 wr v33 (O) hwr (by omega) (by omega) (by have hlO := hlen; (try simp only [List.length_append, dgL_len, List.length_cons, List.length_nil]); omega)) ⟨rfl, rfl⟩ ⟨by decide, by decide⟩ ⟨by decide, by decide⟩ (tb_5 227 rfl rfl) (tb_1 6 rfl rfl) (tb_5 224 rfl rfl) (tb_5 225 rfl rfl) (tb_5 226 rfl rfl) (show yX9_put.cls ≠ "java/lang/invoke/MethodHandle" ∧ yX9_put.cls ≠ "java/lang/invoke/VarHandle" ∧ (parseMethodDescriptor yX9_put.desc).map (fun d => d.parameters.length) = some 1 by decide +kernel) zs_blind (zs_ob hh hwr (show RTg[8]? = some (0, 8, 0, fsX9) from rfl) (zCX9 hKn.1)) (fun U hU hW => ⟨rfl, by rw [hU]; exact hh.l0, zKb s U hW.alike hKn, by rw [hU]; exact hJ⟩) hh.2.2.1 hl.1 (Nat.le_of_ble_eq_true rfl) (eX9_putOffset (7, .invokevirtual 19, 3) (List.mem_of_getElem? (i := 4) rfl)) (fun r34 s34 t34 lo34 g34 f34 l34 => ?_)
    obtain ⟨q34, z34, c34, j34⟩ := f34
    cases q34
    rw [g34] at c34
    have hh34 : zh_ok D cA RTg ro sz H0 t34.heap lo34 := ⟨z34.1, z34.2.1, l34, z34.2.2.2⟩
    have kp34 := kp0.trans (c34.mono (ms' := [(8, 1), (16, 0)]) (by decide))
    refine W.eq (g2 := F0 m 10 ls []) rfl ?_
    have hJ9 : jW D cA ro t34.heap wr (O ++ ofL o.toInt) := by
      have h9 := j34
      rw [show v33.toInt = 90 by omega] at h9
      unfold ofL
      rw [if_pos (by omega)]
      exact h9
    exact W.vret hx hb hr (fun t ht hW => ⟨rfl, by rw [ht]; exact hh34.l0, by rw [ht]; exact kp34, by rw [ht]; exact hJ9⟩) hh34.2.2.1 (eX9_putOffset (10, .return_, 1) (List.mem_of_getElem? (i := 5) rfl))
set_option maxRecDepth 100000 in
set_option maxHeartbeats 4000000 in
theorem hX9_putCount (l : Launch) (D : va_G) (cA : Nat → ClassId) (ro : Nat → Option Nat) (sz : Nat) (H0 : Heap) (wr : Nat) (v : Int64) (c0 : Int32) (O : List Int) (hwr : ro wr = some 8) (hv1 : v.toInt < 10000000000000) (hc1 : 0 ≤ c0.toInt) (hc2 : c0.toInt ≤ 127) (hlen : O.length + 15 ≤ 120) : Met l yX9_putCount (gW yX9_putCount cX9_putCount 4 none) { frames := 2, cells := 0, slots := 0, locals := 51 } (zs_P D cA ro sz H0 (fun H => jW D cA ro H wr O) [.ref wr, .long v, .int c0]) (zs_app D cA ro sz H0 wr (O ++ cnL v.toInt c0.toInt)) 0 0 (zy_fr sz) := by
  refine zy_ofW (cc := cX9_putCount) (maxL := 4) (ret := none) (by decide +kernel) rfl ?_
  intro p e s m args below meth c s1 B hml hv
  obtain ⟨rfl, hh, hKn, hJ⟩ := hv
  have hx := B.exec
  have hb := B.bytes
  have hr := B.returns
  have hlk := B.notSynchronized
  have hts0 := atoms_spec (ws := gW yX9_putCount cX9_putCount 4 none) B.pre
  have h2 : ∀ w ∈ gT, w.before ([.ref wr, .long v, .int c0] : List Value).toArray s = true := fun w hw => hts0 w (List.mem_cons_of_mem _ hw)
  have hown : s.vm.findClass RX9 = some m.cls := findClass_of_methodNamed B.named
  have hl := lv_entry [.ref wr, .long v, .int c0] (n := 4) (Nat.le_of_ble_eq_true rfl)
  rw [lg_entry_eq]
  generalize (lg_sl [.ref wr, .long v, .int c0] ++ List.replicate (4 - (lg_sl [.ref wr, .long v, .int c0]).length) Slot.unset).toArray = ls at hl ⊢
  have b_v := zn_i64 v
  have b_c0 := zn_i32 c0
  have hD := zD_all h2 hKn.1
  have hcl8 := fun (idx k : Nat) (t : zt_T) (h : (idx, 8, k) ∈ gfX9) (hk : fsX9[k]? = some t) => zf_clause (ro := ro) (ms := [(8, 1), (16, 0)]) h2 hown hKn.1 gfX9_ok (by decide +kernel) idx 8 k 8 0 fsX9 t h rfl hk
  have kp0 : zc_kept D RTg ro [(8, 1), (16, 0)] s.heap s.heap := zc_kept.refl
  obtain ⟨wb, n, z, f0, r0, f1, hn, hc, hz⟩ := id hJ
  obtain ⟨n9, g9, n1, n2⟩ := zh_fT (k := 1) (t := (0, 0, 120)) hh hwr (show RTg[8]? = some (0, 8, 0, fsX9) from rfl) rfl
  cases f1.symm.trans g9
  dsimp only at n1 n2
  clear g9
  obtain ⟨-, z9, c9, hy9⟩ := zh_arr hh r0 (show RTg[16]? = some (1, 2, 120, [(0, (-128), 127)]) from rfl)
  have hy : ∀ i, i < 120 → zt_ok ro (z i) (0, (-128), 127) := zs_arr (hc.symm.trans c9) hy9
  refine lv_lload_n hx hb (eX9_putCount (0, .lload_n 1, 1) (List.mem_of_getElem? (i := 0) rfl)) rfl (lv_at hl 1 rfl) ?_
  refine ff_lconst hx hb (eX9_putCount (1, .lconst 0, 1) (List.mem_of_getElem? (i := 1) rfl)) rfl (fun v1 e1 => ?_)
  refine ff_lcmp hx hb (eX9_putCount (2, .lcmp, 1) (List.mem_of_getElem? (i := 2) rfl)) (fun v2 e2 => ?_)
  refine ff_if_le hx hb (eX9_putCount (3, .ifCond .le 13, 3) (List.mem_of_getElem? (i := 3) rfl)) (tgt := 16) rfl (fun c3 => ?_) (fun c3 => ?_)
  · skip
    have hJ9 : jW D cA ro s.heap wr (O ++ cnL v.toInt c0.toInt) := by
      have h9 := hJ
      unfold cnL
      rw [if_neg (by omega), List.append_nil]
      exact h9
    exact W.vret hx hb hr (fun t ht hW => ⟨rfl, by rw [ht]; exact hh.l0, by rw [ht]; exact kp0, by rw [ht]; exact hJ9⟩) hh.2.2.1 (eX9_putCount (16, .return_, 1) (List.mem_of_getElem? (i := 10) rfl))
  · skip
    refine lv_aload_n hx hb (eX9_putCount (6, .aload_n 0, 1) (List.mem_of_getElem? (i := 4) rfl)) rfl (lv_at hl 0 rfl) ?_
    refine lv_lload_n hx hb (eX9_putCount (7, .lload_n 1, 1) (List.mem_of_getElem? (i := 5) rfl)) rfl (lv_at hl 1 rfl) ?_
    refine tz_rowV (As := [.long v]) (st := []) (b := wr) (C := RX9) (Ts := gT) hx hb hml hown h2 (fun _ h => h) (hX9_putNumber l D cA ro sz H0 wr v (O) hwr (by omega) (by omega) (by have hlO := hlen; have hnl := ndN_le 13 v.toInt; omega)) ⟨rfl, rfl⟩ ⟨by decide, by decide⟩ ⟨by decide, by decide⟩ (tb_6 54 rfl rfl) (tb_1 6 rfl rfl) (tb_6 51 rfl rfl) (tb_6 52 rfl rfl) (tb_6 53 rfl rfl) (show yX9_putNumber.cls ≠ "java/lang/invoke/MethodHandle" ∧ yX9_putNumber.cls ≠ "java/lang/invoke/VarHandle" ∧ (parseMethodDescriptor yX9_putNumber.desc).map (fun d => d.parameters.length) = some 1 by decide +kernel) zs_blind (zs_ob hh hwr (show RTg[8]? = some (0, 8, 0, fsX9) from rfl) (zCX9 hKn.1)) (fun U hU hW => ⟨rfl, by rw [hU]; exact hh.l0, zKb s U hW.alike hKn, by rw [hU]; exact hJ⟩) hh.2.2.1 hl.1 (Nat.le_of_ble_eq_true rfl) (eX9_putCount (8, .invokevirtual 60, 3) (List.mem_of_getElem? (i := 6) rfl)) (fun r4 s4 t4 lo4 g4 f4 l4 => ?_)
    obtain ⟨q4, z4, c4, j4⟩ := f4
    cases q4
    rw [g4] at c4
    have hh4 : zh_ok D cA RTg ro sz H0 t4.heap lo4 := ⟨z4.1, z4.2.1, l4, z4.2.2.2⟩
    have kp4 := kp0.trans (c4.mono (ms' := [(8, 1), (16, 0)]) (by decide))
    refine W.eq (g2 := F0 m 11 ls []) rfl ?_
    refine lv_aload_n hx hb (eX9_putCount (11, .aload_n 0, 1) (List.mem_of_getElem? (i := 7) rfl)) rfl (lv_at hl 0 rfl) ?_
    refine lv_iload_n hx hb (eX9_putCount (12, .iload_n 3, 1) (List.mem_of_getElem? (i := 8) rfl)) rfl (lv_at hl 2 rfl) ?_
    refine tz_rowV (As := [.int c0]) (st := []) (b := wr) (C := RX9) (Ts := gT) hx hb hml hown h2 (fun _ h => h) (hX9_put l D cA ro sz H0 wr c0 (O ++ dgL (ndN 13 v.toInt) v.toInt) hwr (by omega) (by omega) (by have hlO := hlen; have hnl := ndN_le 13 v.toInt; simp only [List.length_append, dgL_len]; omega)) ⟨rfl, rfl⟩ ⟨by decide, by decide⟩ ⟨by decide, by decide⟩ (tb_5 227 rfl rfl) (tb_1 6 rfl rfl) (tb_5 224 rfl rfl) (tb_5 225 rfl rfl) (tb_5 226 rfl rfl) (show yX9_put.cls ≠ "java/lang/invoke/MethodHandle" ∧ yX9_put.cls ≠ "java/lang/invoke/VarHandle" ∧ (parseMethodDescriptor yX9_put.desc).map (fun d => d.parameters.length) = some 1 by decide +kernel) zs_blind (zs_ob hh4 hwr (show RTg[8]? = some (0, 8, 0, fsX9) from rfl) (zCX9 hKn.1)) (fun U hU hW => ⟨rfl, by rw [hU]; exact hh4.l0, zKb s U hW.alike hKn, by rw [hU]; exact j4⟩) hh4.2.2.1 hl.1 (Nat.le_of_ble_eq_true rfl) (eX9_putCount (13, .invokevirtual 19, 3) (List.mem_of_getElem? (i := 9) rfl)) (fun r5 s5 t5 lo5 g5 f5 l5 => ?_)
    obtain ⟨q5, z5, c5, j5⟩ := f5
    cases q5
    rw [g5] at c5
    have hh5 : zh_ok D cA RTg ro sz H0 t5.heap lo5 := ⟨z5.1, z5.2.1, l5, z5.2.2.2⟩
    have kp5 := kp4.trans (c5.mono (ms' := [(8, 1), (16, 0)]) (by decide))
    refine W.eq (g2 := F0 m 16 ls []) rfl ?_
    have hJ9 : jW D cA ro t5.heap wr (O ++ cnL v.toInt c0.toInt) := by
      have h9 := j5
      unfold cnL
      rw [if_pos (by omega)]
      simpa only [List.append_assoc] using h9
    exact W.vret hx hb hr (fun t ht hW => ⟨rfl, by rw [ht]; exact hh5.l0, by rw [ht]; exact kp5, by rw [ht]; exact hJ9⟩) hh5.2.2.1 (eX9_putCount (16, .return_, 1) (List.mem_of_getElem? (i := 10) rfl))
theorem zd_go {d : Nat} {r : Int} (h : r % 10 = 0) : zdN (d + 1) r = zdN d (r / 10) := by rw [zdN, if_pos h]
theorem zd_end {d : Nat} {r : Int} (h : ¬ r % 10 = 0) : zdN (d + 1) r = d + 1 := by rw [zdN, if_neg h]
set_option maxRecDepth 100000 in
set_option maxHeartbeats 4000000 in
theorem hX9_putSeconds (l : Launch) (D : va_G) (cA : Nat → ClassId) (ro : Nat → Option Nat) (sz : Nat) (H0 : Heap) (wr : Nat) (v : Int64) (na : Int32) (O : List Int) (hwr : ro wr = some 8) (hv0 : 0 ≤ v.toInt) (hv1 : v.toInt ≤ 59) (hn1 : 0 ≤ na.toInt) (hn2 : na.toInt ≤ 999999999) (hlen : O.length + 26 ≤ 120) : Met l yX9_putSeconds (gW yX9_putSeconds cX9_putSeconds 7 none) { frames := 2, cells := 0, slots := 0, locals := 51 } (zs_P D cA ro sz H0 (fun H => jW D cA ro H wr O) [.ref wr, .long v, .int na]) (zs_app D cA ro sz H0 wr (O ++ (if 0 < v.toInt ∨ 0 < na.toInt ∨ O.length = 2 then scL v.toInt na.toInt else []))) 0 0 (zy_fr sz) := by
  refine zy_ofW (cc := cX9_putSeconds) (maxL := 7) (ret := none) (by decide +kernel) rfl ?_
  intro p e s m args below meth c s1 B hml hv
  obtain ⟨rfl, hh, hKn, hJ⟩ := hv
  have hx := B.exec
  have hb := B.bytes
  have hr := B.returns
  have hlk := B.notSynchronized
  have hts0 := atoms_spec (ws := gW yX9_putSeconds cX9_putSeconds 7 none) B.pre
  have h2 : ∀ w ∈ gT, w.before ([.ref wr, .long v, .int na] : List Value).toArray s = true := fun w hw => hts0 w (List.mem_cons_of_mem _ hw)
  have hown : s.vm.findClass RX9 = some m.cls := findClass_of_methodNamed B.named
  have hl := lv_entry [.ref wr, .long v, .int na] (n := 7) (Nat.le_of_ble_eq_true rfl)
  rw [lg_entry_eq]
  generalize (lg_sl [.ref wr, .long v, .int na] ++ List.replicate (7 - (lg_sl [.ref wr, .long v, .int na]).length) Slot.unset).toArray = ls at hl ⊢
  have b_v := zn_i64 v
  have b_na := zn_i32 na
  have hD := zD_all h2 hKn.1
  have hcl8 := fun (idx k : Nat) (t : zt_T) (h : (idx, 8, k) ∈ gfX9) (hk : fsX9[k]? = some t) => zf_clause (ro := ro) (ms := [(8, 1), (16, 0)]) h2 hown hKn.1 gfX9_ok (by decide +kernel) idx 8 k 8 0 fsX9 t h rfl hk
  have kp0 : zc_kept D RTg ro [(8, 1), (16, 0)] s.heap s.heap := zc_kept.refl
  obtain ⟨wb, n, z, f0, r0, f1, hn, hc, hz⟩ := id hJ
  obtain ⟨n9, g9, n1, n2⟩ := zh_fT (k := 1) (t := (0, 0, 120)) hh hwr (show RTg[8]? = some (0, 8, 0, fsX9) from rfl) rfl
  cases f1.symm.trans g9
  dsimp only at n1 n2
  clear g9
  obtain ⟨-, z9, c9, hy9⟩ := zh_arr hh r0 (show RTg[16]? = some (1, 2, 120, [(0, (-128), 127)]) from rfl)
  have hy : ∀ i, i < 120 → zt_ok ro (z i) (0, (-128), 127) := zs_arr (hc.symm.trans c9) hy9
  refine lv_aload_n hx hb (eX9_putSeconds (0, .aload_n 0, 1) (List.mem_of_getElem? (i := 0) rfl)) rfl (lv_at hl 0 rfl) ?_
  refine tz_get (r := 8) (k := 1) (t := (0, 0, 120)) hx hb hh hwr rfl rfl (hcl8 15 1 (0, 0, 120) (by decide) rfl).1 f1 (eX9_putSeconds (1, .getfield 15, 3) (List.mem_of_getElem? (i := 1) rfl)) ?_
  refine ff_iconst hx hb (eX9_putSeconds (4, .iconst 2, 1) (List.mem_of_getElem? (i := 2) rfl)) (by decide) (by decide) (fun v1 e1 => ?_)
  refine ff_icmp_ne hx hb (eX9_putSeconds (5, .if_icmp .ne 7, 3) (List.mem_of_getElem? (i := 3) rfl)) (tgt := 12) rfl (fun c2 => ?_) (fun c2 => ?_)
  · skip
    refine ff_iconst hx hb (eX9_putSeconds (12, .iconst 0, 1) (List.mem_of_getElem? (i := 6) rfl)) (by decide) (by decide) (fun v3 e3 => ?_)
    refine lv_istore hx hb (eX9_putSeconds (13, .istore 4, 2) (List.mem_of_getElem? (i := 7) rfl)) hl (by decide) rfl (fun ls4 hl4 => ?_)
    refine lv_lload_n hx hb (eX9_putSeconds (15, .lload_n 1, 1) (List.mem_of_getElem? (i := 8) rfl)) rfl (lv_at hl4 2 rfl) ?_
    refine ff_lconst hx hb (eX9_putSeconds (16, .lconst 0, 1) (List.mem_of_getElem? (i := 9) rfl)) rfl (fun v5 e5 => ?_)
    refine ff_lcmp hx hb (eX9_putSeconds (17, .lcmp, 1) (List.mem_of_getElem? (i := 10) rfl)) (fun v6 e6 => ?_)
    refine ff_if_ne hx hb (eX9_putSeconds (18, .ifCond .ne 13, 3) (List.mem_of_getElem? (i := 11) rfl)) (tgt := 31) rfl (fun c7 => ?_) (fun c7 => ?_)
    · skip
      refine lv_aload_n hx hb (eX9_putSeconds (31, .aload_n 0, 1) (List.mem_of_getElem? (i := 17) rfl)) rfl (lv_at hl4 1 rfl) ?_
      refine lv_lload_n hx hb (eX9_putSeconds (32, .lload_n 1, 1) (List.mem_of_getElem? (i := 18) rfl)) rfl (lv_at hl4 2 rfl) ?_
      refine tz_rowV (As := [.long v]) (st := []) (b := wr) (C := RX9) (Ts := gT) hx hb hml hown h2 (fun _ h => h) (hX9_putNumber l D cA ro sz H0 wr v (O) hwr (by omega) (by omega) (by have hlO := hlen; have hnl := ndN_le 13 v.toInt; omega)) ⟨rfl, rfl⟩ ⟨by decide, by decide⟩ ⟨by decide, by decide⟩ (tb_6 54 rfl rfl) (tb_1 6 rfl rfl) (tb_6 51 rfl rfl) (tb_6 52 rfl rfl) (tb_6 53 rfl rfl) (show yX9_putNumber.cls ≠ "java/lang/invoke/MethodHandle" ∧ yX9_putNumber.cls ≠ "java/lang/invoke/VarHandle" ∧ (parseMethodDescriptor yX9_putNumber.desc).map (fun d => d.parameters.length) = some 1 by decide +kernel) zs_blind (zs_ob hh hwr (show RTg[8]? = some (0, 8, 0, fsX9) from rfl) (zCX9 hKn.1)) (fun U hU hW => ⟨rfl, by rw [hU]; exact hh.l0, zKb s U hW.alike hKn, by rw [hU]; exact hJ⟩) hh.2.2.1 hl4.1 (Nat.le_of_ble_eq_true rfl) (eX9_putSeconds (33, .invokevirtual 60, 3) (List.mem_of_getElem? (i := 19) rfl)) (fun r8 s8 t8 lo8 g8 f8 l8 => ?_)
      obtain ⟨q8, z8, c8, j8⟩ := f8
      cases q8
      rw [g8] at c8
      have hh8 : zh_ok D cA RTg ro sz H0 t8.heap lo8 := ⟨z8.1, z8.2.1, l8, z8.2.2.2⟩
      have kp8 := kp0.trans (c8.mono (ms' := [(8, 1), (16, 0)]) (by decide))
      refine W.eq (g2 := F0 m 36 ls4 []) rfl ?_
      refine lv_iload_n hx hb (eX9_putSeconds (36, .iload_n 3, 1) (List.mem_of_getElem? (i := 20) rfl)) rfl (lv_at hl4 3 rfl) ?_
      refine ff_if_le hx hb (eX9_putSeconds (37, .ifCond .le 44, 3) (List.mem_of_getElem? (i := 21) rfl)) (tgt := 81) rfl (fun c9 => ?_) (fun c9 => ?_)
      · skip
        refine lv_aload_n hx hb (eX9_putSeconds (81, .aload_n 0, 1) (List.mem_of_getElem? (i := 43) rfl)) rfl (lv_at hl4 1 rfl) ?_
        refine ff_bipush hx hb (eX9_putSeconds (82, .bipush 83, 2) (List.mem_of_getElem? (i := 44) rfl)) (by decide) (by decide) (fun v10 e10 => ?_)
        refine tz_rowV (As := [.int v10]) (st := []) (b := wr) (C := RX9) (Ts := gT) hx hb hml hown h2 (fun _ h => h) (hX9_put l D cA ro sz H0 wr v10 (O ++ dgL (ndN 13 v.toInt) v.toInt) hwr (by omega) (by omega) (by have hlO := hlen; have hnl := ndN_le 13 v.toInt; have hz9 := zdN_le 9 na.toInt; have hp9 := ptL_len na.toInt (zdN 9 na.toInt); simp only [List.length_append, dgL_len]; omega)) ⟨rfl, rfl⟩ ⟨by decide, by decide⟩ ⟨by decide, by decide⟩ (tb_5 227 rfl rfl) (tb_1 6 rfl rfl) (tb_5 224 rfl rfl) (tb_5 225 rfl rfl) (tb_5 226 rfl rfl) (show yX9_put.cls ≠ "java/lang/invoke/MethodHandle" ∧ yX9_put.cls ≠ "java/lang/invoke/VarHandle" ∧ (parseMethodDescriptor yX9_put.desc).map (fun d => d.parameters.length) = some 1 by decide +kernel) zs_blind (zs_ob hh8 hwr (show RTg[8]? = some (0, 8, 0, fsX9) from rfl) (zCX9 hKn.1)) (fun U hU hW => ⟨rfl, by rw [hU]; exact hh8.l0, zKb s U hW.alike hKn, by rw [hU]; exact j8⟩) hh8.2.2.1 hl4.1 (Nat.le_of_ble_eq_true rfl) (eX9_putSeconds (84, .invokevirtual 19, 3) (List.mem_of_getElem? (i := 45) rfl)) (fun r11 s11 t11 lo11 g11 f11 l11 => ?_)
        obtain ⟨q11, z11, c11, j11⟩ := f11
        cases q11
        rw [g11] at c11
        have hh11 : zh_ok D cA RTg ro sz H0 t11.heap lo11 := ⟨z11.1, z11.2.1, l11, z11.2.2.2⟩
        have kp11 := kp8.trans (c11.mono (ms' := [(8, 1), (16, 0)]) (by decide))
        refine W.eq (g2 := F0 m 87 ls4 []) rfl ?_
        have hJ9 : jW D cA ro t11.heap wr (O ++ (if 0 < v.toInt ∨ 0 < na.toInt ∨ O.length = 2 then scL v.toInt na.toInt else [])) := by
          have h9 := j11
          rw [show v10.toInt = 83 by omega] at h9
          rw [if_pos (by omega)]
          unfold scL
          rw [if_neg (by omega)]
          rw [List.append_nil]
          simpa only [List.append_assoc] using h9
        exact W.vret hx hb hr (fun t ht hW => ⟨rfl, by rw [ht]; exact hh11.l0, by rw [ht]; exact kp11, by rw [ht]; exact hJ9⟩) hh11.2.2.1 (eX9_putSeconds (87, .return_, 1) (List.mem_of_getElem? (i := 46) rfl))
      · skip
        refine ff_bipush hx hb (eX9_putSeconds (40, .bipush 9, 2) (List.mem_of_getElem? (i := 22) rfl)) (by decide) (by decide) (fun v12 e12 => ?_)
        refine lv_istore hx hb (eX9_putSeconds (42, .istore 5, 2) (List.mem_of_getElem? (i := 23) rfl)) hl4 (by decide) rfl (fun ls13 hl13 => ?_)
        refine lv_iload_n hx hb (eX9_putSeconds (44, .iload_n 3, 1) (List.mem_of_getElem? (i := 24) rfl)) rfl (lv_at hl13 4 rfl) ?_
        refine lv_istore hx hb (eX9_putSeconds (45, .istore 6, 2) (List.mem_of_getElem? (i := 25) rfl)) hl13 (by decide) rfl (fun ls14 hl14 => ?_)
        have loop : ∀ (d0 : Nat) (rv dv : Int32) (ls : Array Slot) (lo0 : List Loc), zh_ok D cA RTg ro sz H0 t8.heap lo0 → dv.toInt = (d0 : Int) + 1 → d0 ≤ 8 → 0 < rv.toInt → rv.toInt < 10 ^ (d0 + 1) → zdN 9 na.toInt = zdN (d0 + 1) rv.toInt → lv_has ls 7 [(6, .int rv), (5, .int dv), (4, .int v3), (0, .ref wr), (1, .long v), (3, .int na)] → W p l e (headSpec (gW yX9_putSeconds cX9_putSeconds 7 none) { frames := 2, cells := 0, slots := 0, locals := 51 }).room s m ([.ref wr, .long v, .int na] : List Value).toArray below meth c t8.heap lo0 0 0 (MQ below (zs_app D cA ro sz H0 wr (O ++ (if 0 < v.toInt ∨ 0 < na.toInt ∨ O.length = 2 then scL v.toInt na.toInt else []))) ([.ref wr, .long v, .int na] : List Value).toArray s 0 0 (zy_fr sz)) (F0 m 47 ls []) := by
          intro d0
          induction d0 with
          | zero =>
            intro rv dv ls lo0 hh0 hdv hd8 hr0 hrp hzd hl
            rw [show (10 : Int) ^ (0 + 1) = 10 from rfl] at hrp
            refine lv_iload hx hb (eX9_putSeconds (47, .iload 6, 2) (List.mem_of_getElem? (i := 26) rfl)) (lv_at hl 0 rfl) ?_
            refine ff_bipush hx hb (eX9_putSeconds (49, .bipush 10, 2) (List.mem_of_getElem? (i := 27) rfl)) (by decide) (by decide) (fun v15 e15 => ?_)
            refine ff_iremP hx hb (eX9_putSeconds (51, .irem, 1) (List.mem_of_getElem? (i := 28) rfl)) (by omega) (e15) (by decide) (fun v16 e16 => ?_)
            refine ff_if_ne hx hb (eX9_putSeconds (52, .ifCond .ne 22, 3) (List.mem_of_getElem? (i := 29) rfl)) (tgt := 74) rfl (fun c17 => ?_) (fun c17 => (by exfalso; omega))
            have hzf := hzd.trans (zd_end (by omega))
            refine lv_aload_n hx hb (eX9_putSeconds (74, .aload_n 0, 1) (List.mem_of_getElem? (i := 39) rfl)) rfl (lv_at hl 3 rfl) ?_
            refine lv_iload_n hx hb (eX9_putSeconds (75, .iload_n 3, 1) (List.mem_of_getElem? (i := 40) rfl)) rfl (lv_at hl 5 rfl) ?_
            refine lv_iload hx hb (eX9_putSeconds (76, .iload 5, 2) (List.mem_of_getElem? (i := 41) rfl)) (lv_at hl 1 rfl) ?_
            refine tz_rowV (As := [.int na, .int dv]) (st := []) (b := wr) (C := RX9) (Ts := gT) hx hb hml hown h2 (fun _ h => h) (hX9_putPart l D cA ro sz H0 wr na dv (zdN 9 na.toInt) (O ++ dgL (ndN 13 v.toInt) v.toInt) hwr (by omega) (by omega) (by omega) (by have hlO := hlen; have hnl := ndN_le 13 v.toInt; have hz9 := zdN_le 9 na.toInt; simp only [List.length_append, dgL_len]; omega)) ⟨rfl, rfl⟩ ⟨by decide, by decide⟩ ⟨by decide, by decide⟩ (tb_6 30 rfl rfl) (tb_1 6 rfl rfl) (tb_6 61 rfl rfl) (tb_6 28 rfl rfl) (tb_6 29 rfl rfl) (show yX9_putPart.cls ≠ "java/lang/invoke/MethodHandle" ∧ yX9_putPart.cls ≠ "java/lang/invoke/VarHandle" ∧ (parseMethodDescriptor yX9_putPart.desc).map (fun d => d.parameters.length) = some 2 by decide +kernel) zs_blind (zs_ob hh0 hwr (show RTg[8]? = some (0, 8, 0, fsX9) from rfl) (zCX9 hKn.1)) (fun U hU hW => ⟨rfl, by rw [hU]; exact hh0.l0, zKb s U hW.alike hKn, by rw [hU]; exact j8⟩) hh0.2.2.1 hl.1 (Nat.le_of_ble_eq_true rfl) (eX9_putSeconds (78, .invokevirtual 64, 3) (List.mem_of_getElem? (i := 42) rfl)) (fun r18 s18 t18 lo18 g18 f18 l18 => ?_)
            obtain ⟨q18, z18, c18, j18⟩ := f18
            cases q18
            rw [g18] at c18
            have hh18 : zh_ok D cA RTg ro sz H0 t18.heap lo18 := ⟨z18.1, z18.2.1, l18, z18.2.2.2⟩
            have kp18 := kp8.trans (c18.mono (ms' := [(8, 1), (16, 0)]) (by decide))
            refine W.eq (g2 := F0 m 81 ls []) rfl ?_
            refine lv_aload_n hx hb (eX9_putSeconds (81, .aload_n 0, 1) (List.mem_of_getElem? (i := 43) rfl)) rfl (lv_at hl 3 rfl) ?_
            refine ff_bipush hx hb (eX9_putSeconds (82, .bipush 83, 2) (List.mem_of_getElem? (i := 44) rfl)) (by decide) (by decide) (fun v19 e19 => ?_)
            refine tz_rowV (As := [.int v19]) (st := []) (b := wr) (C := RX9) (Ts := gT) hx hb hml hown h2 (fun _ h => h) (hX9_put l D cA ro sz H0 wr v19 (O ++ dgL (ndN 13 v.toInt) v.toInt ++ ptL na.toInt (zdN 9 na.toInt)) hwr (by omega) (by omega) (by have hlO := hlen; have hnl := ndN_le 13 v.toInt; have hz9 := zdN_le 9 na.toInt; have hp9 := ptL_len na.toInt (zdN 9 na.toInt); simp only [List.length_append, dgL_len]; omega)) ⟨rfl, rfl⟩ ⟨by decide, by decide⟩ ⟨by decide, by decide⟩ (tb_5 227 rfl rfl) (tb_1 6 rfl rfl) (tb_5 224 rfl rfl) (tb_5 225 rfl rfl) (tb_5 226 rfl rfl) (show yX9_put.cls ≠ "java/lang/invoke/MethodHandle" ∧ yX9_put.cls ≠ "java/lang/invoke/VarHandle" ∧ (parseMethodDescriptor yX9_put.desc).map (fun d => d.parameters.length) = some 1 by decide +kernel) zs_blind (zs_ob hh18 hwr (show RTg[8]? = some (0, 8, 0, fsX9) from rfl) (zCX9 hKn.1)) (fun U hU hW => ⟨rfl, by rw [hU]; exact hh18.l0, zKb s U hW.alike hKn, by rw [hU]; exact j18⟩) hh18.2.2.1 hl.1 (Nat.le_of_ble_eq_true rfl) (eX9_putSeconds (84, .invokevirtual 19, 3) (List.mem_of_getElem? (i := 45) rfl)) (fun r20 s20 t20 lo20 g20 f20 l20 => ?_)
            obtain ⟨q20, z20, c20, j20⟩ := f20
            cases q20
            rw [g20] at c20
            have hh20 : zh_ok D cA RTg ro sz H0 t20.heap lo20 := ⟨z20.1, z20.2.1, l20, z20.2.2.2⟩
            have kp20 := kp18.trans (c20.mono (ms' := [(8, 1), (16, 0)]) (by decide))
            refine W.eq (g2 := F0 m 87 ls []) rfl ?_
            have hJ9 : jW D cA ro t20.heap wr (O ++ (if 0 < v.toInt ∨ 0 < na.toInt ∨ O.length = 2 then scL v.toInt na.toInt else [])) := by
              have h9 := j20
              rw [show v19.toInt = 83 by omega] at h9
              rw [if_pos (by omega)]
              unfold scL
              rw [if_pos (by omega)]
              simpa only [List.append_assoc] using h9
            exact W.vret hx hb hr (fun t ht hW => ⟨rfl, by rw [ht]; exact hh20.l0, by rw [ht]; exact kp20, by rw [ht]; exact hJ9⟩) hh20.2.2.1 (eX9_putSeconds (87, .return_, 1) (List.mem_of_getElem? (i := 46) rfl))
          | succ d0 ih =>
            intro rv dv ls lo0 hh0 hdv hd8 hr0 hrp hzd hl
            rw [Int.pow_succ] at hrp
            refine lv_iload hx hb (eX9_putSeconds (47, .iload 6, 2) (List.mem_of_getElem? (i := 26) rfl)) (lv_at hl 0 rfl) ?_
            refine ff_bipush hx hb (eX9_putSeconds (49, .bipush 10, 2) (List.mem_of_getElem? (i := 27) rfl)) (by decide) (by decide) (fun v21 e21 => ?_)
            refine ff_iremP hx hb (eX9_putSeconds (51, .irem, 1) (List.mem_of_getElem? (i := 28) rfl)) (by omega) (e21) (by decide) (fun v22 e22 => ?_)
            refine ff_if_ne hx hb (eX9_putSeconds (52, .ifCond .ne 22, 3) (List.mem_of_getElem? (i := 29) rfl)) (tgt := 74) rfl (fun c23 => ?_) (fun c23 => ?_)
            · skip
              have hzf := hzd.trans (zd_end (by omega))
              refine lv_aload_n hx hb (eX9_putSeconds (74, .aload_n 0, 1) (List.mem_of_getElem? (i := 39) rfl)) rfl (lv_at hl 3 rfl) ?_
              refine lv_iload_n hx hb (eX9_putSeconds (75, .iload_n 3, 1) (List.mem_of_getElem? (i := 40) rfl)) rfl (lv_at hl 5 rfl) ?_
              refine lv_iload hx hb (eX9_putSeconds (76, .iload 5, 2) (List.mem_of_getElem? (i := 41) rfl)) (lv_at hl 1 rfl) ?_
              refine tz_rowV (As := [.int na, .int dv]) (st := []) (b := wr) (C := RX9) (Ts := gT) hx hb hml hown h2 (fun _ h => h) (hX9_putPart l D cA ro sz H0 wr na dv (zdN 9 na.toInt) (O ++ dgL (ndN 13 v.toInt) v.toInt) hwr (by omega) (by omega) (by omega) (by have hlO := hlen; have hnl := ndN_le 13 v.toInt; have hz9 := zdN_le 9 na.toInt; simp only [List.length_append, dgL_len]; omega)) ⟨rfl, rfl⟩ ⟨by decide, by decide⟩ ⟨by decide, by decide⟩ (tb_6 30 rfl rfl) (tb_1 6 rfl rfl) (tb_6 61 rfl rfl) (tb_6 28 rfl rfl) (tb_6 29 rfl rfl) (show yX9_putPart.cls ≠ "java/lang/invoke/MethodHandle" ∧ yX9_putPart.cls ≠ "java/lang/invoke/VarHandle" ∧ (parseMethodDescriptor yX9_putPart.desc).map (fun d => d.parameters.length) = some 2 by decide +kernel) zs_blind (zs_ob hh0 hwr (show RTg[8]? = some (0, 8, 0, fsX9) from rfl) (zCX9 hKn.1)) (fun U hU hW => ⟨rfl, by rw [hU]; exact hh0.l0, zKb s U hW.alike hKn, by rw [hU]; exact j8⟩) hh0.2.2.1 hl.1 (Nat.le_of_ble_eq_true rfl) (eX9_putSeconds (78, .invokevirtual 64, 3) (List.mem_of_getElem? (i := 42) rfl)) (fun r24 s24 t24 lo24 g24 f24 l24 => ?_)
              obtain ⟨q24, z24, c24, j24⟩ := f24
              cases q24
              rw [g24] at c24
              have hh24 : zh_ok D cA RTg ro sz H0 t24.heap lo24 := ⟨z24.1, z24.2.1, l24, z24.2.2.2⟩
              have kp24 := kp8.trans (c24.mono (ms' := [(8, 1), (16, 0)]) (by decide))
              refine W.eq (g2 := F0 m 81 ls []) rfl ?_
              refine lv_aload_n hx hb (eX9_putSeconds (81, .aload_n 0, 1) (List.mem_of_getElem? (i := 43) rfl)) rfl (lv_at hl 3 rfl) ?_
              refine ff_bipush hx hb (eX9_putSeconds (82, .bipush 83, 2) (List.mem_of_getElem? (i := 44) rfl)) (by decide) (by decide) (fun v25 e25 => ?_)
              refine tz_rowV (As := [.int v25]) (st := []) (b := wr) (C := RX9) (Ts := gT) hx hb hml hown h2 (fun _ h => h) (hX9_put l D cA ro sz H0 wr v25 (O ++ dgL (ndN 13 v.toInt) v.toInt ++ ptL na.toInt (zdN 9 na.toInt)) hwr (by omega) (by omega) (by have hlO := hlen; have hnl := ndN_le 13 v.toInt; have hz9 := zdN_le 9 na.toInt; have hp9 := ptL_len na.toInt (zdN 9 na.toInt); simp only [List.length_append, dgL_len]; omega)) ⟨rfl, rfl⟩ ⟨by decide, by decide⟩ ⟨by decide, by decide⟩ (tb_5 227 rfl rfl) (tb_1 6 rfl rfl) (tb_5 224 rfl rfl) (tb_5 225 rfl rfl) (tb_5 226 rfl rfl) (show yX9_put.cls ≠ "java/lang/invoke/MethodHandle" ∧ yX9_put.cls ≠ "java/lang/invoke/VarHandle" ∧ (parseMethodDescriptor yX9_put.desc).map (fun d => d.parameters.length) = some 1 by decide +kernel) zs_blind (zs_ob hh24 hwr (show RTg[8]? = some (0, 8, 0, fsX9) from rfl) (zCX9 hKn.1)) (fun U hU hW => ⟨rfl, by rw [hU]; exact hh24.l0, zKb s U hW.alike hKn, by rw [hU]; exact j24⟩) hh24.2.2.1 hl.1 (Nat.le_of_ble_eq_true rfl) (eX9_putSeconds (84, .invokevirtual 19, 3) (List.mem_of_getElem? (i := 45) rfl)) (fun r26 s26 t26 lo26 g26 f26 l26 => ?_)
              obtain ⟨q26, z26, c26, j26⟩ := f26
              cases q26
              rw [g26] at c26
              have hh26 : zh_ok D cA RTg ro sz H0 t26.heap lo26 := ⟨z26.1, z26.2.1, l26, z26.2.2.2⟩
              have kp26 := kp24.trans (c26.mono (ms' := [(8, 1), (16, 0)]) (by decide))
              refine W.eq (g2 := F0 m 87 ls []) rfl ?_
              have hJ9 : jW D cA ro t26.heap wr (O ++ (if 0 < v.toInt ∨ 0 < na.toInt ∨ O.length = 2 then scL v.toInt na.toInt else [])) := by
                have h9 := j26
                rw [show v25.toInt = 83 by omega] at h9
                rw [if_pos (by omega)]
                unfold scL
                rw [if_pos (by omega)]
                simpa only [List.append_assoc] using h9
              exact W.vret hx hb hr (fun t ht hW => ⟨rfl, by rw [ht]; exact hh26.l0, by rw [ht]; exact kp26, by rw [ht]; exact hJ9⟩) hh26.2.2.1 (eX9_putSeconds (87, .return_, 1) (List.mem_of_getElem? (i := 46) rfl))
            · skip
              refine lv_iload hx hb (eX9_putSeconds (55, .iload 5, 2) (List.mem_of_getElem? (i := 30) rfl)) (lv_at hl 1 rfl) ?_
              refine ff_iconst hx hb (eX9_putSeconds (57, .iconst 1, 1) (List.mem_of_getElem? (i := 31) rfl)) (by decide) (by decide) (fun v27 e27 => ?_)
              refine ff_icmp_le hx hb (eX9_putSeconds (58, .if_icmp .le 16, 3) (List.mem_of_getElem? (i := 32) rfl)) (tgt := 74) rfl (fun c28 => (by exfalso; omega)) (fun c28 => ?_)
              refine ff_iinc (k := 1) hx hb (eX9_putSeconds (61, .iinc 5 (-1), 3) (List.mem_of_getElem? (i := 33) rfl)) hl rfl (by decide) (by decide) (by decide) (by omega) (by omega) (fun v29 e29 ls29 hl29 => ?_)
              refine lv_iload hx hb (eX9_putSeconds (64, .iload 6, 2) (List.mem_of_getElem? (i := 34) rfl)) (lv_at hl29 1 rfl) ?_
              refine ff_bipush hx hb (eX9_putSeconds (66, .bipush 10, 2) (List.mem_of_getElem? (i := 35) rfl)) (by decide) (by decide) (fun v30 e30 => ?_)
              refine ff_idivP hx hb (eX9_putSeconds (68, .idiv, 1) (List.mem_of_getElem? (i := 36) rfl)) (by omega) (e30) (by decide) (fun v31 e31 => ?_)
              refine lv_istore hx hb (eX9_putSeconds (69, .istore 6, 2) (List.mem_of_getElem? (i := 37) rfl)) hl29 (by decide) rfl (fun ls32 hl32 => ?_)
              refine lv_goto hx hb (eX9_putSeconds (71, .goto (-24), 3) (List.mem_of_getElem? (i := 38) rfl)) (tgt := 47) rfl ?_
              exact ih v31 v29 ls32 _ hh0 (by omega) (by omega) (by omega) (by omega) (by rw [hzd, zd_go (by omega), show v31.toInt = rv.toInt / 10 by omega]) (lv_sub hl32 [0, 1, 2, 3, 4, 5] rfl)
        exact loop 8 na v12 ls14 _ hh8 (by omega) (by omega) (by omega) (by show _ < (1000000000 : Int); omega) (by rw [show na.toInt = na.toInt by omega]) (lv_sub hl14 [0, 1, 2, 3, 4, 5] rfl)
    · skip
      refine lv_iload_n hx hb (eX9_putSeconds (21, .iload_n 3, 1) (List.mem_of_getElem? (i := 12) rfl)) rfl (lv_at hl4 3 rfl) ?_
      refine ff_if_ne hx hb (eX9_putSeconds (22, .ifCond .ne 9, 3) (List.mem_of_getElem? (i := 13) rfl)) (tgt := 31) rfl (fun c33 => ?_) (fun c33 => ?_)
      · skip
        refine lv_aload_n hx hb (eX9_putSeconds (31, .aload_n 0, 1) (List.mem_of_getElem? (i := 17) rfl)) rfl (lv_at hl4 1 rfl) ?_
        refine lv_lload_n hx hb (eX9_putSeconds (32, .lload_n 1, 1) (List.mem_of_getElem? (i := 18) rfl)) rfl (lv_at hl4 2 rfl) ?_
        refine tz_rowV (As := [.long v]) (st := []) (b := wr) (C := RX9) (Ts := gT) hx hb hml hown h2 (fun _ h => h) (hX9_putNumber l D cA ro sz H0 wr v (O) hwr (by omega) (by omega) (by have hlO := hlen; have hnl := ndN_le 13 v.toInt; omega)) ⟨rfl, rfl⟩ ⟨by decide, by decide⟩ ⟨by decide, by decide⟩ (tb_6 54 rfl rfl) (tb_1 6 rfl rfl) (tb_6 51 rfl rfl) (tb_6 52 rfl rfl) (tb_6 53 rfl rfl) (show yX9_putNumber.cls ≠ "java/lang/invoke/MethodHandle" ∧ yX9_putNumber.cls ≠ "java/lang/invoke/VarHandle" ∧ (parseMethodDescriptor yX9_putNumber.desc).map (fun d => d.parameters.length) = some 1 by decide +kernel) zs_blind (zs_ob hh hwr (show RTg[8]? = some (0, 8, 0, fsX9) from rfl) (zCX9 hKn.1)) (fun U hU hW => ⟨rfl, by rw [hU]; exact hh.l0, zKb s U hW.alike hKn, by rw [hU]; exact hJ⟩) hh.2.2.1 hl4.1 (Nat.le_of_ble_eq_true rfl) (eX9_putSeconds (33, .invokevirtual 60, 3) (List.mem_of_getElem? (i := 19) rfl)) (fun r34 s34 t34 lo34 g34 f34 l34 => ?_)
        obtain ⟨q34, z34, c34, j34⟩ := f34
        cases q34
        rw [g34] at c34
        have hh34 : zh_ok D cA RTg ro sz H0 t34.heap lo34 := ⟨z34.1, z34.2.1, l34, z34.2.2.2⟩
        have kp34 := kp0.trans (c34.mono (ms' := [(8, 1), (16, 0)]) (by decide))
        refine W.eq (g2 := F0 m 36 ls4 []) rfl ?_
        refine lv_iload_n hx hb (eX9_putSeconds (36, .iload_n 3, 1) (List.mem_of_getElem? (i := 20) rfl)) rfl (lv_at hl4 3 rfl) ?_
        refine ff_if_le hx hb (eX9_putSeconds (37, .ifCond .le 44, 3) (List.mem_of_getElem? (i := 21) rfl)) (tgt := 81) rfl (fun c35 => ?_) (fun c35 => ?_)
        · skip
          refine lv_aload_n hx hb (eX9_putSeconds (81, .aload_n 0, 1) (List.mem_of_getElem? (i := 43) rfl)) rfl (lv_at hl4 1 rfl) ?_
          refine ff_bipush hx hb (eX9_putSeconds (82, .bipush 83, 2) (List.mem_of_getElem? (i := 44) rfl)) (by decide) (by decide) (fun v36 e36 => ?_)
          refine tz_rowV (As := [.int v36]) (st := []) (b := wr) (C := RX9) (Ts := gT) hx hb hml hown h2 (fun _ h => h) (hX9_put l D cA ro sz H0 wr v36 (O ++ dgL (ndN 13 v.toInt) v.toInt) hwr (by omega) (by omega) (by have hlO := hlen; have hnl := ndN_le 13 v.toInt; have hz9 := zdN_le 9 na.toInt; have hp9 := ptL_len na.toInt (zdN 9 na.toInt); simp only [List.length_append, dgL_len]; omega)) ⟨rfl, rfl⟩ ⟨by decide, by decide⟩ ⟨by decide, by decide⟩ (tb_5 227 rfl rfl) (tb_1 6 rfl rfl) (tb_5 224 rfl rfl) (tb_5 225 rfl rfl) (tb_5 226 rfl rfl) (show yX9_put.cls ≠ "java/lang/invoke/MethodHandle" ∧ yX9_put.cls ≠ "java/lang/invoke/VarHandle" ∧ (parseMethodDescriptor yX9_put.desc).map (fun d => d.parameters.length) = some 1 by decide +kernel) zs_blind (zs_ob hh34 hwr (show RTg[8]? = some (0, 8, 0, fsX9) from rfl) (zCX9 hKn.1)) (fun U hU hW => ⟨rfl, by rw [hU]; exact hh34.l0, zKb s U hW.alike hKn, by rw [hU]; exact j34⟩) hh34.2.2.1 hl4.1 (Nat.le_of_ble_eq_true rfl) (eX9_putSeconds (84, .invokevirtual 19, 3) (List.mem_of_getElem? (i := 45) rfl)) (fun r37 s37 t37 lo37 g37 f37 l37 => ?_)
          obtain ⟨q37, z37, c37, j37⟩ := f37
          cases q37
          rw [g37] at c37
          have hh37 : zh_ok D cA RTg ro sz H0 t37.heap lo37 := ⟨z37.1, z37.2.1, l37, z37.2.2.2⟩
          have kp37 := kp34.trans (c37.mono (ms' := [(8, 1), (16, 0)]) (by decide))
          refine W.eq (g2 := F0 m 87 ls4 []) rfl ?_
          have hJ9 : jW D cA ro t37.heap wr (O ++ (if 0 < v.toInt ∨ 0 < na.toInt ∨ O.length = 2 then scL v.toInt na.toInt else [])) := by
            have h9 := j37
            rw [show v36.toInt = 83 by omega] at h9
            rw [if_pos (by omega)]
            unfold scL
            rw [if_neg (by omega)]
            rw [List.append_nil]
            simpa only [List.append_assoc] using h9
          exact W.vret hx hb hr (fun t ht hW => ⟨rfl, by rw [ht]; exact hh37.l0, by rw [ht]; exact kp37, by rw [ht]; exact hJ9⟩) hh37.2.2.1 (eX9_putSeconds (87, .return_, 1) (List.mem_of_getElem? (i := 46) rfl))
        · skip
          refine ff_bipush hx hb (eX9_putSeconds (40, .bipush 9, 2) (List.mem_of_getElem? (i := 22) rfl)) (by decide) (by decide) (fun v38 e38 => ?_)
          refine lv_istore hx hb (eX9_putSeconds (42, .istore 5, 2) (List.mem_of_getElem? (i := 23) rfl)) hl4 (by decide) rfl (fun ls39 hl39 => ?_)
          refine lv_iload_n hx hb (eX9_putSeconds (44, .iload_n 3, 1) (List.mem_of_getElem? (i := 24) rfl)) rfl (lv_at hl39 4 rfl) ?_
          refine lv_istore hx hb (eX9_putSeconds (45, .istore 6, 2) (List.mem_of_getElem? (i := 25) rfl)) hl39 (by decide) rfl (fun ls40 hl40 => ?_)
          have loop : ∀ (d0 : Nat) (rv dv : Int32) (ls : Array Slot) (lo0 : List Loc), zh_ok D cA RTg ro sz H0 t34.heap lo0 → dv.toInt = (d0 : Int) + 1 → d0 ≤ 8 → 0 < rv.toInt → rv.toInt < 10 ^ (d0 + 1) → zdN 9 na.toInt = zdN (d0 + 1) rv.toInt → lv_has ls 7 [(6, .int rv), (5, .int dv), (4, .int v3), (0, .ref wr), (1, .long v), (3, .int na)] → W p l e (headSpec (gW yX9_putSeconds cX9_putSeconds 7 none) { frames := 2, cells := 0, slots := 0, locals := 51 }).room s m ([.ref wr, .long v, .int na] : List Value).toArray below meth c t34.heap lo0 0 0 (MQ below (zs_app D cA ro sz H0 wr (O ++ (if 0 < v.toInt ∨ 0 < na.toInt ∨ O.length = 2 then scL v.toInt na.toInt else []))) ([.ref wr, .long v, .int na] : List Value).toArray s 0 0 (zy_fr sz)) (F0 m 47 ls []) := by
            intro d0
            induction d0 with
            | zero =>
              intro rv dv ls lo0 hh0 hdv hd8 hr0 hrp hzd hl
              rw [show (10 : Int) ^ (0 + 1) = 10 from rfl] at hrp
              refine lv_iload hx hb (eX9_putSeconds (47, .iload 6, 2) (List.mem_of_getElem? (i := 26) rfl)) (lv_at hl 0 rfl) ?_
              refine ff_bipush hx hb (eX9_putSeconds (49, .bipush 10, 2) (List.mem_of_getElem? (i := 27) rfl)) (by decide) (by decide) (fun v41 e41 => ?_)
              refine ff_iremP hx hb (eX9_putSeconds (51, .irem, 1) (List.mem_of_getElem? (i := 28) rfl)) (by omega) (e41) (by decide) (fun v42 e42 => ?_)
              refine ff_if_ne hx hb (eX9_putSeconds (52, .ifCond .ne 22, 3) (List.mem_of_getElem? (i := 29) rfl)) (tgt := 74) rfl (fun c43 => ?_) (fun c43 => (by exfalso; omega))
              have hzf := hzd.trans (zd_end (by omega))
              refine lv_aload_n hx hb (eX9_putSeconds (74, .aload_n 0, 1) (List.mem_of_getElem? (i := 39) rfl)) rfl (lv_at hl 3 rfl) ?_
              refine lv_iload_n hx hb (eX9_putSeconds (75, .iload_n 3, 1) (List.mem_of_getElem? (i := 40) rfl)) rfl (lv_at hl 5 rfl) ?_
              refine lv_iload hx hb (eX9_putSeconds (76, .iload 5, 2) (List.mem_of_getElem? (i := 41) rfl)) (lv_at hl 1 rfl) ?_
              refine tz_rowV (As := [.int na, .int dv]) (st := []) (b := wr) (C := RX9) (Ts := gT) hx hb hml hown h2 (fun _ h => h) (hX9_putPart l D cA ro sz H0 wr na dv (zdN 9 na.toInt) (O ++ dgL (ndN 13 v.toInt) v.toInt) hwr (by omega) (by omega) (by omega) (by have hlO := hlen; have hnl := ndN_le 13 v.toInt; have hz9 := zdN_le 9 na.toInt; simp only [List.length_append, dgL_len]; omega)) ⟨rfl, rfl⟩ ⟨by decide, by decide⟩ ⟨by decide, by decide⟩ (tb_6 30 rfl rfl) (tb_1 6 rfl rfl) (tb_6 61 rfl rfl) (tb_6 28 rfl rfl) (tb_6 29 rfl rfl) (show yX9_putPart.cls ≠ "java/lang/invoke/MethodHandle" ∧ yX9_putPart.cls ≠ "java/lang/invoke/VarHandle" ∧ (parseMethodDescriptor yX9_putPart.desc).map (fun d => d.parameters.length) = some 2 by decide +kernel) zs_blind (zs_ob hh0 hwr (show RTg[8]? = some (0, 8, 0, fsX9) from rfl) (zCX9 hKn.1)) (fun U hU hW => ⟨rfl, by rw [hU]; exact hh0.l0, zKb s U hW.alike hKn, by rw [hU]; exact j34⟩) hh0.2.2.1 hl.1 (Nat.le_of_ble_eq_true rfl) (eX9_putSeconds (78, .invokevirtual 64, 3) (List.mem_of_getElem? (i := 42) rfl)) (fun r44 s44 t44 lo44 g44 f44 l44 => ?_)
              obtain ⟨q44, z44, c44, j44⟩ := f44
              cases q44
              rw [g44] at c44
              have hh44 : zh_ok D cA RTg ro sz H0 t44.heap lo44 := ⟨z44.1, z44.2.1, l44, z44.2.2.2⟩
              have kp44 := kp34.trans (c44.mono (ms' := [(8, 1), (16, 0)]) (by decide))
              refine W.eq (g2 := F0 m 81 ls []) rfl ?_
              refine lv_aload_n hx hb (eX9_putSeconds (81, .aload_n 0, 1) (List.mem_of_getElem? (i := 43) rfl)) rfl (lv_at hl 3 rfl) ?_
              refine ff_bipush hx hb (eX9_putSeconds (82, .bipush 83, 2) (List.mem_of_getElem? (i := 44) rfl)) (by decide) (by decide) (fun v45 e45 => ?_)
              refine tz_rowV (As := [.int v45]) (st := []) (b := wr) (C := RX9) (Ts := gT) hx hb hml hown h2 (fun _ h => h) (hX9_put l D cA ro sz H0 wr v45 (O ++ dgL (ndN 13 v.toInt) v.toInt ++ ptL na.toInt (zdN 9 na.toInt)) hwr (by omega) (by omega) (by have hlO := hlen; have hnl := ndN_le 13 v.toInt; have hz9 := zdN_le 9 na.toInt; have hp9 := ptL_len na.toInt (zdN 9 na.toInt); simp only [List.length_append, dgL_len]; omega)) ⟨rfl, rfl⟩ ⟨by decide, by decide⟩ ⟨by decide, by decide⟩ (tb_5 227 rfl rfl) (tb_1 6 rfl rfl) (tb_5 224 rfl rfl) (tb_5 225 rfl rfl) (tb_5 226 rfl rfl) (show yX9_put.cls ≠ "java/lang/invoke/MethodHandle" ∧ yX9_put.cls ≠ "java/lang/invoke/VarHandle" ∧ (parseMethodDescriptor yX9_put.desc).map (fun d => d.parameters.length) = some 1 by decide +kernel) zs_blind (zs_ob hh44 hwr (show RTg[8]? = some (0, 8, 0, fsX9) from rfl) (zCX9 hKn.1)) (fun U hU hW => ⟨rfl, by rw [hU]; exact hh44.l0, zKb s U hW.alike hKn, by rw [hU]; exact j44⟩) hh44.2.2.1 hl.1 (Nat.le_of_ble_eq_true rfl) (eX9_putSeconds (84, .invokevirtual 19, 3) (List.mem_of_getElem? (i := 45) rfl)) (fun r46 s46 t46 lo46 g46 f46 l46 => ?_)
              obtain ⟨q46, z46, c46, j46⟩ := f46
              cases q46
              rw [g46] at c46
              have hh46 : zh_ok D cA RTg ro sz H0 t46.heap lo46 := ⟨z46.1, z46.2.1, l46, z46.2.2.2⟩
              have kp46 := kp44.trans (c46.mono (ms' := [(8, 1), (16, 0)]) (by decide))
              refine W.eq (g2 := F0 m 87 ls []) rfl ?_
              have hJ9 : jW D cA ro t46.heap wr (O ++ (if 0 < v.toInt ∨ 0 < na.toInt ∨ O.length = 2 then scL v.toInt na.toInt else [])) := by
                have h9 := j46
                rw [show v45.toInt = 83 by omega] at h9
                rw [if_pos (by omega)]
                unfold scL
                rw [if_pos (by omega)]
                simpa only [List.append_assoc] using h9
              exact W.vret hx hb hr (fun t ht hW => ⟨rfl, by rw [ht]; exact hh46.l0, by rw [ht]; exact kp46, by rw [ht]; exact hJ9⟩) hh46.2.2.1 (eX9_putSeconds (87, .return_, 1) (List.mem_of_getElem? (i := 46) rfl))
            | succ d0 ih =>
              intro rv dv ls lo0 hh0 hdv hd8 hr0 hrp hzd hl
              rw [Int.pow_succ] at hrp
              refine lv_iload hx hb (eX9_putSeconds (47, .iload 6, 2) (List.mem_of_getElem? (i := 26) rfl)) (lv_at hl 0 rfl) ?_
              refine ff_bipush hx hb (eX9_putSeconds (49, .bipush 10, 2) (List.mem_of_getElem? (i := 27) rfl)) (by decide) (by decide) (fun v47 e47 => ?_)
              refine ff_iremP hx hb (eX9_putSeconds (51, .irem, 1) (List.mem_of_getElem? (i := 28) rfl)) (by omega) (e47) (by decide) (fun v48 e48 => ?_)
              refine ff_if_ne hx hb (eX9_putSeconds (52, .ifCond .ne 22, 3) (List.mem_of_getElem? (i := 29) rfl)) (tgt := 74) rfl (fun c49 => ?_) (fun c49 => ?_)
              · skip
                have hzf := hzd.trans (zd_end (by omega))
                refine lv_aload_n hx hb (eX9_putSeconds (74, .aload_n 0, 1) (List.mem_of_getElem? (i := 39) rfl)) rfl (lv_at hl 3 rfl) ?_
                refine lv_iload_n hx hb (eX9_putSeconds (75, .iload_n 3, 1) (List.mem_of_getElem? (i := 40) rfl)) rfl (lv_at hl 5 rfl) ?_
                refine lv_iload hx hb (eX9_putSeconds (76, .iload 5, 2) (List.mem_of_getElem? (i := 41) rfl)) (lv_at hl 1 rfl) ?_
                refine tz_rowV (As := [.int na, .int dv]) (st := []) (b := wr) (C := RX9) (Ts := gT) hx hb hml hown h2 (fun _ h => h) (hX9_putPart l D cA ro sz H0 wr na dv (zdN 9 na.toInt) (O ++ dgL (ndN 13 v.toInt) v.toInt) hwr (by omega) (by omega) (by omega) (by have hlO := hlen; have hnl := ndN_le 13 v.toInt; have hz9 := zdN_le 9 na.toInt; simp only [List.length_append, dgL_len]; omega)) ⟨rfl, rfl⟩ ⟨by decide, by decide⟩ ⟨by decide, by decide⟩ (tb_6 30 rfl rfl) (tb_1 6 rfl rfl) (tb_6 61 rfl rfl) (tb_6 28 rfl rfl) (tb_6 29 rfl rfl) (show yX9_putPart.cls ≠ "java/lang/invoke/MethodHandle" ∧ yX9_putPart.cls ≠ "java/lang/invoke/VarHandle" ∧ (parseMethodDescriptor yX9_putPart.desc).map (fun d => d.parameters.length) = some 2 by decide +kernel) zs_blind (zs_ob hh0 hwr (show RTg[8]? = some (0, 8, 0, fsX9) from rfl) (zCX9 hKn.1)) (fun U hU hW => ⟨rfl, by rw [hU]; exact hh0.l0, zKb s U hW.alike hKn, by rw [hU]; exact j34⟩) hh0.2.2.1 hl.1 (Nat.le_of_ble_eq_true rfl) (eX9_putSeconds (78, .invokevirtual 64, 3) (List.mem_of_getElem? (i := 42) rfl)) (fun r50 s50 t50 lo50 g50 f50 l50 => ?_)
                obtain ⟨q50, z50, c50, j50⟩ := f50
                cases q50
                rw [g50] at c50
                have hh50 : zh_ok D cA RTg ro sz H0 t50.heap lo50 := ⟨z50.1, z50.2.1, l50, z50.2.2.2⟩
                have kp50 := kp34.trans (c50.mono (ms' := [(8, 1), (16, 0)]) (by decide))
                refine W.eq (g2 := F0 m 81 ls []) rfl ?_
                refine lv_aload_n hx hb (eX9_putSeconds (81, .aload_n 0, 1) (List.mem_of_getElem? (i := 43) rfl)) rfl (lv_at hl 3 rfl) ?_
                refine ff_bipush hx hb (eX9_putSeconds (82, .bipush 83, 2) (List.mem_of_getElem? (i := 44) rfl)) (by decide) (by decide) (fun v51 e51 => ?_)
                refine tz_rowV (As := [.int v51]) (st := []) (b := wr) (C := RX9) (Ts := gT) hx hb hml hown h2 (fun _ h => h) (hX9_put l D cA ro sz H0 wr v51 (O ++ dgL (ndN 13 v.toInt) v.toInt ++ ptL na.toInt (zdN 9 na.toInt)) hwr (by omega) (by omega) (by have hlO := hlen; have hnl := ndN_le 13 v.toInt; have hz9 := zdN_le 9 na.toInt; have hp9 := ptL_len na.toInt (zdN 9 na.toInt); simp only [List.length_append, dgL_len]; omega)) ⟨rfl, rfl⟩ ⟨by decide, by decide⟩ ⟨by decide, by decide⟩ (tb_5 227 rfl rfl) (tb_1 6 rfl rfl) (tb_5 224 rfl rfl) (tb_5 225 rfl rfl) (tb_5 226 rfl rfl) (show yX9_put.cls ≠ "java/lang/invoke/MethodHandle" ∧ yX9_put.cls ≠ "java/lang/invoke/VarHandle" ∧ (parseMethodDescriptor yX9_put.desc).map (fun d => d.parameters.length) = some 1 by decide +kernel) zs_blind (zs_ob hh50 hwr (show RTg[8]? = some (0, 8, 0, fsX9) from rfl) (zCX9 hKn.1)) (fun U hU hW => ⟨rfl, by rw [hU]; exact hh50.l0, zKb s U hW.alike hKn, by rw [hU]; exact j50⟩) hh50.2.2.1 hl.1 (Nat.le_of_ble_eq_true rfl) (eX9_putSeconds (84, .invokevirtual 19, 3) (List.mem_of_getElem? (i := 45) rfl)) (fun r52 s52 t52 lo52 g52 f52 l52 => ?_)
                obtain ⟨q52, z52, c52, j52⟩ := f52
                cases q52
                rw [g52] at c52
                have hh52 : zh_ok D cA RTg ro sz H0 t52.heap lo52 := ⟨z52.1, z52.2.1, l52, z52.2.2.2⟩
                have kp52 := kp50.trans (c52.mono (ms' := [(8, 1), (16, 0)]) (by decide))
                refine W.eq (g2 := F0 m 87 ls []) rfl ?_
                have hJ9 : jW D cA ro t52.heap wr (O ++ (if 0 < v.toInt ∨ 0 < na.toInt ∨ O.length = 2 then scL v.toInt na.toInt else [])) := by
                  have h9 := j52
                  rw [show v51.toInt = 83 by omega] at h9
                  rw [if_pos (by omega)]
                  unfold scL
                  rw [if_pos (by omega)]
                  simpa only [List.append_assoc] using h9
                exact W.vret hx hb hr (fun t ht hW => ⟨rfl, by rw [ht]; exact hh52.l0, by rw [ht]; exact kp52, by rw [ht]; exact hJ9⟩) hh52.2.2.1 (eX9_putSeconds (87, .return_, 1) (List.mem_of_getElem? (i := 46) rfl))
              · skip
                refine lv_iload hx hb (eX9_putSeconds (55, .iload 5, 2) (List.mem_of_getElem? (i := 30) rfl)) (lv_at hl 1 rfl) ?_
                refine ff_iconst hx hb (eX9_putSeconds (57, .iconst 1, 1) (List.mem_of_getElem? (i := 31) rfl)) (by decide) (by decide) (fun v53 e53 => ?_)
                refine ff_icmp_le hx hb (eX9_putSeconds (58, .if_icmp .le 16, 3) (List.mem_of_getElem? (i := 32) rfl)) (tgt := 74) rfl (fun c54 => (by exfalso; omega)) (fun c54 => ?_)
                refine ff_iinc (k := 1) hx hb (eX9_putSeconds (61, .iinc 5 (-1), 3) (List.mem_of_getElem? (i := 33) rfl)) hl rfl (by decide) (by decide) (by decide) (by omega) (by omega) (fun v55 e55 ls55 hl55 => ?_)
                refine lv_iload hx hb (eX9_putSeconds (64, .iload 6, 2) (List.mem_of_getElem? (i := 34) rfl)) (lv_at hl55 1 rfl) ?_
                refine ff_bipush hx hb (eX9_putSeconds (66, .bipush 10, 2) (List.mem_of_getElem? (i := 35) rfl)) (by decide) (by decide) (fun v56 e56 => ?_)
                refine ff_idivP hx hb (eX9_putSeconds (68, .idiv, 1) (List.mem_of_getElem? (i := 36) rfl)) (by omega) (e56) (by decide) (fun v57 e57 => ?_)
                refine lv_istore hx hb (eX9_putSeconds (69, .istore 6, 2) (List.mem_of_getElem? (i := 37) rfl)) hl55 (by decide) rfl (fun ls58 hl58 => ?_)
                refine lv_goto hx hb (eX9_putSeconds (71, .goto (-24), 3) (List.mem_of_getElem? (i := 38) rfl)) (tgt := 47) rfl ?_
                exact ih v57 v55 ls58 _ hh0 (by omega) (by omega) (by omega) (by omega) (by rw [hzd, zd_go (by omega), show v57.toInt = rv.toInt / 10 by omega]) (lv_sub hl58 [0, 1, 2, 3, 4, 5] rfl)
          exact loop 8 na v38 ls40 _ hh34 (by omega) (by omega) (by omega) (by show _ < (1000000000 : Int); omega) (by rw [show na.toInt = na.toInt by omega]) (lv_sub hl40 [0, 1, 2, 3, 4, 5] rfl)
      · skip
        refine lv_iload hx hb (eX9_putSeconds (25, .iload 4, 2) (List.mem_of_getElem? (i := 14) rfl)) (lv_at hl4 0 rfl) ?_
        refine ff_if_ne hx hb (eX9_putSeconds (27, .ifCond .ne 4, 3) (List.mem_of_getElem? (i := 15) rfl)) (tgt := 31) rfl (fun c59 => (by exfalso; omega)) (fun c59 => ?_)
        have hJ9 : jW D cA ro s.heap wr (O ++ (if 0 < v.toInt ∨ 0 < na.toInt ∨ O.length = 2 then scL v.toInt na.toInt else [])) := by
          have h9 := hJ
          rw [if_neg (by omega), List.append_nil]
          exact h9
        exact W.vret hx hb hr (fun t ht hW => ⟨rfl, by rw [ht]; exact hh.l0, by rw [ht]; exact kp0, by rw [ht]; exact hJ9⟩) hh.2.2.1 (eX9_putSeconds (30, .return_, 1) (List.mem_of_getElem? (i := 16) rfl))
  · skip
    refine ff_iconst hx hb (eX9_putSeconds (8, .iconst 1, 1) (List.mem_of_getElem? (i := 4) rfl)) (by decide) (by decide) (fun v60 e60 => ?_)
    refine lv_goto hx hb (eX9_putSeconds (9, .goto 4, 3) (List.mem_of_getElem? (i := 5) rfl)) (tgt := 13) rfl ?_
    refine lv_istore hx hb (eX9_putSeconds (13, .istore 4, 2) (List.mem_of_getElem? (i := 7) rfl)) hl (by decide) rfl (fun ls61 hl61 => ?_)
    refine lv_lload_n hx hb (eX9_putSeconds (15, .lload_n 1, 1) (List.mem_of_getElem? (i := 8) rfl)) rfl (lv_at hl61 2 rfl) ?_
    refine ff_lconst hx hb (eX9_putSeconds (16, .lconst 0, 1) (List.mem_of_getElem? (i := 9) rfl)) rfl (fun v62 e62 => ?_)
    refine ff_lcmp hx hb (eX9_putSeconds (17, .lcmp, 1) (List.mem_of_getElem? (i := 10) rfl)) (fun v63 e63 => ?_)
    refine ff_if_ne hx hb (eX9_putSeconds (18, .ifCond .ne 13, 3) (List.mem_of_getElem? (i := 11) rfl)) (tgt := 31) rfl (fun c64 => ?_) (fun c64 => ?_)
    · skip
      refine lv_aload_n hx hb (eX9_putSeconds (31, .aload_n 0, 1) (List.mem_of_getElem? (i := 17) rfl)) rfl (lv_at hl61 1 rfl) ?_
      refine lv_lload_n hx hb (eX9_putSeconds (32, .lload_n 1, 1) (List.mem_of_getElem? (i := 18) rfl)) rfl (lv_at hl61 2 rfl) ?_
      refine tz_rowV (As := [.long v]) (st := []) (b := wr) (C := RX9) (Ts := gT) hx hb hml hown h2 (fun _ h => h) (hX9_putNumber l D cA ro sz H0 wr v (O) hwr (by omega) (by omega) (by have hlO := hlen; have hnl := ndN_le 13 v.toInt; omega)) ⟨rfl, rfl⟩ ⟨by decide, by decide⟩ ⟨by decide, by decide⟩ (tb_6 54 rfl rfl) (tb_1 6 rfl rfl) (tb_6 51 rfl rfl) (tb_6 52 rfl rfl) (tb_6 53 rfl rfl) (show yX9_putNumber.cls ≠ "java/lang/invoke/MethodHandle" ∧ yX9_putNumber.cls ≠ "java/lang/invoke/VarHandle" ∧ (parseMethodDescriptor yX9_putNumber.desc).map (fun d => d.parameters.length) = some 1 by decide +kernel) zs_blind (zs_ob hh hwr (show RTg[8]? = some (0, 8, 0, fsX9) from rfl) (zCX9 hKn.1)) (fun U hU hW => ⟨rfl, by rw [hU]; exact hh.l0, zKb s U hW.alike hKn, by rw [hU]; exact hJ⟩) hh.2.2.1 hl61.1 (Nat.le_of_ble_eq_true rfl) (eX9_putSeconds (33, .invokevirtual 60, 3) (List.mem_of_getElem? (i := 19) rfl)) (fun r65 s65 t65 lo65 g65 f65 l65 => ?_)
      obtain ⟨q65, z65, c65, j65⟩ := f65
      cases q65
      rw [g65] at c65
      have hh65 : zh_ok D cA RTg ro sz H0 t65.heap lo65 := ⟨z65.1, z65.2.1, l65, z65.2.2.2⟩
      have kp65 := kp0.trans (c65.mono (ms' := [(8, 1), (16, 0)]) (by decide))
      refine W.eq (g2 := F0 m 36 ls61 []) rfl ?_
      refine lv_iload_n hx hb (eX9_putSeconds (36, .iload_n 3, 1) (List.mem_of_getElem? (i := 20) rfl)) rfl (lv_at hl61 3 rfl) ?_
      refine ff_if_le hx hb (eX9_putSeconds (37, .ifCond .le 44, 3) (List.mem_of_getElem? (i := 21) rfl)) (tgt := 81) rfl (fun c66 => ?_) (fun c66 => ?_)
      · skip
        refine lv_aload_n hx hb (eX9_putSeconds (81, .aload_n 0, 1) (List.mem_of_getElem? (i := 43) rfl)) rfl (lv_at hl61 1 rfl) ?_
        refine ff_bipush hx hb (eX9_putSeconds (82, .bipush 83, 2) (List.mem_of_getElem? (i := 44) rfl)) (by decide) (by decide) (fun v67 e67 => ?_)
        refine tz_rowV (As := [.int v67]) (st := []) (b := wr) (C := RX9) (Ts := gT) hx hb hml hown h2 (fun _ h => h) (hX9_put l D cA ro sz H0 wr v67 (O ++ dgL (ndN 13 v.toInt) v.toInt) hwr (by omega) (by omega) (by have hlO := hlen; have hnl := ndN_le 13 v.toInt; have hz9 := zdN_le 9 na.toInt; have hp9 := ptL_len na.toInt (zdN 9 na.toInt); simp only [List.length_append, dgL_len]; omega)) ⟨rfl, rfl⟩ ⟨by decide, by decide⟩ ⟨by decide, by decide⟩ (tb_5 227 rfl rfl) (tb_1 6 rfl rfl) (tb_5 224 rfl rfl) (tb_5 225 rfl rfl) (tb_5 226 rfl rfl) (show yX9_put.cls ≠ "java/lang/invoke/MethodHandle" ∧ yX9_put.cls ≠ "java/lang/invoke/VarHandle" ∧ (parseMethodDescriptor yX9_put.desc).map (fun d => d.parameters.length) = some 1 by decide +kernel) zs_blind (zs_ob hh65 hwr (show RTg[8]? = some (0, 8, 0, fsX9) from rfl) (zCX9 hKn.1)) (fun U hU hW => ⟨rfl, by rw [hU]; exact hh65.l0, zKb s U hW.alike hKn, by rw [hU]; exact j65⟩) hh65.2.2.1 hl61.1 (Nat.le_of_ble_eq_true rfl) (eX9_putSeconds (84, .invokevirtual 19, 3) (List.mem_of_getElem? (i := 45) rfl)) (fun r68 s68 t68 lo68 g68 f68 l68 => ?_)
        obtain ⟨q68, z68, c68, j68⟩ := f68
        cases q68
        rw [g68] at c68
        have hh68 : zh_ok D cA RTg ro sz H0 t68.heap lo68 := ⟨z68.1, z68.2.1, l68, z68.2.2.2⟩
        have kp68 := kp65.trans (c68.mono (ms' := [(8, 1), (16, 0)]) (by decide))
        refine W.eq (g2 := F0 m 87 ls61 []) rfl ?_
        have hJ9 : jW D cA ro t68.heap wr (O ++ (if 0 < v.toInt ∨ 0 < na.toInt ∨ O.length = 2 then scL v.toInt na.toInt else [])) := by
          have h9 := j68
          rw [show v67.toInt = 83 by omega] at h9
          rw [if_pos (by omega)]
          unfold scL
          rw [if_neg (by omega)]
          rw [List.append_nil]
          simpa only [List.append_assoc] using h9
        exact W.vret hx hb hr (fun t ht hW => ⟨rfl, by rw [ht]; exact hh68.l0, by rw [ht]; exact kp68, by rw [ht]; exact hJ9⟩) hh68.2.2.1 (eX9_putSeconds (87, .return_, 1) (List.mem_of_getElem? (i := 46) rfl))
      · skip
        refine ff_bipush hx hb (eX9_putSeconds (40, .bipush 9, 2) (List.mem_of_getElem? (i := 22) rfl)) (by decide) (by decide) (fun v69 e69 => ?_)
        refine lv_istore hx hb (eX9_putSeconds (42, .istore 5, 2) (List.mem_of_getElem? (i := 23) rfl)) hl61 (by decide) rfl (fun ls70 hl70 => ?_)
        refine lv_iload_n hx hb (eX9_putSeconds (44, .iload_n 3, 1) (List.mem_of_getElem? (i := 24) rfl)) rfl (lv_at hl70 4 rfl) ?_
        refine lv_istore hx hb (eX9_putSeconds (45, .istore 6, 2) (List.mem_of_getElem? (i := 25) rfl)) hl70 (by decide) rfl (fun ls71 hl71 => ?_)
        have loop : ∀ (d0 : Nat) (rv dv : Int32) (ls : Array Slot) (lo0 : List Loc), zh_ok D cA RTg ro sz H0 t65.heap lo0 → dv.toInt = (d0 : Int) + 1 → d0 ≤ 8 → 0 < rv.toInt → rv.toInt < 10 ^ (d0 + 1) → zdN 9 na.toInt = zdN (d0 + 1) rv.toInt → lv_has ls 7 [(6, .int rv), (5, .int dv), (4, .int v60), (0, .ref wr), (1, .long v), (3, .int na)] → W p l e (headSpec (gW yX9_putSeconds cX9_putSeconds 7 none) { frames := 2, cells := 0, slots := 0, locals := 51 }).room s m ([.ref wr, .long v, .int na] : List Value).toArray below meth c t65.heap lo0 0 0 (MQ below (zs_app D cA ro sz H0 wr (O ++ (if 0 < v.toInt ∨ 0 < na.toInt ∨ O.length = 2 then scL v.toInt na.toInt else []))) ([.ref wr, .long v, .int na] : List Value).toArray s 0 0 (zy_fr sz)) (F0 m 47 ls []) := by
          intro d0
          induction d0 with
          | zero =>
            intro rv dv ls lo0 hh0 hdv hd8 hr0 hrp hzd hl
            rw [show (10 : Int) ^ (0 + 1) = 10 from rfl] at hrp
            refine lv_iload hx hb (eX9_putSeconds (47, .iload 6, 2) (List.mem_of_getElem? (i := 26) rfl)) (lv_at hl 0 rfl) ?_
            refine ff_bipush hx hb (eX9_putSeconds (49, .bipush 10, 2) (List.mem_of_getElem? (i := 27) rfl)) (by decide) (by decide) (fun v72 e72 => ?_)
            refine ff_iremP hx hb (eX9_putSeconds (51, .irem, 1) (List.mem_of_getElem? (i := 28) rfl)) (by omega) (e72) (by decide) (fun v73 e73 => ?_)
            refine ff_if_ne hx hb (eX9_putSeconds (52, .ifCond .ne 22, 3) (List.mem_of_getElem? (i := 29) rfl)) (tgt := 74) rfl (fun c74 => ?_) (fun c74 => (by exfalso; omega))
            have hzf := hzd.trans (zd_end (by omega))
            refine lv_aload_n hx hb (eX9_putSeconds (74, .aload_n 0, 1) (List.mem_of_getElem? (i := 39) rfl)) rfl (lv_at hl 3 rfl) ?_
            refine lv_iload_n hx hb (eX9_putSeconds (75, .iload_n 3, 1) (List.mem_of_getElem? (i := 40) rfl)) rfl (lv_at hl 5 rfl) ?_
            refine lv_iload hx hb (eX9_putSeconds (76, .iload 5, 2) (List.mem_of_getElem? (i := 41) rfl)) (lv_at hl 1 rfl) ?_
            refine tz_rowV (As := [.int na, .int dv]) (st := []) (b := wr) (C := RX9) (Ts := gT) hx hb hml hown h2 (fun _ h => h) (hX9_putPart l D cA ro sz H0 wr na dv (zdN 9 na.toInt) (O ++ dgL (ndN 13 v.toInt) v.toInt) hwr (by omega) (by omega) (by omega) (by have hlO := hlen; have hnl := ndN_le 13 v.toInt; have hz9 := zdN_le 9 na.toInt; simp only [List.length_append, dgL_len]; omega)) ⟨rfl, rfl⟩ ⟨by decide, by decide⟩ ⟨by decide, by decide⟩ (tb_6 30 rfl rfl) (tb_1 6 rfl rfl) (tb_6 61 rfl rfl) (tb_6 28 rfl rfl) (tb_6 29 rfl rfl) (show yX9_putPart.cls ≠ "java/lang/invoke/MethodHandle" ∧ yX9_putPart.cls ≠ "java/lang/invoke/VarHandle" ∧ (parseMethodDescriptor yX9_putPart.desc).map (fun d => d.parameters.length) = some 2 by decide +kernel) zs_blind (zs_ob hh0 hwr (show RTg[8]? = some (0, 8, 0, fsX9) from rfl) (zCX9 hKn.1)) (fun U hU hW => ⟨rfl, by rw [hU]; exact hh0.l0, zKb s U hW.alike hKn, by rw [hU]; exact j65⟩) hh0.2.2.1 hl.1 (Nat.le_of_ble_eq_true rfl) (eX9_putSeconds (78, .invokevirtual 64, 3) (List.mem_of_getElem? (i := 42) rfl)) (fun r75 s75 t75 lo75 g75 f75 l75 => ?_)
            obtain ⟨q75, z75, c75, j75⟩ := f75
            cases q75
            rw [g75] at c75
            have hh75 : zh_ok D cA RTg ro sz H0 t75.heap lo75 := ⟨z75.1, z75.2.1, l75, z75.2.2.2⟩
            have kp75 := kp65.trans (c75.mono (ms' := [(8, 1), (16, 0)]) (by decide))
            refine W.eq (g2 := F0 m 81 ls []) rfl ?_
            refine lv_aload_n hx hb (eX9_putSeconds (81, .aload_n 0, 1) (List.mem_of_getElem? (i := 43) rfl)) rfl (lv_at hl 3 rfl) ?_
            refine ff_bipush hx hb (eX9_putSeconds (82, .bipush 83, 2) (List.mem_of_getElem? (i := 44) rfl)) (by decide) (by decide) (fun v76 e76 => ?_)
            refine tz_rowV (As := [.int v76]) (st := []) (b := wr) (C := RX9) (Ts := gT) hx hb hml hown h2 (fun _ h => h) (hX9_put l D cA ro sz H0 wr v76 (O ++ dgL (ndN 13 v.toInt) v.toInt ++ ptL na.toInt (zdN 9 na.toInt)) hwr (by omega) (by omega) (by have hlO := hlen; have hnl := ndN_le 13 v.toInt; have hz9 := zdN_le 9 na.toInt; have hp9 := ptL_len na.toInt (zdN 9 na.toInt); simp only [List.length_append, dgL_len]; omega)) ⟨rfl, rfl⟩ ⟨by decide, by decide⟩ ⟨by decide, by decide⟩ (tb_5 227 rfl rfl) (tb_1 6 rfl rfl) (tb_5 224 rfl rfl) (tb_5 225 rfl rfl) (tb_5 226 rfl rfl) (show yX9_put.cls ≠ "java/lang/invoke/MethodHandle" ∧ yX9_put.cls ≠ "java/lang/invoke/VarHandle" ∧ (parseMethodDescriptor yX9_put.desc).map (fun d => d.parameters.length) = some 1 by decide +kernel) zs_blind (zs_ob hh75 hwr (show RTg[8]? = some (0, 8, 0, fsX9) from rfl) (zCX9 hKn.1)) (fun U hU hW => ⟨rfl, by rw [hU]; exact hh75.l0, zKb s U hW.alike hKn, by rw [hU]; exact j75⟩) hh75.2.2.1 hl.1 (Nat.le_of_ble_eq_true rfl) (eX9_putSeconds (84, .invokevirtual 19, 3) (List.mem_of_getElem? (i := 45) rfl)) (fun r77 s77 t77 lo77 g77 f77 l77 => ?_)
            obtain ⟨q77, z77, c77, j77⟩ := f77
            cases q77
            rw [g77] at c77
            have hh77 : zh_ok D cA RTg ro sz H0 t77.heap lo77 := ⟨z77.1, z77.2.1, l77, z77.2.2.2⟩
            have kp77 := kp75.trans (c77.mono (ms' := [(8, 1), (16, 0)]) (by decide))
            refine W.eq (g2 := F0 m 87 ls []) rfl ?_
            have hJ9 : jW D cA ro t77.heap wr (O ++ (if 0 < v.toInt ∨ 0 < na.toInt ∨ O.length = 2 then scL v.toInt na.toInt else [])) := by
              have h9 := j77
              rw [show v76.toInt = 83 by omega] at h9
              rw [if_pos (by omega)]
              unfold scL
              rw [if_pos (by omega)]
              simpa only [List.append_assoc] using h9
            exact W.vret hx hb hr (fun t ht hW => ⟨rfl, by rw [ht]; exact hh77.l0, by rw [ht]; exact kp77, by rw [ht]; exact hJ9⟩) hh77.2.2.1 (eX9_putSeconds (87, .return_, 1) (List.mem_of_getElem? (i := 46) rfl))
          | succ d0 ih =>
            intro rv dv ls lo0 hh0 hdv hd8 hr0 hrp hzd hl
            rw [Int.pow_succ] at hrp
            refine lv_iload hx hb (eX9_putSeconds (47, .iload 6, 2) (List.mem_of_getElem? (i := 26) rfl)) (lv_at hl 0 rfl) ?_
            refine ff_bipush hx hb (eX9_putSeconds (49, .bipush 10, 2) (List.mem_of_getElem? (i := 27) rfl)) (by decide) (by decide) (fun v78 e78 => ?_)
            refine ff_iremP hx hb (eX9_putSeconds (51, .irem, 1) (List.mem_of_getElem? (i := 28) rfl)) (by omega) (e78) (by decide) (fun v79 e79 => ?_)
            refine ff_if_ne hx hb (eX9_putSeconds (52, .ifCond .ne 22, 3) (List.mem_of_getElem? (i := 29) rfl)) (tgt := 74) rfl (fun c80 => ?_) (fun c80 => ?_)
            · skip
              have hzf := hzd.trans (zd_end (by omega))
              refine lv_aload_n hx hb (eX9_putSeconds (74, .aload_n 0, 1) (List.mem_of_getElem? (i := 39) rfl)) rfl (lv_at hl 3 rfl) ?_
              refine lv_iload_n hx hb (eX9_putSeconds (75, .iload_n 3, 1) (List.mem_of_getElem? (i := 40) rfl)) rfl (lv_at hl 5 rfl) ?_
              refine lv_iload hx hb (eX9_putSeconds (76, .iload 5, 2) (List.mem_of_getElem? (i := 41) rfl)) (lv_at hl 1 rfl) ?_
              refine tz_rowV (As := [.int na, .int dv]) (st := []) (b := wr) (C := RX9) (Ts := gT) hx hb hml hown h2 (fun _ h => h) (hX9_putPart l D cA ro sz H0 wr na dv (zdN 9 na.toInt) (O ++ dgL (ndN 13 v.toInt) v.toInt) hwr (by omega) (by omega) (by omega) (by have hlO := hlen; have hnl := ndN_le 13 v.toInt; have hz9 := zdN_le 9 na.toInt; simp only [List.length_append, dgL_len]; omega)) ⟨rfl, rfl⟩ ⟨by decide, by decide⟩ ⟨by decide, by decide⟩ (tb_6 30 rfl rfl) (tb_1 6 rfl rfl) (tb_6 61 rfl rfl) (tb_6 28 rfl rfl) (tb_6 29 rfl rfl) (show yX9_putPart.cls ≠ "java/lang/invoke/MethodHandle" ∧ yX9_putPart.cls ≠ "java/lang/invoke/VarHandle" ∧ (parseMethodDescriptor yX9_putPart.desc).map (fun d => d.parameters.length) = some 2 by decide +kernel) zs_blind (zs_ob hh0 hwr (show RTg[8]? = some (0, 8, 0, fsX9) from rfl) (zCX9 hKn.1)) (fun U hU hW => ⟨rfl, by rw [hU]; exact hh0.l0, zKb s U hW.alike hKn, by rw [hU]; exact j65⟩) hh0.2.2.1 hl.1 (Nat.le_of_ble_eq_true rfl) (eX9_putSeconds (78, .invokevirtual 64, 3) (List.mem_of_getElem? (i := 42) rfl)) (fun r81 s81 t81 lo81 g81 f81 l81 => ?_)
              obtain ⟨q81, z81, c81, j81⟩ := f81
              cases q81
              rw [g81] at c81
              have hh81 : zh_ok D cA RTg ro sz H0 t81.heap lo81 := ⟨z81.1, z81.2.1, l81, z81.2.2.2⟩
              have kp81 := kp65.trans (c81.mono (ms' := [(8, 1), (16, 0)]) (by decide))
              refine W.eq (g2 := F0 m 81 ls []) rfl ?_
              refine lv_aload_n hx hb (eX9_putSeconds (81, .aload_n 0, 1) (List.mem_of_getElem? (i := 43) rfl)) rfl (lv_at hl 3 rfl) ?_
              refine ff_bipush hx hb (eX9_putSeconds (82, .bipush 83, 2) (List.mem_of_getElem? (i := 44) rfl)) (by decide) (by decide) (fun v82 e82 => ?_)
              refine tz_rowV (As := [.int v82]) (st := []) (b := wr) (C := RX9) (Ts := gT) hx hb hml hown h2 (fun _ h => h) (hX9_put l D cA ro sz H0 wr v82 (O ++ dgL (ndN 13 v.toInt) v.toInt ++ ptL na.toInt (zdN 9 na.toInt)) hwr (by omega) (by omega) (by have hlO := hlen; have hnl := ndN_le 13 v.toInt; have hz9 := zdN_le 9 na.toInt; have hp9 := ptL_len na.toInt (zdN 9 na.toInt); simp only [List.length_append, dgL_len]; omega)) ⟨rfl, rfl⟩ ⟨by decide, by decide⟩ ⟨by decide, by decide⟩ (tb_5 227 rfl rfl) (tb_1 6 rfl rfl) (tb_5 224 rfl rfl) (tb_5 225 rfl rfl) (tb_5 226 rfl rfl) (show yX9_put.cls ≠ "java/lang/invoke/MethodHandle" ∧ yX9_put.cls ≠ "java/lang/invoke/VarHandle" ∧ (parseMethodDescriptor yX9_put.desc).map (fun d => d.parameters.length) = some 1 by decide +kernel) zs_blind (zs_ob hh81 hwr (show RTg[8]? = some (0, 8, 0, fsX9) from rfl) (zCX9 hKn.1)) (fun U hU hW => ⟨rfl, by rw [hU]; exact hh81.l0, zKb s U hW.alike hKn, by rw [hU]; exact j81⟩) hh81.2.2.1 hl.1 (Nat.le_of_ble_eq_true rfl) (eX9_putSeconds (84, .invokevirtual 19, 3) (List.mem_of_getElem? (i := 45) rfl)) (fun r83 s83 t83 lo83 g83 f83 l83 => ?_)
              obtain ⟨q83, z83, c83, j83⟩ := f83
              cases q83
              rw [g83] at c83
              have hh83 : zh_ok D cA RTg ro sz H0 t83.heap lo83 := ⟨z83.1, z83.2.1, l83, z83.2.2.2⟩
              have kp83 := kp81.trans (c83.mono (ms' := [(8, 1), (16, 0)]) (by decide))
              refine W.eq (g2 := F0 m 87 ls []) rfl ?_
              have hJ9 : jW D cA ro t83.heap wr (O ++ (if 0 < v.toInt ∨ 0 < na.toInt ∨ O.length = 2 then scL v.toInt na.toInt else [])) := by
                have h9 := j83
                rw [show v82.toInt = 83 by omega] at h9
                rw [if_pos (by omega)]
                unfold scL
                rw [if_pos (by omega)]
                simpa only [List.append_assoc] using h9
              exact W.vret hx hb hr (fun t ht hW => ⟨rfl, by rw [ht]; exact hh83.l0, by rw [ht]; exact kp83, by rw [ht]; exact hJ9⟩) hh83.2.2.1 (eX9_putSeconds (87, .return_, 1) (List.mem_of_getElem? (i := 46) rfl))
            · skip
              refine lv_iload hx hb (eX9_putSeconds (55, .iload 5, 2) (List.mem_of_getElem? (i := 30) rfl)) (lv_at hl 1 rfl) ?_
              refine ff_iconst hx hb (eX9_putSeconds (57, .iconst 1, 1) (List.mem_of_getElem? (i := 31) rfl)) (by decide) (by decide) (fun v84 e84 => ?_)
              refine ff_icmp_le hx hb (eX9_putSeconds (58, .if_icmp .le 16, 3) (List.mem_of_getElem? (i := 32) rfl)) (tgt := 74) rfl (fun c85 => (by exfalso; omega)) (fun c85 => ?_)
              refine ff_iinc (k := 1) hx hb (eX9_putSeconds (61, .iinc 5 (-1), 3) (List.mem_of_getElem? (i := 33) rfl)) hl rfl (by decide) (by decide) (by decide) (by omega) (by omega) (fun v86 e86 ls86 hl86 => ?_)
              refine lv_iload hx hb (eX9_putSeconds (64, .iload 6, 2) (List.mem_of_getElem? (i := 34) rfl)) (lv_at hl86 1 rfl) ?_
              refine ff_bipush hx hb (eX9_putSeconds (66, .bipush 10, 2) (List.mem_of_getElem? (i := 35) rfl)) (by decide) (by decide) (fun v87 e87 => ?_)
              refine ff_idivP hx hb (eX9_putSeconds (68, .idiv, 1) (List.mem_of_getElem? (i := 36) rfl)) (by omega) (e87) (by decide) (fun v88 e88 => ?_)
              refine lv_istore hx hb (eX9_putSeconds (69, .istore 6, 2) (List.mem_of_getElem? (i := 37) rfl)) hl86 (by decide) rfl (fun ls89 hl89 => ?_)
              refine lv_goto hx hb (eX9_putSeconds (71, .goto (-24), 3) (List.mem_of_getElem? (i := 38) rfl)) (tgt := 47) rfl ?_
              exact ih v88 v86 ls89 _ hh0 (by omega) (by omega) (by omega) (by omega) (by rw [hzd, zd_go (by omega), show v88.toInt = rv.toInt / 10 by omega]) (lv_sub hl89 [0, 1, 2, 3, 4, 5] rfl)
        exact loop 8 na v69 ls71 _ hh65 (by omega) (by omega) (by omega) (by show _ < (1000000000 : Int); omega) (by rw [show na.toInt = na.toInt by omega]) (lv_sub hl71 [0, 1, 2, 3, 4, 5] rfl)
    · skip
      refine lv_iload_n hx hb (eX9_putSeconds (21, .iload_n 3, 1) (List.mem_of_getElem? (i := 12) rfl)) rfl (lv_at hl61 3 rfl) ?_
      refine ff_if_ne hx hb (eX9_putSeconds (22, .ifCond .ne 9, 3) (List.mem_of_getElem? (i := 13) rfl)) (tgt := 31) rfl (fun c90 => ?_) (fun c90 => ?_)
      · skip
        refine lv_aload_n hx hb (eX9_putSeconds (31, .aload_n 0, 1) (List.mem_of_getElem? (i := 17) rfl)) rfl (lv_at hl61 1 rfl) ?_
        refine lv_lload_n hx hb (eX9_putSeconds (32, .lload_n 1, 1) (List.mem_of_getElem? (i := 18) rfl)) rfl (lv_at hl61 2 rfl) ?_
        refine tz_rowV (As := [.long v]) (st := []) (b := wr) (C := RX9) (Ts := gT) hx hb hml hown h2 (fun _ h => h) (hX9_putNumber l D cA ro sz H0 wr v (O) hwr (by omega) (by omega) (by have hlO := hlen; have hnl := ndN_le 13 v.toInt; omega)) ⟨rfl, rfl⟩ ⟨by decide, by decide⟩ ⟨by decide, by decide⟩ (tb_6 54 rfl rfl) (tb_1 6 rfl rfl) (tb_6 51 rfl rfl) (tb_6 52 rfl rfl) (tb_6 53 rfl rfl) (show yX9_putNumber.cls ≠ "java/lang/invoke/MethodHandle" ∧ yX9_putNumber.cls ≠ "java/lang/invoke/VarHandle" ∧ (parseMethodDescriptor yX9_putNumber.desc).map (fun d => d.parameters.length) = some 1 by decide +kernel) zs_blind (zs_ob hh hwr (show RTg[8]? = some (0, 8, 0, fsX9) from rfl) (zCX9 hKn.1)) (fun U hU hW => ⟨rfl, by rw [hU]; exact hh.l0, zKb s U hW.alike hKn, by rw [hU]; exact hJ⟩) hh.2.2.1 hl61.1 (Nat.le_of_ble_eq_true rfl) (eX9_putSeconds (33, .invokevirtual 60, 3) (List.mem_of_getElem? (i := 19) rfl)) (fun r91 s91 t91 lo91 g91 f91 l91 => ?_)
        obtain ⟨q91, z91, c91, j91⟩ := f91
        cases q91
        rw [g91] at c91
        have hh91 : zh_ok D cA RTg ro sz H0 t91.heap lo91 := ⟨z91.1, z91.2.1, l91, z91.2.2.2⟩
        have kp91 := kp0.trans (c91.mono (ms' := [(8, 1), (16, 0)]) (by decide))
        refine W.eq (g2 := F0 m 36 ls61 []) rfl ?_
        refine lv_iload_n hx hb (eX9_putSeconds (36, .iload_n 3, 1) (List.mem_of_getElem? (i := 20) rfl)) rfl (lv_at hl61 3 rfl) ?_
        refine ff_if_le hx hb (eX9_putSeconds (37, .ifCond .le 44, 3) (List.mem_of_getElem? (i := 21) rfl)) (tgt := 81) rfl (fun c92 => ?_) (fun c92 => ?_)
        · skip
          refine lv_aload_n hx hb (eX9_putSeconds (81, .aload_n 0, 1) (List.mem_of_getElem? (i := 43) rfl)) rfl (lv_at hl61 1 rfl) ?_
          refine ff_bipush hx hb (eX9_putSeconds (82, .bipush 83, 2) (List.mem_of_getElem? (i := 44) rfl)) (by decide) (by decide) (fun v93 e93 => ?_)
          refine tz_rowV (As := [.int v93]) (st := []) (b := wr) (C := RX9) (Ts := gT) hx hb hml hown h2 (fun _ h => h) (hX9_put l D cA ro sz H0 wr v93 (O ++ dgL (ndN 13 v.toInt) v.toInt) hwr (by omega) (by omega) (by have hlO := hlen; have hnl := ndN_le 13 v.toInt; have hz9 := zdN_le 9 na.toInt; have hp9 := ptL_len na.toInt (zdN 9 na.toInt); simp only [List.length_append, dgL_len]; omega)) ⟨rfl, rfl⟩ ⟨by decide, by decide⟩ ⟨by decide, by decide⟩ (tb_5 227 rfl rfl) (tb_1 6 rfl rfl) (tb_5 224 rfl rfl) (tb_5 225 rfl rfl) (tb_5 226 rfl rfl) (show yX9_put.cls ≠ "java/lang/invoke/MethodHandle" ∧ yX9_put.cls ≠ "java/lang/invoke/VarHandle" ∧ (parseMethodDescriptor yX9_put.desc).map (fun d => d.parameters.length) = some 1 by decide +kernel) zs_blind (zs_ob hh91 hwr (show RTg[8]? = some (0, 8, 0, fsX9) from rfl) (zCX9 hKn.1)) (fun U hU hW => ⟨rfl, by rw [hU]; exact hh91.l0, zKb s U hW.alike hKn, by rw [hU]; exact j91⟩) hh91.2.2.1 hl61.1 (Nat.le_of_ble_eq_true rfl) (eX9_putSeconds (84, .invokevirtual 19, 3) (List.mem_of_getElem? (i := 45) rfl)) (fun r94 s94 t94 lo94 g94 f94 l94 => ?_)
          obtain ⟨q94, z94, c94, j94⟩ := f94
          cases q94
          rw [g94] at c94
          have hh94 : zh_ok D cA RTg ro sz H0 t94.heap lo94 := ⟨z94.1, z94.2.1, l94, z94.2.2.2⟩
          have kp94 := kp91.trans (c94.mono (ms' := [(8, 1), (16, 0)]) (by decide))
          refine W.eq (g2 := F0 m 87 ls61 []) rfl ?_
          have hJ9 : jW D cA ro t94.heap wr (O ++ (if 0 < v.toInt ∨ 0 < na.toInt ∨ O.length = 2 then scL v.toInt na.toInt else [])) := by
            have h9 := j94
            rw [show v93.toInt = 83 by omega] at h9
            rw [if_pos (by omega)]
            unfold scL
            rw [if_neg (by omega)]
            rw [List.append_nil]
            simpa only [List.append_assoc] using h9
          exact W.vret hx hb hr (fun t ht hW => ⟨rfl, by rw [ht]; exact hh94.l0, by rw [ht]; exact kp94, by rw [ht]; exact hJ9⟩) hh94.2.2.1 (eX9_putSeconds (87, .return_, 1) (List.mem_of_getElem? (i := 46) rfl))
        · skip
          refine ff_bipush hx hb (eX9_putSeconds (40, .bipush 9, 2) (List.mem_of_getElem? (i := 22) rfl)) (by decide) (by decide) (fun v95 e95 => ?_)
          refine lv_istore hx hb (eX9_putSeconds (42, .istore 5, 2) (List.mem_of_getElem? (i := 23) rfl)) hl61 (by decide) rfl (fun ls96 hl96 => ?_)
          refine lv_iload_n hx hb (eX9_putSeconds (44, .iload_n 3, 1) (List.mem_of_getElem? (i := 24) rfl)) rfl (lv_at hl96 4 rfl) ?_
          refine lv_istore hx hb (eX9_putSeconds (45, .istore 6, 2) (List.mem_of_getElem? (i := 25) rfl)) hl96 (by decide) rfl (fun ls97 hl97 => ?_)
          have loop : ∀ (d0 : Nat) (rv dv : Int32) (ls : Array Slot) (lo0 : List Loc), zh_ok D cA RTg ro sz H0 t91.heap lo0 → dv.toInt = (d0 : Int) + 1 → d0 ≤ 8 → 0 < rv.toInt → rv.toInt < 10 ^ (d0 + 1) → zdN 9 na.toInt = zdN (d0 + 1) rv.toInt → lv_has ls 7 [(6, .int rv), (5, .int dv), (4, .int v60), (0, .ref wr), (1, .long v), (3, .int na)] → W p l e (headSpec (gW yX9_putSeconds cX9_putSeconds 7 none) { frames := 2, cells := 0, slots := 0, locals := 51 }).room s m ([.ref wr, .long v, .int na] : List Value).toArray below meth c t91.heap lo0 0 0 (MQ below (zs_app D cA ro sz H0 wr (O ++ (if 0 < v.toInt ∨ 0 < na.toInt ∨ O.length = 2 then scL v.toInt na.toInt else []))) ([.ref wr, .long v, .int na] : List Value).toArray s 0 0 (zy_fr sz)) (F0 m 47 ls []) := by
            intro d0
            induction d0 with
            | zero =>
              intro rv dv ls lo0 hh0 hdv hd8 hr0 hrp hzd hl
              rw [show (10 : Int) ^ (0 + 1) = 10 from rfl] at hrp
              refine lv_iload hx hb (eX9_putSeconds (47, .iload 6, 2) (List.mem_of_getElem? (i := 26) rfl)) (lv_at hl 0 rfl) ?_
              refine ff_bipush hx hb (eX9_putSeconds (49, .bipush 10, 2) (List.mem_of_getElem? (i := 27) rfl)) (by decide) (by decide) (fun v98 e98 => ?_)
              refine ff_iremP hx hb (eX9_putSeconds (51, .irem, 1) (List.mem_of_getElem? (i := 28) rfl)) (by omega) (e98) (by decide) (fun v99 e99 => ?_)
              refine ff_if_ne hx hb (eX9_putSeconds (52, .ifCond .ne 22, 3) (List.mem_of_getElem? (i := 29) rfl)) (tgt := 74) rfl (fun c100 => ?_) (fun c100 => (by exfalso; omega))
              have hzf := hzd.trans (zd_end (by omega))
              refine lv_aload_n hx hb (eX9_putSeconds (74, .aload_n 0, 1) (List.mem_of_getElem? (i := 39) rfl)) rfl (lv_at hl 3 rfl) ?_
              refine lv_iload_n hx hb (eX9_putSeconds (75, .iload_n 3, 1) (List.mem_of_getElem? (i := 40) rfl)) rfl (lv_at hl 5 rfl) ?_
              refine lv_iload hx hb (eX9_putSeconds (76, .iload 5, 2) (List.mem_of_getElem? (i := 41) rfl)) (lv_at hl 1 rfl) ?_
              refine tz_rowV (As := [.int na, .int dv]) (st := []) (b := wr) (C := RX9) (Ts := gT) hx hb hml hown h2 (fun _ h => h) (hX9_putPart l D cA ro sz H0 wr na dv (zdN 9 na.toInt) (O ++ dgL (ndN 13 v.toInt) v.toInt) hwr (by omega) (by omega) (by omega) (by have hlO := hlen; have hnl := ndN_le 13 v.toInt; have hz9 := zdN_le 9 na.toInt; simp only [List.length_append, dgL_len]; omega)) ⟨rfl, rfl⟩ ⟨by decide, by decide⟩ ⟨by decide, by decide⟩ (tb_6 30 rfl rfl) (tb_1 6 rfl rfl) (tb_6 61 rfl rfl) (tb_6 28 rfl rfl) (tb_6 29 rfl rfl) (show yX9_putPart.cls ≠ "java/lang/invoke/MethodHandle" ∧ yX9_putPart.cls ≠ "java/lang/invoke/VarHandle" ∧ (parseMethodDescriptor yX9_putPart.desc).map (fun d => d.parameters.length) = some 2 by decide +kernel) zs_blind (zs_ob hh0 hwr (show RTg[8]? = some (0, 8, 0, fsX9) from rfl) (zCX9 hKn.1)) (fun U hU hW => ⟨rfl, by rw [hU]; exact hh0.l0, zKb s U hW.alike hKn, by rw [hU]; exact j91⟩) hh0.2.2.1 hl.1 (Nat.le_of_ble_eq_true rfl) (eX9_putSeconds (78, .invokevirtual 64, 3) (List.mem_of_getElem? (i := 42) rfl)) (fun r101 s101 t101 lo101 g101 f101 l101 => ?_)
              obtain ⟨q101, z101, c101, j101⟩ := f101
              cases q101
              rw [g101] at c101
              have hh101 : zh_ok D cA RTg ro sz H0 t101.heap lo101 := ⟨z101.1, z101.2.1, l101, z101.2.2.2⟩
              have kp101 := kp91.trans (c101.mono (ms' := [(8, 1), (16, 0)]) (by decide))
              refine W.eq (g2 := F0 m 81 ls []) rfl ?_
              refine lv_aload_n hx hb (eX9_putSeconds (81, .aload_n 0, 1) (List.mem_of_getElem? (i := 43) rfl)) rfl (lv_at hl 3 rfl) ?_
              refine ff_bipush hx hb (eX9_putSeconds (82, .bipush 83, 2) (List.mem_of_getElem? (i := 44) rfl)) (by decide) (by decide) (fun v102 e102 => ?_)
              refine tz_rowV (As := [.int v102]) (st := []) (b := wr) (C := RX9) (Ts := gT) hx hb hml hown h2 (fun _ h => h) (hX9_put l D cA ro sz H0 wr v102 (O ++ dgL (ndN 13 v.toInt) v.toInt ++ ptL na.toInt (zdN 9 na.toInt)) hwr (by omega) (by omega) (by have hlO := hlen; have hnl := ndN_le 13 v.toInt; have hz9 := zdN_le 9 na.toInt; have hp9 := ptL_len na.toInt (zdN 9 na.toInt); simp only [List.length_append, dgL_len]; omega)) ⟨rfl, rfl⟩ ⟨by decide, by decide⟩ ⟨by decide, by decide⟩ (tb_5 227 rfl rfl) (tb_1 6 rfl rfl) (tb_5 224 rfl rfl) (tb_5 225 rfl rfl) (tb_5 226 rfl rfl) (show yX9_put.cls ≠ "java/lang/invoke/MethodHandle" ∧ yX9_put.cls ≠ "java/lang/invoke/VarHandle" ∧ (parseMethodDescriptor yX9_put.desc).map (fun d => d.parameters.length) = some 1 by decide +kernel) zs_blind (zs_ob hh101 hwr (show RTg[8]? = some (0, 8, 0, fsX9) from rfl) (zCX9 hKn.1)) (fun U hU hW => ⟨rfl, by rw [hU]; exact hh101.l0, zKb s U hW.alike hKn, by rw [hU]; exact j101⟩) hh101.2.2.1 hl.1 (Nat.le_of_ble_eq_true rfl) (eX9_putSeconds (84, .invokevirtual 19, 3) (List.mem_of_getElem? (i := 45) rfl)) (fun r103 s103 t103 lo103 g103 f103 l103 => ?_)
              obtain ⟨q103, z103, c103, j103⟩ := f103
              cases q103
              rw [g103] at c103
              have hh103 : zh_ok D cA RTg ro sz H0 t103.heap lo103 := ⟨z103.1, z103.2.1, l103, z103.2.2.2⟩
              have kp103 := kp101.trans (c103.mono (ms' := [(8, 1), (16, 0)]) (by decide))
              refine W.eq (g2 := F0 m 87 ls []) rfl ?_
              have hJ9 : jW D cA ro t103.heap wr (O ++ (if 0 < v.toInt ∨ 0 < na.toInt ∨ O.length = 2 then scL v.toInt na.toInt else [])) := by
                have h9 := j103
                rw [show v102.toInt = 83 by omega] at h9
                rw [if_pos (by omega)]
                unfold scL
                rw [if_pos (by omega)]
                simpa only [List.append_assoc] using h9
              exact W.vret hx hb hr (fun t ht hW => ⟨rfl, by rw [ht]; exact hh103.l0, by rw [ht]; exact kp103, by rw [ht]; exact hJ9⟩) hh103.2.2.1 (eX9_putSeconds (87, .return_, 1) (List.mem_of_getElem? (i := 46) rfl))
            | succ d0 ih =>
              intro rv dv ls lo0 hh0 hdv hd8 hr0 hrp hzd hl
              rw [Int.pow_succ] at hrp
              refine lv_iload hx hb (eX9_putSeconds (47, .iload 6, 2) (List.mem_of_getElem? (i := 26) rfl)) (lv_at hl 0 rfl) ?_
              refine ff_bipush hx hb (eX9_putSeconds (49, .bipush 10, 2) (List.mem_of_getElem? (i := 27) rfl)) (by decide) (by decide) (fun v104 e104 => ?_)
              refine ff_iremP hx hb (eX9_putSeconds (51, .irem, 1) (List.mem_of_getElem? (i := 28) rfl)) (by omega) (e104) (by decide) (fun v105 e105 => ?_)
              refine ff_if_ne hx hb (eX9_putSeconds (52, .ifCond .ne 22, 3) (List.mem_of_getElem? (i := 29) rfl)) (tgt := 74) rfl (fun c106 => ?_) (fun c106 => ?_)
              · skip
                have hzf := hzd.trans (zd_end (by omega))
                refine lv_aload_n hx hb (eX9_putSeconds (74, .aload_n 0, 1) (List.mem_of_getElem? (i := 39) rfl)) rfl (lv_at hl 3 rfl) ?_
                refine lv_iload_n hx hb (eX9_putSeconds (75, .iload_n 3, 1) (List.mem_of_getElem? (i := 40) rfl)) rfl (lv_at hl 5 rfl) ?_
                refine lv_iload hx hb (eX9_putSeconds (76, .iload 5, 2) (List.mem_of_getElem? (i := 41) rfl)) (lv_at hl 1 rfl) ?_
                refine tz_rowV (As := [.int na, .int dv]) (st := []) (b := wr) (C := RX9) (Ts := gT) hx hb hml hown h2 (fun _ h => h) (hX9_putPart l D cA ro sz H0 wr na dv (zdN 9 na.toInt) (O ++ dgL (ndN 13 v.toInt) v.toInt) hwr (by omega) (by omega) (by omega) (by have hlO := hlen; have hnl := ndN_le 13 v.toInt; have hz9 := zdN_le 9 na.toInt; simp only [List.length_append, dgL_len]; omega)) ⟨rfl, rfl⟩ ⟨by decide, by decide⟩ ⟨by decide, by decide⟩ (tb_6 30 rfl rfl) (tb_1 6 rfl rfl) (tb_6 61 rfl rfl) (tb_6 28 rfl rfl) (tb_6 29 rfl rfl) (show yX9_putPart.cls ≠ "java/lang/invoke/MethodHandle" ∧ yX9_putPart.cls ≠ "java/lang/invoke/VarHandle" ∧ (parseMethodDescriptor yX9_putPart.desc).map (fun d => d.parameters.length) = some 2 by decide +kernel) zs_blind (zs_ob hh0 hwr (show RTg[8]? = some (0, 8, 0, fsX9) from rfl) (zCX9 hKn.1)) (fun U hU hW => ⟨rfl, by rw [hU]; exact hh0.l0, zKb s U hW.alike hKn, by rw [hU]; exact j91⟩) hh0.2.2.1 hl.1 (Nat.le_of_ble_eq_true rfl) (eX9_putSeconds (78, .invokevirtual 64, 3) (List.mem_of_getElem? (i := 42) rfl)) (fun r107 s107 t107 lo107 g107 f107 l107 => ?_)
                obtain ⟨q107, z107, c107, j107⟩ := f107
                cases q107
                rw [g107] at c107
                have hh107 : zh_ok D cA RTg ro sz H0 t107.heap lo107 := ⟨z107.1, z107.2.1, l107, z107.2.2.2⟩
                have kp107 := kp91.trans (c107.mono (ms' := [(8, 1), (16, 0)]) (by decide))
                refine W.eq (g2 := F0 m 81 ls []) rfl ?_
                refine lv_aload_n hx hb (eX9_putSeconds (81, .aload_n 0, 1) (List.mem_of_getElem? (i := 43) rfl)) rfl (lv_at hl 3 rfl) ?_
                refine ff_bipush hx hb (eX9_putSeconds (82, .bipush 83, 2) (List.mem_of_getElem? (i := 44) rfl)) (by decide) (by decide) (fun v108 e108 => ?_)
                refine tz_rowV (As := [.int v108]) (st := []) (b := wr) (C := RX9) (Ts := gT) hx hb hml hown h2 (fun _ h => h) (hX9_put l D cA ro sz H0 wr v108 (O ++ dgL (ndN 13 v.toInt) v.toInt ++ ptL na.toInt (zdN 9 na.toInt)) hwr (by omega) (by omega) (by have hlO := hlen; have hnl := ndN_le 13 v.toInt; have hz9 := zdN_le 9 na.toInt; have hp9 := ptL_len na.toInt (zdN 9 na.toInt); simp only [List.length_append, dgL_len]; omega)) ⟨rfl, rfl⟩ ⟨by decide, by decide⟩ ⟨by decide, by decide⟩ (tb_5 227 rfl rfl) (tb_1 6 rfl rfl) (tb_5 224 rfl rfl) (tb_5 225 rfl rfl) (tb_5 226 rfl rfl) (show yX9_put.cls ≠ "java/lang/invoke/MethodHandle" ∧ yX9_put.cls ≠ "java/lang/invoke/VarHandle" ∧ (parseMethodDescriptor yX9_put.desc).map (fun d => d.parameters.length) = some 1 by decide +kernel) zs_blind (zs_ob hh107 hwr (show RTg[8]? = some (0, 8, 0, fsX9) from rfl) (zCX9 hKn.1)) (fun U hU hW => ⟨rfl, by rw [hU]; exact hh107.l0, zKb s U hW.alike hKn, by rw [hU]; exact j107⟩) hh107.2.2.1 hl.1 (Nat.le_of_ble_eq_true rfl) (eX9_putSeconds (84, .invokevirtual 19, 3) (List.mem_of_getElem? (i := 45) rfl)) (fun r109 s109 t109 lo109 g109 f109 l109 => ?_)
                obtain ⟨q109, z109, c109, j109⟩ := f109
                cases q109
                rw [g109] at c109
                have hh109 : zh_ok D cA RTg ro sz H0 t109.heap lo109 := ⟨z109.1, z109.2.1, l109, z109.2.2.2⟩
                have kp109 := kp107.trans (c109.mono (ms' := [(8, 1), (16, 0)]) (by decide))
                refine W.eq (g2 := F0 m 87 ls []) rfl ?_
                have hJ9 : jW D cA ro t109.heap wr (O ++ (if 0 < v.toInt ∨ 0 < na.toInt ∨ O.length = 2 then scL v.toInt na.toInt else [])) := by
                  have h9 := j109
                  rw [show v108.toInt = 83 by omega] at h9
                  rw [if_pos (by omega)]
                  unfold scL
                  rw [if_pos (by omega)]
                  simpa only [List.append_assoc] using h9
                exact W.vret hx hb hr (fun t ht hW => ⟨rfl, by rw [ht]; exact hh109.l0, by rw [ht]; exact kp109, by rw [ht]; exact hJ9⟩) hh109.2.2.1 (eX9_putSeconds (87, .return_, 1) (List.mem_of_getElem? (i := 46) rfl))
              · skip
                refine lv_iload hx hb (eX9_putSeconds (55, .iload 5, 2) (List.mem_of_getElem? (i := 30) rfl)) (lv_at hl 1 rfl) ?_
                refine ff_iconst hx hb (eX9_putSeconds (57, .iconst 1, 1) (List.mem_of_getElem? (i := 31) rfl)) (by decide) (by decide) (fun v110 e110 => ?_)
                refine ff_icmp_le hx hb (eX9_putSeconds (58, .if_icmp .le 16, 3) (List.mem_of_getElem? (i := 32) rfl)) (tgt := 74) rfl (fun c111 => (by exfalso; omega)) (fun c111 => ?_)
                refine ff_iinc (k := 1) hx hb (eX9_putSeconds (61, .iinc 5 (-1), 3) (List.mem_of_getElem? (i := 33) rfl)) hl rfl (by decide) (by decide) (by decide) (by omega) (by omega) (fun v112 e112 ls112 hl112 => ?_)
                refine lv_iload hx hb (eX9_putSeconds (64, .iload 6, 2) (List.mem_of_getElem? (i := 34) rfl)) (lv_at hl112 1 rfl) ?_
                refine ff_bipush hx hb (eX9_putSeconds (66, .bipush 10, 2) (List.mem_of_getElem? (i := 35) rfl)) (by decide) (by decide) (fun v113 e113 => ?_)
                refine ff_idivP hx hb (eX9_putSeconds (68, .idiv, 1) (List.mem_of_getElem? (i := 36) rfl)) (by omega) (e113) (by decide) (fun v114 e114 => ?_)
                refine lv_istore hx hb (eX9_putSeconds (69, .istore 6, 2) (List.mem_of_getElem? (i := 37) rfl)) hl112 (by decide) rfl (fun ls115 hl115 => ?_)
                refine lv_goto hx hb (eX9_putSeconds (71, .goto (-24), 3) (List.mem_of_getElem? (i := 38) rfl)) (tgt := 47) rfl ?_
                exact ih v114 v112 ls115 _ hh0 (by omega) (by omega) (by omega) (by omega) (by rw [hzd, zd_go (by omega), show v114.toInt = rv.toInt / 10 by omega]) (lv_sub hl115 [0, 1, 2, 3, 4, 5] rfl)
          exact loop 8 na v95 ls97 _ hh91 (by omega) (by omega) (by omega) (by show _ < (1000000000 : Int); omega) (by rw [show na.toInt = na.toInt by omega]) (lv_sub hl97 [0, 1, 2, 3, 4, 5] rfl)
      · skip
        refine lv_iload hx hb (eX9_putSeconds (25, .iload 4, 2) (List.mem_of_getElem? (i := 14) rfl)) (lv_at hl61 0 rfl) ?_
        refine ff_if_ne hx hb (eX9_putSeconds (27, .ifCond .ne 4, 3) (List.mem_of_getElem? (i := 15) rfl)) (tgt := 31) rfl (fun c116 => ?_) (fun c116 => (by exfalso; omega))
        refine lv_aload_n hx hb (eX9_putSeconds (31, .aload_n 0, 1) (List.mem_of_getElem? (i := 17) rfl)) rfl (lv_at hl61 1 rfl) ?_
        refine lv_lload_n hx hb (eX9_putSeconds (32, .lload_n 1, 1) (List.mem_of_getElem? (i := 18) rfl)) rfl (lv_at hl61 2 rfl) ?_
        refine tz_rowV (As := [.long v]) (st := []) (b := wr) (C := RX9) (Ts := gT) hx hb hml hown h2 (fun _ h => h) (hX9_putNumber l D cA ro sz H0 wr v (O) hwr (by omega) (by omega) (by have hlO := hlen; have hnl := ndN_le 13 v.toInt; omega)) ⟨rfl, rfl⟩ ⟨by decide, by decide⟩ ⟨by decide, by decide⟩ (tb_6 54 rfl rfl) (tb_1 6 rfl rfl) (tb_6 51 rfl rfl) (tb_6 52 rfl rfl) (tb_6 53 rfl rfl) (show yX9_putNumber.cls ≠ "java/lang/invoke/MethodHandle" ∧ yX9_putNumber.cls ≠ "java/lang/invoke/VarHandle" ∧ (parseMethodDescriptor yX9_putNumber.desc).map (fun d => d.parameters.length) = some 1 by decide +kernel) zs_blind (zs_ob hh hwr (show RTg[8]? = some (0, 8, 0, fsX9) from rfl) (zCX9 hKn.1)) (fun U hU hW => ⟨rfl, by rw [hU]; exact hh.l0, zKb s U hW.alike hKn, by rw [hU]; exact hJ⟩) hh.2.2.1 hl61.1 (Nat.le_of_ble_eq_true rfl) (eX9_putSeconds (33, .invokevirtual 60, 3) (List.mem_of_getElem? (i := 19) rfl)) (fun r117 s117 t117 lo117 g117 f117 l117 => ?_)
        obtain ⟨q117, z117, c117, j117⟩ := f117
        cases q117
        rw [g117] at c117
        have hh117 : zh_ok D cA RTg ro sz H0 t117.heap lo117 := ⟨z117.1, z117.2.1, l117, z117.2.2.2⟩
        have kp117 := kp0.trans (c117.mono (ms' := [(8, 1), (16, 0)]) (by decide))
        refine W.eq (g2 := F0 m 36 ls61 []) rfl ?_
        refine lv_iload_n hx hb (eX9_putSeconds (36, .iload_n 3, 1) (List.mem_of_getElem? (i := 20) rfl)) rfl (lv_at hl61 3 rfl) ?_
        refine ff_if_le hx hb (eX9_putSeconds (37, .ifCond .le 44, 3) (List.mem_of_getElem? (i := 21) rfl)) (tgt := 81) rfl (fun c118 => ?_) (fun c118 => ?_)
        · skip
          refine lv_aload_n hx hb (eX9_putSeconds (81, .aload_n 0, 1) (List.mem_of_getElem? (i := 43) rfl)) rfl (lv_at hl61 1 rfl) ?_
          refine ff_bipush hx hb (eX9_putSeconds (82, .bipush 83, 2) (List.mem_of_getElem? (i := 44) rfl)) (by decide) (by decide) (fun v119 e119 => ?_)
          refine tz_rowV (As := [.int v119]) (st := []) (b := wr) (C := RX9) (Ts := gT) hx hb hml hown h2 (fun _ h => h) (hX9_put l D cA ro sz H0 wr v119 (O ++ dgL (ndN 13 v.toInt) v.toInt) hwr (by omega) (by omega) (by have hlO := hlen; have hnl := ndN_le 13 v.toInt; have hz9 := zdN_le 9 na.toInt; have hp9 := ptL_len na.toInt (zdN 9 na.toInt); simp only [List.length_append, dgL_len]; omega)) ⟨rfl, rfl⟩ ⟨by decide, by decide⟩ ⟨by decide, by decide⟩ (tb_5 227 rfl rfl) (tb_1 6 rfl rfl) (tb_5 224 rfl rfl) (tb_5 225 rfl rfl) (tb_5 226 rfl rfl) (show yX9_put.cls ≠ "java/lang/invoke/MethodHandle" ∧ yX9_put.cls ≠ "java/lang/invoke/VarHandle" ∧ (parseMethodDescriptor yX9_put.desc).map (fun d => d.parameters.length) = some 1 by decide +kernel) zs_blind (zs_ob hh117 hwr (show RTg[8]? = some (0, 8, 0, fsX9) from rfl) (zCX9 hKn.1)) (fun U hU hW => ⟨rfl, by rw [hU]; exact hh117.l0, zKb s U hW.alike hKn, by rw [hU]; exact j117⟩) hh117.2.2.1 hl61.1 (Nat.le_of_ble_eq_true rfl) (eX9_putSeconds (84, .invokevirtual 19, 3) (List.mem_of_getElem? (i := 45) rfl)) (fun r120 s120 t120 lo120 g120 f120 l120 => ?_)
          obtain ⟨q120, z120, c120, j120⟩ := f120
          cases q120
          rw [g120] at c120
          have hh120 : zh_ok D cA RTg ro sz H0 t120.heap lo120 := ⟨z120.1, z120.2.1, l120, z120.2.2.2⟩
          have kp120 := kp117.trans (c120.mono (ms' := [(8, 1), (16, 0)]) (by decide))
          refine W.eq (g2 := F0 m 87 ls61 []) rfl ?_
          have hJ9 : jW D cA ro t120.heap wr (O ++ (if 0 < v.toInt ∨ 0 < na.toInt ∨ O.length = 2 then scL v.toInt na.toInt else [])) := by
            have h9 := j120
            rw [show v119.toInt = 83 by omega] at h9
            rw [if_pos (by omega)]
            unfold scL
            rw [if_neg (by omega)]
            rw [List.append_nil]
            simpa only [List.append_assoc] using h9
          exact W.vret hx hb hr (fun t ht hW => ⟨rfl, by rw [ht]; exact hh120.l0, by rw [ht]; exact kp120, by rw [ht]; exact hJ9⟩) hh120.2.2.1 (eX9_putSeconds (87, .return_, 1) (List.mem_of_getElem? (i := 46) rfl))
        · skip
          refine ff_bipush hx hb (eX9_putSeconds (40, .bipush 9, 2) (List.mem_of_getElem? (i := 22) rfl)) (by decide) (by decide) (fun v121 e121 => ?_)
          refine lv_istore hx hb (eX9_putSeconds (42, .istore 5, 2) (List.mem_of_getElem? (i := 23) rfl)) hl61 (by decide) rfl (fun ls122 hl122 => ?_)
          refine lv_iload_n hx hb (eX9_putSeconds (44, .iload_n 3, 1) (List.mem_of_getElem? (i := 24) rfl)) rfl (lv_at hl122 4 rfl) ?_
          refine lv_istore hx hb (eX9_putSeconds (45, .istore 6, 2) (List.mem_of_getElem? (i := 25) rfl)) hl122 (by decide) rfl (fun ls123 hl123 => ?_)
          have loop : ∀ (d0 : Nat) (rv dv : Int32) (ls : Array Slot) (lo0 : List Loc), zh_ok D cA RTg ro sz H0 t117.heap lo0 → dv.toInt = (d0 : Int) + 1 → d0 ≤ 8 → 0 < rv.toInt → rv.toInt < 10 ^ (d0 + 1) → zdN 9 na.toInt = zdN (d0 + 1) rv.toInt → lv_has ls 7 [(6, .int rv), (5, .int dv), (4, .int v60), (0, .ref wr), (1, .long v), (3, .int na)] → W p l e (headSpec (gW yX9_putSeconds cX9_putSeconds 7 none) { frames := 2, cells := 0, slots := 0, locals := 51 }).room s m ([.ref wr, .long v, .int na] : List Value).toArray below meth c t117.heap lo0 0 0 (MQ below (zs_app D cA ro sz H0 wr (O ++ (if 0 < v.toInt ∨ 0 < na.toInt ∨ O.length = 2 then scL v.toInt na.toInt else []))) ([.ref wr, .long v, .int na] : List Value).toArray s 0 0 (zy_fr sz)) (F0 m 47 ls []) := by
            intro d0
            induction d0 with
            | zero =>
              intro rv dv ls lo0 hh0 hdv hd8 hr0 hrp hzd hl
              rw [show (10 : Int) ^ (0 + 1) = 10 from rfl] at hrp
              refine lv_iload hx hb (eX9_putSeconds (47, .iload 6, 2) (List.mem_of_getElem? (i := 26) rfl)) (lv_at hl 0 rfl) ?_
              refine ff_bipush hx hb (eX9_putSeconds (49, .bipush 10, 2) (List.mem_of_getElem? (i := 27) rfl)) (by decide) (by decide) (fun v124 e124 => ?_)
              refine ff_iremP hx hb (eX9_putSeconds (51, .irem, 1) (List.mem_of_getElem? (i := 28) rfl)) (by omega) (e124) (by decide) (fun v125 e125 => ?_)
              refine ff_if_ne hx hb (eX9_putSeconds (52, .ifCond .ne 22, 3) (List.mem_of_getElem? (i := 29) rfl)) (tgt := 74) rfl (fun c126 => ?_) (fun c126 => (by exfalso; omega))
              have hzf := hzd.trans (zd_end (by omega))
              refine lv_aload_n hx hb (eX9_putSeconds (74, .aload_n 0, 1) (List.mem_of_getElem? (i := 39) rfl)) rfl (lv_at hl 3 rfl) ?_
              refine lv_iload_n hx hb (eX9_putSeconds (75, .iload_n 3, 1) (List.mem_of_getElem? (i := 40) rfl)) rfl (lv_at hl 5 rfl) ?_
              refine lv_iload hx hb (eX9_putSeconds (76, .iload 5, 2) (List.mem_of_getElem? (i := 41) rfl)) (lv_at hl 1 rfl) ?_
              refine tz_rowV (As := [.int na, .int dv]) (st := []) (b := wr) (C := RX9) (Ts := gT) hx hb hml hown h2 (fun _ h => h) (hX9_putPart l D cA ro sz H0 wr na dv (zdN 9 na.toInt) (O ++ dgL (ndN 13 v.toInt) v.toInt) hwr (by omega) (by omega) (by omega) (by have hlO := hlen; have hnl := ndN_le 13 v.toInt; have hz9 := zdN_le 9 na.toInt; simp only [List.length_append, dgL_len]; omega)) ⟨rfl, rfl⟩ ⟨by decide, by decide⟩ ⟨by decide, by decide⟩ (tb_6 30 rfl rfl) (tb_1 6 rfl rfl) (tb_6 61 rfl rfl) (tb_6 28 rfl rfl) (tb_6 29 rfl rfl) (show yX9_putPart.cls ≠ "java/lang/invoke/MethodHandle" ∧ yX9_putPart.cls ≠ "java/lang/invoke/VarHandle" ∧ (parseMethodDescriptor yX9_putPart.desc).map (fun d => d.parameters.length) = some 2 by decide +kernel) zs_blind (zs_ob hh0 hwr (show RTg[8]? = some (0, 8, 0, fsX9) from rfl) (zCX9 hKn.1)) (fun U hU hW => ⟨rfl, by rw [hU]; exact hh0.l0, zKb s U hW.alike hKn, by rw [hU]; exact j117⟩) hh0.2.2.1 hl.1 (Nat.le_of_ble_eq_true rfl) (eX9_putSeconds (78, .invokevirtual 64, 3) (List.mem_of_getElem? (i := 42) rfl)) (fun r127 s127 t127 lo127 g127 f127 l127 => ?_)
              obtain ⟨q127, z127, c127, j127⟩ := f127
              cases q127
              rw [g127] at c127
              have hh127 : zh_ok D cA RTg ro sz H0 t127.heap lo127 := ⟨z127.1, z127.2.1, l127, z127.2.2.2⟩
              have kp127 := kp117.trans (c127.mono (ms' := [(8, 1), (16, 0)]) (by decide))
              refine W.eq (g2 := F0 m 81 ls []) rfl ?_
              refine lv_aload_n hx hb (eX9_putSeconds (81, .aload_n 0, 1) (List.mem_of_getElem? (i := 43) rfl)) rfl (lv_at hl 3 rfl) ?_
              refine ff_bipush hx hb (eX9_putSeconds (82, .bipush 83, 2) (List.mem_of_getElem? (i := 44) rfl)) (by decide) (by decide) (fun v128 e128 => ?_)
              refine tz_rowV (As := [.int v128]) (st := []) (b := wr) (C := RX9) (Ts := gT) hx hb hml hown h2 (fun _ h => h) (hX9_put l D cA ro sz H0 wr v128 (O ++ dgL (ndN 13 v.toInt) v.toInt ++ ptL na.toInt (zdN 9 na.toInt)) hwr (by omega) (by omega) (by have hlO := hlen; have hnl := ndN_le 13 v.toInt; have hz9 := zdN_le 9 na.toInt; have hp9 := ptL_len na.toInt (zdN 9 na.toInt); simp only [List.length_append, dgL_len]; omega)) ⟨rfl, rfl⟩ ⟨by decide, by decide⟩ ⟨by decide, by decide⟩ (tb_5 227 rfl rfl) (tb_1 6 rfl rfl) (tb_5 224 rfl rfl) (tb_5 225 rfl rfl) (tb_5 226 rfl rfl) (show yX9_put.cls ≠ "java/lang/invoke/MethodHandle" ∧ yX9_put.cls ≠ "java/lang/invoke/VarHandle" ∧ (parseMethodDescriptor yX9_put.desc).map (fun d => d.parameters.length) = some 1 by decide +kernel) zs_blind (zs_ob hh127 hwr (show RTg[8]? = some (0, 8, 0, fsX9) from rfl) (zCX9 hKn.1)) (fun U hU hW => ⟨rfl, by rw [hU]; exact hh127.l0, zKb s U hW.alike hKn, by rw [hU]; exact j127⟩) hh127.2.2.1 hl.1 (Nat.le_of_ble_eq_true rfl) (eX9_putSeconds (84, .invokevirtual 19, 3) (List.mem_of_getElem? (i := 45) rfl)) (fun r129 s129 t129 lo129 g129 f129 l129 => ?_)
              obtain ⟨q129, z129, c129, j129⟩ := f129
              cases q129
              rw [g129] at c129
              have hh129 : zh_ok D cA RTg ro sz H0 t129.heap lo129 := ⟨z129.1, z129.2.1, l129, z129.2.2.2⟩
              have kp129 := kp127.trans (c129.mono (ms' := [(8, 1), (16, 0)]) (by decide))
              refine W.eq (g2 := F0 m 87 ls []) rfl ?_
              have hJ9 : jW D cA ro t129.heap wr (O ++ (if 0 < v.toInt ∨ 0 < na.toInt ∨ O.length = 2 then scL v.toInt na.toInt else [])) := by
                have h9 := j129
                rw [show v128.toInt = 83 by omega] at h9
                rw [if_pos (by omega)]
                unfold scL
                rw [if_pos (by omega)]
                simpa only [List.append_assoc] using h9
              exact W.vret hx hb hr (fun t ht hW => ⟨rfl, by rw [ht]; exact hh129.l0, by rw [ht]; exact kp129, by rw [ht]; exact hJ9⟩) hh129.2.2.1 (eX9_putSeconds (87, .return_, 1) (List.mem_of_getElem? (i := 46) rfl))
            | succ d0 ih =>
              intro rv dv ls lo0 hh0 hdv hd8 hr0 hrp hzd hl
              rw [Int.pow_succ] at hrp
              refine lv_iload hx hb (eX9_putSeconds (47, .iload 6, 2) (List.mem_of_getElem? (i := 26) rfl)) (lv_at hl 0 rfl) ?_
              refine ff_bipush hx hb (eX9_putSeconds (49, .bipush 10, 2) (List.mem_of_getElem? (i := 27) rfl)) (by decide) (by decide) (fun v130 e130 => ?_)
              refine ff_iremP hx hb (eX9_putSeconds (51, .irem, 1) (List.mem_of_getElem? (i := 28) rfl)) (by omega) (e130) (by decide) (fun v131 e131 => ?_)
              refine ff_if_ne hx hb (eX9_putSeconds (52, .ifCond .ne 22, 3) (List.mem_of_getElem? (i := 29) rfl)) (tgt := 74) rfl (fun c132 => ?_) (fun c132 => ?_)
              · skip
                have hzf := hzd.trans (zd_end (by omega))
                refine lv_aload_n hx hb (eX9_putSeconds (74, .aload_n 0, 1) (List.mem_of_getElem? (i := 39) rfl)) rfl (lv_at hl 3 rfl) ?_
                refine lv_iload_n hx hb (eX9_putSeconds (75, .iload_n 3, 1) (List.mem_of_getElem? (i := 40) rfl)) rfl (lv_at hl 5 rfl) ?_
                refine lv_iload hx hb (eX9_putSeconds (76, .iload 5, 2) (List.mem_of_getElem? (i := 41) rfl)) (lv_at hl 1 rfl) ?_
                refine tz_rowV (As := [.int na, .int dv]) (st := []) (b := wr) (C := RX9) (Ts := gT) hx hb hml hown h2 (fun _ h => h) (hX9_putPart l D cA ro sz H0 wr na dv (zdN 9 na.toInt) (O ++ dgL (ndN 13 v.toInt) v.toInt) hwr (by omega) (by omega) (by omega) (by have hlO := hlen; have hnl := ndN_le 13 v.toInt; have hz9 := zdN_le 9 na.toInt; simp only [List.length_append, dgL_len]; omega)) ⟨rfl, rfl⟩ ⟨by decide, by decide⟩ ⟨by decide, by decide⟩ (tb_6 30 rfl rfl) (tb_1 6 rfl rfl) (tb_6 61 rfl rfl) (tb_6 28 rfl rfl) (tb_6 29 rfl rfl) (show yX9_putPart.cls ≠ "java/lang/invoke/MethodHandle" ∧ yX9_putPart.cls ≠ "java/lang/invoke/VarHandle" ∧ (parseMethodDescriptor yX9_putPart.desc).map (fun d => d.parameters.length) = some 2 by decide +kernel) zs_blind (zs_ob hh0 hwr (show RTg[8]? = some (0, 8, 0, fsX9) from rfl) (zCX9 hKn.1)) (fun U hU hW => ⟨rfl, by rw [hU]; exact hh0.l0, zKb s U hW.alike hKn, by rw [hU]; exact j117⟩) hh0.2.2.1 hl.1 (Nat.le_of_ble_eq_true rfl) (eX9_putSeconds (78, .invokevirtual 64, 3) (List.mem_of_getElem? (i := 42) rfl)) (fun r133 s133 t133 lo133 g133 f133 l133 => ?_)
                obtain ⟨q133, z133, c133, j133⟩ := f133
                cases q133
                rw [g133] at c133
                have hh133 : zh_ok D cA RTg ro sz H0 t133.heap lo133 := ⟨z133.1, z133.2.1, l133, z133.2.2.2⟩
                have kp133 := kp117.trans (c133.mono (ms' := [(8, 1), (16, 0)]) (by decide))
                refine W.eq (g2 := F0 m 81 ls []) rfl ?_
                refine lv_aload_n hx hb (eX9_putSeconds (81, .aload_n 0, 1) (List.mem_of_getElem? (i := 43) rfl)) rfl (lv_at hl 3 rfl) ?_
                refine ff_bipush hx hb (eX9_putSeconds (82, .bipush 83, 2) (List.mem_of_getElem? (i := 44) rfl)) (by decide) (by decide) (fun v134 e134 => ?_)
                refine tz_rowV (As := [.int v134]) (st := []) (b := wr) (C := RX9) (Ts := gT) hx hb hml hown h2 (fun _ h => h) (hX9_put l D cA ro sz H0 wr v134 (O ++ dgL (ndN 13 v.toInt) v.toInt ++ ptL na.toInt (zdN 9 na.toInt)) hwr (by omega) (by omega) (by have hlO := hlen; have hnl := ndN_le 13 v.toInt; have hz9 := zdN_le 9 na.toInt; have hp9 := ptL_len na.toInt (zdN 9 na.toInt); simp only [List.length_append, dgL_len]; omega)) ⟨rfl, rfl⟩ ⟨by decide, by decide⟩ ⟨by decide, by decide⟩ (tb_5 227 rfl rfl) (tb_1 6 rfl rfl) (tb_5 224 rfl rfl) (tb_5 225 rfl rfl) (tb_5 226 rfl rfl) (show yX9_put.cls ≠ "java/lang/invoke/MethodHandle" ∧ yX9_put.cls ≠ "java/lang/invoke/VarHandle" ∧ (parseMethodDescriptor yX9_put.desc).map (fun d => d.parameters.length) = some 1 by decide +kernel) zs_blind (zs_ob hh133 hwr (show RTg[8]? = some (0, 8, 0, fsX9) from rfl) (zCX9 hKn.1)) (fun U hU hW => ⟨rfl, by rw [hU]; exact hh133.l0, zKb s U hW.alike hKn, by rw [hU]; exact j133⟩) hh133.2.2.1 hl.1 (Nat.le_of_ble_eq_true rfl) (eX9_putSeconds (84, .invokevirtual 19, 3) (List.mem_of_getElem? (i := 45) rfl)) (fun r135 s135 t135 lo135 g135 f135 l135 => ?_)
                obtain ⟨q135, z135, c135, j135⟩ := f135
                cases q135
                rw [g135] at c135
                have hh135 : zh_ok D cA RTg ro sz H0 t135.heap lo135 := ⟨z135.1, z135.2.1, l135, z135.2.2.2⟩
                have kp135 := kp133.trans (c135.mono (ms' := [(8, 1), (16, 0)]) (by decide))
                refine W.eq (g2 := F0 m 87 ls []) rfl ?_
                have hJ9 : jW D cA ro t135.heap wr (O ++ (if 0 < v.toInt ∨ 0 < na.toInt ∨ O.length = 2 then scL v.toInt na.toInt else [])) := by
                  have h9 := j135
                  rw [show v134.toInt = 83 by omega] at h9
                  rw [if_pos (by omega)]
                  unfold scL
                  rw [if_pos (by omega)]
                  simpa only [List.append_assoc] using h9
                exact W.vret hx hb hr (fun t ht hW => ⟨rfl, by rw [ht]; exact hh135.l0, by rw [ht]; exact kp135, by rw [ht]; exact hJ9⟩) hh135.2.2.1 (eX9_putSeconds (87, .return_, 1) (List.mem_of_getElem? (i := 46) rfl))
              · skip
                refine lv_iload hx hb (eX9_putSeconds (55, .iload 5, 2) (List.mem_of_getElem? (i := 30) rfl)) (lv_at hl 1 rfl) ?_
                refine ff_iconst hx hb (eX9_putSeconds (57, .iconst 1, 1) (List.mem_of_getElem? (i := 31) rfl)) (by decide) (by decide) (fun v136 e136 => ?_)
                refine ff_icmp_le hx hb (eX9_putSeconds (58, .if_icmp .le 16, 3) (List.mem_of_getElem? (i := 32) rfl)) (tgt := 74) rfl (fun c137 => (by exfalso; omega)) (fun c137 => ?_)
                refine ff_iinc (k := 1) hx hb (eX9_putSeconds (61, .iinc 5 (-1), 3) (List.mem_of_getElem? (i := 33) rfl)) hl rfl (by decide) (by decide) (by decide) (by omega) (by omega) (fun v138 e138 ls138 hl138 => ?_)
                refine lv_iload hx hb (eX9_putSeconds (64, .iload 6, 2) (List.mem_of_getElem? (i := 34) rfl)) (lv_at hl138 1 rfl) ?_
                refine ff_bipush hx hb (eX9_putSeconds (66, .bipush 10, 2) (List.mem_of_getElem? (i := 35) rfl)) (by decide) (by decide) (fun v139 e139 => ?_)
                refine ff_idivP hx hb (eX9_putSeconds (68, .idiv, 1) (List.mem_of_getElem? (i := 36) rfl)) (by omega) (e139) (by decide) (fun v140 e140 => ?_)
                refine lv_istore hx hb (eX9_putSeconds (69, .istore 6, 2) (List.mem_of_getElem? (i := 37) rfl)) hl138 (by decide) rfl (fun ls141 hl141 => ?_)
                refine lv_goto hx hb (eX9_putSeconds (71, .goto (-24), 3) (List.mem_of_getElem? (i := 38) rfl)) (tgt := 47) rfl ?_
                exact ih v140 v138 ls141 _ hh0 (by omega) (by omega) (by omega) (by omega) (by rw [hzd, zd_go (by omega), show v140.toInt = rv.toInt / 10 by omega]) (lv_sub hl141 [0, 1, 2, 3, 4, 5] rfl)
          exact loop 8 na v121 ls123 _ hh117 (by omega) (by omega) (by omega) (by show _ < (1000000000 : Int); omega) (by rw [show na.toInt = na.toInt by omega]) (lv_sub hl123 [0, 1, 2, 3, 4, 5] rfl)
