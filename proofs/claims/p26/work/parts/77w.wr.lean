set_option maxRecDepth 100000 in
set_option maxHeartbeats 4000000 in
theorem hX9_start (l : Launch) (D : va_G) (cA : Nat → ClassId) (ro : Nat → Option Nat) (sz : Nat) (H0 : Heap) (wr : Nat)  (O : List Int) (hwr : ro wr = some 8)  : Met l yX9_start (gW yX9_start cX9_start 1 none) { frames := 0, cells := 0, slots := 0, locals := 0 } (zs_P D cA ro sz H0 (fun H => jW D cA ro H wr O) [.ref wr]) (zs_app D cA ro sz H0 wr []) 0 0 (zy_fr sz) := by
  refine zy_ofW (cc := cX9_start) (maxL := 1) (ret := none) (by decide +kernel) rfl ?_
  intro p e s m args below meth c s1 B hml hv
  obtain ⟨rfl, hh, hKn, hJ⟩ := hv
  have hx := B.exec
  have hb := B.bytes
  have hr := B.returns
  have hlk := B.notSynchronized
  have hts0 := atoms_spec (ws := gW yX9_start cX9_start 1 none) B.pre
  have h2 : ∀ w ∈ gT, w.before ([.ref wr] : List Value).toArray s = true := fun w hw => hts0 w (List.mem_cons_of_mem _ hw)
  have hown : s.vm.findClass RX9 = some m.cls := findClass_of_methodNamed B.named
  have hl := lv_entry [.ref wr] (n := 1) (Nat.le_of_ble_eq_true rfl)
  rw [lg_entry_eq]
  generalize (lg_sl [.ref wr] ++ List.replicate (1 - (lg_sl [.ref wr]).length) Slot.unset).toArray = ls at hl ⊢
  have hD := zD_all h2 hKn.1
  have hcl8 := fun (idx k : Nat) (t : zt_T) (h : (idx, 8, k) ∈ gfX9) (hk : fsX9[k]? = some t) => zf_clause (ro := ro) (ms := [(8, 1), (16, 0)]) h2 hown hKn.1 gfX9_ok (by decide +kernel) idx 8 k 8 0 fsX9 t h rfl hk
  have kp0 : zc_kept D RTg ro [(8, 1), (16, 0)] s.heap s.heap := zc_kept.refl
  obtain ⟨wb, n, z, f0, r0, f1, hn, hc, hz⟩ := id hJ
  obtain ⟨n9, g9, n1, n2⟩ := zh_fT (k := 1) (t := (0, 0, 120)) hh hwr (show RTg[8]? = some (0, 8, 0, fsX9) from rfl) rfl
  cases f1.symm.trans g9
  dsimp only at n1 n2
  clear g9
  obtain ⟨-, z9, c9, hy9⟩ := zh_arr hh r0 (show RTg[16]? = some (1, 2, 120, [(0, (-128), 127)]) from rfl)
  have hy : ∀ i, i < 120 → zt_ok ro (z i) (0, (-128), 127) := zs_arr (hc.symm.trans c9) hy9
  refine lv_aload_n hx hb (eX9_start (0, .aload_n 0, 1) (List.mem_of_getElem? (i := 0) rfl)) rfl (lv_at hl 0 rfl) ?_
  refine ff_iconst hx hb (eX9_start (1, .iconst 0, 1) (List.mem_of_getElem? (i := 1) rfl)) (by decide) (by decide) (fun v1 e1 => ?_)
  refine tz_put (r := 8) (k := 1) (t := (0, 0, 120)) hx hb hD hh hwr rfl rfl ((hcl8 15 1 (0, 0, 120) (by decide) rfl).2 (by decide)) (tz_i (by omega) (by omega)) (eX9_start (2, .putfield 15, 3) (List.mem_of_getElem? (i := 2) rfl)) (fun H2 lo2 hh2 hf2 hk2 _ hq2 => ?_)
  have mf2_wr_0 := (hk2.1 wr 8 0 8 0 fsX9 hwr rfl (by decide) (by decide)).trans f0
  have mc2_wb := (hk2.2 wb 16 0 2 120 _ r0 rfl (by decide)).trans hc
  have kp2 := kp0.trans (hk2.mono (ms' := [(8, 1), (16, 0)]) (fun x hx => by cases List.mem_singleton.mp hx; decide))
  exact W.vret hx hb hr (fun t ht hW => ⟨rfl, by rw [ht]; exact hh2.l0, by rw [ht]; exact kp2, by rw [ht]; exact ⟨wb, _, _, mf2_wr_0, r0, hf2, by show _ = (0 : Int); omega, mc2_wb, fun i hi => absurd hi (Nat.not_lt_zero _)⟩⟩) hh2.2.2.1 (eX9_start (5, .return_, 1) (List.mem_of_getElem? (i := 3) rfl))
set_option maxRecDepth 100000 in
set_option maxHeartbeats 4000000 in
theorem hX9_put (l : Launch) (D : va_G) (cA : Nat → ClassId) (ro : Nat → Option Nat) (sz : Nat) (H0 : Heap) (wr : Nat) (v : Int32) (O : List Int) (hwr : ro wr = some 8) (hv1 : 0 ≤ v.toInt) (hv2 : v.toInt ≤ 127) (hlen : O.length < 120) : Met l yX9_put (gW yX9_put cX9_put 2 none) { frames := 0, cells := 0, slots := 0, locals := 0 } (zs_P D cA ro sz H0 (fun H => jW D cA ro H wr O) [.ref wr, .int v]) (zs_app D cA ro sz H0 wr (O ++ [v.toInt])) 0 0 (zy_fr sz) := by
  refine zy_ofW (cc := cX9_put) (maxL := 2) (ret := none) (by decide +kernel) rfl ?_
  intro p e s m args below meth c s1 B hml hv
  obtain ⟨rfl, hh, hKn, hJ⟩ := hv
  have hx := B.exec
  have hb := B.bytes
  have hr := B.returns
  have hlk := B.notSynchronized
  have hts0 := atoms_spec (ws := gW yX9_put cX9_put 2 none) B.pre
  have h2 : ∀ w ∈ gT, w.before ([.ref wr, .int v] : List Value).toArray s = true := fun w hw => hts0 w (List.mem_cons_of_mem _ hw)
  have hown : s.vm.findClass RX9 = some m.cls := findClass_of_methodNamed B.named
  have hl := lv_entry [.ref wr, .int v] (n := 2) (Nat.le_of_ble_eq_true rfl)
  rw [lg_entry_eq]
  generalize (lg_sl [.ref wr, .int v] ++ List.replicate (2 - (lg_sl [.ref wr, .int v]).length) Slot.unset).toArray = ls at hl ⊢
  have b_v := zn_i32 v
  have hD := zD_all h2 hKn.1
  have hcl8 := fun (idx k : Nat) (t : zt_T) (h : (idx, 8, k) ∈ gfX9) (hk : fsX9[k]? = some t) => zf_clause (ro := ro) (ms := [(8, 1), (16, 0)]) h2 hown hKn.1 gfX9_ok (by decide +kernel) idx 8 k 8 0 fsX9 t h rfl hk
  have kp0 : zc_kept D RTg ro [(8, 1), (16, 0)] s.heap s.heap := zc_kept.refl
  obtain ⟨wb, n, z, f0, r0, f1, hn, hc, hz⟩ := id hJ
  obtain ⟨n9, g9, n1, n2⟩ := zh_fT (k := 1) (t := (0, 0, 120)) hh hwr (show RTg[8]? = some (0, 8, 0, fsX9) from rfl) rfl
  cases f1.symm.trans g9
  dsimp only at n1 n2
  clear g9
  obtain ⟨-, z9, c9, hy9⟩ := zh_arr hh r0 (show RTg[16]? = some (1, 2, 120, [(0, (-128), 127)]) from rfl)
  have hy : ∀ i, i < 120 → zt_ok ro (z i) (0, (-128), 127) := zs_arr (hc.symm.trans c9) hy9
  refine lv_aload_n hx hb (eX9_put (0, .aload_n 0, 1) (List.mem_of_getElem? (i := 0) rfl)) rfl (lv_at hl 0 rfl) ?_
  refine tz_get (r := 8) (k := 1) (t := (0, 0, 120)) hx hb hh hwr rfl rfl (hcl8 15 1 (0, 0, 120) (by decide) rfl).1 f1 (eX9_put (1, .getfield 15, 3) (List.mem_of_getElem? (i := 1) rfl)) ?_
  refine ff_if_lt hx hb (eX9_put (4, .ifCond .lt 36, 3) (List.mem_of_getElem? (i := 2) rfl)) (tgt := 40) rfl (fun c1 => (by exfalso; omega)) (fun c1 => ?_)
  refine lv_aload_n hx hb (eX9_put (7, .aload_n 0, 1) (List.mem_of_getElem? (i := 3) rfl)) rfl (lv_at hl 0 rfl) ?_
  refine tz_get (r := 8) (k := 1) (t := (0, 0, 120)) hx hb hh hwr rfl rfl (hcl8 15 1 (0, 0, 120) (by decide) rfl).1 f1 (eX9_put (8, .getfield 15, 3) (List.mem_of_getElem? (i := 4) rfl)) ?_
  refine lv_aload_n hx hb (eX9_put (11, .aload_n 0, 1) (List.mem_of_getElem? (i := 5) rfl)) rfl (lv_at hl 0 rfl) ?_
  refine tz_get (r := 8) (k := 0) (t := (36, 0, 0)) hx hb hh hwr rfl rfl (hcl8 9 0 (36, 0, 0) (by decide) rfl).1 f0 (eX9_put (12, .getfield 9, 3) (List.mem_of_getElem? (i := 6) rfl)) ?_
  refine tz_alen (ty := .byte) hx hb (zAr hKn.1 2 (by decide)) hh r0 (show RTg[16]? = some (1, 2, 120, [(0, (-128), 127)]) from rfl) (by decide) (eX9_put (15, .arraylength, 1) (List.mem_of_getElem? (i := 7) rfl)) (fun v2 e2 => ?_)
  refine ff_icmp_ge hx hb (eX9_put (16, .if_icmp .ge 24, 3) (List.mem_of_getElem? (i := 8) rfl)) (tgt := 40) rfl (fun c3 => (by exfalso; omega)) (fun c3 => ?_)
  refine lv_aload_n hx hb (eX9_put (19, .aload_n 0, 1) (List.mem_of_getElem? (i := 9) rfl)) rfl (lv_at hl 0 rfl) ?_
  refine tz_get (r := 8) (k := 0) (t := (36, 0, 0)) hx hb hh hwr rfl rfl (hcl8 9 0 (36, 0, 0) (by decide) rfl).1 f0 (eX9_put (20, .getfield 9, 3) (List.mem_of_getElem? (i := 10) rfl)) ?_
  refine lv_aload_n hx hb (eX9_put (23, .aload_n 0, 1) (List.mem_of_getElem? (i := 11) rfl)) rfl (lv_at hl 0 rfl) ?_
  refine tz_get (r := 8) (k := 1) (t := (0, 0, 120)) hx hb hh hwr rfl rfl (hcl8 15 1 (0, 0, 120) (by decide) rfl).1 f1 (eX9_put (24, .getfield 15, 3) (List.mem_of_getElem? (i := 12) rfl)) ?_
  refine lv_iload_n hx hb (eX9_put (27, .iload_n 1, 1) (List.mem_of_getElem? (i := 13) rfl)) rfl (lv_at hl 1 rfl) ?_
  refine ff_i2b hx hb (by omega) (by omega) (eX9_put (28, .i2b, 1) (List.mem_of_getElem? (i := 14) rfl)) (fun v4 e4 => ?_)
  have hzz := jY_app (d := v4) (c := v.toInt) hz (by omega)
  rw [← show n.toNatClampNeg = O.length by show n.toInt.toNat = O.length; omega] at hzz
  refine tz_bast hx hb (zAr hKn.1 2 (by decide)) hh r0 (show RTg[16]? = some (1, 2, 120, [(0, (-128), 127)]) from rfl) hc hy (by omega) (by omega) (by omega) (by omega) (eX9_put (29, .bastore, 1) (List.mem_of_getElem? (i := 15) rfl)) (fun H5 lo5 hh5 hc5 hk5 hq5 _ => ?_)
  have mf5_wr_0 := (hk5.1 wr 8 0 8 0 fsX9 hwr rfl (by decide) (by decide)).trans f0
  have mf5_wr_1 := (hk5.1 wr 8 1 8 0 fsX9 hwr rfl (by decide) (by decide)).trans f1
  have kp5 := kp0.trans (hk5.mono (ms' := [(8, 1), (16, 0)]) (fun x hx => by cases List.mem_singleton.mp hx; decide))
  have hy5 := tz_upd (j := n.toNatClampNeg) hy (x := .int v4) (show zt_ok ro (.int v4) (0, (-128), 127) from tz_i (by omega) (by omega))
  refine lv_aload_n hx hb (eX9_put (30, .aload_n 0, 1) (List.mem_of_getElem? (i := 16) rfl)) rfl (lv_at hl 0 rfl) ?_
  refine lv_dup hx hb (eX9_put (31, .dup, 1) (List.mem_of_getElem? (i := 17) rfl)) rfl ?_
  refine tz_get (r := 8) (k := 1) (t := (0, 0, 120)) hx hb hh5 hwr rfl rfl (hcl8 15 1 (0, 0, 120) (by decide) rfl).1 mf5_wr_1 (eX9_put (32, .getfield 15, 3) (List.mem_of_getElem? (i := 18) rfl)) ?_
  refine ff_iconst hx hb (eX9_put (35, .iconst 1, 1) (List.mem_of_getElem? (i := 19) rfl)) (by decide) (by decide) (fun v6 e6 => ?_)
  refine ff_iadd hx hb (eX9_put (36, .iadd, 1) (List.mem_of_getElem? (i := 20) rfl)) (by omega) (by omega) (fun v7 e7 => ?_)
  refine tz_put (r := 8) (k := 1) (t := (0, 0, 120)) hx hb hD hh5 hwr rfl rfl ((hcl8 15 1 (0, 0, 120) (by decide) rfl).2 (by decide)) (tz_i (by omega) (by omega)) (eX9_put (37, .putfield 15, 3) (List.mem_of_getElem? (i := 21) rfl)) (fun H8 lo8 hh8 hf8 hk8 _ hq8 => ?_)
  have mf8_wr_0 := (hk8.1 wr 8 0 8 0 fsX9 hwr rfl (by decide) (by decide)).trans mf5_wr_0
  have mc8_wb := (hk8.2 wb 16 0 2 120 _ r0 rfl (by decide)).trans hc5
  have kp8 := kp5.trans (hk8.mono (ms' := [(8, 1), (16, 0)]) (fun x hx => by cases List.mem_singleton.mp hx; decide))
  exact W.vret hx hb hr (fun t ht hW => ⟨rfl, by rw [ht]; exact hh8.l0, by rw [ht]; exact kp8, by rw [ht]; exact ⟨wb, _, _, mf8_wr_0, r0, hf8, by rw [List.length_append]; show _ = ((O.length + 1 : Nat) : Int); omega, mc8_wb, hzz⟩⟩) hh8.2.2.1 (eX9_put (40, .return_, 1) (List.mem_of_getElem? (i := 22) rfl))
set_option maxRecDepth 100000 in
set_option maxHeartbeats 4000000 in
theorem hX9_putDash (l : Launch) (D : va_G) (cA : Nat → ClassId) (ro : Nat → Option Nat) (sz : Nat) (H0 : Heap) (wr : Nat) (v : Int32) (O : List Int) (hwr : ro wr = some 8) (hlen : O.length < 120) : Met l yX9_putDash (gW yX9_putDash cX9_putDash 2 none) { frames := 1, cells := 0, slots := 0, locals := 21 } (zs_P D cA ro sz H0 (fun H => jW D cA ro H wr O) [.ref wr, .int v]) (zs_app D cA ro sz H0 wr (O ++ dsL v.toInt)) 0 0 (zy_fr sz) := by
  refine zy_ofW (cc := cX9_putDash) (maxL := 2) (ret := none) (by decide +kernel) rfl ?_
  intro p e s m args below meth c s1 B hml hv
  obtain ⟨rfl, hh, hKn, hJ⟩ := hv
  have hx := B.exec
  have hb := B.bytes
  have hr := B.returns
  have hlk := B.notSynchronized
  have hts0 := atoms_spec (ws := gW yX9_putDash cX9_putDash 2 none) B.pre
  have h2 : ∀ w ∈ gT, w.before ([.ref wr, .int v] : List Value).toArray s = true := fun w hw => hts0 w (List.mem_cons_of_mem _ hw)
  have hown : s.vm.findClass RX9 = some m.cls := findClass_of_methodNamed B.named
  have hl := lv_entry [.ref wr, .int v] (n := 2) (Nat.le_of_ble_eq_true rfl)
  rw [lg_entry_eq]
  generalize (lg_sl [.ref wr, .int v] ++ List.replicate (2 - (lg_sl [.ref wr, .int v]).length) Slot.unset).toArray = ls at hl ⊢
  have b_v := zn_i32 v
  have hD := zD_all h2 hKn.1
  have hcl8 := fun (idx k : Nat) (t : zt_T) (h : (idx, 8, k) ∈ gfX9) (hk : fsX9[k]? = some t) => zf_clause (ro := ro) (ms := [(8, 1), (16, 0)]) h2 hown hKn.1 gfX9_ok (by decide +kernel) idx 8 k 8 0 fsX9 t h rfl hk
  have kp0 : zc_kept D RTg ro [(8, 1), (16, 0)] s.heap s.heap := zc_kept.refl
  obtain ⟨wb, n, z, f0, r0, f1, hn, hc, hz⟩ := id hJ
  obtain ⟨n9, g9, n1, n2⟩ := zh_fT (k := 1) (t := (0, 0, 120)) hh hwr (show RTg[8]? = some (0, 8, 0, fsX9) from rfl) rfl
  cases f1.symm.trans g9
  dsimp only at n1 n2
  clear g9
  obtain ⟨-, z9, c9, hy9⟩ := zh_arr hh r0 (show RTg[16]? = some (1, 2, 120, [(0, (-128), 127)]) from rfl)
  have hy : ∀ i, i < 120 → zt_ok ro (z i) (0, (-128), 127) := zs_arr (hc.symm.trans c9) hy9
  refine lv_iload_n hx hb (eX9_putDash (0, .iload_n 1, 1) (List.mem_of_getElem? (i := 0) rfl)) rfl (lv_at hl 1 rfl) ?_
  refine ff_if_eq hx hb (eX9_putDash (1, .ifCond .eq 9, 3) (List.mem_of_getElem? (i := 1) rfl)) (tgt := 10) rfl (fun c1 => ?_) (fun c1 => ?_)
  · skip
    have hJ9 : jW D cA ro s.heap wr (O ++ dsL v.toInt) := by
      have h9 := hJ
      unfold dsL
      rw [if_pos (by omega), List.append_nil]
      exact h9
    exact W.vret hx hb hr (fun t ht hW => ⟨rfl, by rw [ht]; exact hh.l0, by rw [ht]; exact kp0, by rw [ht]; exact hJ9⟩) hh.2.2.1 (eX9_putDash (10, .return_, 1) (List.mem_of_getElem? (i := 5) rfl))
  · skip
    refine lv_aload_n hx hb (eX9_putDash (4, .aload_n 0, 1) (List.mem_of_getElem? (i := 2) rfl)) rfl (lv_at hl 0 rfl) ?_
    refine ff_bipush hx hb (eX9_putDash (5, .bipush 45, 2) (List.mem_of_getElem? (i := 3) rfl)) (by decide) (by decide) (fun v2 e2 => ?_)
    refine tz_rowV (As := [.int v2]) (st := []) (b := wr) (C := RX9) (Ts := gT) hx hb hml hown h2 (fun _ h => h) (hX9_put l D cA ro sz H0 wr v2 (O) hwr (by omega) (by omega) (by have hlO := hlen; (try simp only [List.length_append, dgL_len, List.length_cons, List.length_nil]); omega)) ⟨rfl, rfl⟩ ⟨by decide, by decide⟩ ⟨by decide, by decide⟩ (tb_5 227 rfl rfl) (tb_1 6 rfl rfl) (tb_5 224 rfl rfl) (tb_5 225 rfl rfl) (tb_5 226 rfl rfl) (show yX9_put.cls ≠ "java/lang/invoke/MethodHandle" ∧ yX9_put.cls ≠ "java/lang/invoke/VarHandle" ∧ (parseMethodDescriptor yX9_put.desc).map (fun d => d.parameters.length) = some 1 by decide +kernel) zs_blind (zs_ob hh hwr (show RTg[8]? = some (0, 8, 0, fsX9) from rfl) (zCX9 hKn.1)) (fun U hU hW => ⟨rfl, by rw [hU]; exact hh.l0, zKb s U hW.alike hKn, by rw [hU]; exact hJ⟩) hh.2.2.1 hl.1 (Nat.le_of_ble_eq_true rfl) (eX9_putDash (7, .invokevirtual 19, 3) (List.mem_of_getElem? (i := 4) rfl)) (fun r3 s3 t3 lo3 g3 f3 l3 => ?_)
    obtain ⟨q3, z3, c3, j3⟩ := f3
    cases q3
    rw [g3] at c3
    have hh3 : zh_ok D cA RTg ro sz H0 t3.heap lo3 := ⟨z3.1, z3.2.1, l3, z3.2.2.2⟩
    have kp3 := kp0.trans (c3.mono (ms' := [(8, 1), (16, 0)]) (by decide))
    refine W.eq (g2 := F0 m 10 ls []) rfl ?_
    have hJ9 : jW D cA ro t3.heap wr (O ++ dsL v.toInt) := by
      have h9 := j3
      unfold dsL
      rw [if_neg (by omega)]
      rw [show v2.toInt = 45 by omega] at h9
      exact h9
    exact W.vret hx hb hr (fun t ht hW => ⟨rfl, by rw [ht]; exact hh3.l0, by rw [ht]; exact kp3, by rw [ht]; exact hJ9⟩) hh3.2.2.1 (eX9_putDash (10, .return_, 1) (List.mem_of_getElem? (i := 5) rfl))
set_option maxRecDepth 100000 in
set_option maxHeartbeats 4000000 in
theorem hX9_putDigits (l : Launch) (D : va_G) (cA : Nat → ClassId) (ro : Nat → Option Nat) (sz : Nat) (H0 : Heap) (wr : Nat) (value : Int64) (dn : Int32) (N : Nat) (O : List Int) (hwr : ro wr = some 8) (hN : dn.toInt = (N : Int)) (hv0 : 0 ≤ value.toInt) (hlen : O.length + N ≤ 120) : Met l yX9_putDigits (gW yX9_putDigits cX9_putDigits 7 none) { frames := 0, cells := 0, slots := 0, locals := 0 } (zs_P D cA ro sz H0 (fun H => jW D cA ro H wr O) [.ref wr, .long value, .int dn]) (zs_app D cA ro sz H0 wr (O ++ dgL N value.toInt)) 0 0 (zy_fr sz) := by
  refine zy_ofW (cc := cX9_putDigits) (maxL := 7) (ret := none) (by decide +kernel) rfl ?_
  intro p e s m args below meth c s1 B hml hv
  obtain ⟨rfl, hh, hKn, hJ⟩ := hv
  have hx := B.exec
  have hb := B.bytes
  have hr := B.returns
  have hlk := B.notSynchronized
  have hts0 := atoms_spec (ws := gW yX9_putDigits cX9_putDigits 7 none) B.pre
  have h2 : ∀ w ∈ gT, w.before ([.ref wr, .long value, .int dn] : List Value).toArray s = true := fun w hw => hts0 w (List.mem_cons_of_mem _ hw)
  have hown : s.vm.findClass RX9 = some m.cls := findClass_of_methodNamed B.named
  have hl := lv_entry [.ref wr, .long value, .int dn] (n := 7) (Nat.le_of_ble_eq_true rfl)
  rw [lg_entry_eq]
  generalize (lg_sl [.ref wr, .long value, .int dn] ++ List.replicate (7 - (lg_sl [.ref wr, .long value, .int dn]).length) Slot.unset).toArray = ls at hl ⊢
  have b_value := zn_i64 value
  have b_dn := zn_i32 dn
  have hD := zD_all h2 hKn.1
  have hcl8 := fun (idx k : Nat) (t : zt_T) (h : (idx, 8, k) ∈ gfX9) (hk : fsX9[k]? = some t) => zf_clause (ro := ro) (ms := [(8, 1), (16, 0)]) h2 hown hKn.1 gfX9_ok (by decide +kernel) idx 8 k 8 0 fsX9 t h rfl hk
  have kp0 : zc_kept D RTg ro [(8, 1), (16, 0)] s.heap s.heap := zc_kept.refl
  obtain ⟨wb, n, z, f0, r0, f1, hn, hc, hz⟩ := id hJ
  obtain ⟨n9, g9, n1, n2⟩ := zh_fT (k := 1) (t := (0, 0, 120)) hh hwr (show RTg[8]? = some (0, 8, 0, fsX9) from rfl) rfl
  cases f1.symm.trans g9
  dsimp only at n1 n2
  clear g9
  obtain ⟨-, z9, c9, hy9⟩ := zh_arr hh r0 (show RTg[16]? = some (1, 2, 120, [(0, (-128), 127)]) from rfl)
  have hy : ∀ i, i < 120 → zt_ok ro (z i) (0, (-128), 127) := zs_arr (hc.symm.trans c9) hy9
  refine lv_aload_n hx hb (eX9_putDigits (0, .aload_n 0, 1) (List.mem_of_getElem? (i := 0) rfl)) rfl (lv_at hl 0 rfl) ?_
  refine tz_get (r := 8) (k := 1) (t := (0, 0, 120)) hx hb hh hwr rfl rfl (hcl8 15 1 (0, 0, 120) (by decide) rfl).1 f1 (eX9_putDigits (1, .getfield 15, 3) (List.mem_of_getElem? (i := 1) rfl)) ?_
  refine ff_if_lt hx hb (eX9_putDigits (4, .ifCond .lt 21, 3) (List.mem_of_getElem? (i := 2) rfl)) (tgt := 25) rfl (fun c1 => (by exfalso; omega)) (fun c1 => ?_)
  refine lv_iload_n hx hb (eX9_putDigits (7, .iload_n 3, 1) (List.mem_of_getElem? (i := 3) rfl)) rfl (lv_at hl 2 rfl) ?_
  refine ff_if_lt hx hb (eX9_putDigits (8, .ifCond .lt 17, 3) (List.mem_of_getElem? (i := 4) rfl)) (tgt := 25) rfl (fun c2 => (by exfalso; omega)) (fun c2 => ?_)
  refine lv_iload_n hx hb (eX9_putDigits (11, .iload_n 3, 1) (List.mem_of_getElem? (i := 5) rfl)) rfl (lv_at hl 2 rfl) ?_
  refine lv_aload_n hx hb (eX9_putDigits (12, .aload_n 0, 1) (List.mem_of_getElem? (i := 6) rfl)) rfl (lv_at hl 0 rfl) ?_
  refine tz_get (r := 8) (k := 0) (t := (36, 0, 0)) hx hb hh hwr rfl rfl (hcl8 9 0 (36, 0, 0) (by decide) rfl).1 f0 (eX9_putDigits (13, .getfield 9, 3) (List.mem_of_getElem? (i := 7) rfl)) ?_
  refine tz_alen (ty := .byte) hx hb (zAr hKn.1 2 (by decide)) hh r0 (show RTg[16]? = some (1, 2, 120, [(0, (-128), 127)]) from rfl) (by decide) (eX9_putDigits (16, .arraylength, 1) (List.mem_of_getElem? (i := 8) rfl)) (fun v3 e3 => ?_)
  refine lv_aload_n hx hb (eX9_putDigits (17, .aload_n 0, 1) (List.mem_of_getElem? (i := 9) rfl)) rfl (lv_at hl 0 rfl) ?_
  refine tz_get (r := 8) (k := 1) (t := (0, 0, 120)) hx hb hh hwr rfl rfl (hcl8 15 1 (0, 0, 120) (by decide) rfl).1 f1 (eX9_putDigits (18, .getfield 15, 3) (List.mem_of_getElem? (i := 10) rfl)) ?_
  refine ff_isub hx hb (eX9_putDigits (21, .isub, 1) (List.mem_of_getElem? (i := 11) rfl)) (by omega) (by omega) (fun v4 e4 => ?_)
  refine ff_icmp_le hx hb (eX9_putDigits (22, .if_icmp .le 4, 3) (List.mem_of_getElem? (i := 12) rfl)) (tgt := 26) rfl (fun c5 => ?_) (fun c5 => (by exfalso; omega))
  refine lv_lload_n hx hb (eX9_putDigits (26, .lload_n 1, 1) (List.mem_of_getElem? (i := 14) rfl)) rfl (lv_at hl 1 rfl) ?_
  refine lv_lstore hx hb (eX9_putDigits (27, .lstore 4, 2) (List.mem_of_getElem? (i := 15) rfl)) hl (by decide) rfl (fun ls6 hl6 => ?_)
  refine lv_aload_n hx hb (eX9_putDigits (29, .aload_n 0, 1) (List.mem_of_getElem? (i := 16) rfl)) rfl (lv_at hl6 1 rfl) ?_
  refine tz_get (r := 8) (k := 1) (t := (0, 0, 120)) hx hb hh hwr rfl rfl (hcl8 15 1 (0, 0, 120) (by decide) rfl).1 f1 (eX9_putDigits (30, .getfield 15, 3) (List.mem_of_getElem? (i := 17) rfl)) ?_
  refine lv_iload_n hx hb (eX9_putDigits (33, .iload_n 3, 1) (List.mem_of_getElem? (i := 18) rfl)) rfl (lv_at hl6 3 rfl) ?_
  refine ff_iadd hx hb (eX9_putDigits (34, .iadd, 1) (List.mem_of_getElem? (i := 19) rfl)) (by omega) (by omega) (fun v7 e7 => ?_)
  refine ff_iconst hx hb (eX9_putDigits (35, .iconst 1, 1) (List.mem_of_getElem? (i := 20) rfl)) (by decide) (by decide) (fun v8 e8 => ?_)
  refine ff_isub hx hb (eX9_putDigits (36, .isub, 1) (List.mem_of_getElem? (i := 21) rfl)) (by omega) (by omega) (fun v9 e9 => ?_)
  refine lv_istore hx hb (eX9_putDigits (37, .istore 6, 2) (List.mem_of_getElem? (i := 22) rfl)) hl6 (by decide) rfl (fun ls10 hl10 => ?_)
  have loop : ∀ (m0 m9 : Nat) (iv : Int32) (rv : Int64) (ls : Array Slot) (H : Heap) (lo0 : List Loc) (zz : Nat → Value), m9 + m0 = N → iv.toInt = (O.length : Int) + m0 - 1 → rv.toInt = dvN m9 value.toInt → zh_ok D cA RTg ro sz H0 H lo0 → zc_kept D RTg ro [(8, 1), (16, 0)] s.heap H → zh_f D H wr 8 0 = .ref wb → zh_f D H wr 8 1 = .int n → H[wb]? = some (arrV (cA 2) 120 zz) → (∀ i, i < 120 → zt_ok ro (zz i) (0, (-128), 127)) → jY O zz → (∀ t : Nat, t < m9 → ∃ v : Int32, zz (O.length + m0 + t) = .int v ∧ (dgL m9 value.toInt)[t]? = some v.toInt) → lv_has ls 7 [(6, .int iv), (4, .long rv), (0, .ref wr), (1, .long value), (3, .int dn)] → W p l e (headSpec (gW yX9_putDigits cX9_putDigits 7 none) { frames := 0, cells := 0, slots := 0, locals := 0 }).room s m ([.ref wr, .long value, .int dn] : List Value).toArray below meth c H lo0 0 0 (MQ below (zs_app D cA ro sz H0 wr (O ++ dgL N value.toInt)) ([.ref wr, .long value, .int dn] : List Value).toArray s 0 0 (zy_fr sz)) (F0 m 39 ls []) := by
    intro m0
    induction m0 with
    | zero =>
      intro m9 iv rv ls H lo0 zz hm hiv hrv hh0 kpl fl0 fl1 hcl hyl hjy hdg hl
      have hrv0 : 0 ≤ rv.toInt := by rw [hrv]; unfold dvN; exact Int.ediv_nonneg (by omega) (Int.pow_nonneg (by decide))
      refine lv_iload hx hb (eX9_putDigits (39, .iload 6, 2) (List.mem_of_getElem? (i := 23) rfl)) (lv_at hl 0 rfl) ?_
      refine lv_aload_n hx hb (eX9_putDigits (41, .aload_n 0, 1) (List.mem_of_getElem? (i := 24) rfl)) rfl (lv_at hl 2 rfl) ?_
      refine tz_get (r := 8) (k := 1) (t := (0, 0, 120)) hx hb hh0 hwr rfl rfl (hcl8 15 1 (0, 0, 120) (by decide) rfl).1 fl1 (eX9_putDigits (42, .getfield 15, 3) (List.mem_of_getElem? (i := 25) rfl)) ?_
      refine ff_icmp_lt hx hb (eX9_putDigits (45, .if_icmp .lt 36, 3) (List.mem_of_getElem? (i := 26) rfl)) (tgt := 81) rfl (fun c11 => ?_) (fun c11 => (by exfalso; omega))
      refine lv_aload_n hx hb (eX9_putDigits (81, .aload_n 0, 1) (List.mem_of_getElem? (i := 44) rfl)) rfl (lv_at hl 2 rfl) ?_
      refine lv_dup hx hb (eX9_putDigits (82, .dup, 1) (List.mem_of_getElem? (i := 45) rfl)) rfl ?_
      refine tz_get (r := 8) (k := 1) (t := (0, 0, 120)) hx hb hh0 hwr rfl rfl (hcl8 15 1 (0, 0, 120) (by decide) rfl).1 fl1 (eX9_putDigits (83, .getfield 15, 3) (List.mem_of_getElem? (i := 46) rfl)) ?_
      refine lv_iload_n hx hb (eX9_putDigits (86, .iload_n 3, 1) (List.mem_of_getElem? (i := 47) rfl)) rfl (lv_at hl 4 rfl) ?_
      refine ff_iadd hx hb (eX9_putDigits (87, .iadd, 1) (List.mem_of_getElem? (i := 48) rfl)) (by omega) (by omega) (fun v12 e12 => ?_)
      refine tz_put (r := 8) (k := 1) (t := (0, 0, 120)) hx hb hD hh0 hwr rfl rfl ((hcl8 15 1 (0, 0, 120) (by decide) rfl).2 (by decide)) (tz_i (by omega) (by omega)) (eX9_putDigits (88, .putfield 15, 3) (List.mem_of_getElem? (i := 49) rfl)) (fun H13 lo13 hh13 hf13 hk13 _ hq13 => ?_)
      have mf13_wr_0 := (hk13.1 wr 8 0 8 0 fsX9 hwr rfl (by decide) (by decide)).trans fl0
      have mc13_wb := (hk13.2 wb 16 0 2 120 _ r0 rfl (by decide)).trans hcl
      have kp13 := kpl.trans (hk13.mono (ms' := [(8, 1), (16, 0)]) (fun x hx => by cases List.mem_singleton.mp hx; decide))
      have hfin := jY_dig (B := dgL N value.toInt) hjy (fun t ht => by rw [dgL_len] at ht; have g := hdg t (by omega); rw [Nat.add_zero, show m9 = N by omega] at g; exact g)
      exact W.vret hx hb hr (fun t ht hW => ⟨rfl, by rw [ht]; exact hh13.l0, by rw [ht]; exact kp13, by rw [ht]; exact ⟨wb, _, _, mf13_wr_0, r0, hf13, by rw [List.length_append, dgL_len]; show _ = ((O.length + N : Nat) : Int); omega, mc13_wb, hfin⟩⟩) hh13.2.2.1 (eX9_putDigits (91, .return_, 1) (List.mem_of_getElem? (i := 50) rfl))
    | succ m0 ih =>
      intro m9 iv rv ls H lo0 zz hm hiv hrv hh0 kpl fl0 fl1 hcl hyl hjy hdg hl
      have hrv0 : 0 ≤ rv.toInt := by rw [hrv]; unfold dvN; exact Int.ediv_nonneg (by omega) (Int.pow_nonneg (by decide))
      refine lv_iload hx hb (eX9_putDigits (39, .iload 6, 2) (List.mem_of_getElem? (i := 23) rfl)) (lv_at hl 0 rfl) ?_
      refine lv_aload_n hx hb (eX9_putDigits (41, .aload_n 0, 1) (List.mem_of_getElem? (i := 24) rfl)) rfl (lv_at hl 2 rfl) ?_
      refine tz_get (r := 8) (k := 1) (t := (0, 0, 120)) hx hb hh0 hwr rfl rfl (hcl8 15 1 (0, 0, 120) (by decide) rfl).1 fl1 (eX9_putDigits (42, .getfield 15, 3) (List.mem_of_getElem? (i := 25) rfl)) ?_
      refine ff_icmp_lt hx hb (eX9_putDigits (45, .if_icmp .lt 36, 3) (List.mem_of_getElem? (i := 26) rfl)) (tgt := 81) rfl (fun c14 => (by exfalso; omega)) (fun c14 => ?_)
      refine lv_aload_n hx hb (eX9_putDigits (48, .aload_n 0, 1) (List.mem_of_getElem? (i := 27) rfl)) rfl (lv_at hl 2 rfl) ?_
      refine tz_get (r := 8) (k := 0) (t := (36, 0, 0)) hx hb hh0 hwr rfl rfl (hcl8 9 0 (36, 0, 0) (by decide) rfl).1 fl0 (eX9_putDigits (49, .getfield 9, 3) (List.mem_of_getElem? (i := 28) rfl)) ?_
      refine lv_iload hx hb (eX9_putDigits (52, .iload 6, 2) (List.mem_of_getElem? (i := 29) rfl)) (lv_at hl 0 rfl) ?_
      refine ff_ldc2 (n := 48) hx hb hown h2 (clX9_ok 23 48 (List.mem_of_getElem? (i := 0) rfl)) (eX9_putDigits (54, .ldc2_w 23, 3) (List.mem_of_getElem? (i := 30) rfl)) (fun v15 e15 => ?_)
      refine lv_lload hx hb (eX9_putDigits (57, .lload 4, 2) (List.mem_of_getElem? (i := 31) rfl)) (lv_at hl 1 rfl) ?_
      refine ff_ldc2 (n := 10) hx hb hown h2 (clX9_ok 25 10 (List.mem_of_getElem? (i := 1) rfl)) (eX9_putDigits (59, .ldc2_w 25, 3) (List.mem_of_getElem? (i := 32) rfl)) (fun v16 e16 => ?_)
      refine ff_lrem hx hb (eX9_putDigits (62, .lrem, 1) (List.mem_of_getElem? (i := 33) rfl)) (e16) (by decide) (fun v17 e17 => ?_)
      refine ff_ladd hx hb (eX9_putDigits (63, .ladd, 1) (List.mem_of_getElem? (i := 34) rfl)) (by omega) (by omega) (fun v18 e18 => ?_)
      refine ff_l2i hx hb (eX9_putDigits (64, .l2i, 1) (List.mem_of_getElem? (i := 35) rfl)) (by omega) (by omega) (fun v19 e19 => ?_)
      refine ff_i2b hx hb (by omega) (by omega) (eX9_putDigits (65, .i2b, 1) (List.mem_of_getElem? (i := 36) rfl)) (fun v20 e20 => ?_)
      refine tz_bast hx hb (zAr hKn.1 2 (by decide)) hh0 r0 (show RTg[16]? = some (1, 2, 120, [(0, (-128), 127)]) from rfl) hcl hyl (by omega) (by omega) (by omega) (by omega) (eX9_putDigits (66, .bastore, 1) (List.mem_of_getElem? (i := 37) rfl)) (fun H21 lo21 hh21 hc21 hk21 hq21 _ => ?_)
      have mf21_wr_0 := (hk21.1 wr 8 0 8 0 fsX9 hwr rfl (by decide) (by decide)).trans fl0
      have mf21_wr_1 := (hk21.1 wr 8 1 8 0 fsX9 hwr rfl (by decide) (by decide)).trans fl1
      have kp21 := kpl.trans (hk21.mono (ms' := [(8, 1), (16, 0)]) (fun x hx => by cases List.mem_singleton.mp hx; decide))
      have hy21 := tz_upd (j := iv.toNatClampNeg) hyl (x := .int v20) (show zt_ok ro (.int v20) (0, (-128), 127) from tz_i (by omega) (by omega))
      refine lv_lload hx hb (eX9_putDigits (67, .lload 4, 2) (List.mem_of_getElem? (i := 38) rfl)) (lv_at hl 1 rfl) ?_
      refine ff_ldc2 (n := 10) hx hb hown h2 (clX9_ok 25 10 (List.mem_of_getElem? (i := 1) rfl)) (eX9_putDigits (69, .ldc2_w 25, 3) (List.mem_of_getElem? (i := 39) rfl)) (fun v22 e22 => ?_)
      refine ff_ldivP hx hb (eX9_putDigits (72, .ldiv, 1) (List.mem_of_getElem? (i := 40) rfl)) (by omega) (e22) (by decide) (fun v23 e23 => ?_)
      refine lv_lstore hx hb (eX9_putDigits (73, .lstore 4, 2) (List.mem_of_getElem? (i := 41) rfl)) hl (by decide) rfl (fun ls24 hl24 => ?_)
      refine ff_iinc (k := 1) hx hb (eX9_putDigits (75, .iinc 6 (-1), 3) (List.mem_of_getElem? (i := 42) rfl)) hl24 rfl (by decide) (by decide) (by decide) (by omega) (by omega) (fun v25 e25 ls25 hl25 => ?_)
      refine lv_goto hx hb (eX9_putDigits (78, .goto (-39), 3) (List.mem_of_getElem? (i := 43) rfl)) (tgt := 39) rfl ?_
      have hst := dg_step (k := O.length + m0) (m := m9) (value := value.toInt) (c := v20) (z := zz) (fun t ht => by have g := hdg t ht; rw [show O.length + (m0 + 1) + t = O.length + m0 + 1 + t by omega] at g; exact g) (by rw [← hrv]; omega)
      have hjz := jY_up (i := O.length + m0) (x := .int v20) hjy (by omega)
      rw [← show iv.toNatClampNeg = O.length + m0 by show iv.toInt.toNat = O.length + m0; omega] at hjz
      have hst2 : ∀ t : Nat, t < m9 + 1 → ∃ v : Int32, updV zz iv.toNatClampNeg (.int v20) (O.length + m0 + t) = .int v ∧ (dgL (m9 + 1) value.toInt)[t]? = some v.toInt := by rw [show iv.toNatClampNeg = O.length + m0 by show iv.toInt.toNat = O.length + m0; omega]; exact hst
      exact ih (m9 + 1) v25 v23 ls25 _ _ _ (by omega) (by omega) (by rw [dvN_succ, ← hrv]; omega) hh21 kp21 mf21_wr_0 mf21_wr_1 hc21 hy21 hjz hst2 (lv_sub hl25 [0, 1, 2, 3, 4] rfl)
  exact loop N 0 v9 value ls10 s.heap _ z (by omega) (by omega) (by rw [dvN_zero]) hh kp0 f0 f1 hc hy hz (fun t ht => absurd ht (Nat.not_lt_zero _)) (lv_sub hl10 [0, 1, 2, 3, 4] rfl)
