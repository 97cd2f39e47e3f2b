set_option maxRecDepth 100000 in
set_option maxHeartbeats 4000000 in
theorem hX12_clear (l : Launch) (D : va_G) (cA : Nat → ClassId) (ro : Nat → Option Nat) (sz : Nat) (H0 : Heap) (a : Nat)  (L : List Int) (zc : Int) (T O : List Int) (ha : ro a = some 11)  : Met l yX12_clear (gW yX12_clear cX12_clear 2 (some .int)) { frames := 0, cells := 0, slots := 0, locals := 0 } (zs_P D cA ro sz H0 (fun H => jRS D cA ro H a L zc ∧ jRK D cA ro H a T O) [.ref a]) (zk_QR D cA ro sz H0 a vI (spC T O)) 0 0 (zy_fr sz) := by
  refine zy_ofW (cc := cX12_clear) (maxL := 2) (ret := (some .int)) (by decide +kernel) rfl ?_
  intro p e s m args below meth c s1 B hml hv
  obtain ⟨rfl, hh, hKn, hJ⟩ := hv
  have hx := B.exec
  have hb := B.bytes
  have hr := B.returns
  have hlk := B.notSynchronized
  have hts0 := atoms_spec (ws := gW yX12_clear cX12_clear 2 (some .int)) B.pre
  have h2 : ∀ w ∈ gT, w.before ([.ref a] : List Value).toArray s = true := fun w hw => hts0 w (List.mem_cons_of_mem _ hw)
  have hown : s.vm.findClass RX12 = some m.cls := findClass_of_methodNamed B.named
  have hl := lv_entry [.ref a] (n := 2) (Nat.le_of_ble_eq_true rfl)
  rw [lg_entry_eq]
  generalize (lg_sl [.ref a] ++ List.replicate (2 - (lg_sl [.ref a]).length) Slot.unset).toArray = ls at hl ⊢
  have hD := zD_all h2 hKn.1
  have hcl11 := fun (idx k : Nat) (t : zt_T) (h : (idx, 11, k) ∈ gfX12) (hk : fsX12[k]? = some t) => zf_clause (ro := ro) (ms := [(11, 0), (11, 13), (30, 0)]) h2 hown hKn.1 gfX12_ok (by decide +kernel) idx 11 k 11 0 fsX12 t h rfl hk
  have kp0 : zc_kept D RTg ro [(11, 0), (11, 13), (30, 0)] s.heap s.heap := zc_kept.refl
  obtain ⟨hjs, hjt, hjo, hkb⟩ := id hJ
  have hkT := hkb.1
  have hkO := hkb.2.1
  obtain ⟨tb, nt, zt, f12, r12, f13, hnt, hct, hzt⟩ := id hjt
  obtain ⟨wb, nw, zw, f14, r14, f15, hnw, hcw, hzw⟩ := id hjo
  obtain ⟨-, z9, c9, hy9⟩ := zh_arr hh r12 (show RTg[30]? = some (1, 2, 120, [(0, (-128), 127)]) from rfl)
  have hyt : ∀ i, i < 120 → zt_ok ro (zt i) (0, (-128), 127) := zs_arr (hct.symm.trans c9) hy9
  refine lv_aload_n hx hb (eX12_clear (0, .aload_n 0, 1) (List.mem_of_getElem? (i := 0) rfl)) rfl (lv_at hl 0 rfl) ?_
  refine ff_iconst hx hb (eX12_clear (1, .iconst 0, 1) (List.mem_of_getElem? (i := 1) rfl)) (by decide) (by decide) (fun v1 e1 => ?_)
  refine tz_put (r := 11) (k := 0) (t := (0, 0, 2)) hx hb hD hh ha rfl rfl ((hcl11 85 0 (0, 0, 2) (by decide) rfl).2 (by decide)) (tz_i (by omega) (by omega)) (eX12_clear (2, .putfield 85, 3) (List.mem_of_getElem? (i := 2) rfl)) (fun H2 lo2 hh2 hf2 hk2 _ hq2 => ?_)
  have mf2_a_12 := (hk2.1 a 11 12 11 0 fsX12 ha rfl (by decide) (by decide)).trans f12
  have mf2_a_13 := (hk2.1 a 11 13 11 0 fsX12 ha rfl (by decide) (by decide)).trans f13
  have mf2_a_14 := (hk2.1 a 11 14 11 0 fsX12 ha rfl (by decide) (by decide)).trans f14
  have mf2_a_15 := (hk2.1 a 11 15 11 0 fsX12 ha rfl (by decide) (by decide)).trans f15
  have mc2_tb := (hk2.2 tb 30 0 2 120 _ r12 rfl (by decide)).trans hct
  have mc2_wb := (hk2.2 wb 31 0 2 160 _ r14 rfl (by decide)).trans hcw
  have kp2 := kp0.trans (hk2.mono (ms' := [(11, 0), (11, 13), (30, 0)]) (fun x hx => by cases List.mem_singleton.mp hx; decide))
  refine lv_aload_n hx hb (eX12_clear (5, .aload_n 0, 1) (List.mem_of_getElem? (i := 3) rfl)) rfl (lv_at hl 0 rfl) ?_
  refine tz_get (r := 11) (k := 13) (t := (0, 0, 120)) hx hb hh2 ha rfl rfl (hcl11 302 13 (0, 0, 120) (by decide) rfl).1 mf2_a_13 (eX12_clear (6, .getfield 302, 3) (List.mem_of_getElem? (i := 4) rfl)) ?_
  refine lv_istore_n hx hb (eX12_clear (9, .istore_n 1, 1) (List.mem_of_getElem? (i := 5) rfl)) rfl hl (by decide) rfl (fun ls3 hl3 => ?_)
  refine lv_aload_n hx hb (eX12_clear (10, .aload_n 0, 1) (List.mem_of_getElem? (i := 6) rfl)) rfl (lv_at hl3 1 rfl) ?_
  refine ff_iconst hx hb (eX12_clear (11, .iconst 0, 1) (List.mem_of_getElem? (i := 7) rfl)) (by decide) (by decide) (fun v4 e4 => ?_)
  refine tz_put (r := 11) (k := 13) (t := (0, 0, 120)) hx hb hD hh2 ha rfl rfl ((hcl11 302 13 (0, 0, 120) (by decide) rfl).2 (by decide)) (tz_i (by omega) (by omega)) (eX12_clear (12, .putfield 302, 3) (List.mem_of_getElem? (i := 8) rfl)) (fun H5 lo5 hh5 hf5 hk5 _ hq5 => ?_)
  have mf5_a_12 := (hk5.1 a 11 12 11 0 fsX12 ha rfl (by decide) (by decide)).trans mf2_a_12
  have mf5_a_14 := (hk5.1 a 11 14 11 0 fsX12 ha rfl (by decide) (by decide)).trans mf2_a_14
  have mf5_a_15 := (hk5.1 a 11 15 11 0 fsX12 ha rfl (by decide) (by decide)).trans mf2_a_15
  have mf5_a_0 := (hk5.1 a 11 0 11 0 fsX12 ha rfl (by decide) (by decide)).trans hf2
  have mc5_tb := (hk5.2 tb 30 0 2 120 _ r12 rfl (by decide)).trans mc2_tb
  have mc5_wb := (hk5.2 wb 31 0 2 160 _ r14 rfl (by decide)).trans mc2_wb
  have kp5 := kp2.trans (hk5.mono (ms' := [(11, 0), (11, 13), (30, 0)]) (fun x hx => by cases List.mem_singleton.mp hx; decide))
  refine lv_iload_n hx hb (eX12_clear (15, .iload_n 1, 1) (List.mem_of_getElem? (i := 9) rfl)) rfl (lv_at hl3 0 rfl) ?_
  exact W.zret hx hb hr rfl (fun t ht hW => ⟨_, _, _, [], O, rfl, ⟨_, rfl, rfl⟩, by rw [ht]; exact hh5.l0, by rw [ht]; exact kp5.mono (by decide), by rw [ht]; exact mf5_a_0, by rw [ht]; exact ⟨⟨tb, _, _, mf5_a_12, r12, hf5, (by show _ = (0 : Int); omega), mc5_tb, (fun i hi => absurd hi (Nat.not_lt_zero _))⟩, ⟨wb, _, _, mf5_a_14, r14, mf5_a_15, hnw, mc5_wb, hzw⟩, ⟨by decide, hkO, hkb.2.2⟩⟩, by omega, rfl, rfl, hnt⟩) hh5.2.2.1 (eX12_clear (16, .ireturn, 1) (List.mem_of_getElem? (i := 10) rfl))
set_option maxRecDepth 100000 in
set_option maxHeartbeats 4000000 in
theorem hX12_out (l : Launch) (D : va_G) (cA : Nat → ClassId) (ro : Nat → Option Nat) (sz : Nat) (H0 : Heap) (a : Nat) (i0 : Int32) (L : List Int) (zc : Int) (T O : List Int) (ha : ro a = some 11)  : Met l yX12_out (gW yX12_out cX12_out 2 (some .int)) { frames := 1, cells := 0, slots := 0, locals := 25 } (zs_P D cA ro sz H0 (fun H => jRS D cA ro H a L zc ∧ jRK D cA ro H a T O) [.ref a, .int i0]) (zk_QR D cA ro sz H0 a vI (spO i0.toInt T O)) 0 0 (zy_fr sz) := by
  refine zy_ofW (cc := cX12_out) (maxL := 2) (ret := (some .int)) (by decide +kernel) rfl ?_
  intro p e s m args below meth c s1 B hml hv
  obtain ⟨rfl, hh, hKn, hJ⟩ := hv
  have hx := B.exec
  have hb := B.bytes
  have hr := B.returns
  have hlk := B.notSynchronized
  have hts0 := atoms_spec (ws := gW yX12_out cX12_out 2 (some .int)) B.pre
  have h2 : ∀ w ∈ gT, w.before ([.ref a, .int i0] : List Value).toArray s = true := fun w hw => hts0 w (List.mem_cons_of_mem _ hw)
  have hown : s.vm.findClass RX12 = some m.cls := findClass_of_methodNamed B.named
  have hl := lv_entry [.ref a, .int i0] (n := 2) (Nat.le_of_ble_eq_true rfl)
  rw [lg_entry_eq]
  generalize (lg_sl [.ref a, .int i0] ++ List.replicate (2 - (lg_sl [.ref a, .int i0]).length) Slot.unset).toArray = ls at hl ⊢
  have b_i0 := zn_i32 i0
  have hD := zD_all h2 hKn.1
  have hcl11 := fun (idx k : Nat) (t : zt_T) (h : (idx, 11, k) ∈ gfX12) (hk : fsX12[k]? = some t) => zf_clause (ro := ro) (ms := [(11, 0), (11, 13), (30, 0)]) h2 hown hKn.1 gfX12_ok (by decide +kernel) idx 11 k 11 0 fsX12 t h rfl hk
  have kp0 : zc_kept D RTg ro [(11, 0), (11, 13), (30, 0)] s.heap s.heap := zc_kept.refl
  obtain ⟨hjs, hjt, hjo, hkb⟩ := id hJ
  have hkT := hkb.1
  have hkO := hkb.2.1
  obtain ⟨tb, nt, zt, f12, r12, f13, hnt, hct, hzt⟩ := id hjt
  obtain ⟨wb, nw, zw, f14, r14, f15, hnw, hcw, hzw⟩ := id hjo
  obtain ⟨-, z9, c9, hy9⟩ := zh_arr hh r12 (show RTg[30]? = some (1, 2, 120, [(0, (-128), 127)]) from rfl)
  have hyt : ∀ i, i < 120 → zt_ok ro (zt i) (0, (-128), 127) := zs_arr (hct.symm.trans c9) hy9
  refine lv_aload_n hx hb (eX12_out (0, .aload_n 0, 1) (List.mem_of_getElem? (i := 0) rfl)) rfl (lv_at hl 0 rfl) ?_
  refine lv_iload_n hx hb (eX12_out (1, .iload_n 1, 1) (List.mem_of_getElem? (i := 1) rfl)) rfl (lv_at hl 1 rfl) ?_
  refine ff_i2l hx hb (eX12_out (2, .i2l, 1) (List.mem_of_getElem? (i := 2) rfl)) (fun v1 e1 => ?_)
  refine ff_lconst hx hb (eX12_out (3, .lconst 0, 1) (List.mem_of_getElem? (i := 3) rfl)) rfl (fun v2 e2 => ?_)
  refine lv_aload_n hx hb (eX12_out (4, .aload_n 0, 1) (List.mem_of_getElem? (i := 4) rfl)) rfl (lv_at hl 0 rfl) ?_
  refine tz_get (r := 11) (k := 15) (t := (0, 0, 120)) hx hb hh ha rfl rfl (hcl11 447 15 (0, 0, 120) (by decide) rfl).1 f15 (eX12_out (5, .getfield 447, 3) (List.mem_of_getElem? (i := 5) rfl)) ?_
  refine ff_i2l hx hb (eX12_out (8, .i2l, 1) (List.mem_of_getElem? (i := 6) rfl)) (fun v3 e3 => ?_)
  refine ff_lconst hx hb (eX12_out (9, .lconst 1, 1) (List.mem_of_getElem? (i := 7) rfl)) rfl (fun v4 e4 => ?_)
  refine ff_lsub hx hb (eX12_out (10, .lsub, 1) (List.mem_of_getElem? (i := 8) rfl)) (by omega) (by omega) (fun v5 e5 => ?_)
  refine zu_S (vs := [.long v1, .long v2, .long v5]) (rest := [.ref a]) hx hb hml hown hts0 zu_BT (hX12_isIn l v1 v2 v5) ⟨rfl, rfl⟩ ⟨by decide, by decide⟩ ⟨by decide, by decide⟩ (tb_7 47 rfl rfl) (tb_1 12 rfl rfl) (tb_7 45 rfl rfl) (tb_7 46 rfl rfl) (show yX12_isIn.cls ≠ "java/lang/invoke/MethodHandle" ∧ yX12_isIn.cls ≠ "java/lang/invoke/VarHandle" ∧ (parseMethodDescriptor yX12_isIn.desc).map (fun d => d.parameters.length) = some 3 by decide +kernel) rfl (fun _ _ _ => trivial) hl.1 (Nat.le_of_ble_eq_true rfl) (eX12_out (11, .invokestatic 130, 3) (List.mem_of_getElem? (i := 9) rfl)) (fun w6 f6 => ?_)
  obtain ⟨v6, rfl, e6⟩ := f6
  refine ff_if_eq hx hb (eX12_out (14, .ifCond .eq 7, 3) (List.mem_of_getElem? (i := 10) rfl)) (tgt := 21) rfl (fun c7 => ?_) (fun c7 => ?_)
  · skip
    refine ff_iconst hx hb (eX12_out (21, .iconst 1, 1) (List.mem_of_getElem? (i := 13) rfl)) (by decide) (by decide) (fun v8 e8 => ?_)
    refine tz_put (r := 11) (k := 0) (t := (0, 0, 2)) hx hb hD hh ha rfl rfl ((hcl11 85 0 (0, 0, 2) (by decide) rfl).2 (by decide)) (tz_i (by omega) (by omega)) (eX12_out (22, .putfield 85, 3) (List.mem_of_getElem? (i := 14) rfl)) (fun H9 lo9 hh9 hf9 hk9 _ hq9 => ?_)
    have mf9_a_12 := (hk9.1 a 11 12 11 0 fsX12 ha rfl (by decide) (by decide)).trans f12
    have mf9_a_13 := (hk9.1 a 11 13 11 0 fsX12 ha rfl (by decide) (by decide)).trans f13
    have mf9_a_14 := (hk9.1 a 11 14 11 0 fsX12 ha rfl (by decide) (by decide)).trans f14
    have mf9_a_15 := (hk9.1 a 11 15 11 0 fsX12 ha rfl (by decide) (by decide)).trans f15
    have mc9_tb := (hk9.2 tb 30 0 2 120 _ r12 rfl (by decide)).trans hct
    have mc9_wb := (hk9.2 wb 31 0 2 160 _ r14 rfl (by decide)).trans hcw
    have kp9 := kp0.trans (hk9.mono (ms' := [(11, 0), (11, 13), (30, 0)]) (fun x hx => by cases List.mem_singleton.mp hx; decide))
    refine lv_aload_n hx hb (eX12_out (25, .aload_n 0, 1) (List.mem_of_getElem? (i := 15) rfl)) rfl (lv_at hl 0 rfl) ?_
    refine tz_get (r := 11) (k := 0) (t := (0, 0, 2)) hx hb hh9 ha rfl rfl (hcl11 85 0 (0, 0, 2) (by decide) rfl).1 hf9 (eX12_out (26, .getfield 85, 3) (List.mem_of_getElem? (i := 16) rfl)) ?_
    refine ff_if_le hx hb (eX12_out (29, .ifCond .le 7, 3) (List.mem_of_getElem? (i := 17) rfl)) (tgt := 36) rfl (fun c10 => (by exfalso; omega)) (fun c10 => ?_)
    refine ff_iconst hx hb (eX12_out (32, .iconst 0, 1) (List.mem_of_getElem? (i := 18) rfl)) (by decide) (by decide) (fun v11 e11 => ?_)
    refine lv_goto hx hb (eX12_out (33, .goto 9, 3) (List.mem_of_getElem? (i := 19) rfl)) (tgt := 42) rfl ?_
    exact W.zret hx hb hr rfl (fun t ht hW => ⟨_, _, _, T, O, rfl, ⟨_, rfl, rfl⟩, by rw [ht]; exact hh9.l0, by rw [ht]; exact kp9.mono (by decide), by rw [ht]; exact hf9, by rw [ht]; exact ⟨⟨tb, _, _, mf9_a_12, r12, mf9_a_13, hnt, mc9_tb, hzt⟩, ⟨wb, _, _, mf9_a_14, r14, mf9_a_15, hnw, mc9_wb, hzw⟩, hkb⟩, rfl, rfl, Or.inl ⟨by omega, by omega⟩⟩) hh9.2.2.1 (eX12_out (42, .ireturn, 1) (List.mem_of_getElem? (i := 24) rfl))
  · skip
    refine ff_iconst hx hb (eX12_out (17, .iconst 0, 1) (List.mem_of_getElem? (i := 11) rfl)) (by decide) (by decide) (fun v12 e12 => ?_)
    refine lv_goto hx hb (eX12_out (18, .goto 4, 3) (List.mem_of_getElem? (i := 12) rfl)) (tgt := 22) rfl ?_
    refine tz_put (r := 11) (k := 0) (t := (0, 0, 2)) hx hb hD hh ha rfl rfl ((hcl11 85 0 (0, 0, 2) (by decide) rfl).2 (by decide)) (tz_i (by omega) (by omega)) (eX12_out (22, .putfield 85, 3) (List.mem_of_getElem? (i := 14) rfl)) (fun H13 lo13 hh13 hf13 hk13 _ hq13 => ?_)
    have mf13_a_12 := (hk13.1 a 11 12 11 0 fsX12 ha rfl (by decide) (by decide)).trans f12
    have mf13_a_13 := (hk13.1 a 11 13 11 0 fsX12 ha rfl (by decide) (by decide)).trans f13
    have mf13_a_14 := (hk13.1 a 11 14 11 0 fsX12 ha rfl (by decide) (by decide)).trans f14
    have mf13_a_15 := (hk13.1 a 11 15 11 0 fsX12 ha rfl (by decide) (by decide)).trans f15
    have mc13_tb := (hk13.2 tb 30 0 2 120 _ r12 rfl (by decide)).trans hct
    have mc13_wb := (hk13.2 wb 31 0 2 160 _ r14 rfl (by decide)).trans hcw
    have kp13 := kp0.trans (hk13.mono (ms' := [(11, 0), (11, 13), (30, 0)]) (fun x hx => by cases List.mem_singleton.mp hx; decide))
    refine lv_aload_n hx hb (eX12_out (25, .aload_n 0, 1) (List.mem_of_getElem? (i := 15) rfl)) rfl (lv_at hl 0 rfl) ?_
    refine tz_get (r := 11) (k := 0) (t := (0, 0, 2)) hx hb hh13 ha rfl rfl (hcl11 85 0 (0, 0, 2) (by decide) rfl).1 hf13 (eX12_out (26, .getfield 85, 3) (List.mem_of_getElem? (i := 16) rfl)) ?_
    refine ff_if_le hx hb (eX12_out (29, .ifCond .le 7, 3) (List.mem_of_getElem? (i := 17) rfl)) (tgt := 36) rfl (fun c14 => ?_) (fun c14 => (by exfalso; omega))
    refine lv_aload_n hx hb (eX12_out (36, .aload_n 0, 1) (List.mem_of_getElem? (i := 20) rfl)) rfl (lv_at hl 0 rfl) ?_
    refine tz_get (r := 11) (k := 14) (t := (66, 0, 0)) hx hb hh13 ha rfl rfl (hcl11 44 14 (66, 0, 0) (by decide) rfl).1 mf13_a_14 (eX12_out (37, .getfield 44, 3) (List.mem_of_getElem? (i := 21) rfl)) ?_
    refine lv_iload_n hx hb (eX12_out (40, .iload_n 1, 1) (List.mem_of_getElem? (i := 22) rfl)) rfl (lv_at hl 1 rfl) ?_
    refine tz_bald hx hb (zAr hKn.1 2 (by decide)) mc13_wb (by omega) (by omega) (eX12_out (41, .baload, 1) (List.mem_of_getElem? (i := 23) rfl)) ?_
    obtain ⟨v15, hz15, hO15⟩ := hzw i0.toInt.toNat (by omega)
    rw [show i0.toNatClampNeg = i0.toInt.toNat from rfl, hz15]
    exact W.zret hx hb hr rfl (fun t ht hW => ⟨_, _, _, T, O, rfl, ⟨_, rfl, rfl⟩, by rw [ht]; exact hh13.l0, by rw [ht]; exact kp13.mono (by decide), by rw [ht]; exact hf13, by rw [ht]; exact ⟨⟨tb, _, _, mf13_a_12, r12, mf13_a_13, hnt, mc13_tb, hzt⟩, ⟨wb, _, _, mf13_a_14, r14, mf13_a_15, hnw, mc13_wb, hzw⟩, hkb⟩, rfl, rfl, Or.inr ⟨by omega, by omega, by omega, hO15⟩⟩) hh13.2.2.1 (eX12_out (42, .ireturn, 1) (List.mem_of_getElem? (i := 24) rfl))
set_option maxRecDepth 100000 in
set_option maxHeartbeats 4000000 in
theorem hX12_type (l : Launch) (D : va_G) (cA : Nat → ClassId) (ro : Nat → Option Nat) (sz : Nat) (H0 : Heap) (a : Nat) (bs : Int64) (n0 : Int32) (L : List Int) (zc : Int) (T O : List Int) (ha : ro a = some 11)  : Met l yX12_type (gW yX12_type cX12_type 5 (some .int)) { frames := 1, cells := 0, slots := 0, locals := 25 } (zs_P D cA ro sz H0 (fun H => jRS D cA ro H a L zc ∧ jRK D cA ro H a T O) [.ref a, .long bs, .int n0]) (zk_QR D cA ro sz H0 a vI (spT bs n0.toInt T O)) 0 0 (zy_fr sz) := by
  refine zy_ofW (cc := cX12_type) (maxL := 5) (ret := (some .int)) (by decide +kernel) rfl ?_
  intro p e s m args below meth c s1 B hml hv
  obtain ⟨rfl, hh, hKn, hJ⟩ := hv
  have hx := B.exec
  have hb := B.bytes
  have hr := B.returns
  have hlk := B.notSynchronized
  have hts0 := atoms_spec (ws := gW yX12_type cX12_type 5 (some .int)) B.pre
  have h2 : ∀ w ∈ gT, w.before ([.ref a, .long bs, .int n0] : List Value).toArray s = true := fun w hw => hts0 w (List.mem_cons_of_mem _ hw)
  have hown : s.vm.findClass RX12 = some m.cls := findClass_of_methodNamed B.named
  have hl := lv_entry [.ref a, .long bs, .int n0] (n := 5) (Nat.le_of_ble_eq_true rfl)
  rw [lg_entry_eq]
  generalize (lg_sl [.ref a, .long bs, .int n0] ++ List.replicate (5 - (lg_sl [.ref a, .long bs, .int n0]).length) Slot.unset).toArray = ls at hl ⊢
  have b_bs := zn_i64 bs
  have b_n0 := zn_i32 n0
  have hD := zD_all h2 hKn.1
  have hcl11 := fun (idx k : Nat) (t : zt_T) (h : (idx, 11, k) ∈ gfX12) (hk : fsX12[k]? = some t) => zf_clause (ro := ro) (ms := [(11, 0), (11, 13), (30, 0)]) h2 hown hKn.1 gfX12_ok (by decide +kernel) idx 11 k 11 0 fsX12 t h rfl hk
  have kp0 : zc_kept D RTg ro [(11, 0), (11, 13), (30, 0)] s.heap s.heap := zc_kept.refl
  obtain ⟨hjs, hjt, hjo, hkb⟩ := id hJ
  have hkT := hkb.1
  have hkO := hkb.2.1
  obtain ⟨tb, nt, zt, f12, r12, f13, hnt, hct, hzt⟩ := id hjt
  obtain ⟨wb, nw, zw, f14, r14, f15, hnw, hcw, hzw⟩ := id hjo
  obtain ⟨-, z9, c9, hy9⟩ := zh_arr hh r12 (show RTg[30]? = some (1, 2, 120, [(0, (-128), 127)]) from rfl)
  have hyt : ∀ i, i < 120 → zt_ok ro (zt i) (0, (-128), 127) := zs_arr (hct.symm.trans c9) hy9
  refine lv_aload_n hx hb (eX12_type (0, .aload_n 0, 1) (List.mem_of_getElem? (i := 0) rfl)) rfl (lv_at hl 0 rfl) ?_
  refine lv_iload_n hx hb (eX12_type (1, .iload_n 3, 1) (List.mem_of_getElem? (i := 1) rfl)) rfl (lv_at hl 2 rfl) ?_
  refine ff_i2l hx hb (eX12_type (2, .i2l, 1) (List.mem_of_getElem? (i := 2) rfl)) (fun v1 e1 => ?_)
  refine ff_lconst hx hb (eX12_type (3, .lconst 0, 1) (List.mem_of_getElem? (i := 3) rfl)) rfl (fun v2 e2 => ?_)
  refine ff_ldc2 (n := 8) hx hb hown h2 (clX12_ok 445 8 (List.mem_of_getElem? (i := 41) rfl)) (eX12_type (4, .ldc2_w 445, 3) (List.mem_of_getElem? (i := 4) rfl)) (fun v3 e3 => ?_)
  refine zu_S (vs := [.long v1, .long v2, .long v3]) (rest := [.ref a]) hx hb hml hown hts0 zu_BT (hX12_isIn l v1 v2 v3) ⟨rfl, rfl⟩ ⟨by decide, by decide⟩ ⟨by decide, by decide⟩ (tb_7 47 rfl rfl) (tb_1 12 rfl rfl) (tb_7 45 rfl rfl) (tb_7 46 rfl rfl) (show yX12_isIn.cls ≠ "java/lang/invoke/MethodHandle" ∧ yX12_isIn.cls ≠ "java/lang/invoke/VarHandle" ∧ (parseMethodDescriptor yX12_isIn.desc).map (fun d => d.parameters.length) = some 3 by decide +kernel) rfl (fun _ _ _ => trivial) hl.1 (Nat.le_of_ble_eq_true rfl) (eX12_type (7, .invokestatic 130, 3) (List.mem_of_getElem? (i := 5) rfl)) (fun w4 f4 => ?_)
  obtain ⟨v4, rfl, e4⟩ := f4
  refine ff_if_ne hx hb (eX12_type (10, .ifCond .ne 7, 3) (List.mem_of_getElem? (i := 6) rfl)) (tgt := 17) rfl (fun c5 => ?_) (fun c5 => ?_)
  · skip
    refine lv_aload_n hx hb (eX12_type (17, .aload_n 0, 1) (List.mem_of_getElem? (i := 9) rfl)) rfl (lv_at hl 0 rfl) ?_
    refine tz_get (r := 11) (k := 13) (t := (0, 0, 120)) hx hb hh ha rfl rfl (hcl11 302 13 (0, 0, 120) (by decide) rfl).1 f13 (eX12_type (18, .getfield 302, 3) (List.mem_of_getElem? (i := 10) rfl)) ?_
    refine lv_iload_n hx hb (eX12_type (21, .iload_n 3, 1) (List.mem_of_getElem? (i := 11) rfl)) rfl (lv_at hl 2 rfl) ?_
    refine ff_iadd hx hb (eX12_type (22, .iadd, 1) (List.mem_of_getElem? (i := 12) rfl)) (by omega) (by omega) (fun v6 e6 => ?_)
    refine ff_bipush hx hb (eX12_type (23, .bipush 120, 2) (List.mem_of_getElem? (i := 13) rfl)) (by decide) (by decide) (fun v7 e7 => ?_)
    refine ff_icmp_le hx hb (eX12_type (25, .if_icmp .le 7, 3) (List.mem_of_getElem? (i := 14) rfl)) (tgt := 32) rfl (fun c8 => ?_) (fun c8 => ?_)
    · skip
      refine ff_iconst hx hb (eX12_type (32, .iconst 0, 1) (List.mem_of_getElem? (i := 17) rfl)) (by decide) (by decide) (fun v9 e9 => ?_)
      refine tz_put (r := 11) (k := 0) (t := (0, 0, 2)) hx hb hD hh ha rfl rfl ((hcl11 85 0 (0, 0, 2) (by decide) rfl).2 (by decide)) (tz_i (by omega) (by omega)) (eX12_type (33, .putfield 85, 3) (List.mem_of_getElem? (i := 18) rfl)) (fun H10 lo10 hh10 hf10 hk10 _ hq10 => ?_)
      have mf10_a_12 := (hk10.1 a 11 12 11 0 fsX12 ha rfl (by decide) (by decide)).trans f12
      have mf10_a_13 := (hk10.1 a 11 13 11 0 fsX12 ha rfl (by decide) (by decide)).trans f13
      have mf10_a_14 := (hk10.1 a 11 14 11 0 fsX12 ha rfl (by decide) (by decide)).trans f14
      have mf10_a_15 := (hk10.1 a 11 15 11 0 fsX12 ha rfl (by decide) (by decide)).trans f15
      have mc10_tb := (hk10.2 tb 30 0 2 120 _ r12 rfl (by decide)).trans hct
      have mc10_wb := (hk10.2 wb 31 0 2 160 _ r14 rfl (by decide)).trans hcw
      have kp10 := kp0.trans (hk10.mono (ms' := [(11, 0), (11, 13), (30, 0)]) (fun x hx => by cases List.mem_singleton.mp hx; decide))
      refine ff_iconst hx hb (eX12_type (36, .iconst 0, 1) (List.mem_of_getElem? (i := 19) rfl)) (by decide) (by decide) (fun v11 e11 => ?_)
      refine lv_istore hx hb (eX12_type (37, .istore 4, 2) (List.mem_of_getElem? (i := 20) rfl)) hl (by decide) rfl (fun ls12 hl12 => ?_)
      have loop : ∀ (m0 i : Nat) (iv n9 : Int32) (z9 : Nat → Value) (ls : Array Slot) (H : Heap) (lo0 : List Loc), (i : Int) + m0 = n0.toInt → iv.toInt = (i : Int) → n9.toInt = (T.length : Int) + i → zh_ok D cA RTg ro sz H0 H lo0 → zc_kept D RTg ro [(11, 0), (11, 13), (30, 0)] s.heap H → zh_f D H a 11 0 = .int v9 → zh_f D H a 11 12 = .ref tb → zh_f D H a 11 13 = .int n9 → zh_f D H a 11 14 = .ref wb → zh_f D H a 11 15 = .int nw → H[tb]? = some (arrV (cA 2) 120 z9) → (∀ i, i < 120 → zt_ok ro (z9 i) (0, (-128), 127)) → jY (T ++ btL bs i) z9 → H[wb]? = some (arrV (cA 2) 160 zw) → lv_has ls 5 [(4, .int iv), (0, .ref a), (1, .long bs), (3, .int n0)] → W p l e (headSpec (gW yX12_type cX12_type 5 (some .int)) { frames := 1, cells := 0, slots := 0, locals := 25 }).room s m ([.ref a, .long bs, .int n0] : List Value).toArray below meth c H lo0 0 0 (MQ below (zk_QR D cA ro sz H0 a vI (spT bs n0.toInt T O)) ([.ref a, .long bs, .int n0] : List Value).toArray s 0 0 (zy_fr sz)) (F0 m 39 ls []) := by
        intro m0
        induction m0 with
        | zero =>
          intro i iv n9 z9 ls H lo0 hi hiv hn9 hh0 kpl l0 l12 l13 l14 l15 lct lyt ljy lcw hl
          refine lv_iload hx hb (eX12_type (39, .iload 4, 2) (List.mem_of_getElem? (i := 21) rfl)) (lv_at hl 0 rfl) ?_
          refine lv_iload_n hx hb (eX12_type (41, .iload_n 3, 1) (List.mem_of_getElem? (i := 22) rfl)) rfl (lv_at hl 3 rfl) ?_
          refine ff_icmp_ge hx hb (eX12_type (42, .if_icmp .ge 44, 3) (List.mem_of_getElem? (i := 23) rfl)) (tgt := 86) rfl (fun c13 => ?_) (fun c13 => (by exfalso; omega))
          refine lv_aload_n hx hb (eX12_type (86, .aload_n 0, 1) (List.mem_of_getElem? (i := 47) rfl)) rfl (lv_at hl 1 rfl) ?_
          refine tz_get (r := 11) (k := 0) (t := (0, 0, 2)) hx hb hh0 ha rfl rfl (hcl11 85 0 (0, 0, 2) (by decide) rfl).1 l0 (eX12_type (87, .getfield 85, 3) (List.mem_of_getElem? (i := 48) rfl)) ?_
          refine ff_if_le hx hb (eX12_type (90, .ifCond .le 7, 3) (List.mem_of_getElem? (i := 49) rfl)) (tgt := 97) rfl (fun c14 => ?_) (fun c14 => (by exfalso; omega))
          refine lv_aload_n hx hb (eX12_type (97, .aload_n 0, 1) (List.mem_of_getElem? (i := 52) rfl)) rfl (lv_at hl 1 rfl) ?_
          refine tz_get (r := 11) (k := 13) (t := (0, 0, 120)) hx hb hh0 ha rfl rfl (hcl11 302 13 (0, 0, 120) (by decide) rfl).1 l13 (eX12_type (98, .getfield 302, 3) (List.mem_of_getElem? (i := 53) rfl)) ?_
          have hii : n0.toInt.toNat = i := by omega
          exact W.zret hx hb hr rfl (fun t ht hW => ⟨_, _, _, (T ++ btL bs i), O, rfl, ⟨_, rfl, rfl⟩, by rw [ht]; exact hh0.l0, by rw [ht]; exact kpl.mono (by decide), by rw [ht]; exact l0, by rw [ht]; exact ⟨⟨tb, _, _, l12, r12, l13, (by rw [List.length_append, btL_len]; omega), lct, ljy⟩, ⟨wb, _, _, l14, r14, l15, hnw, lcw, hzw⟩, ⟨by rw [List.length_append, btL_len]; omega, hkO, hkb.2.2⟩⟩, rfl, Or.inr (Or.inr ⟨by omega, by omega, by omega, by omega, by rw [hii], by omega⟩)⟩) hh0.2.2.1 (eX12_type (101, .ireturn, 1) (List.mem_of_getElem? (i := 54) rfl))
        | succ m0 ih =>
          intro i iv n9 z9 ls H lo0 hi hiv hn9 hh0 kpl l0 l12 l13 l14 l15 lct lyt ljy lcw hl
          refine lv_iload hx hb (eX12_type (39, .iload 4, 2) (List.mem_of_getElem? (i := 21) rfl)) (lv_at hl 0 rfl) ?_
          refine lv_iload_n hx hb (eX12_type (41, .iload_n 3, 1) (List.mem_of_getElem? (i := 22) rfl)) rfl (lv_at hl 3 rfl) ?_
          refine ff_icmp_ge hx hb (eX12_type (42, .if_icmp .ge 44, 3) (List.mem_of_getElem? (i := 23) rfl)) (tgt := 86) rfl (fun c15 => (by exfalso; omega)) (fun c15 => ?_)
          refine lv_aload_n hx hb (eX12_type (45, .aload_n 0, 1) (List.mem_of_getElem? (i := 24) rfl)) rfl (lv_at hl 1 rfl) ?_
          refine tz_get (r := 11) (k := 0) (t := (0, 0, 2)) hx hb hh0 ha rfl rfl (hcl11 85 0 (0, 0, 2) (by decide) rfl).1 l0 (eX12_type (46, .getfield 85, 3) (List.mem_of_getElem? (i := 25) rfl)) ?_
          refine ff_if_ne hx hb (eX12_type (49, .ifCond .ne 37, 3) (List.mem_of_getElem? (i := 26) rfl)) (tgt := 86) rfl (fun c16 => (by exfalso; omega)) (fun c16 => ?_)
          refine lv_aload_n hx hb (eX12_type (52, .aload_n 0, 1) (List.mem_of_getElem? (i := 27) rfl)) rfl (lv_at hl 1 rfl) ?_
          refine tz_get (r := 11) (k := 12) (t := (64, 0, 0)) hx hb hh0 ha rfl rfl (hcl11 40 12 (64, 0, 0) (by decide) rfl).1 l12 (eX12_type (53, .getfield 40, 3) (List.mem_of_getElem? (i := 28) rfl)) ?_
          refine lv_aload_n hx hb (eX12_type (56, .aload_n 0, 1) (List.mem_of_getElem? (i := 29) rfl)) rfl (lv_at hl 1 rfl) ?_
          refine tz_get (r := 11) (k := 13) (t := (0, 0, 120)) hx hb hh0 ha rfl rfl (hcl11 302 13 (0, 0, 120) (by decide) rfl).1 l13 (eX12_type (57, .getfield 302, 3) (List.mem_of_getElem? (i := 30) rfl)) ?_
          refine lv_lload_n hx hb (eX12_type (60, .lload_n 1, 1) (List.mem_of_getElem? (i := 31) rfl)) rfl (lv_at hl 2 rfl) ?_
          refine ff_bipush hx hb (eX12_type (61, .bipush 8, 2) (List.mem_of_getElem? (i := 32) rfl)) (by decide) (by decide) (fun v17 e17 => ?_)
          refine lv_iload hx hb (eX12_type (63, .iload 4, 2) (List.mem_of_getElem? (i := 33) rfl)) (lv_at hl 0 rfl) ?_
          refine ff_imulL hx hb (eX12_type (65, .imul, 1) (List.mem_of_getElem? (i := 34) rfl)) (e17) (by omega) (by omega) (fun v18 e18 => ?_)
          refine tz_byR (i := i) hx hb (by omega) (by omega) (eX12_type (66, .lshr, 1) (List.mem_of_getElem? (i := 35) rfl)) (eX12_type (67, .l2i, 1) (List.mem_of_getElem? (i := 36) rfl)) (eX12_type (68, .i2b, 1) (List.mem_of_getElem? (i := 37) rfl)) (fun v19 e19 => ?_)
          have hzz := jY_app (d := v19) ljy e19.1
          rw [List.append_assoc, show btL bs i ++ [btI bs i] = btL bs (i + 1) from rfl] at hzz
          rw [← show n9.toNatClampNeg = (T ++ btL bs i).length by rw [List.length_append, btL_len]; show n9.toInt.toNat = T.length + i; omega] at hzz
          refine tz_bast hx hb (zAr hKn.1 2 (by decide)) hh0 r12 (show RTg[30]? = some (1, 2, 120, [(0, (-128), 127)]) from rfl) lct lyt (by omega) (by omega) (by omega) (by omega) (eX12_type (69, .bastore, 1) (List.mem_of_getElem? (i := 38) rfl)) (fun H20 lo20 hh20 hc20 hk20 hq20 _ => ?_)
          have mf20_a_0 := (hk20.1 a 11 0 11 0 fsX12 ha rfl (by decide) (by decide)).trans l0
          have mf20_a_12 := (hk20.1 a 11 12 11 0 fsX12 ha rfl (by decide) (by decide)).trans l12
          have mf20_a_13 := (hk20.1 a 11 13 11 0 fsX12 ha rfl (by decide) (by decide)).trans l13
          have mf20_a_14 := (hk20.1 a 11 14 11 0 fsX12 ha rfl (by decide) (by decide)).trans l14
          have mf20_a_15 := (hk20.1 a 11 15 11 0 fsX12 ha rfl (by decide) (by decide)).trans l15
          have mc20_wb := (hk20.2 wb 31 0 2 160 _ r14 rfl (by decide)).trans lcw
          have kp20 := kpl.trans (hk20.mono (ms' := [(11, 0), (11, 13), (30, 0)]) (fun x hx => by cases List.mem_singleton.mp hx; decide))
          have hy20 := tz_upd (j := n9.toNatClampNeg) lyt (x := .int v19) (show zt_ok ro (.int v19) (0, (-128), 127) from tz_i (by omega) (by omega))
          refine lv_aload_n hx hb (eX12_type (70, .aload_n 0, 1) (List.mem_of_getElem? (i := 39) rfl)) rfl (lv_at hl 1 rfl) ?_
          refine lv_dup hx hb (eX12_type (71, .dup, 1) (List.mem_of_getElem? (i := 40) rfl)) rfl ?_
          refine tz_get (r := 11) (k := 13) (t := (0, 0, 120)) hx hb hh20 ha rfl rfl (hcl11 302 13 (0, 0, 120) (by decide) rfl).1 mf20_a_13 (eX12_type (72, .getfield 302, 3) (List.mem_of_getElem? (i := 41) rfl)) ?_
          refine ff_iconst hx hb (eX12_type (75, .iconst 1, 1) (List.mem_of_getElem? (i := 42) rfl)) (by decide) (by decide) (fun v21 e21 => ?_)
          refine ff_iadd hx hb (eX12_type (76, .iadd, 1) (List.mem_of_getElem? (i := 43) rfl)) (by omega) (by omega) (fun v22 e22 => ?_)
          refine tz_put (r := 11) (k := 13) (t := (0, 0, 120)) hx hb hD hh20 ha rfl rfl ((hcl11 302 13 (0, 0, 120) (by decide) rfl).2 (by decide)) (tz_i (by omega) (by omega)) (eX12_type (77, .putfield 302, 3) (List.mem_of_getElem? (i := 44) rfl)) (fun H23 lo23 hh23 hf23 hk23 _ hq23 => ?_)
          have mf23_a_0 := (hk23.1 a 11 0 11 0 fsX12 ha rfl (by decide) (by decide)).trans mf20_a_0
          have mf23_a_12 := (hk23.1 a 11 12 11 0 fsX12 ha rfl (by decide) (by decide)).trans mf20_a_12
          have mf23_a_14 := (hk23.1 a 11 14 11 0 fsX12 ha rfl (by decide) (by decide)).trans mf20_a_14
          have mf23_a_15 := (hk23.1 a 11 15 11 0 fsX12 ha rfl (by decide) (by decide)).trans mf20_a_15
          have mc23_wb := (hk23.2 wb 31 0 2 160 _ r14 rfl (by decide)).trans mc20_wb
          have mc23_tb := (hk23.2 tb 30 0 2 120 _ r12 rfl (by decide)).trans hc20
          have kp23 := kp20.trans (hk23.mono (ms' := [(11, 0), (11, 13), (30, 0)]) (fun x hx => by cases List.mem_singleton.mp hx; decide))
          refine ff_iinc (k := 0) hx hb (eX12_type (80, .iinc 4 1, 3) (List.mem_of_getElem? (i := 45) rfl)) hl rfl (by decide) (by decide) (by decide) (by omega) (by omega) (fun v24 e24 ls24 hl24 => ?_)
          refine lv_goto hx hb (eX12_type (83, .goto (-44), 3) (List.mem_of_getElem? (i := 46) rfl)) (tgt := 39) rfl ?_
          exact ih (i + 1) v24 v22 _ ls24 _ _ (by omega) (by omega) (by omega) hh23 kp23 mf23_a_0 mf23_a_12 hf23 mf23_a_14 mf23_a_15 mc23_tb hy20 hzz mc23_wb (lv_sub hl24 [0, 1, 2, 3] rfl)
      exact loop n0.toInt.toNat 0 v11 nt zt ls12 _ _ (by omega) (by omega) (by omega) hh10 kp10 hf10 mf10_a_12 mf10_a_13 mf10_a_14 mf10_a_15 mc10_tb hyt (by show jY (T ++ []) zt; rw [List.append_nil]; exact hzt) mc10_wb (lv_sub hl12 [0, 1, 2, 3] rfl)
    · skip
      refine ff_iconst hx hb (eX12_type (28, .iconst 2, 1) (List.mem_of_getElem? (i := 15) rfl)) (by decide) (by decide) (fun v25 e25 => ?_)
      refine lv_goto hx hb (eX12_type (29, .goto 4, 3) (List.mem_of_getElem? (i := 16) rfl)) (tgt := 33) rfl ?_
      refine tz_put (r := 11) (k := 0) (t := (0, 0, 2)) hx hb hD hh ha rfl rfl ((hcl11 85 0 (0, 0, 2) (by decide) rfl).2 (by decide)) (tz_i (by omega) (by omega)) (eX12_type (33, .putfield 85, 3) (List.mem_of_getElem? (i := 18) rfl)) (fun H26 lo26 hh26 hf26 hk26 _ hq26 => ?_)
      have mf26_a_12 := (hk26.1 a 11 12 11 0 fsX12 ha rfl (by decide) (by decide)).trans f12
      have mf26_a_13 := (hk26.1 a 11 13 11 0 fsX12 ha rfl (by decide) (by decide)).trans f13
      have mf26_a_14 := (hk26.1 a 11 14 11 0 fsX12 ha rfl (by decide) (by decide)).trans f14
      have mf26_a_15 := (hk26.1 a 11 15 11 0 fsX12 ha rfl (by decide) (by decide)).trans f15
      have mc26_tb := (hk26.2 tb 30 0 2 120 _ r12 rfl (by decide)).trans hct
      have mc26_wb := (hk26.2 wb 31 0 2 160 _ r14 rfl (by decide)).trans hcw
      have kp26 := kp0.trans (hk26.mono (ms' := [(11, 0), (11, 13), (30, 0)]) (fun x hx => by cases List.mem_singleton.mp hx; decide))
      refine ff_iconst hx hb (eX12_type (36, .iconst 0, 1) (List.mem_of_getElem? (i := 19) rfl)) (by decide) (by decide) (fun v27 e27 => ?_)
      refine lv_istore hx hb (eX12_type (37, .istore 4, 2) (List.mem_of_getElem? (i := 20) rfl)) hl (by decide) rfl (fun ls28 hl28 => ?_)
      refine lv_iload hx hb (eX12_type (39, .iload 4, 2) (List.mem_of_getElem? (i := 21) rfl)) (lv_at hl28 0 rfl) ?_
      refine lv_iload_n hx hb (eX12_type (41, .iload_n 3, 1) (List.mem_of_getElem? (i := 22) rfl)) rfl (lv_at hl28 3 rfl) ?_
      refine ff_icmp_ge hx hb (eX12_type (42, .if_icmp .ge 44, 3) (List.mem_of_getElem? (i := 23) rfl)) (tgt := 86) rfl (fun c29 => ?_) (fun c29 => ?_)
      · skip
        refine lv_aload_n hx hb (eX12_type (86, .aload_n 0, 1) (List.mem_of_getElem? (i := 47) rfl)) rfl (lv_at hl28 1 rfl) ?_
        refine tz_get (r := 11) (k := 0) (t := (0, 0, 2)) hx hb hh26 ha rfl rfl (hcl11 85 0 (0, 0, 2) (by decide) rfl).1 hf26 (eX12_type (87, .getfield 85, 3) (List.mem_of_getElem? (i := 48) rfl)) ?_
        refine ff_if_le hx hb (eX12_type (90, .ifCond .le 7, 3) (List.mem_of_getElem? (i := 49) rfl)) (tgt := 97) rfl (fun c30 => (by exfalso; omega)) (fun c30 => ?_)
        refine ff_iconst hx hb (eX12_type (93, .iconst 0, 1) (List.mem_of_getElem? (i := 50) rfl)) (by decide) (by decide) (fun v31 e31 => ?_)
        refine lv_goto hx hb (eX12_type (94, .goto 7, 3) (List.mem_of_getElem? (i := 51) rfl)) (tgt := 101) rfl ?_
        exact W.zret hx hb hr rfl (fun t ht hW => ⟨_, _, _, T, O, rfl, ⟨_, rfl, rfl⟩, by rw [ht]; exact hh26.l0, by rw [ht]; exact kp26.mono (by decide), by rw [ht]; exact hf26, by rw [ht]; exact ⟨⟨tb, _, _, mf26_a_12, r12, mf26_a_13, hnt, mc26_tb, hzt⟩, ⟨wb, _, _, mf26_a_14, r14, mf26_a_15, hnw, mc26_wb, hzw⟩, hkb⟩, rfl, Or.inr (Or.inl ⟨by omega, rfl, by omega, by omega, by omega⟩)⟩) hh26.2.2.1 (eX12_type (101, .ireturn, 1) (List.mem_of_getElem? (i := 54) rfl))
      · skip
        refine lv_aload_n hx hb (eX12_type (45, .aload_n 0, 1) (List.mem_of_getElem? (i := 24) rfl)) rfl (lv_at hl28 1 rfl) ?_
        refine tz_get (r := 11) (k := 0) (t := (0, 0, 2)) hx hb hh26 ha rfl rfl (hcl11 85 0 (0, 0, 2) (by decide) rfl).1 hf26 (eX12_type (46, .getfield 85, 3) (List.mem_of_getElem? (i := 25) rfl)) ?_
        refine ff_if_ne hx hb (eX12_type (49, .ifCond .ne 37, 3) (List.mem_of_getElem? (i := 26) rfl)) (tgt := 86) rfl (fun c32 => ?_) (fun c32 => (by exfalso; omega))
        refine lv_aload_n hx hb (eX12_type (86, .aload_n 0, 1) (List.mem_of_getElem? (i := 47) rfl)) rfl (lv_at hl28 1 rfl) ?_
        refine tz_get (r := 11) (k := 0) (t := (0, 0, 2)) hx hb hh26 ha rfl rfl (hcl11 85 0 (0, 0, 2) (by decide) rfl).1 hf26 (eX12_type (87, .getfield 85, 3) (List.mem_of_getElem? (i := 48) rfl)) ?_
        refine ff_if_le hx hb (eX12_type (90, .ifCond .le 7, 3) (List.mem_of_getElem? (i := 49) rfl)) (tgt := 97) rfl (fun c33 => (by exfalso; omega)) (fun c33 => ?_)
        refine ff_iconst hx hb (eX12_type (93, .iconst 0, 1) (List.mem_of_getElem? (i := 50) rfl)) (by decide) (by decide) (fun v34 e34 => ?_)
        refine lv_goto hx hb (eX12_type (94, .goto 7, 3) (List.mem_of_getElem? (i := 51) rfl)) (tgt := 101) rfl ?_
        exact W.zret hx hb hr rfl (fun t ht hW => ⟨_, _, _, T, O, rfl, ⟨_, rfl, rfl⟩, by rw [ht]; exact hh26.l0, by rw [ht]; exact kp26.mono (by decide), by rw [ht]; exact hf26, by rw [ht]; exact ⟨⟨tb, _, _, mf26_a_12, r12, mf26_a_13, hnt, mc26_tb, hzt⟩, ⟨wb, _, _, mf26_a_14, r14, mf26_a_15, hnw, mc26_wb, hzw⟩, hkb⟩, rfl, Or.inr (Or.inl ⟨by omega, rfl, by omega, by omega, by omega⟩)⟩) hh26.2.2.1 (eX12_type (101, .ireturn, 1) (List.mem_of_getElem? (i := 54) rfl))
  · skip
    refine ff_iconst hx hb (eX12_type (13, .iconst 1, 1) (List.mem_of_getElem? (i := 7) rfl)) (by decide) (by decide) (fun v35 e35 => ?_)
    refine lv_goto hx hb (eX12_type (14, .goto 19, 3) (List.mem_of_getElem? (i := 8) rfl)) (tgt := 33) rfl ?_
    refine tz_put (r := 11) (k := 0) (t := (0, 0, 2)) hx hb hD hh ha rfl rfl ((hcl11 85 0 (0, 0, 2) (by decide) rfl).2 (by decide)) (tz_i (by omega) (by omega)) (eX12_type (33, .putfield 85, 3) (List.mem_of_getElem? (i := 18) rfl)) (fun H36 lo36 hh36 hf36 hk36 _ hq36 => ?_)
    have mf36_a_12 := (hk36.1 a 11 12 11 0 fsX12 ha rfl (by decide) (by decide)).trans f12
    have mf36_a_13 := (hk36.1 a 11 13 11 0 fsX12 ha rfl (by decide) (by decide)).trans f13
    have mf36_a_14 := (hk36.1 a 11 14 11 0 fsX12 ha rfl (by decide) (by decide)).trans f14
    have mf36_a_15 := (hk36.1 a 11 15 11 0 fsX12 ha rfl (by decide) (by decide)).trans f15
    have mc36_tb := (hk36.2 tb 30 0 2 120 _ r12 rfl (by decide)).trans hct
    have mc36_wb := (hk36.2 wb 31 0 2 160 _ r14 rfl (by decide)).trans hcw
    have kp36 := kp0.trans (hk36.mono (ms' := [(11, 0), (11, 13), (30, 0)]) (fun x hx => by cases List.mem_singleton.mp hx; decide))
    refine ff_iconst hx hb (eX12_type (36, .iconst 0, 1) (List.mem_of_getElem? (i := 19) rfl)) (by decide) (by decide) (fun v37 e37 => ?_)
    refine lv_istore hx hb (eX12_type (37, .istore 4, 2) (List.mem_of_getElem? (i := 20) rfl)) hl (by decide) rfl (fun ls38 hl38 => ?_)
    refine lv_iload hx hb (eX12_type (39, .iload 4, 2) (List.mem_of_getElem? (i := 21) rfl)) (lv_at hl38 0 rfl) ?_
    refine lv_iload_n hx hb (eX12_type (41, .iload_n 3, 1) (List.mem_of_getElem? (i := 22) rfl)) rfl (lv_at hl38 3 rfl) ?_
    refine ff_icmp_ge hx hb (eX12_type (42, .if_icmp .ge 44, 3) (List.mem_of_getElem? (i := 23) rfl)) (tgt := 86) rfl (fun c39 => ?_) (fun c39 => ?_)
    · skip
      refine lv_aload_n hx hb (eX12_type (86, .aload_n 0, 1) (List.mem_of_getElem? (i := 47) rfl)) rfl (lv_at hl38 1 rfl) ?_
      refine tz_get (r := 11) (k := 0) (t := (0, 0, 2)) hx hb hh36 ha rfl rfl (hcl11 85 0 (0, 0, 2) (by decide) rfl).1 hf36 (eX12_type (87, .getfield 85, 3) (List.mem_of_getElem? (i := 48) rfl)) ?_
      refine ff_if_le hx hb (eX12_type (90, .ifCond .le 7, 3) (List.mem_of_getElem? (i := 49) rfl)) (tgt := 97) rfl (fun c40 => (by exfalso; omega)) (fun c40 => ?_)
      refine ff_iconst hx hb (eX12_type (93, .iconst 0, 1) (List.mem_of_getElem? (i := 50) rfl)) (by decide) (by decide) (fun v41 e41 => ?_)
      refine lv_goto hx hb (eX12_type (94, .goto 7, 3) (List.mem_of_getElem? (i := 51) rfl)) (tgt := 101) rfl ?_
      exact W.zret hx hb hr rfl (fun t ht hW => ⟨_, _, _, T, O, rfl, ⟨_, rfl, rfl⟩, by rw [ht]; exact hh36.l0, by rw [ht]; exact kp36.mono (by decide), by rw [ht]; exact hf36, by rw [ht]; exact ⟨⟨tb, _, _, mf36_a_12, r12, mf36_a_13, hnt, mc36_tb, hzt⟩, ⟨wb, _, _, mf36_a_14, r14, mf36_a_15, hnw, mc36_wb, hzw⟩, hkb⟩, rfl, Or.inl ⟨by omega, rfl, by omega⟩⟩) hh36.2.2.1 (eX12_type (101, .ireturn, 1) (List.mem_of_getElem? (i := 54) rfl))
    · skip
      refine lv_aload_n hx hb (eX12_type (45, .aload_n 0, 1) (List.mem_of_getElem? (i := 24) rfl)) rfl (lv_at hl38 1 rfl) ?_
      refine tz_get (r := 11) (k := 0) (t := (0, 0, 2)) hx hb hh36 ha rfl rfl (hcl11 85 0 (0, 0, 2) (by decide) rfl).1 hf36 (eX12_type (46, .getfield 85, 3) (List.mem_of_getElem? (i := 25) rfl)) ?_
      refine ff_if_ne hx hb (eX12_type (49, .ifCond .ne 37, 3) (List.mem_of_getElem? (i := 26) rfl)) (tgt := 86) rfl (fun c42 => ?_) (fun c42 => (by exfalso; omega))
      refine lv_aload_n hx hb (eX12_type (86, .aload_n 0, 1) (List.mem_of_getElem? (i := 47) rfl)) rfl (lv_at hl38 1 rfl) ?_
      refine tz_get (r := 11) (k := 0) (t := (0, 0, 2)) hx hb hh36 ha rfl rfl (hcl11 85 0 (0, 0, 2) (by decide) rfl).1 hf36 (eX12_type (87, .getfield 85, 3) (List.mem_of_getElem? (i := 48) rfl)) ?_
      refine ff_if_le hx hb (eX12_type (90, .ifCond .le 7, 3) (List.mem_of_getElem? (i := 49) rfl)) (tgt := 97) rfl (fun c43 => (by exfalso; omega)) (fun c43 => ?_)
      refine ff_iconst hx hb (eX12_type (93, .iconst 0, 1) (List.mem_of_getElem? (i := 50) rfl)) (by decide) (by decide) (fun v44 e44 => ?_)
      refine lv_goto hx hb (eX12_type (94, .goto 7, 3) (List.mem_of_getElem? (i := 51) rfl)) (tgt := 101) rfl ?_
      exact W.zret hx hb hr rfl (fun t ht hW => ⟨_, _, _, T, O, rfl, ⟨_, rfl, rfl⟩, by rw [ht]; exact hh36.l0, by rw [ht]; exact kp36.mono (by decide), by rw [ht]; exact hf36, by rw [ht]; exact ⟨⟨tb, _, _, mf36_a_12, r12, mf36_a_13, hnt, mc36_tb, hzt⟩, ⟨wb, _, _, mf36_a_14, r14, mf36_a_15, hnw, mc36_wb, hzw⟩, hkb⟩, rfl, Or.inl ⟨by omega, rfl, by omega⟩⟩) hh36.2.2.1 (eX12_type (101, .ireturn, 1) (List.mem_of_getElem? (i := 54) rfl))
set_option maxRecDepth 100000 in
set_option maxHeartbeats 4000000 in
theorem hX12_pass (l : Launch) (D : va_G) (cA : Nat → ClassId) (ro : Nat → Option Nat) (sz : Nat) (H0 : Heap) (a : Nat)  (L : List Int) (zc : Int) (T O : List Int) (ha : ro a = some 11)  : Met l yX12_pass (gW yX12_pass cX12_pass 2 (some .int)) { frames := 0, cells := 0, slots := 0, locals := 0 } (zs_P D cA ro sz H0 (fun H => jRS D cA ro H a L zc ∧ jRK D cA ro H a T O) [.ref a]) (zk_QR D cA ro sz H0 a vI (spP T O)) 0 0 (zy_fr sz) := by
  refine zy_ofW (cc := cX12_pass) (maxL := 2) (ret := (some .int)) (by decide +kernel) rfl ?_
  intro p e s m args below meth c s1 B hml hv
  obtain ⟨rfl, hh, hKn, hJ⟩ := hv
  have hx := B.exec
  have hb := B.bytes
  have hr := B.returns
  have hlk := B.notSynchronized
  have hts0 := atoms_spec (ws := gW yX12_pass cX12_pass 2 (some .int)) B.pre
  have h2 : ∀ w ∈ gT, w.before ([.ref a] : List Value).toArray s = true := fun w hw => hts0 w (List.mem_cons_of_mem _ hw)
  have hown : s.vm.findClass RX12 = some m.cls := findClass_of_methodNamed B.named
  have hl := lv_entry [.ref a] (n := 2) (Nat.le_of_ble_eq_true rfl)
  rw [lg_entry_eq]
  generalize (lg_sl [.ref a] ++ List.replicate (2 - (lg_sl [.ref a]).length) Slot.unset).toArray = ls at hl ⊢
  have hD := zD_all h2 hKn.1
  have hcl11 := fun (idx k : Nat) (t : zt_T) (h : (idx, 11, k) ∈ gfX12) (hk : fsX12[k]? = some t) => zf_clause (ro := ro) (ms := [(11, 0), (11, 13), (30, 0)]) h2 hown hKn.1 gfX12_ok (by decide +kernel) idx 11 k 11 0 fsX12 t h rfl hk
  have kp0 : zc_kept D RTg ro [(11, 0), (11, 13), (30, 0)] s.heap s.heap := zc_kept.refl
  obtain ⟨hjs, hjt, hjo, hkb⟩ := id hJ
  have hkT := hkb.1
  have hkO := hkb.2.1
  obtain ⟨tb, nt, zt, f12, r12, f13, hnt, hct, hzt⟩ := id hjt
  obtain ⟨wb, nw, zw, f14, r14, f15, hnw, hcw, hzw⟩ := id hjo
  obtain ⟨-, z9, c9, hy9⟩ := zh_arr hh r12 (show RTg[30]? = some (1, 2, 120, [(0, (-128), 127)]) from rfl)
  have hyt : ∀ i, i < 120 → zt_ok ro (zt i) (0, (-128), 127) := zs_arr (hct.symm.trans c9) hy9
  obtain ⟨n9, g9, nw1, nw2⟩ := zh_fT (k := 15) (t := (0, 0, 120)) hh ha (show RTg[11]? = some (0, 11, 0, fsX12) from rfl) rfl
  cases f15.symm.trans g9
  dsimp only at nw1 nw2
  clear g9
  refine lv_aload_n hx hb (eX12_pass (0, .aload_n 0, 1) (List.mem_of_getElem? (i := 0) rfl)) rfl (lv_at hl 0 rfl) ?_
  refine ff_iconst hx hb (eX12_pass (1, .iconst 0, 1) (List.mem_of_getElem? (i := 1) rfl)) (by decide) (by decide) (fun v1 e1 => ?_)
  refine tz_put (r := 11) (k := 0) (t := (0, 0, 2)) hx hb hD hh ha rfl rfl ((hcl11 85 0 (0, 0, 2) (by decide) rfl).2 (by decide)) (tz_i (by omega) (by omega)) (eX12_pass (2, .putfield 85, 3) (List.mem_of_getElem? (i := 2) rfl)) (fun H2 lo2 hh2 hf2 hk2 _ hq2 => ?_)
  have mf2_a_12 := (hk2.1 a 11 12 11 0 fsX12 ha rfl (by decide) (by decide)).trans f12
  have mf2_a_13 := (hk2.1 a 11 13 11 0 fsX12 ha rfl (by decide) (by decide)).trans f13
  have mf2_a_14 := (hk2.1 a 11 14 11 0 fsX12 ha rfl (by decide) (by decide)).trans f14
  have mf2_a_15 := (hk2.1 a 11 15 11 0 fsX12 ha rfl (by decide) (by decide)).trans f15
  have mc2_tb := (hk2.2 tb 30 0 2 120 _ r12 rfl (by decide)).trans hct
  have mc2_wb := (hk2.2 wb 31 0 2 160 _ r14 rfl (by decide)).trans hcw
  have kp2 := kp0.trans (hk2.mono (ms' := [(11, 0), (11, 13), (30, 0)]) (fun x hx => by cases List.mem_singleton.mp hx; decide))
  refine lv_aload_n hx hb (eX12_pass (5, .aload_n 0, 1) (List.mem_of_getElem? (i := 3) rfl)) rfl (lv_at hl 0 rfl) ?_
  refine lv_aload_n hx hb (eX12_pass (6, .aload_n 0, 1) (List.mem_of_getElem? (i := 4) rfl)) rfl (lv_at hl 0 rfl) ?_
  refine tz_get (r := 11) (k := 15) (t := (0, 0, 120)) hx hb hh2 ha rfl rfl (hcl11 447 15 (0, 0, 120) (by decide) rfl).1 mf2_a_15 (eX12_pass (7, .getfield 447, 3) (List.mem_of_getElem? (i := 5) rfl)) ?_
  refine tz_put (r := 11) (k := 13) (t := (0, 0, 120)) hx hb hD hh2 ha rfl rfl ((hcl11 302 13 (0, 0, 120) (by decide) rfl).2 (by decide)) (tz_i (by omega) (by omega)) (eX12_pass (10, .putfield 302, 3) (List.mem_of_getElem? (i := 6) rfl)) (fun H3 lo3 hh3 hf3 hk3 _ hq3 => ?_)
  have mf3_a_12 := (hk3.1 a 11 12 11 0 fsX12 ha rfl (by decide) (by decide)).trans mf2_a_12
  have mf3_a_14 := (hk3.1 a 11 14 11 0 fsX12 ha rfl (by decide) (by decide)).trans mf2_a_14
  have mf3_a_15 := (hk3.1 a 11 15 11 0 fsX12 ha rfl (by decide) (by decide)).trans mf2_a_15
  have mf3_a_0 := (hk3.1 a 11 0 11 0 fsX12 ha rfl (by decide) (by decide)).trans hf2
  have mc3_tb := (hk3.2 tb 30 0 2 120 _ r12 rfl (by decide)).trans mc2_tb
  have mc3_wb := (hk3.2 wb 31 0 2 160 _ r14 rfl (by decide)).trans mc2_wb
  have kp3 := kp2.trans (hk3.mono (ms' := [(11, 0), (11, 13), (30, 0)]) (fun x hx => by cases List.mem_singleton.mp hx; decide))
  refine ff_iconst hx hb (eX12_pass (13, .iconst 0, 1) (List.mem_of_getElem? (i := 7) rfl)) (by decide) (by decide) (fun v4 e4 => ?_)
  refine lv_istore_n hx hb (eX12_pass (14, .istore_n 1, 1) (List.mem_of_getElem? (i := 8) rfl)) rfl hl (by decide) rfl (fun ls5 hl5 => ?_)
  have loop : ∀ (m0 i : Nat) (iv : Int32) (z9 : Nat → Value) (ls : Array Slot) (H : Heap) (lo0 : List Loc), i + m0 = O.length → iv.toInt = (i : Int) → zh_ok D cA RTg ro sz H0 H lo0 → zc_kept D RTg ro [(11, 0), (11, 13), (30, 0)] s.heap H → zh_f D H a 11 0 = .int v1 → zh_f D H a 11 12 = .ref tb → zh_f D H a 11 13 = .int nw → zh_f D H a 11 14 = .ref wb → zh_f D H a 11 15 = .int nw → H[tb]? = some (arrV (cA 2) 120 z9) → (∀ i, i < 120 → zt_ok ro (z9 i) (0, (-128), 127)) → jY (O.take i) z9 → H[wb]? = some (arrV (cA 2) 160 zw) → lv_has ls 2 [(1, .int iv), (0, .ref a)] → W p l e (headSpec (gW yX12_pass cX12_pass 2 (some .int)) { frames := 0, cells := 0, slots := 0, locals := 0 }).room s m ([.ref a] : List Value).toArray below meth c H lo0 0 0 (MQ below (zk_QR D cA ro sz H0 a vI (spP T O)) ([.ref a] : List Value).toArray s 0 0 (zy_fr sz)) (F0 m 15 ls []) := by
    intro m0
    induction m0 with
    | zero =>
      intro i iv z9 ls H lo0 hi hiv hh0 kpl l0 l12 l13 l14 l15 lct lyt ljy lcw hl
      refine lv_iload_n hx hb (eX12_pass (15, .iload_n 1, 1) (List.mem_of_getElem? (i := 9) rfl)) rfl (lv_at hl 0 rfl) ?_
      refine lv_aload_n hx hb (eX12_pass (16, .aload_n 0, 1) (List.mem_of_getElem? (i := 10) rfl)) rfl (lv_at hl 1 rfl) ?_
      refine tz_get (r := 11) (k := 15) (t := (0, 0, 120)) hx hb hh0 ha rfl rfl (hcl11 447 15 (0, 0, 120) (by decide) rfl).1 l15 (eX12_pass (17, .getfield 447, 3) (List.mem_of_getElem? (i := 11) rfl)) ?_
      refine ff_icmp_ge hx hb (eX12_pass (20, .if_icmp .ge 21, 3) (List.mem_of_getElem? (i := 12) rfl)) (tgt := 41) rfl (fun c6 => ?_) (fun c6 => (by exfalso; omega))
      refine lv_aload_n hx hb (eX12_pass (41, .aload_n 0, 1) (List.mem_of_getElem? (i := 23) rfl)) rfl (lv_at hl 1 rfl) ?_
      refine tz_get (r := 11) (k := 13) (t := (0, 0, 120)) hx hb hh0 ha rfl rfl (hcl11 302 13 (0, 0, 120) (by decide) rfl).1 l13 (eX12_pass (42, .getfield 302, 3) (List.mem_of_getElem? (i := 24) rfl)) ?_
      have hT8 : O.take i = O := by rw [show i = O.length by omega, List.take_length]
      rw [hT8] at ljy
      exact W.zret hx hb hr rfl (fun t ht hW => ⟨_, _, _, O, O, rfl, ⟨_, rfl, rfl⟩, by rw [ht]; exact hh0.l0, by rw [ht]; exact kpl.mono (by decide), by rw [ht]; exact l0, by rw [ht]; exact ⟨⟨tb, _, _, l12, r12, l13, hnw, lct, ljy⟩, ⟨wb, _, _, l14, r14, l15, hnw, lcw, hzw⟩, ⟨hkO, hkO, hkb.2.2⟩⟩, by omega, rfl, rfl, hnw⟩) hh0.2.2.1 (eX12_pass (45, .ireturn, 1) (List.mem_of_getElem? (i := 25) rfl))
    | succ m0 ih =>
      intro i iv z9 ls H lo0 hi hiv hh0 kpl l0 l12 l13 l14 l15 lct lyt ljy lcw hl
      refine lv_iload_n hx hb (eX12_pass (15, .iload_n 1, 1) (List.mem_of_getElem? (i := 9) rfl)) rfl (lv_at hl 0 rfl) ?_
      refine lv_aload_n hx hb (eX12_pass (16, .aload_n 0, 1) (List.mem_of_getElem? (i := 10) rfl)) rfl (lv_at hl 1 rfl) ?_
      refine tz_get (r := 11) (k := 15) (t := (0, 0, 120)) hx hb hh0 ha rfl rfl (hcl11 447 15 (0, 0, 120) (by decide) rfl).1 l15 (eX12_pass (17, .getfield 447, 3) (List.mem_of_getElem? (i := 11) rfl)) ?_
      refine ff_icmp_ge hx hb (eX12_pass (20, .if_icmp .ge 21, 3) (List.mem_of_getElem? (i := 12) rfl)) (tgt := 41) rfl (fun c7 => (by exfalso; omega)) (fun c7 => ?_)
      refine lv_aload_n hx hb (eX12_pass (23, .aload_n 0, 1) (List.mem_of_getElem? (i := 13) rfl)) rfl (lv_at hl 1 rfl) ?_
      refine tz_get (r := 11) (k := 12) (t := (64, 0, 0)) hx hb hh0 ha rfl rfl (hcl11 40 12 (64, 0, 0) (by decide) rfl).1 l12 (eX12_pass (24, .getfield 40, 3) (List.mem_of_getElem? (i := 14) rfl)) ?_
      refine lv_iload_n hx hb (eX12_pass (27, .iload_n 1, 1) (List.mem_of_getElem? (i := 15) rfl)) rfl (lv_at hl 0 rfl) ?_
      refine lv_aload_n hx hb (eX12_pass (28, .aload_n 0, 1) (List.mem_of_getElem? (i := 16) rfl)) rfl (lv_at hl 1 rfl) ?_
      refine tz_get (r := 11) (k := 14) (t := (66, 0, 0)) hx hb hh0 ha rfl rfl (hcl11 44 14 (66, 0, 0) (by decide) rfl).1 l14 (eX12_pass (29, .getfield 44, 3) (List.mem_of_getElem? (i := 17) rfl)) ?_
      refine lv_iload_n hx hb (eX12_pass (32, .iload_n 1, 1) (List.mem_of_getElem? (i := 18) rfl)) rfl (lv_at hl 0 rfl) ?_
      refine tz_bald hx hb (zAr hKn.1 2 (by decide)) lcw (by omega) (by omega) (eX12_pass (33, .baload, 1) (List.mem_of_getElem? (i := 19) rfl)) ?_
      obtain ⟨v8, hz8, hO8⟩ := hzw i (by omega)
      have hb8 := hkb.2.2 v8.toInt (List.mem_of_getElem? hO8)
      rw [show iv.toNatClampNeg = i by show iv.toInt.toNat = i; omega, hz8]
      have hzz := jY_app (d := v8) (c := v8.toInt) ljy rfl
      rw [← show O.take (i + 1) = O.take i ++ [v8.toInt] by rw [List.take_add_one, hO8]; rfl] at hzz
      rw [← show iv.toNatClampNeg = (O.take i).length by rw [List.length_take]; show iv.toInt.toNat = _; omega] at hzz
      refine tz_bast hx hb (zAr hKn.1 2 (by decide)) hh0 r12 (show RTg[30]? = some (1, 2, 120, [(0, (-128), 127)]) from rfl) lct lyt (by omega) (by omega) (by omega) (by omega) (eX12_pass (34, .bastore, 1) (List.mem_of_getElem? (i := 20) rfl)) (fun H9 lo9 hh9 hc9 hk9 hq9 _ => ?_)
      have mf9_a_0 := (hk9.1 a 11 0 11 0 fsX12 ha rfl (by decide) (by decide)).trans l0
      have mf9_a_12 := (hk9.1 a 11 12 11 0 fsX12 ha rfl (by decide) (by decide)).trans l12
      have mf9_a_13 := (hk9.1 a 11 13 11 0 fsX12 ha rfl (by decide) (by decide)).trans l13
      have mf9_a_14 := (hk9.1 a 11 14 11 0 fsX12 ha rfl (by decide) (by decide)).trans l14
      have mf9_a_15 := (hk9.1 a 11 15 11 0 fsX12 ha rfl (by decide) (by decide)).trans l15
      have mc9_wb := (hk9.2 wb 31 0 2 160 _ r14 rfl (by decide)).trans lcw
      have kp9 := kpl.trans (hk9.mono (ms' := [(11, 0), (11, 13), (30, 0)]) (fun x hx => by cases List.mem_singleton.mp hx; decide))
      have hy9 := tz_upd (j := iv.toNatClampNeg) lyt (x := .int v8) (show zt_ok ro (.int v8) (0, (-128), 127) from tz_i (by omega) (by omega))
      refine ff_iinc (k := 0) hx hb (eX12_pass (35, .iinc 1 1, 3) (List.mem_of_getElem? (i := 21) rfl)) hl rfl (by decide) (by decide) (by decide) (by omega) (by omega) (fun v10 e10 ls10 hl10 => ?_)
      refine lv_goto hx hb (eX12_pass (38, .goto (-23), 3) (List.mem_of_getElem? (i := 22) rfl)) (tgt := 15) rfl ?_
      exact ih (i + 1) v10 _ ls10 _ _ (by omega) (by omega) hh9 kp9 mf9_a_0 mf9_a_12 mf9_a_13 mf9_a_14 mf9_a_15 hc9 hy9 hzz mc9_wb (lv_sub hl10 [0, 1] rfl)
  exact loop O.length 0 v4 zt ls5 _ _ (by omega) (by omega) hh3 kp3 mf3_a_0 mf3_a_12 hf3 mf3_a_14 mf3_a_15 mc3_tb hyt (fun i hi => absurd hi (Nat.not_lt_zero _)) mc3_wb (lv_sub hl5 [0, 1] rfl)
