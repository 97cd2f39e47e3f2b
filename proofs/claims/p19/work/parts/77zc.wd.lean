theorem hX12_isDayO (l : Launch) (D : va_G) (cA : Nat → ClassId) (ro : Nat → Option Nat) (sz : Nat) (H0 : Heap) (a : Nat) (n : Int64) (O : List Int) (ha : ro a = some 11)  : Met l yX12_isDay (gW yX12_isDay cX12_isDay 3 (some .boolean)) { frames := 1, cells := 0, slots := 0, locals := 25 } (zs_P D cA ro sz H0 (fun H => jRO D cA ro H a O) [.ref a, .long n]) (zg_idQ n.toInt) 0 0 (zy_fr sz) := met_weak (hX12_isDay l D cA ro sz H0 a n ha) (fun _ _ h => ⟨h.1, h.2.1, h.2.2.1⟩)
theorem hX12_civilO (l : Launch) (D : va_G) (cA : Nat → ClassId) (ro : Nat → Option Nat) (sz : Nat) (H0 : Heap) (a : Nat) (n : Int64) (O : List Int) (ha : ro a = some 11) (hn1 : -400000000 ≤ n.toInt) (hn2 : n.toInt ≤ 400000000) : Met l yX12_civil (gW yX12_civil cX12_civil 14 none) { frames := 1, cells := 0, slots := 0, locals := 25 } (zs_P D cA ro sz H0 (fun H => jRO D cA ro H a O) [.ref a, .long n]) (zg_cvQ D cA ro sz H0 a n.toInt) 0 0 (zy_fr sz) := met_weak (hX12_civil l D cA ro sz H0 a n ha hn1 hn2) (fun _ _ h => ⟨h.1, h.2.1, h.2.2.1⟩)
theorem hX12_weekYearOfO (l : Launch) (D : va_G) (cA : Nat → ClassId) (ro : Nat → Option Nat) (sz : Nat) (H0 : Heap) (a : Nat) (n : Int64) (O : List Int) (ha : ro a = some 11) (hn1 : -365961662 ≤ n.toInt) (hn2 : n.toInt ≤ 364522971) : Met l yX12_weekYearOf (gW yX12_weekYearOf cX12_weekYearOf 5 (some .long)) { frames := 3, cells := 0, slots := 0, locals := 79 } (zs_P D cA ro sz H0 (fun H => jRO D cA ro H a O) [.ref a, .long n]) (zg_wyQ D cA ro sz H0 a n.toInt) 0 0 (zy_fr sz) := met_weak (hX12_weekYearOf l D cA ro sz H0 a n ha hn1 hn2) (fun _ _ h => ⟨h.1, h.2.1, h.2.2.1⟩)
set_option maxRecDepth 100000 in
set_option maxHeartbeats 4000000 in
theorem hX12_writeDate (l : Launch) (D : va_G) (cA : Nat → ClassId) (ro : Nat → Option Nat) (sz : Nat) (H0 : Heap) (a : Nat) (n0 : Int64) (st0 : Int32) (L : List Int) (zc : Int) (T O : List Int) (ha : ro a = some 11)  : Met l yX12_writeDate (gW yX12_writeDate cX12_writeDate 12 (some .int)) { frames := 4, cells := 0, slots := 0, locals := 103 } (zs_P D cA ro sz H0 (fun H => jRS D cA ro H a L zc ∧ jRK D cA ro H a T O) [.ref a, .long n0, .int st0]) (zk_QR D cA ro sz H0 a vI (spW n0.toInt st0.toInt T O)) 0 0 (zy_fr sz) := by
  refine zy_ofW (cc := cX12_writeDate) (maxL := 12) (ret := (some .int)) (by decide +kernel) rfl ?_
  intro p e s m args below meth c s1 B hml hv
  obtain ⟨rfl, hh, hKn, hJ⟩ := hv
  have hx := B.exec
  have hb := B.bytes
  have hr := B.returns
  have hlk := B.notSynchronized
  have hts0 := atoms_spec (ws := gW yX12_writeDate cX12_writeDate 12 (some .int)) B.pre
  have h2 : ∀ w ∈ gT, w.before ([.ref a, .long n0, .int st0] : List Value).toArray s = true := fun w hw => hts0 w (List.mem_cons_of_mem _ hw)
  have hown : s.vm.findClass RX12 = some m.cls := findClass_of_methodNamed B.named
  have hl := lv_entry [.ref a, .long n0, .int st0] (n := 12) (Nat.le_of_ble_eq_true rfl)
  rw [lg_entry_eq]
  generalize (lg_sl [.ref a, .long n0, .int st0] ++ List.replicate (12 - (lg_sl [.ref a, .long n0, .int st0]).length) Slot.unset).toArray = ls at hl ⊢
  have b_n0 := zn_i64 n0
  have b_st0 := zn_i32 st0
  have hD := zD_all h2 hKn.1
  have hcl11 := fun (idx k : Nat) (t : zt_T) (h : (idx, 11, k) ∈ gfX12) (hk : fsX12[k]? = some t) => zf_clause (ro := ro) (ms := [(11, 0), (11, 15), (11, 18), (11, 19), (11, 20), (31, 0)]) h2 hown hKn.1 gfX12_ok (by decide +kernel) idx 11 k 11 0 fsX12 t h rfl hk
  have kp0 : zc_kept D RTg ro [(11, 0), (11, 15), (11, 18), (11, 19), (11, 20), (31, 0)] s.heap s.heap := zc_kept.refl
  obtain ⟨hjs, hjt, hjo, hkb⟩ := id hJ
  obtain ⟨wb, n, z, f0, r0, f1, hn, hc, hz⟩ := id hjo
  have hkT := hkb.1
  have hkO := hkb.2.1
  have hjl := hjs.2.2
  have hjL := hjl.2.1
  have hjr := hjs.1
  refine lv_aload_n hx hb (eX12_writeDate (0, .aload_n 0, 1) (List.mem_of_getElem? (i := 0) rfl)) rfl (lv_at hl 0 rfl) ?_
  refine lv_lload_n hx hb (eX12_writeDate (1, .lload_n 1, 1) (List.mem_of_getElem? (i := 1) rfl)) rfl (lv_at hl 1 rfl) ?_
  refine tz_rowV (As := [.long n0]) (st := []) (b := a) (C := RX12) (Ts := gT) hx hb hml hown h2 (fun _ h => h) (hX12_isDayO l D cA ro sz H0 a n0 (O) ha) ⟨rfl, rfl⟩ ⟨by decide, by decide⟩ ⟨by decide, by decide⟩ (tb_7 62 rfl rfl) (tb_1 12 rfl rfl) (tb_7 59 rfl rfl) (tb_7 61 rfl rfl) (tb_0 4 rfl rfl) (show yX12_isDay.cls ≠ "java/lang/invoke/MethodHandle" ∧ yX12_isDay.cls ≠ "java/lang/invoke/VarHandle" ∧ (parseMethodDescriptor yX12_isDay.desc).map (fun d => d.parameters.length) = some 1 by decide +kernel) zs_blind (zs_ob hh ha (show RTg[11]? = some (0, 11, 0, fsX12) from rfl) (zCX12 hKn.1)) (fun U hU hW => ⟨rfl, by rw [hU]; exact hh.l0, zKb s U hW.alike hKn, by rw [hU]; exact hjo⟩) hh.2.2.1 hl.1 (Nat.le_of_ble_eq_true rfl) (eX12_writeDate (2, .invokevirtual 159, 3) (List.mem_of_getElem? (i := 2) rfl)) (fun r1 s1 t1 lo1 g1 f1 l1 => ?_)
  obtain ⟨z1, v1, q1, e1⟩ := f1
  cases q1
  rw [z1, g1]
  have hh1 : zh_ok D cA RTg ro sz H0 s.heap lo1 := ⟨hh.1, hh.2.1, l1, hh.2.2.2⟩
  refine W.eq (g2 := F0 m 5 ls [.int v1]) rfl ?_
  refine ff_if_eq hx hb (eX12_writeDate (5, .ifCond .eq 19, 3) (List.mem_of_getElem? (i := 3) rfl)) (tgt := 24) rfl (fun c2 => ?_) (fun c2 => ?_)
  · skip
    refine ff_iconst hx hb (eX12_writeDate (24, .iconst 0, 1) (List.mem_of_getElem? (i := 12) rfl)) (by decide) (by decide) (fun v3 e3 => ?_)
    refine lv_istore hx hb (eX12_writeDate (25, .istore 4, 2) (List.mem_of_getElem? (i := 13) rfl)) hl (by decide) rfl (fun ls4 hl4 => ?_)
    refine lv_iload hx hb (eX12_writeDate (27, .iload 4, 2) (List.mem_of_getElem? (i := 14) rfl)) (lv_at hl4 0 rfl) ?_
    refine ff_if_eq hx hb (eX12_writeDate (29, .ifCond .eq 11, 3) (List.mem_of_getElem? (i := 15) rfl)) (tgt := 40) rfl (fun c5 => ?_) (fun c5 => (by exfalso; omega))
    refine ff_lconst hx hb (eX12_writeDate (40, .lconst 0, 1) (List.mem_of_getElem? (i := 20) rfl)) rfl (fun v6 e6 => ?_)
    refine lv_lstore hx hb (eX12_writeDate (41, .lstore 5, 2) (List.mem_of_getElem? (i := 21) rfl)) hl4 (by decide) rfl (fun ls7 hl7 => ?_)
    refine lv_iload hx hb (eX12_writeDate (43, .iload 4, 2) (List.mem_of_getElem? (i := 22) rfl)) (lv_at hl7 1 rfl) ?_
    refine ff_if_eq hx hb (eX12_writeDate (45, .ifCond .eq 15, 3) (List.mem_of_getElem? (i := 23) rfl)) (tgt := 60) rfl (fun c8 => ?_) (fun c8 => (by exfalso; omega))
    refine ff_iconst hx hb (eX12_writeDate (60, .iconst 0, 1) (List.mem_of_getElem? (i := 29) rfl)) (by decide) (by decide) (fun v9 e9 => ?_)
    refine lv_istore hx hb (eX12_writeDate (61, .istore 4, 2) (List.mem_of_getElem? (i := 30) rfl)) hl7 (by decide) rfl (fun ls10 hl10 => ?_)
    refine lv_aload_n hx hb (eX12_writeDate (63, .aload_n 0, 1) (List.mem_of_getElem? (i := 31) rfl)) rfl (lv_at hl10 2 rfl) ?_
    refine lv_iload hx hb (eX12_writeDate (64, .iload 4, 2) (List.mem_of_getElem? (i := 32) rfl)) (lv_at hl10 0 rfl) ?_
    refine ff_if_eq hx hb (eX12_writeDate (66, .ifCond .eq 7, 3) (List.mem_of_getElem? (i := 33) rfl)) (tgt := 73) rfl (fun c11 => ?_) (fun c11 => (by exfalso; omega))
    refine ff_iconst hx hb (eX12_writeDate (73, .iconst 1, 1) (List.mem_of_getElem? (i := 36) rfl)) (by decide) (by decide) (fun v12 e12 => ?_)
    refine tz_put (r := 11) (k := 0) (t := (0, 0, 2)) hx hb hD hh1 ha rfl rfl ((hcl11 85 0 (0, 0, 2) (by decide) rfl).2 (by decide)) (tz_i (by omega) (by omega)) (eX12_writeDate (74, .putfield 85, 3) (List.mem_of_getElem? (i := 37) rfl)) (fun H13 lo13 hh13 hf13 hk13 _ hq13 => ?_)
    have mf13_a_14 := (hk13.1 a 11 14 11 0 fsX12 ha rfl (by decide) (by decide)).trans f0
    have mf13_a_15 := (hk13.1 a 11 15 11 0 fsX12 ha rfl (by decide) (by decide)).trans f1
    have mc13_wb := (hk13.2 wb 31 0 2 160 _ r0 rfl (by decide)).trans hc
    have kp13 := kp0.trans (hk13.mono (ms' := [(11, 0), (11, 15), (11, 18), (11, 19), (11, 20), (31, 0)]) (fun x hx => by cases List.mem_singleton.mp hx; decide))
    have jm13 := hjo.kept ha hk13 (by decide) (by decide) (by decide)
    refine lv_aload_n hx hb (eX12_writeDate (77, .aload_n 0, 1) (List.mem_of_getElem? (i := 38) rfl)) rfl (lv_at hl10 2 rfl) ?_
    refine tz_get (r := 11) (k := 0) (t := (0, 0, 2)) hx hb hh13 ha rfl rfl (hcl11 85 0 (0, 0, 2) (by decide) rfl).1 hf13 (eX12_writeDate (78, .getfield 85, 3) (List.mem_of_getElem? (i := 39) rfl)) ?_
    refine ff_if_le hx hb (eX12_writeDate (81, .ifCond .le 5, 3) (List.mem_of_getElem? (i := 40) rfl)) (tgt := 86) rfl (fun c14 => (by exfalso; omega)) (fun c14 => ?_)
    refine ff_iconst hx hb (eX12_writeDate (84, .iconst 0, 1) (List.mem_of_getElem? (i := 41) rfl)) (by decide) (by decide) (fun v15 e15 => ?_)
    exact W.zret hx hb hr rfl (fun t ht hW => ⟨_, _, _, T, O, rfl, ⟨_, rfl, rfl⟩, by rw [ht]; exact hh13.l0, by rw [ht]; exact kp13.mono (by decide), by rw [ht]; exact hf13, by rw [ht]; exact ⟨hjt.kept ha kp13 (by decide) (by decide) (by decide), jm13, hkb⟩, rfl, Or.inl ⟨by omega, rfl, by unfold dwV dOK; omega⟩⟩) hh13.2.2.1 (eX12_writeDate (85, .ireturn, 1) (List.mem_of_getElem? (i := 42) rfl))
  · skip
    refine lv_iload_n hx hb (eX12_writeDate (8, .iload_n 3, 1) (List.mem_of_getElem? (i := 4) rfl)) rfl (lv_at hl 2 rfl) ?_
    refine ff_i2l hx hb (eX12_writeDate (9, .i2l, 1) (List.mem_of_getElem? (i := 5) rfl)) (fun v16 e16 => ?_)
    refine ff_lconst hx hb (eX12_writeDate (10, .lconst 0, 1) (List.mem_of_getElem? (i := 6) rfl)) rfl (fun v17 e17 => ?_)
    refine ff_ldc2 (n := 5) hx hb hown h2 (clX12_ok 107 5 (List.mem_of_getElem? (i := 8) rfl)) (eX12_writeDate (11, .ldc2_w 107, 3) (List.mem_of_getElem? (i := 7) rfl)) (fun v18 e18 => ?_)
    refine zu_S (vs := [.long v16, .long v17, .long v18]) (rest := []) hx hb hml hown hts0 zu_BT (hX12_isIn l v16 v17 v18) ⟨rfl, rfl⟩ ⟨by decide, by decide⟩ ⟨by decide, by decide⟩ (tb_7 47 rfl rfl) (tb_1 12 rfl rfl) (tb_7 45 rfl rfl) (tb_7 46 rfl rfl) (show yX12_isIn.cls ≠ "java/lang/invoke/MethodHandle" ∧ yX12_isIn.cls ≠ "java/lang/invoke/VarHandle" ∧ (parseMethodDescriptor yX12_isIn.desc).map (fun d => d.parameters.length) = some 3 by decide +kernel) rfl (fun _ _ _ => trivial) hl.1 (Nat.le_of_ble_eq_true rfl) (eX12_writeDate (14, .invokestatic 130, 3) (List.mem_of_getElem? (i := 8) rfl)) (fun w19 f19 => ?_)
    obtain ⟨v19, rfl, e19⟩ := f19
    refine ff_if_eq hx hb (eX12_writeDate (17, .ifCond .eq 7, 3) (List.mem_of_getElem? (i := 9) rfl)) (tgt := 24) rfl (fun c20 => ?_) (fun c20 => ?_)
    · skip
      refine ff_iconst hx hb (eX12_writeDate (24, .iconst 0, 1) (List.mem_of_getElem? (i := 12) rfl)) (by decide) (by decide) (fun v21 e21 => ?_)
      refine lv_istore hx hb (eX12_writeDate (25, .istore 4, 2) (List.mem_of_getElem? (i := 13) rfl)) hl (by decide) rfl (fun ls22 hl22 => ?_)
      refine lv_iload hx hb (eX12_writeDate (27, .iload 4, 2) (List.mem_of_getElem? (i := 14) rfl)) (lv_at hl22 0 rfl) ?_
      refine ff_if_eq hx hb (eX12_writeDate (29, .ifCond .eq 11, 3) (List.mem_of_getElem? (i := 15) rfl)) (tgt := 40) rfl (fun c23 => ?_) (fun c23 => (by exfalso; omega))
      refine ff_lconst hx hb (eX12_writeDate (40, .lconst 0, 1) (List.mem_of_getElem? (i := 20) rfl)) rfl (fun v24 e24 => ?_)
      refine lv_lstore hx hb (eX12_writeDate (41, .lstore 5, 2) (List.mem_of_getElem? (i := 21) rfl)) hl22 (by decide) rfl (fun ls25 hl25 => ?_)
      refine lv_iload hx hb (eX12_writeDate (43, .iload 4, 2) (List.mem_of_getElem? (i := 22) rfl)) (lv_at hl25 1 rfl) ?_
      refine ff_if_eq hx hb (eX12_writeDate (45, .ifCond .eq 15, 3) (List.mem_of_getElem? (i := 23) rfl)) (tgt := 60) rfl (fun c26 => ?_) (fun c26 => (by exfalso; omega))
      refine ff_iconst hx hb (eX12_writeDate (60, .iconst 0, 1) (List.mem_of_getElem? (i := 29) rfl)) (by decide) (by decide) (fun v27 e27 => ?_)
      refine lv_istore hx hb (eX12_writeDate (61, .istore 4, 2) (List.mem_of_getElem? (i := 30) rfl)) hl25 (by decide) rfl (fun ls28 hl28 => ?_)
      refine lv_aload_n hx hb (eX12_writeDate (63, .aload_n 0, 1) (List.mem_of_getElem? (i := 31) rfl)) rfl (lv_at hl28 2 rfl) ?_
      refine lv_iload hx hb (eX12_writeDate (64, .iload 4, 2) (List.mem_of_getElem? (i := 32) rfl)) (lv_at hl28 0 rfl) ?_
      refine ff_if_eq hx hb (eX12_writeDate (66, .ifCond .eq 7, 3) (List.mem_of_getElem? (i := 33) rfl)) (tgt := 73) rfl (fun c29 => ?_) (fun c29 => (by exfalso; omega))
      refine ff_iconst hx hb (eX12_writeDate (73, .iconst 1, 1) (List.mem_of_getElem? (i := 36) rfl)) (by decide) (by decide) (fun v30 e30 => ?_)
      refine tz_put (r := 11) (k := 0) (t := (0, 0, 2)) hx hb hD hh1 ha rfl rfl ((hcl11 85 0 (0, 0, 2) (by decide) rfl).2 (by decide)) (tz_i (by omega) (by omega)) (eX12_writeDate (74, .putfield 85, 3) (List.mem_of_getElem? (i := 37) rfl)) (fun H31 lo31 hh31 hf31 hk31 _ hq31 => ?_)
      have mf31_a_14 := (hk31.1 a 11 14 11 0 fsX12 ha rfl (by decide) (by decide)).trans f0
      have mf31_a_15 := (hk31.1 a 11 15 11 0 fsX12 ha rfl (by decide) (by decide)).trans f1
      have mc31_wb := (hk31.2 wb 31 0 2 160 _ r0 rfl (by decide)).trans hc
      have kp31 := kp0.trans (hk31.mono (ms' := [(11, 0), (11, 15), (11, 18), (11, 19), (11, 20), (31, 0)]) (fun x hx => by cases List.mem_singleton.mp hx; decide))
      have jm31 := hjo.kept ha hk31 (by decide) (by decide) (by decide)
      refine lv_aload_n hx hb (eX12_writeDate (77, .aload_n 0, 1) (List.mem_of_getElem? (i := 38) rfl)) rfl (lv_at hl28 2 rfl) ?_
      refine tz_get (r := 11) (k := 0) (t := (0, 0, 2)) hx hb hh31 ha rfl rfl (hcl11 85 0 (0, 0, 2) (by decide) rfl).1 hf31 (eX12_writeDate (78, .getfield 85, 3) (List.mem_of_getElem? (i := 39) rfl)) ?_
      refine ff_if_le hx hb (eX12_writeDate (81, .ifCond .le 5, 3) (List.mem_of_getElem? (i := 40) rfl)) (tgt := 86) rfl (fun c32 => (by exfalso; omega)) (fun c32 => ?_)
      refine ff_iconst hx hb (eX12_writeDate (84, .iconst 0, 1) (List.mem_of_getElem? (i := 41) rfl)) (by decide) (by decide) (fun v33 e33 => ?_)
      exact W.zret hx hb hr rfl (fun t ht hW => ⟨_, _, _, T, O, rfl, ⟨_, rfl, rfl⟩, by rw [ht]; exact hh31.l0, by rw [ht]; exact kp31.mono (by decide), by rw [ht]; exact hf31, by rw [ht]; exact ⟨hjt.kept ha kp31 (by decide) (by decide) (by decide), jm31, hkb⟩, rfl, Or.inl ⟨by omega, rfl, by unfold dwV dOK; omega⟩⟩) hh31.2.2.1 (eX12_writeDate (85, .ireturn, 1) (List.mem_of_getElem? (i := 42) rfl))
    · skip
      refine ff_iconst hx hb (eX12_writeDate (20, .iconst 1, 1) (List.mem_of_getElem? (i := 10) rfl)) (by decide) (by decide) (fun v34 e34 => ?_)
      refine lv_goto hx hb (eX12_writeDate (21, .goto 4, 3) (List.mem_of_getElem? (i := 11) rfl)) (tgt := 25) rfl ?_
      refine lv_istore hx hb (eX12_writeDate (25, .istore 4, 2) (List.mem_of_getElem? (i := 13) rfl)) hl (by decide) rfl (fun ls35 hl35 => ?_)
      refine lv_iload hx hb (eX12_writeDate (27, .iload 4, 2) (List.mem_of_getElem? (i := 14) rfl)) (lv_at hl35 0 rfl) ?_
      refine ff_if_eq hx hb (eX12_writeDate (29, .ifCond .eq 11, 3) (List.mem_of_getElem? (i := 15) rfl)) (tgt := 40) rfl (fun c36 => (by exfalso; omega)) (fun c36 => ?_)
      refine lv_aload_n hx hb (eX12_writeDate (32, .aload_n 0, 1) (List.mem_of_getElem? (i := 16) rfl)) rfl (lv_at hl35 1 rfl) ?_
      refine lv_lload_n hx hb (eX12_writeDate (33, .lload_n 1, 1) (List.mem_of_getElem? (i := 17) rfl)) rfl (lv_at hl35 2 rfl) ?_
      refine tz_rowV (As := [.long n0]) (st := []) (b := a) (C := RX12) (Ts := gT) hx hb hml hown h2 (fun _ h => h) (hX12_weekYearOfO l D cA ro sz H0 a n0 (O) ha (by omega) (by omega)) ⟨rfl, rfl⟩ ⟨by decide, by decide⟩ ⟨by decide, by decide⟩ (tb_7 67 rfl rfl) (tb_1 12 rfl rfl) (tb_7 64 rfl rfl) (tb_7 66 rfl rfl) (tb_0 5 rfl rfl) (show yX12_weekYearOf.cls ≠ "java/lang/invoke/MethodHandle" ∧ yX12_weekYearOf.cls ≠ "java/lang/invoke/VarHandle" ∧ (parseMethodDescriptor yX12_weekYearOf.desc).map (fun d => d.parameters.length) = some 1 by decide +kernel) zs_blind (zs_ob hh1 ha (show RTg[11]? = some (0, 11, 0, fsX12) from rfl) (zCX12 hKn.1)) (fun U hU hW => ⟨rfl, by rw [hU]; exact hh1.l0, zKb s U hW.alike hKn, by rw [hU]; exact hjo⟩) hh1.2.2.1 hl35.1 (Nat.le_of_ble_eq_true rfl) (eX12_writeDate (34, .invokevirtual 164, 3) (List.mem_of_getElem? (i := 18) rfl)) (fun r37 s37 t37 lo37 g37 f37 l37 => ?_)
      obtain ⟨v37, q37, z37, u37, c37, iw37, bw37⟩ := f37
      cases q37
      rw [g37] at c37
      have hh37 : zh_ok D cA RTg ro sz H0 t37.heap lo37 := ⟨z37.1, z37.2.1, l37, z37.2.2.2⟩
      have kp37 := kp0.trans (c37.mono (ms' := [(11, 0), (11, 15), (11, 18), (11, 19), (11, 20), (31, 0)]) (by decide))
      have mf37_a_14 := (c37.1 a 11 14 11 0 fsX12 ha rfl (by decide) (by decide)).trans f0
      have mf37_a_15 := (c37.1 a 11 15 11 0 fsX12 ha rfl (by decide) (by decide)).trans f1
      have jo37 := hjo.kept ha c37 (by decide) (by decide) (by decide)
      have hwi := wy_in (n := n0.toInt) (by unfold dOK; omega) iw37
      refine W.eq (g2 := F0 m 37 ls35 [.long v37]) rfl ?_
      refine lv_goto hx hb (eX12_writeDate (37, .goto 4, 3) (List.mem_of_getElem? (i := 19) rfl)) (tgt := 41) rfl ?_
      refine lv_lstore hx hb (eX12_writeDate (41, .lstore 5, 2) (List.mem_of_getElem? (i := 21) rfl)) hl35 (by decide) rfl (fun ls38 hl38 => ?_)
      refine lv_iload hx hb (eX12_writeDate (43, .iload 4, 2) (List.mem_of_getElem? (i := 22) rfl)) (lv_at hl38 1 rfl) ?_
      refine ff_if_eq hx hb (eX12_writeDate (45, .ifCond .eq 15, 3) (List.mem_of_getElem? (i := 23) rfl)) (tgt := 60) rfl (fun c39 => (by exfalso; omega)) (fun c39 => ?_)
      refine lv_lload hx hb (eX12_writeDate (48, .lload 5, 2) (List.mem_of_getElem? (i := 24) rfl)) (lv_at hl38 0 rfl) ?_
      refine zu_S (vs := [.long v37]) (rest := []) hx hb hml hown hts0 zu_BT (hX12_isYear l v37) ⟨rfl, rfl⟩ ⟨by decide, by decide⟩ ⟨by decide, by decide⟩ (tb_7 44 rfl rfl) (tb_1 12 rfl rfl) (tb_7 42 rfl rfl) (tb_7 43 rfl rfl) (show yX12_isYear.cls ≠ "java/lang/invoke/MethodHandle" ∧ yX12_isYear.cls ≠ "java/lang/invoke/VarHandle" ∧ (parseMethodDescriptor yX12_isYear.desc).map (fun d => d.parameters.length) = some 1 by decide +kernel) rfl (fun _ _ _ => trivial) hl38.1 (Nat.le_of_ble_eq_true rfl) (eX12_writeDate (50, .invokestatic 150, 3) (List.mem_of_getElem? (i := 25) rfl)) (fun w40 f40 => ?_)
      obtain ⟨v40, rfl, e40⟩ := f40
      refine ff_if_eq hx hb (eX12_writeDate (53, .ifCond .eq 7, 3) (List.mem_of_getElem? (i := 26) rfl)) (tgt := 60) rfl (fun c41 => ?_) (fun c41 => ?_)
      · skip
        refine ff_iconst hx hb (eX12_writeDate (60, .iconst 0, 1) (List.mem_of_getElem? (i := 29) rfl)) (by decide) (by decide) (fun v42 e42 => ?_)
        refine lv_istore hx hb (eX12_writeDate (61, .istore 4, 2) (List.mem_of_getElem? (i := 30) rfl)) hl38 (by decide) rfl (fun ls43 hl43 => ?_)
        refine lv_aload_n hx hb (eX12_writeDate (63, .aload_n 0, 1) (List.mem_of_getElem? (i := 31) rfl)) rfl (lv_at hl43 2 rfl) ?_
        refine lv_iload hx hb (eX12_writeDate (64, .iload 4, 2) (List.mem_of_getElem? (i := 32) rfl)) (lv_at hl43 0 rfl) ?_
        refine ff_if_eq hx hb (eX12_writeDate (66, .ifCond .eq 7, 3) (List.mem_of_getElem? (i := 33) rfl)) (tgt := 73) rfl (fun c44 => ?_) (fun c44 => (by exfalso; omega))
        refine ff_iconst hx hb (eX12_writeDate (73, .iconst 1, 1) (List.mem_of_getElem? (i := 36) rfl)) (by decide) (by decide) (fun v45 e45 => ?_)
        refine tz_put (r := 11) (k := 0) (t := (0, 0, 2)) hx hb hD hh37 ha rfl rfl ((hcl11 85 0 (0, 0, 2) (by decide) rfl).2 (by decide)) (tz_i (by omega) (by omega)) (eX12_writeDate (74, .putfield 85, 3) (List.mem_of_getElem? (i := 37) rfl)) (fun H46 lo46 hh46 hf46 hk46 _ hq46 => ?_)
        have mf46_a_14 := (hk46.1 a 11 14 11 0 fsX12 ha rfl (by decide) (by decide)).trans mf37_a_14
        have mf46_a_15 := (hk46.1 a 11 15 11 0 fsX12 ha rfl (by decide) (by decide)).trans mf37_a_15
        have kp46 := kp37.trans (hk46.mono (ms' := [(11, 0), (11, 15), (11, 18), (11, 19), (11, 20), (31, 0)]) (fun x hx => by cases List.mem_singleton.mp hx; decide))
        have jm46 := jo37.kept ha hk46 (by decide) (by decide) (by decide)
        refine lv_aload_n hx hb (eX12_writeDate (77, .aload_n 0, 1) (List.mem_of_getElem? (i := 38) rfl)) rfl (lv_at hl43 2 rfl) ?_
        refine tz_get (r := 11) (k := 0) (t := (0, 0, 2)) hx hb hh46 ha rfl rfl (hcl11 85 0 (0, 0, 2) (by decide) rfl).1 hf46 (eX12_writeDate (78, .getfield 85, 3) (List.mem_of_getElem? (i := 39) rfl)) ?_
        refine ff_if_le hx hb (eX12_writeDate (81, .ifCond .le 5, 3) (List.mem_of_getElem? (i := 40) rfl)) (tgt := 86) rfl (fun c47 => (by exfalso; omega)) (fun c47 => ?_)
        refine ff_iconst hx hb (eX12_writeDate (84, .iconst 0, 1) (List.mem_of_getElem? (i := 41) rfl)) (by decide) (by decide) (fun v48 e48 => ?_)
        exact W.zret hx hb hr rfl (fun t ht hW => ⟨_, _, _, T, O, rfl, ⟨_, rfl, rfl⟩, by rw [ht]; exact hh46.l0, by rw [ht]; exact kp46.mono (by decide), by rw [ht]; exact hf46, by rw [ht]; exact ⟨hjt.kept ha kp46 (by decide) (by decide) (by decide), jm46, hkb⟩, rfl, Or.inl ⟨by omega, rfl, by unfold dwV dOK; omega⟩⟩) hh46.2.2.1 (eX12_writeDate (85, .ireturn, 1) (List.mem_of_getElem? (i := 42) rfl))
      · skip
        refine ff_iconst hx hb (eX12_writeDate (56, .iconst 1, 1) (List.mem_of_getElem? (i := 27) rfl)) (by decide) (by decide) (fun v49 e49 => ?_)
        refine lv_goto hx hb (eX12_writeDate (57, .goto 4, 3) (List.mem_of_getElem? (i := 28) rfl)) (tgt := 61) rfl ?_
        refine lv_istore hx hb (eX12_writeDate (61, .istore 4, 2) (List.mem_of_getElem? (i := 30) rfl)) hl38 (by decide) rfl (fun ls50 hl50 => ?_)
        refine lv_aload_n hx hb (eX12_writeDate (63, .aload_n 0, 1) (List.mem_of_getElem? (i := 31) rfl)) rfl (lv_at hl50 2 rfl) ?_
        refine lv_iload hx hb (eX12_writeDate (64, .iload 4, 2) (List.mem_of_getElem? (i := 32) rfl)) (lv_at hl50 0 rfl) ?_
        refine ff_if_eq hx hb (eX12_writeDate (66, .ifCond .eq 7, 3) (List.mem_of_getElem? (i := 33) rfl)) (tgt := 73) rfl (fun c51 => (by exfalso; omega)) (fun c51 => ?_)
        refine ff_iconst hx hb (eX12_writeDate (69, .iconst 0, 1) (List.mem_of_getElem? (i := 34) rfl)) (by decide) (by decide) (fun v52 e52 => ?_)
        refine lv_goto hx hb (eX12_writeDate (70, .goto 4, 3) (List.mem_of_getElem? (i := 35) rfl)) (tgt := 74) rfl ?_
        refine tz_put (r := 11) (k := 0) (t := (0, 0, 2)) hx hb hD hh37 ha rfl rfl ((hcl11 85 0 (0, 0, 2) (by decide) rfl).2 (by decide)) (tz_i (by omega) (by omega)) (eX12_writeDate (74, .putfield 85, 3) (List.mem_of_getElem? (i := 37) rfl)) (fun H53 lo53 hh53 hf53 hk53 _ hq53 => ?_)
        have mf53_a_14 := (hk53.1 a 11 14 11 0 fsX12 ha rfl (by decide) (by decide)).trans mf37_a_14
        have mf53_a_15 := (hk53.1 a 11 15 11 0 fsX12 ha rfl (by decide) (by decide)).trans mf37_a_15
        have kp53 := kp37.trans (hk53.mono (ms' := [(11, 0), (11, 15), (11, 18), (11, 19), (11, 20), (31, 0)]) (fun x hx => by cases List.mem_singleton.mp hx; decide))
        have jm53 := jo37.kept ha hk53 (by decide) (by decide) (by decide)
        refine lv_aload_n hx hb (eX12_writeDate (77, .aload_n 0, 1) (List.mem_of_getElem? (i := 38) rfl)) rfl (lv_at hl50 2 rfl) ?_
        refine tz_get (r := 11) (k := 0) (t := (0, 0, 2)) hx hb hh53 ha rfl rfl (hcl11 85 0 (0, 0, 2) (by decide) rfl).1 hf53 (eX12_writeDate (78, .getfield 85, 3) (List.mem_of_getElem? (i := 39) rfl)) ?_
        refine ff_if_le hx hb (eX12_writeDate (81, .ifCond .le 5, 3) (List.mem_of_getElem? (i := 40) rfl)) (tgt := 86) rfl (fun c54 => ?_) (fun c54 => (by exfalso; omega))
        refine lv_aload_n hx hb (eX12_writeDate (86, .aload_n 0, 1) (List.mem_of_getElem? (i := 43) rfl)) rfl (lv_at hl50 2 rfl) ?_
        refine ff_iconst hx hb (eX12_writeDate (87, .iconst 0, 1) (List.mem_of_getElem? (i := 44) rfl)) (by decide) (by decide) (fun v55 e55 => ?_)
        obtain ⟨wb8, n8, z8, f8, r8, f81, hn8, hc8, hz8⟩ := id jm53
        refine tz_put (r := 11) (k := 15) (t := (0, 0, 120)) hx hb hD hh53 ha rfl rfl ((hcl11 447 15 (0, 0, 120) (by decide) rfl).2 (by decide)) (tz_i (by omega) (by omega)) (eX12_writeDate (88, .putfield 447, 3) (List.mem_of_getElem? (i := 45) rfl)) (fun H56 lo56 hh56 hf56 hk56 _ hq56 => ?_)
        have mf56_a_14 := (hk56.1 a 11 14 11 0 fsX12 ha rfl (by decide) (by decide)).trans mf53_a_14
        have mf56_a_0 := (hk56.1 a 11 0 11 0 fsX12 ha rfl (by decide) (by decide)).trans hf53
        have kp56 := kp53.trans (hk56.mono (ms' := [(11, 0), (11, 15), (11, 18), (11, 19), (11, 20), (31, 0)]) (fun x hx => by cases List.mem_singleton.mp hx; decide))
        have hc9 := (hk56.2 wb8 31 0 2 160 _ r8 rfl (by decide)).trans hc8
        have hf9 := (hk56.1 a 11 14 11 0 fsX12 ha rfl (by decide) (by decide)).trans f8
        have jz : jRO D cA ro H56 a [] := ⟨wb8, _, _, hf9, r8, hf56, by show _ = (0 : Int); omega, hc9, fun i hi => absurd hi (Nat.not_lt_zero _)⟩
        refine lv_aload_n hx hb (eX12_writeDate (91, .aload_n 0, 1) (List.mem_of_getElem? (i := 46) rfl)) rfl (lv_at hl50 2 rfl) ?_
        refine lv_lload_n hx hb (eX12_writeDate (92, .lload_n 1, 1) (List.mem_of_getElem? (i := 47) rfl)) rfl (lv_at hl50 3 rfl) ?_
        refine tz_rowV (As := [.long n0]) (st := []) (b := a) (C := RX12) (Ts := gT) hx hb hml hown h2 (fun _ h => h) (hX12_civilO l D cA ro sz H0 a n0 ([]) ha (by omega) (by omega)) ⟨rfl, rfl⟩ ⟨by decide, by decide⟩ ⟨by decide, by decide⟩ (tb_7 71 rfl rfl) (tb_1 12 rfl rfl) (tb_7 68 rfl rfl) (tb_7 70 rfl rfl) (tb_0 6 rfl rfl) (show yX12_civil.cls ≠ "java/lang/invoke/MethodHandle" ∧ yX12_civil.cls ≠ "java/lang/invoke/VarHandle" ∧ (parseMethodDescriptor yX12_civil.desc).map (fun d => d.parameters.length) = some 1 by decide +kernel) zs_blind (zs_ob hh56 ha (show RTg[11]? = some (0, 11, 0, fsX12) from rfl) (zCX12 hKn.1)) (fun U hU hW => ⟨rfl, by rw [hU]; exact hh56.l0, zKb s U hW.alike hKn, by rw [hU]; exact jz⟩) hh56.2.2.1 hl50.1 (Nat.le_of_ble_eq_true rfl) (eX12_writeDate (93, .invokevirtual 146, 3) (List.mem_of_getElem? (i := 48) rfl)) (fun r57 s57 t57 lo57 g57 f57 l57 => ?_)
        obtain ⟨q57, z57, u57, c57, y57, m57, d57, hy57, hm57, hd57, cv57⟩ := f57
        cases q57
        rw [g57] at c57
        have hh57 : zh_ok D cA RTg ro sz H0 t57.heap lo57 := ⟨z57.1, z57.2.1, l57, z57.2.2.2⟩
        have kp57 := kp56.trans (c57.mono (ms' := [(11, 0), (11, 15), (11, 18), (11, 19), (11, 20), (31, 0)]) (by decide))
        have mf57_a_0 := (c57.1 a 11 0 11 0 fsX12 ha rfl (by decide) (by decide)).trans mf56_a_0
        have jo57 := jz.kept ha c57 (by decide) (by decide) (by decide)
        have iy57 := cvP_isY cv57
        have by57 := isY_in iy57 (by omega) (by omega)
        have bv57 : 1 ≤ m57.toInt ∧ m57.toInt ≤ 12 ∧ 1 ≤ d57.toInt := ⟨cv57.1, cv57.2.1, cv57.2.2.1⟩
        refine W.eq (g2 := F0 m 96 ls50 []) rfl ?_
        refine lv_iload_n hx hb (eX12_writeDate (96, .iload_n 3, 1) (List.mem_of_getElem? (i := 49) rfl)) rfl (lv_at hl50 4 rfl) ?_
        refine ff_iconst hx hb (eX12_writeDate (97, .iconst 4, 1) (List.mem_of_getElem? (i := 50) rfl)) (by decide) (by decide) (fun v58 e58 => ?_)
        refine ff_icmp_lt hx hb (eX12_writeDate (98, .if_icmp .lt 8, 3) (List.mem_of_getElem? (i := 51) rfl)) (tgt := 106) rfl (fun c59 => ?_) (fun c59 => ?_)
        · skip
          refine lv_aload_n hx hb (eX12_writeDate (106, .aload_n 0, 1) (List.mem_of_getElem? (i := 54) rfl)) rfl (lv_at hl50 2 rfl) ?_
          refine tz_get (r := 11) (k := 18) (t := (1, (-9223372036854775808), 9223372036854775807)) hx hb hh57 ha rfl rfl (hcl11 127 18 (1, (-9223372036854775808), 9223372036854775807) (by decide) rfl).1 hy57 (eX12_writeDate (107, .getfield 127, 3) (List.mem_of_getElem? (i := 55) rfl)) ?_
          refine lv_lstore hx hb (eX12_writeDate (110, .lstore 7, 2) (List.mem_of_getElem? (i := 56) rfl)) hl50 (by decide) rfl (fun ls60 hl60 => ?_)
          refine lv_aload_n hx hb (eX12_writeDate (112, .aload_n 0, 1) (List.mem_of_getElem? (i := 57) rfl)) rfl (lv_at hl60 3 rfl) ?_
          refine tz_get (r := 11) (k := 19) (t := (0, (-2147483648), 2147483647)) hx hb hh57 ha rfl rfl (hcl11 124 19 (0, (-2147483648), 2147483647) (by decide) rfl).1 hm57 (eX12_writeDate (113, .getfield 124, 3) (List.mem_of_getElem? (i := 58) rfl)) ?_
          refine lv_istore hx hb (eX12_writeDate (116, .istore 9, 2) (List.mem_of_getElem? (i := 59) rfl)) hl60 (by decide) rfl (fun ls61 hl61 => ?_)
          refine lv_aload_n hx hb (eX12_writeDate (118, .aload_n 0, 1) (List.mem_of_getElem? (i := 60) rfl)) rfl (lv_at hl61 4 rfl) ?_
          refine tz_get (r := 11) (k := 20) (t := (0, (-2147483648), 2147483647)) hx hb hh57 ha rfl rfl (hcl11 121 20 (0, (-2147483648), 2147483647) (by decide) rfl).1 hd57 (eX12_writeDate (119, .getfield 121, 3) (List.mem_of_getElem? (i := 61) rfl)) ?_
          refine lv_istore hx hb (eX12_writeDate (122, .istore 10, 2) (List.mem_of_getElem? (i := 62) rfl)) hl61 (by decide) rfl (fun ls62 hl62 => ?_)
          refine lv_aload_n hx hb (eX12_writeDate (124, .aload_n 0, 1) (List.mem_of_getElem? (i := 63) rfl)) rfl (lv_at hl62 5 rfl) ?_
          refine lv_lload hx hb (eX12_writeDate (125, .lload 7, 2) (List.mem_of_getElem? (i := 64) rfl)) (lv_at hl62 2 rfl) ?_
          refine tz_rowV (As := [.long y57]) (st := []) (b := a) (C := RX12) (Ts := gT) hx hb hml hown h2 (fun _ h => h) (hX12_putYear l D cA ro sz H0 a y57 ([]) ha (by omega) (by omega) (by show 0 + 7 ≤ 120; decide)) ⟨rfl, rfl⟩ ⟨by decide, by decide⟩ ⟨by decide, by decide⟩ (tb_8 164 rfl rfl) (tb_1 12 rfl rfl) (tb_8 161 rfl rfl) (tb_8 163 rfl rfl) (tb_0 57 rfl rfl) (show yX12_putYear.cls ≠ "java/lang/invoke/MethodHandle" ∧ yX12_putYear.cls ≠ "java/lang/invoke/VarHandle" ∧ (parseMethodDescriptor yX12_putYear.desc).map (fun d => d.parameters.length) = some 1 by decide +kernel) zs_blind (zs_ob hh57 ha (show RTg[11]? = some (0, 11, 0, fsX12) from rfl) (zCX12 hKn.1)) (fun U hU hW => ⟨rfl, by rw [hU]; exact hh57.l0, zKb s U hW.alike hKn, by rw [hU]; exact jo57⟩) hh57.2.2.1 hl62.1 (Nat.le_of_ble_eq_true rfl) (eX12_writeDate (127, .invokevirtual 459, 3) (List.mem_of_getElem? (i := 65) rfl)) (fun r63 s63 t63 lo63 g63 f63 l63 => ?_)
          obtain ⟨v63, q63, z63, c63, j63, e63⟩ := f63
          cases q63
          rw [g63] at c63
          have hh63 : zh_ok D cA RTg ro sz H0 t63.heap lo63 := ⟨z63.1, z63.2.1, l63, z63.2.2.2⟩
          have kp63 := kp57.trans (c63.mono (ms' := [(11, 0), (11, 15), (11, 18), (11, 19), (11, 20), (31, 0)]) (by decide))
          have mf63_a_0 := (c63.1 a 11 0 11 0 fsX12 ha rfl (by decide) (by decide)).trans mf57_a_0
          have mf63_a_18 := (c63.1 a 11 18 11 0 fsX12 ha rfl (by decide) (by decide)).trans hy57
          have mf63_a_19 := (c63.1 a 11 19 11 0 fsX12 ha rfl (by decide) (by decide)).trans hm57
          have mf63_a_20 := (c63.1 a 11 20 11 0 fsX12 ha rfl (by decide) (by decide)).trans hd57
          refine W.eq (g2 := F0 m 130 ls62 [.int v63]) rfl ?_
          refine ff_if_ne hx hb (eX12_writeDate (130, .ifCond .ne 9, 3) (List.mem_of_getElem? (i := 66) rfl)) (tgt := 139) rfl (fun c64 => ?_) (fun c64 => ?_)
          · skip
            refine ff_iconst hx hb (eX12_writeDate (139, .iconst 1, 1) (List.mem_of_getElem? (i := 71) rfl)) (by decide) (by decide) (fun v65 e65 => ?_)
            refine lv_goto hx hb (eX12_writeDate (140, .goto 4, 3) (List.mem_of_getElem? (i := 72) rfl)) (tgt := 144) rfl ?_
            refine lv_istore hx hb (eX12_writeDate (144, .istore 11, 2) (List.mem_of_getElem? (i := 74) rfl)) hl62 (by decide) rfl (fun ls66 hl66 => ?_)
            refine lv_iload hx hb (eX12_writeDate (146, .iload 11, 2) (List.mem_of_getElem? (i := 75) rfl)) (lv_at hl66 0 rfl) ?_
            refine ff_if_eq hx hb (eX12_writeDate (148, .ifCond .eq 9, 3) (List.mem_of_getElem? (i := 76) rfl)) (tgt := 157) rfl (fun c67 => (by exfalso; omega)) (fun c67 => ?_)
            refine lv_aload_n hx hb (eX12_writeDate (151, .aload_n 0, 1) (List.mem_of_getElem? (i := 77) rfl)) rfl (lv_at hl66 6 rfl) ?_
            refine ff_bipush hx hb (eX12_writeDate (152, .bipush 45, 2) (List.mem_of_getElem? (i := 78) rfl)) (by decide) (by decide) (fun v68 e68 => ?_)
            refine tz_rowV (As := [.int v68]) (st := []) (b := a) (C := RX12) (Ts := gT) hx hb hml hown h2 (fun _ h => h) (hX12_put l D cA ro sz H0 a v68 ([] ++ yrL y57.toInt) ha (by omega) (by omega) (by have hyl := yrL_len y57.toInt; (try simp only [List.length_append, List.length_nil, List.length_cons, dgL_len]); omega)) ⟨rfl, rfl⟩ ⟨by decide, by decide⟩ ⟨by decide, by decide⟩ (tb_8 173 rfl rfl) (tb_1 12 rfl rfl) (tb_8 170 rfl rfl) (tb_8 172 rfl rfl) (tb_0 59 rfl rfl) (show yX12_put.cls ≠ "java/lang/invoke/MethodHandle" ∧ yX12_put.cls ≠ "java/lang/invoke/VarHandle" ∧ (parseMethodDescriptor yX12_put.desc).map (fun d => d.parameters.length) = some 1 by decide +kernel) zs_blind (zs_ob hh63 ha (show RTg[11]? = some (0, 11, 0, fsX12) from rfl) (zCX12 hKn.1)) (fun U hU hW => ⟨rfl, by rw [hU]; exact hh63.l0, zKb s U hW.alike hKn, by rw [hU]; exact j63⟩) hh63.2.2.1 hl66.1 (Nat.le_of_ble_eq_true rfl) (eX12_writeDate (154, .invokevirtual 450, 3) (List.mem_of_getElem? (i := 79) rfl)) (fun r69 s69 t69 lo69 g69 f69 l69 => ?_)
            obtain ⟨q69, z69, c69, j69⟩ := f69
            cases q69
            rw [g69] at c69
            have hh69 : zh_ok D cA RTg ro sz H0 t69.heap lo69 := ⟨z69.1, z69.2.1, l69, z69.2.2.2⟩
            have kp69 := kp63.trans (c69.mono (ms' := [(11, 0), (11, 15), (11, 18), (11, 19), (11, 20), (31, 0)]) (by decide))
            have mf69_a_0 := (c69.1 a 11 0 11 0 fsX12 ha rfl (by decide) (by decide)).trans mf63_a_0
            have mf69_a_18 := (c69.1 a 11 18 11 0 fsX12 ha rfl (by decide) (by decide)).trans mf63_a_18
            have mf69_a_19 := (c69.1 a 11 19 11 0 fsX12 ha rfl (by decide) (by decide)).trans mf63_a_19
            have mf69_a_20 := (c69.1 a 11 20 11 0 fsX12 ha rfl (by decide) (by decide)).trans mf63_a_20
            refine W.eq (g2 := F0 m 157 ls66 []) rfl ?_
            refine lv_iload_n hx hb (eX12_writeDate (157, .iload_n 3, 1) (List.mem_of_getElem? (i := 80) rfl)) rfl (lv_at hl66 8 rfl) ?_
            refine ff_iconst hx hb (eX12_writeDate (158, .iconst 2, 1) (List.mem_of_getElem? (i := 81) rfl)) (by decide) (by decide) (fun v70 e70 => ?_)
            refine ff_icmp_ge hx hb (eX12_writeDate (159, .if_icmp .ge 33, 3) (List.mem_of_getElem? (i := 82) rfl)) (tgt := 192) rfl (fun c71 => ?_) (fun c71 => ?_)
            · skip
              refine lv_iload_n hx hb (eX12_writeDate (192, .iload_n 3, 1) (List.mem_of_getElem? (i := 99) rfl)) rfl (lv_at hl66 8 rfl) ?_
              refine ff_iconst hx hb (eX12_writeDate (193, .iconst 4, 1) (List.mem_of_getElem? (i := 100) rfl)) (by decide) (by decide) (fun v72 e72 => ?_)
              refine ff_icmp_ge hx hb (eX12_writeDate (194, .if_icmp .ge 22, 3) (List.mem_of_getElem? (i := 101) rfl)) (tgt := 216) rfl (fun c73 => (by exfalso; omega)) (fun c73 => ?_)
              refine lv_aload_n hx hb (eX12_writeDate (197, .aload_n 0, 1) (List.mem_of_getElem? (i := 102) rfl)) rfl (lv_at hl66 6 rfl) ?_
              refine lv_lload_n hx hb (eX12_writeDate (198, .lload_n 1, 1) (List.mem_of_getElem? (i := 103) rfl)) rfl (lv_at hl66 7 rfl) ?_
              refine lv_lload hx hb (eX12_writeDate (199, .lload 7, 2) (List.mem_of_getElem? (i := 104) rfl)) (lv_at hl66 3 rfl) ?_
              refine ff_iconst hx hb (eX12_writeDate (201, .iconst 1, 1) (List.mem_of_getElem? (i := 105) rfl)) (by decide) (by decide) (fun v74 e74 => ?_)
              refine ff_iconst hx hb (eX12_writeDate (202, .iconst 1, 1) (List.mem_of_getElem? (i := 106) rfl)) (by decide) (by decide) (fun v75 e75 => ?_)
              refine zu_S (vs := [.long y57, .int v74, .int v75]) (rest := [.long n0, .ref a]) hx hb hml hown hts0 zu_BT (hX12_dayOf l y57 v74 v75 (by omega) (by omega) (by omega) (by omega) (by omega) (by omega)) ⟨rfl, rfl⟩ ⟨by decide, by decide⟩ ⟨by decide, by decide⟩ (tb_6 135 rfl rfl) (tb_1 12 rfl rfl) (tb_6 133 rfl rfl) (tb_6 134 rfl rfl) (show yX12_dayOf.cls ≠ "java/lang/invoke/MethodHandle" ∧ yX12_dayOf.cls ≠ "java/lang/invoke/VarHandle" ∧ (parseMethodDescriptor yX12_dayOf.desc).map (fun d => d.parameters.length) = some 3 by decide +kernel) rfl (fun _ _ _ => trivial) hl66.1 (Nat.le_of_ble_eq_true rfl) (eX12_writeDate (203, .invokestatic 70, 3) (List.mem_of_getElem? (i := 107) rfl)) (fun w76 f76 => ?_)
              obtain ⟨v76, rfl, e76⟩ := f76
              have g76 := (show v76.toInt = ysI y57.toInt ∧ ysI y57.toInt ≤ n0.toInt ∧ n0.toInt < ysI y57.toInt + 366 by have h8 := ys_succ y57.toInt; have h7 := lpI_bd y57.toInt; have h6 := iy57; unfold isY at h6; rw [h8] at h6; refine ⟨by rw [e76, show v74.toInt = 1 by omega, show v75.toInt = 1 by omega, nu_first], h6.1, ?_⟩; omega)
              refine ff_lsub hx hb (eX12_writeDate (206, .lsub, 1) (List.mem_of_getElem? (i := 108) rfl)) (by omega) (by omega) (fun v77 e77 => ?_)
              refine ff_lconst hx hb (eX12_writeDate (207, .lconst 1, 1) (List.mem_of_getElem? (i := 109) rfl)) rfl (fun v78 e78 => ?_)
              refine ff_ladd hx hb (eX12_writeDate (208, .ladd, 1) (List.mem_of_getElem? (i := 110) rfl)) (by omega) (by omega) (fun v79 e79 => ?_)
              refine ff_iconst hx hb (eX12_writeDate (209, .iconst 3, 1) (List.mem_of_getElem? (i := 111) rfl)) (by decide) (by decide) (fun v80 e80 => ?_)
              refine tz_rowV (As := [.long v79, .int v80]) (st := []) (b := a) (C := RX12) (Ts := gT) hx hb hml hown h2 (fun _ h => h) (hX12_putNumber l D cA ro sz H0 a v79 v80 3 ([] ++ yrL y57.toInt ++ [v68.toInt]) ha (by omega) (by omega) (by omega) (by omega) (by have hyl := yrL_len y57.toInt; (try simp only [List.length_append, List.length_nil, List.length_cons, dgL_len]); omega)) ⟨rfl, rfl⟩ ⟨by decide, by decide⟩ ⟨by decide, by decide⟩ (tb_8 169 rfl rfl) (tb_1 12 rfl rfl) (tb_8 166 rfl rfl) (tb_8 168 rfl rfl) (tb_0 58 rfl rfl) (show yX12_putNumber.cls ≠ "java/lang/invoke/MethodHandle" ∧ yX12_putNumber.cls ≠ "java/lang/invoke/VarHandle" ∧ (parseMethodDescriptor yX12_putNumber.desc).map (fun d => d.parameters.length) = some 2 by decide +kernel) zs_blind (zs_ob hh69 ha (show RTg[11]? = some (0, 11, 0, fsX12) from rfl) (zCX12 hKn.1)) (fun U hU hW => ⟨rfl, by rw [hU]; exact hh69.l0, zKb s U hW.alike hKn, by rw [hU]; exact j69⟩) hh69.2.2.1 hl66.1 (Nat.le_of_ble_eq_true rfl) (eX12_writeDate (210, .invokevirtual 453, 3) (List.mem_of_getElem? (i := 112) rfl)) (fun r81 s81 t81 lo81 g81 f81 l81 => ?_)
              obtain ⟨q81, z81, c81, j81⟩ := f81
              cases q81
              rw [g81] at c81
              have hh81 : zh_ok D cA RTg ro sz H0 t81.heap lo81 := ⟨z81.1, z81.2.1, l81, z81.2.2.2⟩
              have kp81 := kp69.trans (c81.mono (ms' := [(11, 0), (11, 15), (11, 18), (11, 19), (11, 20), (31, 0)]) (by decide))
              have mf81_a_0 := (c81.1 a 11 0 11 0 fsX12 ha rfl (by decide) (by decide)).trans mf69_a_0
              have mf81_a_18 := (c81.1 a 11 18 11 0 fsX12 ha rfl (by decide) (by decide)).trans mf69_a_18
              have mf81_a_19 := (c81.1 a 11 19 11 0 fsX12 ha rfl (by decide) (by decide)).trans mf69_a_19
              have mf81_a_20 := (c81.1 a 11 20 11 0 fsX12 ha rfl (by decide) (by decide)).trans mf69_a_20
              refine W.eq (g2 := F0 m 213 ls66 []) rfl ?_
              refine lv_goto hx hb (eX12_writeDate (213, .goto 48, 3) (List.mem_of_getElem? (i := 113) rfl)) (tgt := 261) rfl ?_
              have hj82 := j81
              obtain ⟨wb82, nw82, zw82, fa82, ra82, fb82, hn82, hc82, hz82⟩ := id hj82
              refine lv_aload_n hx hb (eX12_writeDate (261, .aload_n 0, 1) (List.mem_of_getElem? (i := 139) rfl)) rfl (lv_at hl66 6 rfl) ?_
              refine tz_get (r := 11) (k := 15) (t := (0, 0, 120)) hx hb hh81 ha rfl rfl (hcl11 447 15 (0, 0, 120) (by decide) rfl).1 fb82 (eX12_writeDate (262, .getfield 447, 3) (List.mem_of_getElem? (i := 140) rfl)) ?_
              have hO9 : [] ++ yrL y57.toInt ++ [v68.toInt] ++ dgL 3 v79.toInt = dateL n0.toInt st0.toInt y57.toInt m57.toInt d57.toInt v37.toInt := by
                have hdsh : dshI st0.toInt y57.toInt = 1 := by unfold dshI; split <;> omega
                unfold dateL
                rw [if_neg (by omega), if_pos (by omega), hdsh]
                rw [show v68.toInt = 45 by omega]
                rw [show v79.toInt = (n0.toInt - ysI y57.toInt + 1) by omega]
                simp [orL, dsL]
              have hj9 := hj82
              rw [hO9] at hj9
              have hl9 := hn82
              rw [hO9] at hl9
              have hok := dateL_ok n0.toInt st0.toInt y57.toInt m57.toInt d57.toInt v37.toInt
              exact W.zret hx hb hr rfl (fun t ht hW => ⟨_, _, _, T, dateL n0.toInt st0.toInt y57.toInt m57.toInt d57.toInt v37.toInt, rfl, ⟨_, rfl, rfl⟩, by rw [ht]; exact hh81.l0, by rw [ht]; exact kp81.mono (by decide), by rw [ht]; exact mf81_a_0, by rw [ht]; exact ⟨hjt.kept ha kp81 (by decide) (by decide) (by decide), hj9, ⟨hkT, by have h7 := hok.2; omega, hok.1⟩⟩, rfl, Or.inr ⟨by omega, by unfold dwV dOK; omega, ⟨_, _, _, _, cv57, iw37, rfl⟩, hl9⟩⟩) hh81.2.2.1 (eX12_writeDate (265, .ireturn, 1) (List.mem_of_getElem? (i := 141) rfl))
            · skip
              refine lv_aload_n hx hb (eX12_writeDate (162, .aload_n 0, 1) (List.mem_of_getElem? (i := 83) rfl)) rfl (lv_at hl66 6 rfl) ?_
              refine lv_iload hx hb (eX12_writeDate (163, .iload 9, 2) (List.mem_of_getElem? (i := 84) rfl)) (lv_at hl66 2 rfl) ?_
              refine ff_i2l hx hb (eX12_writeDate (165, .i2l, 1) (List.mem_of_getElem? (i := 85) rfl)) (fun v83 e83 => ?_)
              refine ff_iconst hx hb (eX12_writeDate (166, .iconst 2, 1) (List.mem_of_getElem? (i := 86) rfl)) (by decide) (by decide) (fun v84 e84 => ?_)
              refine tz_rowV (As := [.long v83, .int v84]) (st := []) (b := a) (C := RX12) (Ts := gT) hx hb hml hown h2 (fun _ h => h) (hX12_putNumber l D cA ro sz H0 a v83 v84 2 ([] ++ yrL y57.toInt ++ [v68.toInt]) ha (by omega) (by omega) (by omega) (by omega) (by have hyl := yrL_len y57.toInt; (try simp only [List.length_append, List.length_nil, List.length_cons, dgL_len]); omega)) ⟨rfl, rfl⟩ ⟨by decide, by decide⟩ ⟨by decide, by decide⟩ (tb_8 169 rfl rfl) (tb_1 12 rfl rfl) (tb_8 166 rfl rfl) (tb_8 168 rfl rfl) (tb_0 58 rfl rfl) (show yX12_putNumber.cls ≠ "java/lang/invoke/MethodHandle" ∧ yX12_putNumber.cls ≠ "java/lang/invoke/VarHandle" ∧ (parseMethodDescriptor yX12_putNumber.desc).map (fun d => d.parameters.length) = some 2 by decide +kernel) zs_blind (zs_ob hh69 ha (show RTg[11]? = some (0, 11, 0, fsX12) from rfl) (zCX12 hKn.1)) (fun U hU hW => ⟨rfl, by rw [hU]; exact hh69.l0, zKb s U hW.alike hKn, by rw [hU]; exact j69⟩) hh69.2.2.1 hl66.1 (Nat.le_of_ble_eq_true rfl) (eX12_writeDate (167, .invokevirtual 453, 3) (List.mem_of_getElem? (i := 87) rfl)) (fun r85 s85 t85 lo85 g85 f85 l85 => ?_)
              obtain ⟨q85, z85, c85, j85⟩ := f85
              cases q85
              rw [g85] at c85
              have hh85 : zh_ok D cA RTg ro sz H0 t85.heap lo85 := ⟨z85.1, z85.2.1, l85, z85.2.2.2⟩
              have kp85 := kp69.trans (c85.mono (ms' := [(11, 0), (11, 15), (11, 18), (11, 19), (11, 20), (31, 0)]) (by decide))
              have mf85_a_0 := (c85.1 a 11 0 11 0 fsX12 ha rfl (by decide) (by decide)).trans mf69_a_0
              have mf85_a_18 := (c85.1 a 11 18 11 0 fsX12 ha rfl (by decide) (by decide)).trans mf69_a_18
              have mf85_a_19 := (c85.1 a 11 19 11 0 fsX12 ha rfl (by decide) (by decide)).trans mf69_a_19
              have mf85_a_20 := (c85.1 a 11 20 11 0 fsX12 ha rfl (by decide) (by decide)).trans mf69_a_20
              refine W.eq (g2 := F0 m 170 ls66 []) rfl ?_
              refine lv_iload hx hb (eX12_writeDate (170, .iload 11, 2) (List.mem_of_getElem? (i := 88) rfl)) (lv_at hl66 0 rfl) ?_
              refine ff_if_eq hx hb (eX12_writeDate (172, .ifCond .eq 9, 3) (List.mem_of_getElem? (i := 89) rfl)) (tgt := 181) rfl (fun c86 => (by exfalso; omega)) (fun c86 => ?_)
              refine lv_aload_n hx hb (eX12_writeDate (175, .aload_n 0, 1) (List.mem_of_getElem? (i := 90) rfl)) rfl (lv_at hl66 6 rfl) ?_
              refine ff_bipush hx hb (eX12_writeDate (176, .bipush 45, 2) (List.mem_of_getElem? (i := 91) rfl)) (by decide) (by decide) (fun v87 e87 => ?_)
              refine tz_rowV (As := [.int v87]) (st := []) (b := a) (C := RX12) (Ts := gT) hx hb hml hown h2 (fun _ h => h) (hX12_put l D cA ro sz H0 a v87 ([] ++ yrL y57.toInt ++ [v68.toInt] ++ dgL 2 v83.toInt) ha (by omega) (by omega) (by have hyl := yrL_len y57.toInt; (try simp only [List.length_append, List.length_nil, List.length_cons, dgL_len]); omega)) ⟨rfl, rfl⟩ ⟨by decide, by decide⟩ ⟨by decide, by decide⟩ (tb_8 173 rfl rfl) (tb_1 12 rfl rfl) (tb_8 170 rfl rfl) (tb_8 172 rfl rfl) (tb_0 59 rfl rfl) (show yX12_put.cls ≠ "java/lang/invoke/MethodHandle" ∧ yX12_put.cls ≠ "java/lang/invoke/VarHandle" ∧ (parseMethodDescriptor yX12_put.desc).map (fun d => d.parameters.length) = some 1 by decide +kernel) zs_blind (zs_ob hh85 ha (show RTg[11]? = some (0, 11, 0, fsX12) from rfl) (zCX12 hKn.1)) (fun U hU hW => ⟨rfl, by rw [hU]; exact hh85.l0, zKb s U hW.alike hKn, by rw [hU]; exact j85⟩) hh85.2.2.1 hl66.1 (Nat.le_of_ble_eq_true rfl) (eX12_writeDate (178, .invokevirtual 450, 3) (List.mem_of_getElem? (i := 92) rfl)) (fun r88 s88 t88 lo88 g88 f88 l88 => ?_)
              obtain ⟨q88, z88, c88, j88⟩ := f88
              cases q88
              rw [g88] at c88
              have hh88 : zh_ok D cA RTg ro sz H0 t88.heap lo88 := ⟨z88.1, z88.2.1, l88, z88.2.2.2⟩
              have kp88 := kp85.trans (c88.mono (ms' := [(11, 0), (11, 15), (11, 18), (11, 19), (11, 20), (31, 0)]) (by decide))
              have mf88_a_0 := (c88.1 a 11 0 11 0 fsX12 ha rfl (by decide) (by decide)).trans mf85_a_0
              have mf88_a_18 := (c88.1 a 11 18 11 0 fsX12 ha rfl (by decide) (by decide)).trans mf85_a_18
              have mf88_a_19 := (c88.1 a 11 19 11 0 fsX12 ha rfl (by decide) (by decide)).trans mf85_a_19
              have mf88_a_20 := (c88.1 a 11 20 11 0 fsX12 ha rfl (by decide) (by decide)).trans mf85_a_20
              refine W.eq (g2 := F0 m 181 ls66 []) rfl ?_
              refine lv_aload_n hx hb (eX12_writeDate (181, .aload_n 0, 1) (List.mem_of_getElem? (i := 93) rfl)) rfl (lv_at hl66 6 rfl) ?_
              refine lv_iload hx hb (eX12_writeDate (182, .iload 10, 2) (List.mem_of_getElem? (i := 94) rfl)) (lv_at hl66 1 rfl) ?_
              refine ff_i2l hx hb (eX12_writeDate (184, .i2l, 1) (List.mem_of_getElem? (i := 95) rfl)) (fun v89 e89 => ?_)
              refine ff_iconst hx hb (eX12_writeDate (185, .iconst 2, 1) (List.mem_of_getElem? (i := 96) rfl)) (by decide) (by decide) (fun v90 e90 => ?_)
              refine tz_rowV (As := [.long v89, .int v90]) (st := []) (b := a) (C := RX12) (Ts := gT) hx hb hml hown h2 (fun _ h => h) (hX12_putNumber l D cA ro sz H0 a v89 v90 2 ([] ++ yrL y57.toInt ++ [v68.toInt] ++ dgL 2 v83.toInt ++ [v87.toInt]) ha (by omega) (by omega) (by omega) (by omega) (by have hyl := yrL_len y57.toInt; (try simp only [List.length_append, List.length_nil, List.length_cons, dgL_len]); omega)) ⟨rfl, rfl⟩ ⟨by decide, by decide⟩ ⟨by decide, by decide⟩ (tb_8 169 rfl rfl) (tb_1 12 rfl rfl) (tb_8 166 rfl rfl) (tb_8 168 rfl rfl) (tb_0 58 rfl rfl) (show yX12_putNumber.cls ≠ "java/lang/invoke/MethodHandle" ∧ yX12_putNumber.cls ≠ "java/lang/invoke/VarHandle" ∧ (parseMethodDescriptor yX12_putNumber.desc).map (fun d => d.parameters.length) = some 2 by decide +kernel) zs_blind (zs_ob hh88 ha (show RTg[11]? = some (0, 11, 0, fsX12) from rfl) (zCX12 hKn.1)) (fun U hU hW => ⟨rfl, by rw [hU]; exact hh88.l0, zKb s U hW.alike hKn, by rw [hU]; exact j88⟩) hh88.2.2.1 hl66.1 (Nat.le_of_ble_eq_true rfl) (eX12_writeDate (186, .invokevirtual 453, 3) (List.mem_of_getElem? (i := 97) rfl)) (fun r91 s91 t91 lo91 g91 f91 l91 => ?_)
              obtain ⟨q91, z91, c91, j91⟩ := f91
              cases q91
              rw [g91] at c91
              have hh91 : zh_ok D cA RTg ro sz H0 t91.heap lo91 := ⟨z91.1, z91.2.1, l91, z91.2.2.2⟩
              have kp91 := kp88.trans (c91.mono (ms' := [(11, 0), (11, 15), (11, 18), (11, 19), (11, 20), (31, 0)]) (by decide))
              have mf91_a_0 := (c91.1 a 11 0 11 0 fsX12 ha rfl (by decide) (by decide)).trans mf88_a_0
              have mf91_a_18 := (c91.1 a 11 18 11 0 fsX12 ha rfl (by decide) (by decide)).trans mf88_a_18
              have mf91_a_19 := (c91.1 a 11 19 11 0 fsX12 ha rfl (by decide) (by decide)).trans mf88_a_19
              have mf91_a_20 := (c91.1 a 11 20 11 0 fsX12 ha rfl (by decide) (by decide)).trans mf88_a_20
              refine W.eq (g2 := F0 m 189 ls66 []) rfl ?_
              refine lv_goto hx hb (eX12_writeDate (189, .goto 72, 3) (List.mem_of_getElem? (i := 98) rfl)) (tgt := 261) rfl ?_
              have hj92 := j91
              obtain ⟨wb92, nw92, zw92, fa92, ra92, fb92, hn92, hc92, hz92⟩ := id hj92
              refine lv_aload_n hx hb (eX12_writeDate (261, .aload_n 0, 1) (List.mem_of_getElem? (i := 139) rfl)) rfl (lv_at hl66 6 rfl) ?_
              refine tz_get (r := 11) (k := 15) (t := (0, 0, 120)) hx hb hh91 ha rfl rfl (hcl11 447 15 (0, 0, 120) (by decide) rfl).1 fb92 (eX12_writeDate (262, .getfield 447, 3) (List.mem_of_getElem? (i := 140) rfl)) ?_
              have hO9 : [] ++ yrL y57.toInt ++ [v68.toInt] ++ dgL 2 v83.toInt ++ [v87.toInt] ++ dgL 2 v89.toInt = dateL n0.toInt st0.toInt y57.toInt m57.toInt d57.toInt v37.toInt := by
                have hdsh : dshI st0.toInt y57.toInt = 1 := by unfold dshI; split <;> omega
                unfold dateL
                rw [if_neg (by omega), if_neg (by omega), hdsh]
                rw [show v68.toInt = 45 by omega]
                rw [show v83.toInt = m57.toInt by omega]
                rw [show v87.toInt = 45 by omega]
                rw [show v89.toInt = d57.toInt by omega]
                simp [mdL, dsL]
              have hj9 := hj92
              rw [hO9] at hj9
              have hl9 := hn92
              rw [hO9] at hl9
              have hok := dateL_ok n0.toInt st0.toInt y57.toInt m57.toInt d57.toInt v37.toInt
              exact W.zret hx hb hr rfl (fun t ht hW => ⟨_, _, _, T, dateL n0.toInt st0.toInt y57.toInt m57.toInt d57.toInt v37.toInt, rfl, ⟨_, rfl, rfl⟩, by rw [ht]; exact hh91.l0, by rw [ht]; exact kp91.mono (by decide), by rw [ht]; exact mf91_a_0, by rw [ht]; exact ⟨hjt.kept ha kp91 (by decide) (by decide) (by decide), hj9, ⟨hkT, by have h7 := hok.2; omega, hok.1⟩⟩, rfl, Or.inr ⟨by omega, by unfold dwV dOK; omega, ⟨_, _, _, _, cv57, iw37, rfl⟩, hl9⟩⟩) hh91.2.2.1 (eX12_writeDate (265, .ireturn, 1) (List.mem_of_getElem? (i := 141) rfl))
          · skip
            refine lv_iload_n hx hb (eX12_writeDate (133, .iload_n 3, 1) (List.mem_of_getElem? (i := 67) rfl)) rfl (lv_at hl62 7 rfl) ?_
            refine ff_iconst hx hb (eX12_writeDate (134, .iconst 2, 1) (List.mem_of_getElem? (i := 68) rfl)) (by decide) (by decide) (fun v93 e93 => ?_)
            refine ff_iremP hx hb (eX12_writeDate (135, .irem, 1) (List.mem_of_getElem? (i := 69) rfl)) (by omega) (e93) (by decide) (fun v94 e94 => ?_)
            refine ff_if_ne hx hb (eX12_writeDate (136, .ifCond .ne 7, 3) (List.mem_of_getElem? (i := 70) rfl)) (tgt := 143) rfl (fun c95 => ?_) (fun c95 => ?_)
            · skip
              refine ff_iconst hx hb (eX12_writeDate (143, .iconst 0, 1) (List.mem_of_getElem? (i := 73) rfl)) (by decide) (by decide) (fun v96 e96 => ?_)
              refine lv_istore hx hb (eX12_writeDate (144, .istore 11, 2) (List.mem_of_getElem? (i := 74) rfl)) hl62 (by decide) rfl (fun ls97 hl97 => ?_)
              refine lv_iload hx hb (eX12_writeDate (146, .iload 11, 2) (List.mem_of_getElem? (i := 75) rfl)) (lv_at hl97 0 rfl) ?_
              refine ff_if_eq hx hb (eX12_writeDate (148, .ifCond .eq 9, 3) (List.mem_of_getElem? (i := 76) rfl)) (tgt := 157) rfl (fun c98 => ?_) (fun c98 => (by exfalso; omega))
              refine lv_iload_n hx hb (eX12_writeDate (157, .iload_n 3, 1) (List.mem_of_getElem? (i := 80) rfl)) rfl (lv_at hl97 8 rfl) ?_
              refine ff_iconst hx hb (eX12_writeDate (158, .iconst 2, 1) (List.mem_of_getElem? (i := 81) rfl)) (by decide) (by decide) (fun v99 e99 => ?_)
              refine ff_icmp_ge hx hb (eX12_writeDate (159, .if_icmp .ge 33, 3) (List.mem_of_getElem? (i := 82) rfl)) (tgt := 192) rfl (fun c100 => ?_) (fun c100 => ?_)
              · skip
                refine lv_iload_n hx hb (eX12_writeDate (192, .iload_n 3, 1) (List.mem_of_getElem? (i := 99) rfl)) rfl (lv_at hl97 8 rfl) ?_
                refine ff_iconst hx hb (eX12_writeDate (193, .iconst 4, 1) (List.mem_of_getElem? (i := 100) rfl)) (by decide) (by decide) (fun v101 e101 => ?_)
                refine ff_icmp_ge hx hb (eX12_writeDate (194, .if_icmp .ge 22, 3) (List.mem_of_getElem? (i := 101) rfl)) (tgt := 216) rfl (fun c102 => (by exfalso; omega)) (fun c102 => ?_)
                refine lv_aload_n hx hb (eX12_writeDate (197, .aload_n 0, 1) (List.mem_of_getElem? (i := 102) rfl)) rfl (lv_at hl97 6 rfl) ?_
                refine lv_lload_n hx hb (eX12_writeDate (198, .lload_n 1, 1) (List.mem_of_getElem? (i := 103) rfl)) rfl (lv_at hl97 7 rfl) ?_
                refine lv_lload hx hb (eX12_writeDate (199, .lload 7, 2) (List.mem_of_getElem? (i := 104) rfl)) (lv_at hl97 3 rfl) ?_
                refine ff_iconst hx hb (eX12_writeDate (201, .iconst 1, 1) (List.mem_of_getElem? (i := 105) rfl)) (by decide) (by decide) (fun v103 e103 => ?_)
                refine ff_iconst hx hb (eX12_writeDate (202, .iconst 1, 1) (List.mem_of_getElem? (i := 106) rfl)) (by decide) (by decide) (fun v104 e104 => ?_)
                refine zu_S (vs := [.long y57, .int v103, .int v104]) (rest := [.long n0, .ref a]) hx hb hml hown hts0 zu_BT (hX12_dayOf l y57 v103 v104 (by omega) (by omega) (by omega) (by omega) (by omega) (by omega)) ⟨rfl, rfl⟩ ⟨by decide, by decide⟩ ⟨by decide, by decide⟩ (tb_6 135 rfl rfl) (tb_1 12 rfl rfl) (tb_6 133 rfl rfl) (tb_6 134 rfl rfl) (show yX12_dayOf.cls ≠ "java/lang/invoke/MethodHandle" ∧ yX12_dayOf.cls ≠ "java/lang/invoke/VarHandle" ∧ (parseMethodDescriptor yX12_dayOf.desc).map (fun d => d.parameters.length) = some 3 by decide +kernel) rfl (fun _ _ _ => trivial) hl97.1 (Nat.le_of_ble_eq_true rfl) (eX12_writeDate (203, .invokestatic 70, 3) (List.mem_of_getElem? (i := 107) rfl)) (fun w105 f105 => ?_)
                obtain ⟨v105, rfl, e105⟩ := f105
                have g105 := (show v105.toInt = ysI y57.toInt ∧ ysI y57.toInt ≤ n0.toInt ∧ n0.toInt < ysI y57.toInt + 366 by have h8 := ys_succ y57.toInt; have h7 := lpI_bd y57.toInt; have h6 := iy57; unfold isY at h6; rw [h8] at h6; refine ⟨by rw [e105, show v103.toInt = 1 by omega, show v104.toInt = 1 by omega, nu_first], h6.1, ?_⟩; omega)
                refine ff_lsub hx hb (eX12_writeDate (206, .lsub, 1) (List.mem_of_getElem? (i := 108) rfl)) (by omega) (by omega) (fun v106 e106 => ?_)
                refine ff_lconst hx hb (eX12_writeDate (207, .lconst 1, 1) (List.mem_of_getElem? (i := 109) rfl)) rfl (fun v107 e107 => ?_)
                refine ff_ladd hx hb (eX12_writeDate (208, .ladd, 1) (List.mem_of_getElem? (i := 110) rfl)) (by omega) (by omega) (fun v108 e108 => ?_)
                refine ff_iconst hx hb (eX12_writeDate (209, .iconst 3, 1) (List.mem_of_getElem? (i := 111) rfl)) (by decide) (by decide) (fun v109 e109 => ?_)
                refine tz_rowV (As := [.long v108, .int v109]) (st := []) (b := a) (C := RX12) (Ts := gT) hx hb hml hown h2 (fun _ h => h) (hX12_putNumber l D cA ro sz H0 a v108 v109 3 ([] ++ yrL y57.toInt) ha (by omega) (by omega) (by omega) (by omega) (by have hyl := yrL_len y57.toInt; (try simp only [List.length_append, List.length_nil, List.length_cons, dgL_len]); omega)) ⟨rfl, rfl⟩ ⟨by decide, by decide⟩ ⟨by decide, by decide⟩ (tb_8 169 rfl rfl) (tb_1 12 rfl rfl) (tb_8 166 rfl rfl) (tb_8 168 rfl rfl) (tb_0 58 rfl rfl) (show yX12_putNumber.cls ≠ "java/lang/invoke/MethodHandle" ∧ yX12_putNumber.cls ≠ "java/lang/invoke/VarHandle" ∧ (parseMethodDescriptor yX12_putNumber.desc).map (fun d => d.parameters.length) = some 2 by decide +kernel) zs_blind (zs_ob hh63 ha (show RTg[11]? = some (0, 11, 0, fsX12) from rfl) (zCX12 hKn.1)) (fun U hU hW => ⟨rfl, by rw [hU]; exact hh63.l0, zKb s U hW.alike hKn, by rw [hU]; exact j63⟩) hh63.2.2.1 hl97.1 (Nat.le_of_ble_eq_true rfl) (eX12_writeDate (210, .invokevirtual 453, 3) (List.mem_of_getElem? (i := 112) rfl)) (fun r110 s110 t110 lo110 g110 f110 l110 => ?_)
                obtain ⟨q110, z110, c110, j110⟩ := f110
                cases q110
                rw [g110] at c110
                have hh110 : zh_ok D cA RTg ro sz H0 t110.heap lo110 := ⟨z110.1, z110.2.1, l110, z110.2.2.2⟩
                have kp110 := kp63.trans (c110.mono (ms' := [(11, 0), (11, 15), (11, 18), (11, 19), (11, 20), (31, 0)]) (by decide))
                have mf110_a_0 := (c110.1 a 11 0 11 0 fsX12 ha rfl (by decide) (by decide)).trans mf63_a_0
                have mf110_a_18 := (c110.1 a 11 18 11 0 fsX12 ha rfl (by decide) (by decide)).trans mf63_a_18
                have mf110_a_19 := (c110.1 a 11 19 11 0 fsX12 ha rfl (by decide) (by decide)).trans mf63_a_19
                have mf110_a_20 := (c110.1 a 11 20 11 0 fsX12 ha rfl (by decide) (by decide)).trans mf63_a_20
                refine W.eq (g2 := F0 m 213 ls97 []) rfl ?_
                refine lv_goto hx hb (eX12_writeDate (213, .goto 48, 3) (List.mem_of_getElem? (i := 113) rfl)) (tgt := 261) rfl ?_
                have hj111 := j110
                obtain ⟨wb111, nw111, zw111, fa111, ra111, fb111, hn111, hc111, hz111⟩ := id hj111
                refine lv_aload_n hx hb (eX12_writeDate (261, .aload_n 0, 1) (List.mem_of_getElem? (i := 139) rfl)) rfl (lv_at hl97 6 rfl) ?_
                refine tz_get (r := 11) (k := 15) (t := (0, 0, 120)) hx hb hh110 ha rfl rfl (hcl11 447 15 (0, 0, 120) (by decide) rfl).1 fb111 (eX12_writeDate (262, .getfield 447, 3) (List.mem_of_getElem? (i := 140) rfl)) ?_
                have hO9 : [] ++ yrL y57.toInt ++ dgL 3 v108.toInt = dateL n0.toInt st0.toInt y57.toInt m57.toInt d57.toInt v37.toInt := by
                  have hdsh : dshI st0.toInt y57.toInt = 0 := by unfold dshI; split <;> omega
                  unfold dateL
                  rw [if_neg (by omega), if_pos (by omega), hdsh]
                  rw [show v108.toInt = (n0.toInt - ysI y57.toInt + 1) by omega]
                  simp [orL, dsL]
                have hj9 := hj111
                rw [hO9] at hj9
                have hl9 := hn111
                rw [hO9] at hl9
                have hok := dateL_ok n0.toInt st0.toInt y57.toInt m57.toInt d57.toInt v37.toInt
                exact W.zret hx hb hr rfl (fun t ht hW => ⟨_, _, _, T, dateL n0.toInt st0.toInt y57.toInt m57.toInt d57.toInt v37.toInt, rfl, ⟨_, rfl, rfl⟩, by rw [ht]; exact hh110.l0, by rw [ht]; exact kp110.mono (by decide), by rw [ht]; exact mf110_a_0, by rw [ht]; exact ⟨hjt.kept ha kp110 (by decide) (by decide) (by decide), hj9, ⟨hkT, by have h7 := hok.2; omega, hok.1⟩⟩, rfl, Or.inr ⟨by omega, by unfold dwV dOK; omega, ⟨_, _, _, _, cv57, iw37, rfl⟩, hl9⟩⟩) hh110.2.2.1 (eX12_writeDate (265, .ireturn, 1) (List.mem_of_getElem? (i := 141) rfl))
              · skip
                refine lv_aload_n hx hb (eX12_writeDate (162, .aload_n 0, 1) (List.mem_of_getElem? (i := 83) rfl)) rfl (lv_at hl97 6 rfl) ?_
                refine lv_iload hx hb (eX12_writeDate (163, .iload 9, 2) (List.mem_of_getElem? (i := 84) rfl)) (lv_at hl97 2 rfl) ?_
                refine ff_i2l hx hb (eX12_writeDate (165, .i2l, 1) (List.mem_of_getElem? (i := 85) rfl)) (fun v112 e112 => ?_)
                refine ff_iconst hx hb (eX12_writeDate (166, .iconst 2, 1) (List.mem_of_getElem? (i := 86) rfl)) (by decide) (by decide) (fun v113 e113 => ?_)
                refine tz_rowV (As := [.long v112, .int v113]) (st := []) (b := a) (C := RX12) (Ts := gT) hx hb hml hown h2 (fun _ h => h) (hX12_putNumber l D cA ro sz H0 a v112 v113 2 ([] ++ yrL y57.toInt) ha (by omega) (by omega) (by omega) (by omega) (by have hyl := yrL_len y57.toInt; (try simp only [List.length_append, List.length_nil, List.length_cons, dgL_len]); omega)) ⟨rfl, rfl⟩ ⟨by decide, by decide⟩ ⟨by decide, by decide⟩ (tb_8 169 rfl rfl) (tb_1 12 rfl rfl) (tb_8 166 rfl rfl) (tb_8 168 rfl rfl) (tb_0 58 rfl rfl) (show yX12_putNumber.cls ≠ "java/lang/invoke/MethodHandle" ∧ yX12_putNumber.cls ≠ "java/lang/invoke/VarHandle" ∧ (parseMethodDescriptor yX12_putNumber.desc).map (fun d => d.parameters.length) = some 2 by decide +kernel) zs_blind (zs_ob hh63 ha (show RTg[11]? = some (0, 11, 0, fsX12) from rfl) (zCX12 hKn.1)) (fun U hU hW => ⟨rfl, by rw [hU]; exact hh63.l0, zKb s U hW.alike hKn, by rw [hU]; exact j63⟩) hh63.2.2.1 hl97.1 (Nat.le_of_ble_eq_true rfl) (eX12_writeDate (167, .invokevirtual 453, 3) (List.mem_of_getElem? (i := 87) rfl)) (fun r114 s114 t114 lo114 g114 f114 l114 => ?_)
                obtain ⟨q114, z114, c114, j114⟩ := f114
                cases q114
                rw [g114] at c114
                have hh114 : zh_ok D cA RTg ro sz H0 t114.heap lo114 := ⟨z114.1, z114.2.1, l114, z114.2.2.2⟩
                have kp114 := kp63.trans (c114.mono (ms' := [(11, 0), (11, 15), (11, 18), (11, 19), (11, 20), (31, 0)]) (by decide))
                have mf114_a_0 := (c114.1 a 11 0 11 0 fsX12 ha rfl (by decide) (by decide)).trans mf63_a_0
                have mf114_a_18 := (c114.1 a 11 18 11 0 fsX12 ha rfl (by decide) (by decide)).trans mf63_a_18
                have mf114_a_19 := (c114.1 a 11 19 11 0 fsX12 ha rfl (by decide) (by decide)).trans mf63_a_19
                have mf114_a_20 := (c114.1 a 11 20 11 0 fsX12 ha rfl (by decide) (by decide)).trans mf63_a_20
                refine W.eq (g2 := F0 m 170 ls97 []) rfl ?_
                refine lv_iload hx hb (eX12_writeDate (170, .iload 11, 2) (List.mem_of_getElem? (i := 88) rfl)) (lv_at hl97 0 rfl) ?_
                refine ff_if_eq hx hb (eX12_writeDate (172, .ifCond .eq 9, 3) (List.mem_of_getElem? (i := 89) rfl)) (tgt := 181) rfl (fun c115 => ?_) (fun c115 => (by exfalso; omega))
                refine lv_aload_n hx hb (eX12_writeDate (181, .aload_n 0, 1) (List.mem_of_getElem? (i := 93) rfl)) rfl (lv_at hl97 6 rfl) ?_
                refine lv_iload hx hb (eX12_writeDate (182, .iload 10, 2) (List.mem_of_getElem? (i := 94) rfl)) (lv_at hl97 1 rfl) ?_
                refine ff_i2l hx hb (eX12_writeDate (184, .i2l, 1) (List.mem_of_getElem? (i := 95) rfl)) (fun v116 e116 => ?_)
                refine ff_iconst hx hb (eX12_writeDate (185, .iconst 2, 1) (List.mem_of_getElem? (i := 96) rfl)) (by decide) (by decide) (fun v117 e117 => ?_)
                refine tz_rowV (As := [.long v116, .int v117]) (st := []) (b := a) (C := RX12) (Ts := gT) hx hb hml hown h2 (fun _ h => h) (hX12_putNumber l D cA ro sz H0 a v116 v117 2 ([] ++ yrL y57.toInt ++ dgL 2 v112.toInt) ha (by omega) (by omega) (by omega) (by omega) (by have hyl := yrL_len y57.toInt; (try simp only [List.length_append, List.length_nil, List.length_cons, dgL_len]); omega)) ⟨rfl, rfl⟩ ⟨by decide, by decide⟩ ⟨by decide, by decide⟩ (tb_8 169 rfl rfl) (tb_1 12 rfl rfl) (tb_8 166 rfl rfl) (tb_8 168 rfl rfl) (tb_0 58 rfl rfl) (show yX12_putNumber.cls ≠ "java/lang/invoke/MethodHandle" ∧ yX12_putNumber.cls ≠ "java/lang/invoke/VarHandle" ∧ (parseMethodDescriptor yX12_putNumber.desc).map (fun d => d.parameters.length) = some 2 by decide +kernel) zs_blind (zs_ob hh114 ha (show RTg[11]? = some (0, 11, 0, fsX12) from rfl) (zCX12 hKn.1)) (fun U hU hW => ⟨rfl, by rw [hU]; exact hh114.l0, zKb s U hW.alike hKn, by rw [hU]; exact j114⟩) hh114.2.2.1 hl97.1 (Nat.le_of_ble_eq_true rfl) (eX12_writeDate (186, .invokevirtual 453, 3) (List.mem_of_getElem? (i := 97) rfl)) (fun r118 s118 t118 lo118 g118 f118 l118 => ?_)
                obtain ⟨q118, z118, c118, j118⟩ := f118
                cases q118
                rw [g118] at c118
                have hh118 : zh_ok D cA RTg ro sz H0 t118.heap lo118 := ⟨z118.1, z118.2.1, l118, z118.2.2.2⟩
                have kp118 := kp114.trans (c118.mono (ms' := [(11, 0), (11, 15), (11, 18), (11, 19), (11, 20), (31, 0)]) (by decide))
                have mf118_a_0 := (c118.1 a 11 0 11 0 fsX12 ha rfl (by decide) (by decide)).trans mf114_a_0
                have mf118_a_18 := (c118.1 a 11 18 11 0 fsX12 ha rfl (by decide) (by decide)).trans mf114_a_18
                have mf118_a_19 := (c118.1 a 11 19 11 0 fsX12 ha rfl (by decide) (by decide)).trans mf114_a_19
                have mf118_a_20 := (c118.1 a 11 20 11 0 fsX12 ha rfl (by decide) (by decide)).trans mf114_a_20
                refine W.eq (g2 := F0 m 189 ls97 []) rfl ?_
                refine lv_goto hx hb (eX12_writeDate (189, .goto 72, 3) (List.mem_of_getElem? (i := 98) rfl)) (tgt := 261) rfl ?_
                have hj119 := j118
                obtain ⟨wb119, nw119, zw119, fa119, ra119, fb119, hn119, hc119, hz119⟩ := id hj119
                refine lv_aload_n hx hb (eX12_writeDate (261, .aload_n 0, 1) (List.mem_of_getElem? (i := 139) rfl)) rfl (lv_at hl97 6 rfl) ?_
                refine tz_get (r := 11) (k := 15) (t := (0, 0, 120)) hx hb hh118 ha rfl rfl (hcl11 447 15 (0, 0, 120) (by decide) rfl).1 fb119 (eX12_writeDate (262, .getfield 447, 3) (List.mem_of_getElem? (i := 140) rfl)) ?_
                have hO9 : [] ++ yrL y57.toInt ++ dgL 2 v112.toInt ++ dgL 2 v116.toInt = dateL n0.toInt st0.toInt y57.toInt m57.toInt d57.toInt v37.toInt := by
                  have hdsh : dshI st0.toInt y57.toInt = 0 := by unfold dshI; split <;> omega
                  unfold dateL
                  rw [if_neg (by omega), if_neg (by omega), hdsh]
                  rw [show v112.toInt = m57.toInt by omega]
                  rw [show v116.toInt = d57.toInt by omega]
                  simp [mdL, dsL]
                have hj9 := hj119
                rw [hO9] at hj9
                have hl9 := hn119
                rw [hO9] at hl9
                have hok := dateL_ok n0.toInt st0.toInt y57.toInt m57.toInt d57.toInt v37.toInt
                exact W.zret hx hb hr rfl (fun t ht hW => ⟨_, _, _, T, dateL n0.toInt st0.toInt y57.toInt m57.toInt d57.toInt v37.toInt, rfl, ⟨_, rfl, rfl⟩, by rw [ht]; exact hh118.l0, by rw [ht]; exact kp118.mono (by decide), by rw [ht]; exact mf118_a_0, by rw [ht]; exact ⟨hjt.kept ha kp118 (by decide) (by decide) (by decide), hj9, ⟨hkT, by have h7 := hok.2; omega, hok.1⟩⟩, rfl, Or.inr ⟨by omega, by unfold dwV dOK; omega, ⟨_, _, _, _, cv57, iw37, rfl⟩, hl9⟩⟩) hh118.2.2.1 (eX12_writeDate (265, .ireturn, 1) (List.mem_of_getElem? (i := 141) rfl))
            · skip
              refine ff_iconst hx hb (eX12_writeDate (139, .iconst 1, 1) (List.mem_of_getElem? (i := 71) rfl)) (by decide) (by decide) (fun v120 e120 => ?_)
              refine lv_goto hx hb (eX12_writeDate (140, .goto 4, 3) (List.mem_of_getElem? (i := 72) rfl)) (tgt := 144) rfl ?_
              refine lv_istore hx hb (eX12_writeDate (144, .istore 11, 2) (List.mem_of_getElem? (i := 74) rfl)) hl62 (by decide) rfl (fun ls121 hl121 => ?_)
              refine lv_iload hx hb (eX12_writeDate (146, .iload 11, 2) (List.mem_of_getElem? (i := 75) rfl)) (lv_at hl121 0 rfl) ?_
              refine ff_if_eq hx hb (eX12_writeDate (148, .ifCond .eq 9, 3) (List.mem_of_getElem? (i := 76) rfl)) (tgt := 157) rfl (fun c122 => (by exfalso; omega)) (fun c122 => ?_)
              refine lv_aload_n hx hb (eX12_writeDate (151, .aload_n 0, 1) (List.mem_of_getElem? (i := 77) rfl)) rfl (lv_at hl121 6 rfl) ?_
              refine ff_bipush hx hb (eX12_writeDate (152, .bipush 45, 2) (List.mem_of_getElem? (i := 78) rfl)) (by decide) (by decide) (fun v123 e123 => ?_)
              refine tz_rowV (As := [.int v123]) (st := []) (b := a) (C := RX12) (Ts := gT) hx hb hml hown h2 (fun _ h => h) (hX12_put l D cA ro sz H0 a v123 ([] ++ yrL y57.toInt) ha (by omega) (by omega) (by have hyl := yrL_len y57.toInt; (try simp only [List.length_append, List.length_nil, List.length_cons, dgL_len]); omega)) ⟨rfl, rfl⟩ ⟨by decide, by decide⟩ ⟨by decide, by decide⟩ (tb_8 173 rfl rfl) (tb_1 12 rfl rfl) (tb_8 170 rfl rfl) (tb_8 172 rfl rfl) (tb_0 59 rfl rfl) (show yX12_put.cls ≠ "java/lang/invoke/MethodHandle" ∧ yX12_put.cls ≠ "java/lang/invoke/VarHandle" ∧ (parseMethodDescriptor yX12_put.desc).map (fun d => d.parameters.length) = some 1 by decide +kernel) zs_blind (zs_ob hh63 ha (show RTg[11]? = some (0, 11, 0, fsX12) from rfl) (zCX12 hKn.1)) (fun U hU hW => ⟨rfl, by rw [hU]; exact hh63.l0, zKb s U hW.alike hKn, by rw [hU]; exact j63⟩) hh63.2.2.1 hl121.1 (Nat.le_of_ble_eq_true rfl) (eX12_writeDate (154, .invokevirtual 450, 3) (List.mem_of_getElem? (i := 79) rfl)) (fun r124 s124 t124 lo124 g124 f124 l124 => ?_)
              obtain ⟨q124, z124, c124, j124⟩ := f124
              cases q124
              rw [g124] at c124
              have hh124 : zh_ok D cA RTg ro sz H0 t124.heap lo124 := ⟨z124.1, z124.2.1, l124, z124.2.2.2⟩
              have kp124 := kp63.trans (c124.mono (ms' := [(11, 0), (11, 15), (11, 18), (11, 19), (11, 20), (31, 0)]) (by decide))
              have mf124_a_0 := (c124.1 a 11 0 11 0 fsX12 ha rfl (by decide) (by decide)).trans mf63_a_0
              have mf124_a_18 := (c124.1 a 11 18 11 0 fsX12 ha rfl (by decide) (by decide)).trans mf63_a_18
              have mf124_a_19 := (c124.1 a 11 19 11 0 fsX12 ha rfl (by decide) (by decide)).trans mf63_a_19
              have mf124_a_20 := (c124.1 a 11 20 11 0 fsX12 ha rfl (by decide) (by decide)).trans mf63_a_20
              refine W.eq (g2 := F0 m 157 ls121 []) rfl ?_
              refine lv_iload_n hx hb (eX12_writeDate (157, .iload_n 3, 1) (List.mem_of_getElem? (i := 80) rfl)) rfl (lv_at hl121 8 rfl) ?_
              refine ff_iconst hx hb (eX12_writeDate (158, .iconst 2, 1) (List.mem_of_getElem? (i := 81) rfl)) (by decide) (by decide) (fun v125 e125 => ?_)
              refine ff_icmp_ge hx hb (eX12_writeDate (159, .if_icmp .ge 33, 3) (List.mem_of_getElem? (i := 82) rfl)) (tgt := 192) rfl (fun c126 => ?_) (fun c126 => ?_)
              · skip
                refine lv_iload_n hx hb (eX12_writeDate (192, .iload_n 3, 1) (List.mem_of_getElem? (i := 99) rfl)) rfl (lv_at hl121 8 rfl) ?_
                refine ff_iconst hx hb (eX12_writeDate (193, .iconst 4, 1) (List.mem_of_getElem? (i := 100) rfl)) (by decide) (by decide) (fun v127 e127 => ?_)
                refine ff_icmp_ge hx hb (eX12_writeDate (194, .if_icmp .ge 22, 3) (List.mem_of_getElem? (i := 101) rfl)) (tgt := 216) rfl (fun c128 => (by exfalso; omega)) (fun c128 => ?_)
                refine lv_aload_n hx hb (eX12_writeDate (197, .aload_n 0, 1) (List.mem_of_getElem? (i := 102) rfl)) rfl (lv_at hl121 6 rfl) ?_
                refine lv_lload_n hx hb (eX12_writeDate (198, .lload_n 1, 1) (List.mem_of_getElem? (i := 103) rfl)) rfl (lv_at hl121 7 rfl) ?_
                refine lv_lload hx hb (eX12_writeDate (199, .lload 7, 2) (List.mem_of_getElem? (i := 104) rfl)) (lv_at hl121 3 rfl) ?_
                refine ff_iconst hx hb (eX12_writeDate (201, .iconst 1, 1) (List.mem_of_getElem? (i := 105) rfl)) (by decide) (by decide) (fun v129 e129 => ?_)
                refine ff_iconst hx hb (eX12_writeDate (202, .iconst 1, 1) (List.mem_of_getElem? (i := 106) rfl)) (by decide) (by decide) (fun v130 e130 => ?_)
                refine zu_S (vs := [.long y57, .int v129, .int v130]) (rest := [.long n0, .ref a]) hx hb hml hown hts0 zu_BT (hX12_dayOf l y57 v129 v130 (by omega) (by omega) (by omega) (by omega) (by omega) (by omega)) ⟨rfl, rfl⟩ ⟨by decide, by decide⟩ ⟨by decide, by decide⟩ (tb_6 135 rfl rfl) (tb_1 12 rfl rfl) (tb_6 133 rfl rfl) (tb_6 134 rfl rfl) (show yX12_dayOf.cls ≠ "java/lang/invoke/MethodHandle" ∧ yX12_dayOf.cls ≠ "java/lang/invoke/VarHandle" ∧ (parseMethodDescriptor yX12_dayOf.desc).map (fun d => d.parameters.length) = some 3 by decide +kernel) rfl (fun _ _ _ => trivial) hl121.1 (Nat.le_of_ble_eq_true rfl) (eX12_writeDate (203, .invokestatic 70, 3) (List.mem_of_getElem? (i := 107) rfl)) (fun w131 f131 => ?_)
                obtain ⟨v131, rfl, e131⟩ := f131
                have g131 := (show v131.toInt = ysI y57.toInt ∧ ysI y57.toInt ≤ n0.toInt ∧ n0.toInt < ysI y57.toInt + 366 by have h8 := ys_succ y57.toInt; have h7 := lpI_bd y57.toInt; have h6 := iy57; unfold isY at h6; rw [h8] at h6; refine ⟨by rw [e131, show v129.toInt = 1 by omega, show v130.toInt = 1 by omega, nu_first], h6.1, ?_⟩; omega)
                refine ff_lsub hx hb (eX12_writeDate (206, .lsub, 1) (List.mem_of_getElem? (i := 108) rfl)) (by omega) (by omega) (fun v132 e132 => ?_)
                refine ff_lconst hx hb (eX12_writeDate (207, .lconst 1, 1) (List.mem_of_getElem? (i := 109) rfl)) rfl (fun v133 e133 => ?_)
                refine ff_ladd hx hb (eX12_writeDate (208, .ladd, 1) (List.mem_of_getElem? (i := 110) rfl)) (by omega) (by omega) (fun v134 e134 => ?_)
                refine ff_iconst hx hb (eX12_writeDate (209, .iconst 3, 1) (List.mem_of_getElem? (i := 111) rfl)) (by decide) (by decide) (fun v135 e135 => ?_)
                refine tz_rowV (As := [.long v134, .int v135]) (st := []) (b := a) (C := RX12) (Ts := gT) hx hb hml hown h2 (fun _ h => h) (hX12_putNumber l D cA ro sz H0 a v134 v135 3 ([] ++ yrL y57.toInt ++ [v123.toInt]) ha (by omega) (by omega) (by omega) (by omega) (by have hyl := yrL_len y57.toInt; (try simp only [List.length_append, List.length_nil, List.length_cons, dgL_len]); omega)) ⟨rfl, rfl⟩ ⟨by decide, by decide⟩ ⟨by decide, by decide⟩ (tb_8 169 rfl rfl) (tb_1 12 rfl rfl) (tb_8 166 rfl rfl) (tb_8 168 rfl rfl) (tb_0 58 rfl rfl) (show yX12_putNumber.cls ≠ "java/lang/invoke/MethodHandle" ∧ yX12_putNumber.cls ≠ "java/lang/invoke/VarHandle" ∧ (parseMethodDescriptor yX12_putNumber.desc).map (fun d => d.parameters.length) = some 2 by decide +kernel) zs_blind (zs_ob hh124 ha (show RTg[11]? = some (0, 11, 0, fsX12) from rfl) (zCX12 hKn.1)) (fun U hU hW => ⟨rfl, by rw [hU]; exact hh124.l0, zKb s U hW.alike hKn, by rw [hU]; exact j124⟩) hh124.2.2.1 hl121.1 (Nat.le_of_ble_eq_true rfl) (eX12_writeDate (210, .invokevirtual 453, 3) (List.mem_of_getElem? (i := 112) rfl)) (fun r136 s136 t136 lo136 g136 f136 l136 => ?_)
                obtain ⟨q136, z136, c136, j136⟩ := f136
                cases q136
                rw [g136] at c136
                have hh136 : zh_ok D cA RTg ro sz H0 t136.heap lo136 := ⟨z136.1, z136.2.1, l136, z136.2.2.2⟩
                have kp136 := kp124.trans (c136.mono (ms' := [(11, 0), (11, 15), (11, 18), (11, 19), (11, 20), (31, 0)]) (by decide))
                have mf136_a_0 := (c136.1 a 11 0 11 0 fsX12 ha rfl (by decide) (by decide)).trans mf124_a_0
                have mf136_a_18 := (c136.1 a 11 18 11 0 fsX12 ha rfl (by decide) (by decide)).trans mf124_a_18
                have mf136_a_19 := (c136.1 a 11 19 11 0 fsX12 ha rfl (by decide) (by decide)).trans mf124_a_19
                have mf136_a_20 := (c136.1 a 11 20 11 0 fsX12 ha rfl (by decide) (by decide)).trans mf124_a_20
                refine W.eq (g2 := F0 m 213 ls121 []) rfl ?_
                refine lv_goto hx hb (eX12_writeDate (213, .goto 48, 3) (List.mem_of_getElem? (i := 113) rfl)) (tgt := 261) rfl ?_
                have hj137 := j136
                obtain ⟨wb137, nw137, zw137, fa137, ra137, fb137, hn137, hc137, hz137⟩ := id hj137
                refine lv_aload_n hx hb (eX12_writeDate (261, .aload_n 0, 1) (List.mem_of_getElem? (i := 139) rfl)) rfl (lv_at hl121 6 rfl) ?_
                refine tz_get (r := 11) (k := 15) (t := (0, 0, 120)) hx hb hh136 ha rfl rfl (hcl11 447 15 (0, 0, 120) (by decide) rfl).1 fb137 (eX12_writeDate (262, .getfield 447, 3) (List.mem_of_getElem? (i := 140) rfl)) ?_
                have hO9 : [] ++ yrL y57.toInt ++ [v123.toInt] ++ dgL 3 v134.toInt = dateL n0.toInt st0.toInt y57.toInt m57.toInt d57.toInt v37.toInt := by
                  have hdsh : dshI st0.toInt y57.toInt = 1 := by unfold dshI; split <;> omega
                  unfold dateL
                  rw [if_neg (by omega), if_pos (by omega), hdsh]
                  rw [show v123.toInt = 45 by omega]
                  rw [show v134.toInt = (n0.toInt - ysI y57.toInt + 1) by omega]
                  simp [orL, dsL]
                have hj9 := hj137
                rw [hO9] at hj9
                have hl9 := hn137
                rw [hO9] at hl9
                have hok := dateL_ok n0.toInt st0.toInt y57.toInt m57.toInt d57.toInt v37.toInt
                exact W.zret hx hb hr rfl (fun t ht hW => ⟨_, _, _, T, dateL n0.toInt st0.toInt y57.toInt m57.toInt d57.toInt v37.toInt, rfl, ⟨_, rfl, rfl⟩, by rw [ht]; exact hh136.l0, by rw [ht]; exact kp136.mono (by decide), by rw [ht]; exact mf136_a_0, by rw [ht]; exact ⟨hjt.kept ha kp136 (by decide) (by decide) (by decide), hj9, ⟨hkT, by have h7 := hok.2; omega, hok.1⟩⟩, rfl, Or.inr ⟨by omega, by unfold dwV dOK; omega, ⟨_, _, _, _, cv57, iw37, rfl⟩, hl9⟩⟩) hh136.2.2.1 (eX12_writeDate (265, .ireturn, 1) (List.mem_of_getElem? (i := 141) rfl))
              · skip
                refine lv_aload_n hx hb (eX12_writeDate (162, .aload_n 0, 1) (List.mem_of_getElem? (i := 83) rfl)) rfl (lv_at hl121 6 rfl) ?_
                refine lv_iload hx hb (eX12_writeDate (163, .iload 9, 2) (List.mem_of_getElem? (i := 84) rfl)) (lv_at hl121 2 rfl) ?_
                refine ff_i2l hx hb (eX12_writeDate (165, .i2l, 1) (List.mem_of_getElem? (i := 85) rfl)) (fun v138 e138 => ?_)
                refine ff_iconst hx hb (eX12_writeDate (166, .iconst 2, 1) (List.mem_of_getElem? (i := 86) rfl)) (by decide) (by decide) (fun v139 e139 => ?_)
                refine tz_rowV (As := [.long v138, .int v139]) (st := []) (b := a) (C := RX12) (Ts := gT) hx hb hml hown h2 (fun _ h => h) (hX12_putNumber l D cA ro sz H0 a v138 v139 2 ([] ++ yrL y57.toInt ++ [v123.toInt]) ha (by omega) (by omega) (by omega) (by omega) (by have hyl := yrL_len y57.toInt; (try simp only [List.length_append, List.length_nil, List.length_cons, dgL_len]); omega)) ⟨rfl, rfl⟩ ⟨by decide, by decide⟩ ⟨by decide, by decide⟩ (tb_8 169 rfl rfl) (tb_1 12 rfl rfl) (tb_8 166 rfl rfl) (tb_8 168 rfl rfl) (tb_0 58 rfl rfl) (show yX12_putNumber.cls ≠ "java/lang/invoke/MethodHandle" ∧ yX12_putNumber.cls ≠ "java/lang/invoke/VarHandle" ∧ (parseMethodDescriptor yX12_putNumber.desc).map (fun d => d.parameters.length) = some 2 by decide +kernel) zs_blind (zs_ob hh124 ha (show RTg[11]? = some (0, 11, 0, fsX12) from rfl) (zCX12 hKn.1)) (fun U hU hW => ⟨rfl, by rw [hU]; exact hh124.l0, zKb s U hW.alike hKn, by rw [hU]; exact j124⟩) hh124.2.2.1 hl121.1 (Nat.le_of_ble_eq_true rfl) (eX12_writeDate (167, .invokevirtual 453, 3) (List.mem_of_getElem? (i := 87) rfl)) (fun r140 s140 t140 lo140 g140 f140 l140 => ?_)
                obtain ⟨q140, z140, c140, j140⟩ := f140
                cases q140
                rw [g140] at c140
                have hh140 : zh_ok D cA RTg ro sz H0 t140.heap lo140 := ⟨z140.1, z140.2.1, l140, z140.2.2.2⟩
                have kp140 := kp124.trans (c140.mono (ms' := [(11, 0), (11, 15), (11, 18), (11, 19), (11, 20), (31, 0)]) (by decide))
                have mf140_a_0 := (c140.1 a 11 0 11 0 fsX12 ha rfl (by decide) (by decide)).trans mf124_a_0
                have mf140_a_18 := (c140.1 a 11 18 11 0 fsX12 ha rfl (by decide) (by decide)).trans mf124_a_18
                have mf140_a_19 := (c140.1 a 11 19 11 0 fsX12 ha rfl (by decide) (by decide)).trans mf124_a_19
                have mf140_a_20 := (c140.1 a 11 20 11 0 fsX12 ha rfl (by decide) (by decide)).trans mf124_a_20
                refine W.eq (g2 := F0 m 170 ls121 []) rfl ?_
                refine lv_iload hx hb (eX12_writeDate (170, .iload 11, 2) (List.mem_of_getElem? (i := 88) rfl)) (lv_at hl121 0 rfl) ?_
                refine ff_if_eq hx hb (eX12_writeDate (172, .ifCond .eq 9, 3) (List.mem_of_getElem? (i := 89) rfl)) (tgt := 181) rfl (fun c141 => (by exfalso; omega)) (fun c141 => ?_)
                refine lv_aload_n hx hb (eX12_writeDate (175, .aload_n 0, 1) (List.mem_of_getElem? (i := 90) rfl)) rfl (lv_at hl121 6 rfl) ?_
                refine ff_bipush hx hb (eX12_writeDate (176, .bipush 45, 2) (List.mem_of_getElem? (i := 91) rfl)) (by decide) (by decide) (fun v142 e142 => ?_)
                refine tz_rowV (As := [.int v142]) (st := []) (b := a) (C := RX12) (Ts := gT) hx hb hml hown h2 (fun _ h => h) (hX12_put l D cA ro sz H0 a v142 ([] ++ yrL y57.toInt ++ [v123.toInt] ++ dgL 2 v138.toInt) ha (by omega) (by omega) (by have hyl := yrL_len y57.toInt; (try simp only [List.length_append, List.length_nil, List.length_cons, dgL_len]); omega)) ⟨rfl, rfl⟩ ⟨by decide, by decide⟩ ⟨by decide, by decide⟩ (tb_8 173 rfl rfl) (tb_1 12 rfl rfl) (tb_8 170 rfl rfl) (tb_8 172 rfl rfl) (tb_0 59 rfl rfl) (show yX12_put.cls ≠ "java/lang/invoke/MethodHandle" ∧ yX12_put.cls ≠ "java/lang/invoke/VarHandle" ∧ (parseMethodDescriptor yX12_put.desc).map (fun d => d.parameters.length) = some 1 by decide +kernel) zs_blind (zs_ob hh140 ha (show RTg[11]? = some (0, 11, 0, fsX12) from rfl) (zCX12 hKn.1)) (fun U hU hW => ⟨rfl, by rw [hU]; exact hh140.l0, zKb s U hW.alike hKn, by rw [hU]; exact j140⟩) hh140.2.2.1 hl121.1 (Nat.le_of_ble_eq_true rfl) (eX12_writeDate (178, .invokevirtual 450, 3) (List.mem_of_getElem? (i := 92) rfl)) (fun r143 s143 t143 lo143 g143 f143 l143 => ?_)
                obtain ⟨q143, z143, c143, j143⟩ := f143
                cases q143
                rw [g143] at c143
                have hh143 : zh_ok D cA RTg ro sz H0 t143.heap lo143 := ⟨z143.1, z143.2.1, l143, z143.2.2.2⟩
                have kp143 := kp140.trans (c143.mono (ms' := [(11, 0), (11, 15), (11, 18), (11, 19), (11, 20), (31, 0)]) (by decide))
                have mf143_a_0 := (c143.1 a 11 0 11 0 fsX12 ha rfl (by decide) (by decide)).trans mf140_a_0
                have mf143_a_18 := (c143.1 a 11 18 11 0 fsX12 ha rfl (by decide) (by decide)).trans mf140_a_18
                have mf143_a_19 := (c143.1 a 11 19 11 0 fsX12 ha rfl (by decide) (by decide)).trans mf140_a_19
                have mf143_a_20 := (c143.1 a 11 20 11 0 fsX12 ha rfl (by decide) (by decide)).trans mf140_a_20
                refine W.eq (g2 := F0 m 181 ls121 []) rfl ?_
                refine lv_aload_n hx hb (eX12_writeDate (181, .aload_n 0, 1) (List.mem_of_getElem? (i := 93) rfl)) rfl (lv_at hl121 6 rfl) ?_
                refine lv_iload hx hb (eX12_writeDate (182, .iload 10, 2) (List.mem_of_getElem? (i := 94) rfl)) (lv_at hl121 1 rfl) ?_
                refine ff_i2l hx hb (eX12_writeDate (184, .i2l, 1) (List.mem_of_getElem? (i := 95) rfl)) (fun v144 e144 => ?_)
                refine ff_iconst hx hb (eX12_writeDate (185, .iconst 2, 1) (List.mem_of_getElem? (i := 96) rfl)) (by decide) (by decide) (fun v145 e145 => ?_)
                refine tz_rowV (As := [.long v144, .int v145]) (st := []) (b := a) (C := RX12) (Ts := gT) hx hb hml hown h2 (fun _ h => h) (hX12_putNumber l D cA ro sz H0 a v144 v145 2 ([] ++ yrL y57.toInt ++ [v123.toInt] ++ dgL 2 v138.toInt ++ [v142.toInt]) ha (by omega) (by omega) (by omega) (by omega) (by have hyl := yrL_len y57.toInt; (try simp only [List.length_append, List.length_nil, List.length_cons, dgL_len]); omega)) ⟨rfl, rfl⟩ ⟨by decide, by decide⟩ ⟨by decide, by decide⟩ (tb_8 169 rfl rfl) (tb_1 12 rfl rfl) (tb_8 166 rfl rfl) (tb_8 168 rfl rfl) (tb_0 58 rfl rfl) (show yX12_putNumber.cls ≠ "java/lang/invoke/MethodHandle" ∧ yX12_putNumber.cls ≠ "java/lang/invoke/VarHandle" ∧ (parseMethodDescriptor yX12_putNumber.desc).map (fun d => d.parameters.length) = some 2 by decide +kernel) zs_blind (zs_ob hh143 ha (show RTg[11]? = some (0, 11, 0, fsX12) from rfl) (zCX12 hKn.1)) (fun U hU hW => ⟨rfl, by rw [hU]; exact hh143.l0, zKb s U hW.alike hKn, by rw [hU]; exact j143⟩) hh143.2.2.1 hl121.1 (Nat.le_of_ble_eq_true rfl) (eX12_writeDate (186, .invokevirtual 453, 3) (List.mem_of_getElem? (i := 97) rfl)) (fun r146 s146 t146 lo146 g146 f146 l146 => ?_)
                obtain ⟨q146, z146, c146, j146⟩ := f146
                cases q146
                rw [g146] at c146
                have hh146 : zh_ok D cA RTg ro sz H0 t146.heap lo146 := ⟨z146.1, z146.2.1, l146, z146.2.2.2⟩
                have kp146 := kp143.trans (c146.mono (ms' := [(11, 0), (11, 15), (11, 18), (11, 19), (11, 20), (31, 0)]) (by decide))
                have mf146_a_0 := (c146.1 a 11 0 11 0 fsX12 ha rfl (by decide) (by decide)).trans mf143_a_0
                have mf146_a_18 := (c146.1 a 11 18 11 0 fsX12 ha rfl (by decide) (by decide)).trans mf143_a_18
                have mf146_a_19 := (c146.1 a 11 19 11 0 fsX12 ha rfl (by decide) (by decide)).trans mf143_a_19
                have mf146_a_20 := (c146.1 a 11 20 11 0 fsX12 ha rfl (by decide) (by decide)).trans mf143_a_20
                refine W.eq (g2 := F0 m 189 ls121 []) rfl ?_
                refine lv_goto hx hb (eX12_writeDate (189, .goto 72, 3) (List.mem_of_getElem? (i := 98) rfl)) (tgt := 261) rfl ?_
                have hj147 := j146
                obtain ⟨wb147, nw147, zw147, fa147, ra147, fb147, hn147, hc147, hz147⟩ := id hj147
                refine lv_aload_n hx hb (eX12_writeDate (261, .aload_n 0, 1) (List.mem_of_getElem? (i := 139) rfl)) rfl (lv_at hl121 6 rfl) ?_
                refine tz_get (r := 11) (k := 15) (t := (0, 0, 120)) hx hb hh146 ha rfl rfl (hcl11 447 15 (0, 0, 120) (by decide) rfl).1 fb147 (eX12_writeDate (262, .getfield 447, 3) (List.mem_of_getElem? (i := 140) rfl)) ?_
                have hO9 : [] ++ yrL y57.toInt ++ [v123.toInt] ++ dgL 2 v138.toInt ++ [v142.toInt] ++ dgL 2 v144.toInt = dateL n0.toInt st0.toInt y57.toInt m57.toInt d57.toInt v37.toInt := by
                  have hdsh : dshI st0.toInt y57.toInt = 1 := by unfold dshI; split <;> omega
                  unfold dateL
                  rw [if_neg (by omega), if_neg (by omega), hdsh]
                  rw [show v123.toInt = 45 by omega]
                  rw [show v138.toInt = m57.toInt by omega]
                  rw [show v142.toInt = 45 by omega]
                  rw [show v144.toInt = d57.toInt by omega]
                  simp [mdL, dsL]
                have hj9 := hj147
                rw [hO9] at hj9
                have hl9 := hn147
                rw [hO9] at hl9
                have hok := dateL_ok n0.toInt st0.toInt y57.toInt m57.toInt d57.toInt v37.toInt
                exact W.zret hx hb hr rfl (fun t ht hW => ⟨_, _, _, T, dateL n0.toInt st0.toInt y57.toInt m57.toInt d57.toInt v37.toInt, rfl, ⟨_, rfl, rfl⟩, by rw [ht]; exact hh146.l0, by rw [ht]; exact kp146.mono (by decide), by rw [ht]; exact mf146_a_0, by rw [ht]; exact ⟨hjt.kept ha kp146 (by decide) (by decide) (by decide), hj9, ⟨hkT, by have h7 := hok.2; omega, hok.1⟩⟩, rfl, Or.inr ⟨by omega, by unfold dwV dOK; omega, ⟨_, _, _, _, cv57, iw37, rfl⟩, hl9⟩⟩) hh146.2.2.1 (eX12_writeDate (265, .ireturn, 1) (List.mem_of_getElem? (i := 141) rfl))
        · skip
          refine lv_lload hx hb (eX12_writeDate (101, .lload 5, 2) (List.mem_of_getElem? (i := 52) rfl)) (lv_at hl50 1 rfl) ?_
          refine lv_goto hx hb (eX12_writeDate (103, .goto 7, 3) (List.mem_of_getElem? (i := 53) rfl)) (tgt := 110) rfl ?_
          refine lv_lstore hx hb (eX12_writeDate (110, .lstore 7, 2) (List.mem_of_getElem? (i := 56) rfl)) hl50 (by decide) rfl (fun ls148 hl148 => ?_)
          refine lv_aload_n hx hb (eX12_writeDate (112, .aload_n 0, 1) (List.mem_of_getElem? (i := 57) rfl)) rfl (lv_at hl148 3 rfl) ?_
          refine tz_get (r := 11) (k := 19) (t := (0, (-2147483648), 2147483647)) hx hb hh57 ha rfl rfl (hcl11 124 19 (0, (-2147483648), 2147483647) (by decide) rfl).1 hm57 (eX12_writeDate (113, .getfield 124, 3) (List.mem_of_getElem? (i := 58) rfl)) ?_
          refine lv_istore hx hb (eX12_writeDate (116, .istore 9, 2) (List.mem_of_getElem? (i := 59) rfl)) hl148 (by decide) rfl (fun ls149 hl149 => ?_)
          refine lv_aload_n hx hb (eX12_writeDate (118, .aload_n 0, 1) (List.mem_of_getElem? (i := 60) rfl)) rfl (lv_at hl149 4 rfl) ?_
          refine tz_get (r := 11) (k := 20) (t := (0, (-2147483648), 2147483647)) hx hb hh57 ha rfl rfl (hcl11 121 20 (0, (-2147483648), 2147483647) (by decide) rfl).1 hd57 (eX12_writeDate (119, .getfield 121, 3) (List.mem_of_getElem? (i := 61) rfl)) ?_
          refine lv_istore hx hb (eX12_writeDate (122, .istore 10, 2) (List.mem_of_getElem? (i := 62) rfl)) hl149 (by decide) rfl (fun ls150 hl150 => ?_)
          refine lv_aload_n hx hb (eX12_writeDate (124, .aload_n 0, 1) (List.mem_of_getElem? (i := 63) rfl)) rfl (lv_at hl150 5 rfl) ?_
          refine lv_lload hx hb (eX12_writeDate (125, .lload 7, 2) (List.mem_of_getElem? (i := 64) rfl)) (lv_at hl150 2 rfl) ?_
          refine tz_rowV (As := [.long v37]) (st := []) (b := a) (C := RX12) (Ts := gT) hx hb hml hown h2 (fun _ h => h) (hX12_putYear l D cA ro sz H0 a v37 ([]) ha (by omega) (by omega) (by show 0 + 7 ≤ 120; decide)) ⟨rfl, rfl⟩ ⟨by decide, by decide⟩ ⟨by decide, by decide⟩ (tb_8 164 rfl rfl) (tb_1 12 rfl rfl) (tb_8 161 rfl rfl) (tb_8 163 rfl rfl) (tb_0 57 rfl rfl) (show yX12_putYear.cls ≠ "java/lang/invoke/MethodHandle" ∧ yX12_putYear.cls ≠ "java/lang/invoke/VarHandle" ∧ (parseMethodDescriptor yX12_putYear.desc).map (fun d => d.parameters.length) = some 1 by decide +kernel) zs_blind (zs_ob hh57 ha (show RTg[11]? = some (0, 11, 0, fsX12) from rfl) (zCX12 hKn.1)) (fun U hU hW => ⟨rfl, by rw [hU]; exact hh57.l0, zKb s U hW.alike hKn, by rw [hU]; exact jo57⟩) hh57.2.2.1 hl150.1 (Nat.le_of_ble_eq_true rfl) (eX12_writeDate (127, .invokevirtual 459, 3) (List.mem_of_getElem? (i := 65) rfl)) (fun r151 s151 t151 lo151 g151 f151 l151 => ?_)
          obtain ⟨v151, q151, z151, c151, j151, e151⟩ := f151
          cases q151
          rw [g151] at c151
          have hh151 : zh_ok D cA RTg ro sz H0 t151.heap lo151 := ⟨z151.1, z151.2.1, l151, z151.2.2.2⟩
          have kp151 := kp57.trans (c151.mono (ms' := [(11, 0), (11, 15), (11, 18), (11, 19), (11, 20), (31, 0)]) (by decide))
          have mf151_a_0 := (c151.1 a 11 0 11 0 fsX12 ha rfl (by decide) (by decide)).trans mf57_a_0
          have mf151_a_18 := (c151.1 a 11 18 11 0 fsX12 ha rfl (by decide) (by decide)).trans hy57
          have mf151_a_19 := (c151.1 a 11 19 11 0 fsX12 ha rfl (by decide) (by decide)).trans hm57
          have mf151_a_20 := (c151.1 a 11 20 11 0 fsX12 ha rfl (by decide) (by decide)).trans hd57
          refine W.eq (g2 := F0 m 130 ls150 [.int v151]) rfl ?_
          refine ff_if_ne hx hb (eX12_writeDate (130, .ifCond .ne 9, 3) (List.mem_of_getElem? (i := 66) rfl)) (tgt := 139) rfl (fun c152 => ?_) (fun c152 => ?_)
          · skip
            refine ff_iconst hx hb (eX12_writeDate (139, .iconst 1, 1) (List.mem_of_getElem? (i := 71) rfl)) (by decide) (by decide) (fun v153 e153 => ?_)
            refine lv_goto hx hb (eX12_writeDate (140, .goto 4, 3) (List.mem_of_getElem? (i := 72) rfl)) (tgt := 144) rfl ?_
            refine lv_istore hx hb (eX12_writeDate (144, .istore 11, 2) (List.mem_of_getElem? (i := 74) rfl)) hl150 (by decide) rfl (fun ls154 hl154 => ?_)
            refine lv_iload hx hb (eX12_writeDate (146, .iload 11, 2) (List.mem_of_getElem? (i := 75) rfl)) (lv_at hl154 0 rfl) ?_
            refine ff_if_eq hx hb (eX12_writeDate (148, .ifCond .eq 9, 3) (List.mem_of_getElem? (i := 76) rfl)) (tgt := 157) rfl (fun c155 => (by exfalso; omega)) (fun c155 => ?_)
            refine lv_aload_n hx hb (eX12_writeDate (151, .aload_n 0, 1) (List.mem_of_getElem? (i := 77) rfl)) rfl (lv_at hl154 6 rfl) ?_
            refine ff_bipush hx hb (eX12_writeDate (152, .bipush 45, 2) (List.mem_of_getElem? (i := 78) rfl)) (by decide) (by decide) (fun v156 e156 => ?_)
            refine tz_rowV (As := [.int v156]) (st := []) (b := a) (C := RX12) (Ts := gT) hx hb hml hown h2 (fun _ h => h) (hX12_put l D cA ro sz H0 a v156 ([] ++ yrL v37.toInt) ha (by omega) (by omega) (by have hyl := yrL_len v37.toInt; (try simp only [List.length_append, List.length_nil, List.length_cons, dgL_len]); omega)) ⟨rfl, rfl⟩ ⟨by decide, by decide⟩ ⟨by decide, by decide⟩ (tb_8 173 rfl rfl) (tb_1 12 rfl rfl) (tb_8 170 rfl rfl) (tb_8 172 rfl rfl) (tb_0 59 rfl rfl) (show yX12_put.cls ≠ "java/lang/invoke/MethodHandle" ∧ yX12_put.cls ≠ "java/lang/invoke/VarHandle" ∧ (parseMethodDescriptor yX12_put.desc).map (fun d => d.parameters.length) = some 1 by decide +kernel) zs_blind (zs_ob hh151 ha (show RTg[11]? = some (0, 11, 0, fsX12) from rfl) (zCX12 hKn.1)) (fun U hU hW => ⟨rfl, by rw [hU]; exact hh151.l0, zKb s U hW.alike hKn, by rw [hU]; exact j151⟩) hh151.2.2.1 hl154.1 (Nat.le_of_ble_eq_true rfl) (eX12_writeDate (154, .invokevirtual 450, 3) (List.mem_of_getElem? (i := 79) rfl)) (fun r157 s157 t157 lo157 g157 f157 l157 => ?_)
            obtain ⟨q157, z157, c157, j157⟩ := f157
            cases q157
            rw [g157] at c157
            have hh157 : zh_ok D cA RTg ro sz H0 t157.heap lo157 := ⟨z157.1, z157.2.1, l157, z157.2.2.2⟩
            have kp157 := kp151.trans (c157.mono (ms' := [(11, 0), (11, 15), (11, 18), (11, 19), (11, 20), (31, 0)]) (by decide))
            have mf157_a_0 := (c157.1 a 11 0 11 0 fsX12 ha rfl (by decide) (by decide)).trans mf151_a_0
            have mf157_a_18 := (c157.1 a 11 18 11 0 fsX12 ha rfl (by decide) (by decide)).trans mf151_a_18
            have mf157_a_19 := (c157.1 a 11 19 11 0 fsX12 ha rfl (by decide) (by decide)).trans mf151_a_19
            have mf157_a_20 := (c157.1 a 11 20 11 0 fsX12 ha rfl (by decide) (by decide)).trans mf151_a_20
            refine W.eq (g2 := F0 m 157 ls154 []) rfl ?_
            refine lv_iload_n hx hb (eX12_writeDate (157, .iload_n 3, 1) (List.mem_of_getElem? (i := 80) rfl)) rfl (lv_at hl154 8 rfl) ?_
            refine ff_iconst hx hb (eX12_writeDate (158, .iconst 2, 1) (List.mem_of_getElem? (i := 81) rfl)) (by decide) (by decide) (fun v158 e158 => ?_)
            refine ff_icmp_ge hx hb (eX12_writeDate (159, .if_icmp .ge 33, 3) (List.mem_of_getElem? (i := 82) rfl)) (tgt := 192) rfl (fun c159 => ?_) (fun c159 => (by exfalso; omega))
            refine lv_iload_n hx hb (eX12_writeDate (192, .iload_n 3, 1) (List.mem_of_getElem? (i := 99) rfl)) rfl (lv_at hl154 8 rfl) ?_
            refine ff_iconst hx hb (eX12_writeDate (193, .iconst 4, 1) (List.mem_of_getElem? (i := 100) rfl)) (by decide) (by decide) (fun v160 e160 => ?_)
            refine ff_icmp_ge hx hb (eX12_writeDate (194, .if_icmp .ge 22, 3) (List.mem_of_getElem? (i := 101) rfl)) (tgt := 216) rfl (fun c161 => ?_) (fun c161 => (by exfalso; omega))
            refine lv_aload_n hx hb (eX12_writeDate (216, .aload_n 0, 1) (List.mem_of_getElem? (i := 114) rfl)) rfl (lv_at hl154 6 rfl) ?_
            refine ff_bipush hx hb (eX12_writeDate (217, .bipush 87, 2) (List.mem_of_getElem? (i := 115) rfl)) (by decide) (by decide) (fun v162 e162 => ?_)
            refine tz_rowV (As := [.int v162]) (st := []) (b := a) (C := RX12) (Ts := gT) hx hb hml hown h2 (fun _ h => h) (hX12_put l D cA ro sz H0 a v162 ([] ++ yrL v37.toInt ++ [v156.toInt]) ha (by omega) (by omega) (by have hyl := yrL_len v37.toInt; (try simp only [List.length_append, List.length_nil, List.length_cons, dgL_len]); omega)) ⟨rfl, rfl⟩ ⟨by decide, by decide⟩ ⟨by decide, by decide⟩ (tb_8 173 rfl rfl) (tb_1 12 rfl rfl) (tb_8 170 rfl rfl) (tb_8 172 rfl rfl) (tb_0 59 rfl rfl) (show yX12_put.cls ≠ "java/lang/invoke/MethodHandle" ∧ yX12_put.cls ≠ "java/lang/invoke/VarHandle" ∧ (parseMethodDescriptor yX12_put.desc).map (fun d => d.parameters.length) = some 1 by decide +kernel) zs_blind (zs_ob hh157 ha (show RTg[11]? = some (0, 11, 0, fsX12) from rfl) (zCX12 hKn.1)) (fun U hU hW => ⟨rfl, by rw [hU]; exact hh157.l0, zKb s U hW.alike hKn, by rw [hU]; exact j157⟩) hh157.2.2.1 hl154.1 (Nat.le_of_ble_eq_true rfl) (eX12_writeDate (219, .invokevirtual 450, 3) (List.mem_of_getElem? (i := 116) rfl)) (fun r163 s163 t163 lo163 g163 f163 l163 => ?_)
            obtain ⟨q163, z163, c163, j163⟩ := f163
            cases q163
            rw [g163] at c163
            have hh163 : zh_ok D cA RTg ro sz H0 t163.heap lo163 := ⟨z163.1, z163.2.1, l163, z163.2.2.2⟩
            have kp163 := kp157.trans (c163.mono (ms' := [(11, 0), (11, 15), (11, 18), (11, 19), (11, 20), (31, 0)]) (by decide))
            have mf163_a_0 := (c163.1 a 11 0 11 0 fsX12 ha rfl (by decide) (by decide)).trans mf157_a_0
            have mf163_a_18 := (c163.1 a 11 18 11 0 fsX12 ha rfl (by decide) (by decide)).trans mf157_a_18
            have mf163_a_19 := (c163.1 a 11 19 11 0 fsX12 ha rfl (by decide) (by decide)).trans mf157_a_19
            have mf163_a_20 := (c163.1 a 11 20 11 0 fsX12 ha rfl (by decide) (by decide)).trans mf157_a_20
            refine W.eq (g2 := F0 m 222 ls154 []) rfl ?_
            refine lv_aload_n hx hb (eX12_writeDate (222, .aload_n 0, 1) (List.mem_of_getElem? (i := 117) rfl)) rfl (lv_at hl154 6 rfl) ?_
            refine lv_lload_n hx hb (eX12_writeDate (223, .lload_n 1, 1) (List.mem_of_getElem? (i := 118) rfl)) rfl (lv_at hl154 7 rfl) ?_
            refine lv_lload hx hb (eX12_writeDate (224, .lload 5, 2) (List.mem_of_getElem? (i := 119) rfl)) (lv_at hl154 5 rfl) ?_
            refine zu_S (vs := [.long v37]) (rest := [.long n0, .ref a]) hx hb hml hown hts0 zu_BT (hX12_firstWeek l v37 (by omega) (by omega)) ⟨rfl, rfl⟩ ⟨by decide, by decide⟩ ⟨by decide, by decide⟩ (tb_7 77 rfl rfl) (tb_1 12 rfl rfl) (tb_7 75 rfl rfl) (tb_7 76 rfl rfl) (show yX12_firstWeek.cls ≠ "java/lang/invoke/MethodHandle" ∧ yX12_firstWeek.cls ≠ "java/lang/invoke/VarHandle" ∧ (parseMethodDescriptor yX12_firstWeek.desc).map (fun d => d.parameters.length) = some 1 by decide +kernel) rfl (fun _ _ _ => trivial) hl154.1 (Nat.le_of_ble_eq_true rfl) (eX12_writeDate (226, .invokestatic 142, 3) (List.mem_of_getElem? (i := 120) rfl)) (fun w164 f164 => ?_)
            obtain ⟨v164, rfl, e164⟩ := f164
            have g164 := wk_ref iw37
            refine ff_lsub hx hb (eX12_writeDate (229, .lsub, 1) (List.mem_of_getElem? (i := 121) rfl)) (by omega) (by omega) (fun v165 e165 => ?_)
            refine ff_ldc2 (n := 7) hx hb hown h2 (clX12_ok 136 7 (List.mem_of_getElem? (i := 16) rfl)) (eX12_writeDate (230, .ldc2_w 136, 3) (List.mem_of_getElem? (i := 122) rfl)) (fun v166 e166 => ?_)
            refine ff_ldivP hx hb (eX12_writeDate (233, .ldiv, 1) (List.mem_of_getElem? (i := 123) rfl)) (by omega) (e166) (by decide) (fun v167 e167 => ?_)
            refine ff_lconst hx hb (eX12_writeDate (234, .lconst 1, 1) (List.mem_of_getElem? (i := 124) rfl)) rfl (fun v168 e168 => ?_)
            refine ff_ladd hx hb (eX12_writeDate (235, .ladd, 1) (List.mem_of_getElem? (i := 125) rfl)) (by omega) (by omega) (fun v169 e169 => ?_)
            refine ff_iconst hx hb (eX12_writeDate (236, .iconst 2, 1) (List.mem_of_getElem? (i := 126) rfl)) (by decide) (by decide) (fun v170 e170 => ?_)
            refine tz_rowV (As := [.long v169, .int v170]) (st := []) (b := a) (C := RX12) (Ts := gT) hx hb hml hown h2 (fun _ h => h) (hX12_putNumber l D cA ro sz H0 a v169 v170 2 ([] ++ yrL v37.toInt ++ [v156.toInt] ++ [v162.toInt]) ha (by omega) (by omega) (by omega) (by omega) (by have hyl := yrL_len v37.toInt; (try simp only [List.length_append, List.length_nil, List.length_cons, dgL_len]); omega)) ⟨rfl, rfl⟩ ⟨by decide, by decide⟩ ⟨by decide, by decide⟩ (tb_8 169 rfl rfl) (tb_1 12 rfl rfl) (tb_8 166 rfl rfl) (tb_8 168 rfl rfl) (tb_0 58 rfl rfl) (show yX12_putNumber.cls ≠ "java/lang/invoke/MethodHandle" ∧ yX12_putNumber.cls ≠ "java/lang/invoke/VarHandle" ∧ (parseMethodDescriptor yX12_putNumber.desc).map (fun d => d.parameters.length) = some 2 by decide +kernel) zs_blind (zs_ob hh163 ha (show RTg[11]? = some (0, 11, 0, fsX12) from rfl) (zCX12 hKn.1)) (fun U hU hW => ⟨rfl, by rw [hU]; exact hh163.l0, zKb s U hW.alike hKn, by rw [hU]; exact j163⟩) hh163.2.2.1 hl154.1 (Nat.le_of_ble_eq_true rfl) (eX12_writeDate (237, .invokevirtual 453, 3) (List.mem_of_getElem? (i := 127) rfl)) (fun r171 s171 t171 lo171 g171 f171 l171 => ?_)
            obtain ⟨q171, z171, c171, j171⟩ := f171
            cases q171
            rw [g171] at c171
            have hh171 : zh_ok D cA RTg ro sz H0 t171.heap lo171 := ⟨z171.1, z171.2.1, l171, z171.2.2.2⟩
            have kp171 := kp163.trans (c171.mono (ms' := [(11, 0), (11, 15), (11, 18), (11, 19), (11, 20), (31, 0)]) (by decide))
            have mf171_a_0 := (c171.1 a 11 0 11 0 fsX12 ha rfl (by decide) (by decide)).trans mf163_a_0
            have mf171_a_18 := (c171.1 a 11 18 11 0 fsX12 ha rfl (by decide) (by decide)).trans mf163_a_18
            have mf171_a_19 := (c171.1 a 11 19 11 0 fsX12 ha rfl (by decide) (by decide)).trans mf163_a_19
            have mf171_a_20 := (c171.1 a 11 20 11 0 fsX12 ha rfl (by decide) (by decide)).trans mf163_a_20
            refine W.eq (g2 := F0 m 240 ls154 []) rfl ?_
            refine lv_iload hx hb (eX12_writeDate (240, .iload 11, 2) (List.mem_of_getElem? (i := 128) rfl)) (lv_at hl154 0 rfl) ?_
            refine ff_if_eq hx hb (eX12_writeDate (242, .ifCond .eq 9, 3) (List.mem_of_getElem? (i := 129) rfl)) (tgt := 251) rfl (fun c172 => (by exfalso; omega)) (fun c172 => ?_)
            refine lv_aload_n hx hb (eX12_writeDate (245, .aload_n 0, 1) (List.mem_of_getElem? (i := 130) rfl)) rfl (lv_at hl154 6 rfl) ?_
            refine ff_bipush hx hb (eX12_writeDate (246, .bipush 45, 2) (List.mem_of_getElem? (i := 131) rfl)) (by decide) (by decide) (fun v173 e173 => ?_)
            refine tz_rowV (As := [.int v173]) (st := []) (b := a) (C := RX12) (Ts := gT) hx hb hml hown h2 (fun _ h => h) (hX12_put l D cA ro sz H0 a v173 ([] ++ yrL v37.toInt ++ [v156.toInt] ++ [v162.toInt] ++ dgL 2 v169.toInt) ha (by omega) (by omega) (by have hyl := yrL_len v37.toInt; (try simp only [List.length_append, List.length_nil, List.length_cons, dgL_len]); omega)) ⟨rfl, rfl⟩ ⟨by decide, by decide⟩ ⟨by decide, by decide⟩ (tb_8 173 rfl rfl) (tb_1 12 rfl rfl) (tb_8 170 rfl rfl) (tb_8 172 rfl rfl) (tb_0 59 rfl rfl) (show yX12_put.cls ≠ "java/lang/invoke/MethodHandle" ∧ yX12_put.cls ≠ "java/lang/invoke/VarHandle" ∧ (parseMethodDescriptor yX12_put.desc).map (fun d => d.parameters.length) = some 1 by decide +kernel) zs_blind (zs_ob hh171 ha (show RTg[11]? = some (0, 11, 0, fsX12) from rfl) (zCX12 hKn.1)) (fun U hU hW => ⟨rfl, by rw [hU]; exact hh171.l0, zKb s U hW.alike hKn, by rw [hU]; exact j171⟩) hh171.2.2.1 hl154.1 (Nat.le_of_ble_eq_true rfl) (eX12_writeDate (248, .invokevirtual 450, 3) (List.mem_of_getElem? (i := 132) rfl)) (fun r174 s174 t174 lo174 g174 f174 l174 => ?_)
            obtain ⟨q174, z174, c174, j174⟩ := f174
            cases q174
            rw [g174] at c174
            have hh174 : zh_ok D cA RTg ro sz H0 t174.heap lo174 := ⟨z174.1, z174.2.1, l174, z174.2.2.2⟩
            have kp174 := kp171.trans (c174.mono (ms' := [(11, 0), (11, 15), (11, 18), (11, 19), (11, 20), (31, 0)]) (by decide))
            have mf174_a_0 := (c174.1 a 11 0 11 0 fsX12 ha rfl (by decide) (by decide)).trans mf171_a_0
            have mf174_a_18 := (c174.1 a 11 18 11 0 fsX12 ha rfl (by decide) (by decide)).trans mf171_a_18
            have mf174_a_19 := (c174.1 a 11 19 11 0 fsX12 ha rfl (by decide) (by decide)).trans mf171_a_19
            have mf174_a_20 := (c174.1 a 11 20 11 0 fsX12 ha rfl (by decide) (by decide)).trans mf171_a_20
            refine W.eq (g2 := F0 m 251 ls154 []) rfl ?_
            refine lv_aload_n hx hb (eX12_writeDate (251, .aload_n 0, 1) (List.mem_of_getElem? (i := 133) rfl)) rfl (lv_at hl154 6 rfl) ?_
            refine lv_lload_n hx hb (eX12_writeDate (252, .lload_n 1, 1) (List.mem_of_getElem? (i := 134) rfl)) rfl (lv_at hl154 7 rfl) ?_
            refine zu_S (vs := [.long n0]) (rest := [.ref a]) hx hb hml hown hts0 zu_BT (hX12_weekdayOf l n0 (by omega) (by omega)) ⟨rfl, rfl⟩ ⟨by decide, by decide⟩ ⟨by decide, by decide⟩ (tb_7 80 rfl rfl) (tb_1 12 rfl rfl) (tb_7 78 rfl rfl) (tb_7 79 rfl rfl) (show yX12_weekdayOf.cls ≠ "java/lang/invoke/MethodHandle" ∧ yX12_weekdayOf.cls ≠ "java/lang/invoke/VarHandle" ∧ (parseMethodDescriptor yX12_weekdayOf.desc).map (fun d => d.parameters.length) = some 1 by decide +kernel) rfl (fun _ _ _ => trivial) hl154.1 (Nat.le_of_ble_eq_true rfl) (eX12_writeDate (253, .invokestatic 138, 3) (List.mem_of_getElem? (i := 135) rfl)) (fun w175 f175 => ?_)
            obtain ⟨v175, rfl, e175⟩ := f175
            refine ff_i2l hx hb (eX12_writeDate (256, .i2l, 1) (List.mem_of_getElem? (i := 136) rfl)) (fun v176 e176 => ?_)
            refine ff_iconst hx hb (eX12_writeDate (257, .iconst 1, 1) (List.mem_of_getElem? (i := 137) rfl)) (by decide) (by decide) (fun v177 e177 => ?_)
            refine tz_rowV (As := [.long v176, .int v177]) (st := []) (b := a) (C := RX12) (Ts := gT) hx hb hml hown h2 (fun _ h => h) (hX12_putNumber l D cA ro sz H0 a v176 v177 1 ([] ++ yrL v37.toInt ++ [v156.toInt] ++ [v162.toInt] ++ dgL 2 v169.toInt ++ [v173.toInt]) ha (by omega) (by omega) (by omega) (by omega) (by have hyl := yrL_len v37.toInt; (try simp only [List.length_append, List.length_nil, List.length_cons, dgL_len]); omega)) ⟨rfl, rfl⟩ ⟨by decide, by decide⟩ ⟨by decide, by decide⟩ (tb_8 169 rfl rfl) (tb_1 12 rfl rfl) (tb_8 166 rfl rfl) (tb_8 168 rfl rfl) (tb_0 58 rfl rfl) (show yX12_putNumber.cls ≠ "java/lang/invoke/MethodHandle" ∧ yX12_putNumber.cls ≠ "java/lang/invoke/VarHandle" ∧ (parseMethodDescriptor yX12_putNumber.desc).map (fun d => d.parameters.length) = some 2 by decide +kernel) zs_blind (zs_ob hh174 ha (show RTg[11]? = some (0, 11, 0, fsX12) from rfl) (zCX12 hKn.1)) (fun U hU hW => ⟨rfl, by rw [hU]; exact hh174.l0, zKb s U hW.alike hKn, by rw [hU]; exact j174⟩) hh174.2.2.1 hl154.1 (Nat.le_of_ble_eq_true rfl) (eX12_writeDate (258, .invokevirtual 453, 3) (List.mem_of_getElem? (i := 138) rfl)) (fun r178 s178 t178 lo178 g178 f178 l178 => ?_)
            obtain ⟨q178, z178, c178, j178⟩ := f178
            cases q178
            rw [g178] at c178
            have hh178 : zh_ok D cA RTg ro sz H0 t178.heap lo178 := ⟨z178.1, z178.2.1, l178, z178.2.2.2⟩
            have kp178 := kp174.trans (c178.mono (ms' := [(11, 0), (11, 15), (11, 18), (11, 19), (11, 20), (31, 0)]) (by decide))
            have mf178_a_0 := (c178.1 a 11 0 11 0 fsX12 ha rfl (by decide) (by decide)).trans mf174_a_0
            have mf178_a_18 := (c178.1 a 11 18 11 0 fsX12 ha rfl (by decide) (by decide)).trans mf174_a_18
            have mf178_a_19 := (c178.1 a 11 19 11 0 fsX12 ha rfl (by decide) (by decide)).trans mf174_a_19
            have mf178_a_20 := (c178.1 a 11 20 11 0 fsX12 ha rfl (by decide) (by decide)).trans mf174_a_20
            refine W.eq (g2 := F0 m 261 ls154 []) rfl ?_
            have hj179 := j178
            obtain ⟨wb179, nw179, zw179, fa179, ra179, fb179, hn179, hc179, hz179⟩ := id hj179
            refine lv_aload_n hx hb (eX12_writeDate (261, .aload_n 0, 1) (List.mem_of_getElem? (i := 139) rfl)) rfl (lv_at hl154 6 rfl) ?_
            refine tz_get (r := 11) (k := 15) (t := (0, 0, 120)) hx hb hh178 ha rfl rfl (hcl11 447 15 (0, 0, 120) (by decide) rfl).1 fb179 (eX12_writeDate (262, .getfield 447, 3) (List.mem_of_getElem? (i := 140) rfl)) ?_
            have hO9 : [] ++ yrL v37.toInt ++ [v156.toInt] ++ [v162.toInt] ++ dgL 2 v169.toInt ++ [v173.toInt] ++ dgL 1 v176.toInt = dateL n0.toInt st0.toInt y57.toInt m57.toInt d57.toInt v37.toInt := by
              have hdsh : dshI st0.toInt v37.toInt = 1 := by unfold dshI; split <;> omega
              unfold dateL
              rw [if_pos (by omega), hdsh]
              rw [show v156.toInt = 45 by omega]
              rw [show v162.toInt = 87 by omega]
              rw [show v169.toInt = ((thI n0.toInt - ysI v37.toInt) / 7 + 1) by omega]
              rw [show v173.toInt = 45 by omega]
              rw [show v176.toInt = ((n0.toInt + 3) % 7 + 1) by omega]
              simp [wkL, dsL]
            have hj9 := hj179
            rw [hO9] at hj9
            have hl9 := hn179
            rw [hO9] at hl9
            have hok := dateL_ok n0.toInt st0.toInt y57.toInt m57.toInt d57.toInt v37.toInt
            exact W.zret hx hb hr rfl (fun t ht hW => ⟨_, _, _, T, dateL n0.toInt st0.toInt y57.toInt m57.toInt d57.toInt v37.toInt, rfl, ⟨_, rfl, rfl⟩, by rw [ht]; exact hh178.l0, by rw [ht]; exact kp178.mono (by decide), by rw [ht]; exact mf178_a_0, by rw [ht]; exact ⟨hjt.kept ha kp178 (by decide) (by decide) (by decide), hj9, ⟨hkT, by have h7 := hok.2; omega, hok.1⟩⟩, rfl, Or.inr ⟨by omega, by unfold dwV dOK; omega, ⟨_, _, _, _, cv57, iw37, rfl⟩, hl9⟩⟩) hh178.2.2.1 (eX12_writeDate (265, .ireturn, 1) (List.mem_of_getElem? (i := 141) rfl))
          · skip
            refine lv_iload_n hx hb (eX12_writeDate (133, .iload_n 3, 1) (List.mem_of_getElem? (i := 67) rfl)) rfl (lv_at hl150 7 rfl) ?_
            refine ff_iconst hx hb (eX12_writeDate (134, .iconst 2, 1) (List.mem_of_getElem? (i := 68) rfl)) (by decide) (by decide) (fun v180 e180 => ?_)
            refine ff_iremP hx hb (eX12_writeDate (135, .irem, 1) (List.mem_of_getElem? (i := 69) rfl)) (by omega) (e180) (by decide) (fun v181 e181 => ?_)
            refine ff_if_ne hx hb (eX12_writeDate (136, .ifCond .ne 7, 3) (List.mem_of_getElem? (i := 70) rfl)) (tgt := 143) rfl (fun c182 => ?_) (fun c182 => ?_)
            · skip
              refine ff_iconst hx hb (eX12_writeDate (143, .iconst 0, 1) (List.mem_of_getElem? (i := 73) rfl)) (by decide) (by decide) (fun v183 e183 => ?_)
              refine lv_istore hx hb (eX12_writeDate (144, .istore 11, 2) (List.mem_of_getElem? (i := 74) rfl)) hl150 (by decide) rfl (fun ls184 hl184 => ?_)
              refine lv_iload hx hb (eX12_writeDate (146, .iload 11, 2) (List.mem_of_getElem? (i := 75) rfl)) (lv_at hl184 0 rfl) ?_
              refine ff_if_eq hx hb (eX12_writeDate (148, .ifCond .eq 9, 3) (List.mem_of_getElem? (i := 76) rfl)) (tgt := 157) rfl (fun c185 => ?_) (fun c185 => (by exfalso; omega))
              refine lv_iload_n hx hb (eX12_writeDate (157, .iload_n 3, 1) (List.mem_of_getElem? (i := 80) rfl)) rfl (lv_at hl184 8 rfl) ?_
              refine ff_iconst hx hb (eX12_writeDate (158, .iconst 2, 1) (List.mem_of_getElem? (i := 81) rfl)) (by decide) (by decide) (fun v186 e186 => ?_)
              refine ff_icmp_ge hx hb (eX12_writeDate (159, .if_icmp .ge 33, 3) (List.mem_of_getElem? (i := 82) rfl)) (tgt := 192) rfl (fun c187 => ?_) (fun c187 => (by exfalso; omega))
              refine lv_iload_n hx hb (eX12_writeDate (192, .iload_n 3, 1) (List.mem_of_getElem? (i := 99) rfl)) rfl (lv_at hl184 8 rfl) ?_
              refine ff_iconst hx hb (eX12_writeDate (193, .iconst 4, 1) (List.mem_of_getElem? (i := 100) rfl)) (by decide) (by decide) (fun v188 e188 => ?_)
              refine ff_icmp_ge hx hb (eX12_writeDate (194, .if_icmp .ge 22, 3) (List.mem_of_getElem? (i := 101) rfl)) (tgt := 216) rfl (fun c189 => ?_) (fun c189 => (by exfalso; omega))
              refine lv_aload_n hx hb (eX12_writeDate (216, .aload_n 0, 1) (List.mem_of_getElem? (i := 114) rfl)) rfl (lv_at hl184 6 rfl) ?_
              refine ff_bipush hx hb (eX12_writeDate (217, .bipush 87, 2) (List.mem_of_getElem? (i := 115) rfl)) (by decide) (by decide) (fun v190 e190 => ?_)
              refine tz_rowV (As := [.int v190]) (st := []) (b := a) (C := RX12) (Ts := gT) hx hb hml hown h2 (fun _ h => h) (hX12_put l D cA ro sz H0 a v190 ([] ++ yrL v37.toInt) ha (by omega) (by omega) (by have hyl := yrL_len v37.toInt; (try simp only [List.length_append, List.length_nil, List.length_cons, dgL_len]); omega)) ⟨rfl, rfl⟩ ⟨by decide, by decide⟩ ⟨by decide, by decide⟩ (tb_8 173 rfl rfl) (tb_1 12 rfl rfl) (tb_8 170 rfl rfl) (tb_8 172 rfl rfl) (tb_0 59 rfl rfl) (show yX12_put.cls ≠ "java/lang/invoke/MethodHandle" ∧ yX12_put.cls ≠ "java/lang/invoke/VarHandle" ∧ (parseMethodDescriptor yX12_put.desc).map (fun d => d.parameters.length) = some 1 by decide +kernel) zs_blind (zs_ob hh151 ha (show RTg[11]? = some (0, 11, 0, fsX12) from rfl) (zCX12 hKn.1)) (fun U hU hW => ⟨rfl, by rw [hU]; exact hh151.l0, zKb s U hW.alike hKn, by rw [hU]; exact j151⟩) hh151.2.2.1 hl184.1 (Nat.le_of_ble_eq_true rfl) (eX12_writeDate (219, .invokevirtual 450, 3) (List.mem_of_getElem? (i := 116) rfl)) (fun r191 s191 t191 lo191 g191 f191 l191 => ?_)
              obtain ⟨q191, z191, c191, j191⟩ := f191
              cases q191
              rw [g191] at c191
              have hh191 : zh_ok D cA RTg ro sz H0 t191.heap lo191 := ⟨z191.1, z191.2.1, l191, z191.2.2.2⟩
              have kp191 := kp151.trans (c191.mono (ms' := [(11, 0), (11, 15), (11, 18), (11, 19), (11, 20), (31, 0)]) (by decide))
              have mf191_a_0 := (c191.1 a 11 0 11 0 fsX12 ha rfl (by decide) (by decide)).trans mf151_a_0
              have mf191_a_18 := (c191.1 a 11 18 11 0 fsX12 ha rfl (by decide) (by decide)).trans mf151_a_18
              have mf191_a_19 := (c191.1 a 11 19 11 0 fsX12 ha rfl (by decide) (by decide)).trans mf151_a_19
              have mf191_a_20 := (c191.1 a 11 20 11 0 fsX12 ha rfl (by decide) (by decide)).trans mf151_a_20
              refine W.eq (g2 := F0 m 222 ls184 []) rfl ?_
              refine lv_aload_n hx hb (eX12_writeDate (222, .aload_n 0, 1) (List.mem_of_getElem? (i := 117) rfl)) rfl (lv_at hl184 6 rfl) ?_
              refine lv_lload_n hx hb (eX12_writeDate (223, .lload_n 1, 1) (List.mem_of_getElem? (i := 118) rfl)) rfl (lv_at hl184 7 rfl) ?_
              refine lv_lload hx hb (eX12_writeDate (224, .lload 5, 2) (List.mem_of_getElem? (i := 119) rfl)) (lv_at hl184 5 rfl) ?_
              refine zu_S (vs := [.long v37]) (rest := [.long n0, .ref a]) hx hb hml hown hts0 zu_BT (hX12_firstWeek l v37 (by omega) (by omega)) ⟨rfl, rfl⟩ ⟨by decide, by decide⟩ ⟨by decide, by decide⟩ (tb_7 77 rfl rfl) (tb_1 12 rfl rfl) (tb_7 75 rfl rfl) (tb_7 76 rfl rfl) (show yX12_firstWeek.cls ≠ "java/lang/invoke/MethodHandle" ∧ yX12_firstWeek.cls ≠ "java/lang/invoke/VarHandle" ∧ (parseMethodDescriptor yX12_firstWeek.desc).map (fun d => d.parameters.length) = some 1 by decide +kernel) rfl (fun _ _ _ => trivial) hl184.1 (Nat.le_of_ble_eq_true rfl) (eX12_writeDate (226, .invokestatic 142, 3) (List.mem_of_getElem? (i := 120) rfl)) (fun w192 f192 => ?_)
              obtain ⟨v192, rfl, e192⟩ := f192
              have g192 := wk_ref iw37
              refine ff_lsub hx hb (eX12_writeDate (229, .lsub, 1) (List.mem_of_getElem? (i := 121) rfl)) (by omega) (by omega) (fun v193 e193 => ?_)
              refine ff_ldc2 (n := 7) hx hb hown h2 (clX12_ok 136 7 (List.mem_of_getElem? (i := 16) rfl)) (eX12_writeDate (230, .ldc2_w 136, 3) (List.mem_of_getElem? (i := 122) rfl)) (fun v194 e194 => ?_)
              refine ff_ldivP hx hb (eX12_writeDate (233, .ldiv, 1) (List.mem_of_getElem? (i := 123) rfl)) (by omega) (e194) (by decide) (fun v195 e195 => ?_)
              refine ff_lconst hx hb (eX12_writeDate (234, .lconst 1, 1) (List.mem_of_getElem? (i := 124) rfl)) rfl (fun v196 e196 => ?_)
              refine ff_ladd hx hb (eX12_writeDate (235, .ladd, 1) (List.mem_of_getElem? (i := 125) rfl)) (by omega) (by omega) (fun v197 e197 => ?_)
              refine ff_iconst hx hb (eX12_writeDate (236, .iconst 2, 1) (List.mem_of_getElem? (i := 126) rfl)) (by decide) (by decide) (fun v198 e198 => ?_)
              refine tz_rowV (As := [.long v197, .int v198]) (st := []) (b := a) (C := RX12) (Ts := gT) hx hb hml hown h2 (fun _ h => h) (hX12_putNumber l D cA ro sz H0 a v197 v198 2 ([] ++ yrL v37.toInt ++ [v190.toInt]) ha (by omega) (by omega) (by omega) (by omega) (by have hyl := yrL_len v37.toInt; (try simp only [List.length_append, List.length_nil, List.length_cons, dgL_len]); omega)) ⟨rfl, rfl⟩ ⟨by decide, by decide⟩ ⟨by decide, by decide⟩ (tb_8 169 rfl rfl) (tb_1 12 rfl rfl) (tb_8 166 rfl rfl) (tb_8 168 rfl rfl) (tb_0 58 rfl rfl) (show yX12_putNumber.cls ≠ "java/lang/invoke/MethodHandle" ∧ yX12_putNumber.cls ≠ "java/lang/invoke/VarHandle" ∧ (parseMethodDescriptor yX12_putNumber.desc).map (fun d => d.parameters.length) = some 2 by decide +kernel) zs_blind (zs_ob hh191 ha (show RTg[11]? = some (0, 11, 0, fsX12) from rfl) (zCX12 hKn.1)) (fun U hU hW => ⟨rfl, by rw [hU]; exact hh191.l0, zKb s U hW.alike hKn, by rw [hU]; exact j191⟩) hh191.2.2.1 hl184.1 (Nat.le_of_ble_eq_true rfl) (eX12_writeDate (237, .invokevirtual 453, 3) (List.mem_of_getElem? (i := 127) rfl)) (fun r199 s199 t199 lo199 g199 f199 l199 => ?_)
              obtain ⟨q199, z199, c199, j199⟩ := f199
              cases q199
              rw [g199] at c199
              have hh199 : zh_ok D cA RTg ro sz H0 t199.heap lo199 := ⟨z199.1, z199.2.1, l199, z199.2.2.2⟩
              have kp199 := kp191.trans (c199.mono (ms' := [(11, 0), (11, 15), (11, 18), (11, 19), (11, 20), (31, 0)]) (by decide))
              have mf199_a_0 := (c199.1 a 11 0 11 0 fsX12 ha rfl (by decide) (by decide)).trans mf191_a_0
              have mf199_a_18 := (c199.1 a 11 18 11 0 fsX12 ha rfl (by decide) (by decide)).trans mf191_a_18
              have mf199_a_19 := (c199.1 a 11 19 11 0 fsX12 ha rfl (by decide) (by decide)).trans mf191_a_19
              have mf199_a_20 := (c199.1 a 11 20 11 0 fsX12 ha rfl (by decide) (by decide)).trans mf191_a_20
              refine W.eq (g2 := F0 m 240 ls184 []) rfl ?_
              refine lv_iload hx hb (eX12_writeDate (240, .iload 11, 2) (List.mem_of_getElem? (i := 128) rfl)) (lv_at hl184 0 rfl) ?_
              refine ff_if_eq hx hb (eX12_writeDate (242, .ifCond .eq 9, 3) (List.mem_of_getElem? (i := 129) rfl)) (tgt := 251) rfl (fun c200 => ?_) (fun c200 => (by exfalso; omega))
              refine lv_aload_n hx hb (eX12_writeDate (251, .aload_n 0, 1) (List.mem_of_getElem? (i := 133) rfl)) rfl (lv_at hl184 6 rfl) ?_
              refine lv_lload_n hx hb (eX12_writeDate (252, .lload_n 1, 1) (List.mem_of_getElem? (i := 134) rfl)) rfl (lv_at hl184 7 rfl) ?_
              refine zu_S (vs := [.long n0]) (rest := [.ref a]) hx hb hml hown hts0 zu_BT (hX12_weekdayOf l n0 (by omega) (by omega)) ⟨rfl, rfl⟩ ⟨by decide, by decide⟩ ⟨by decide, by decide⟩ (tb_7 80 rfl rfl) (tb_1 12 rfl rfl) (tb_7 78 rfl rfl) (tb_7 79 rfl rfl) (show yX12_weekdayOf.cls ≠ "java/lang/invoke/MethodHandle" ∧ yX12_weekdayOf.cls ≠ "java/lang/invoke/VarHandle" ∧ (parseMethodDescriptor yX12_weekdayOf.desc).map (fun d => d.parameters.length) = some 1 by decide +kernel) rfl (fun _ _ _ => trivial) hl184.1 (Nat.le_of_ble_eq_true rfl) (eX12_writeDate (253, .invokestatic 138, 3) (List.mem_of_getElem? (i := 135) rfl)) (fun w201 f201 => ?_)
              obtain ⟨v201, rfl, e201⟩ := f201
              refine ff_i2l hx hb (eX12_writeDate (256, .i2l, 1) (List.mem_of_getElem? (i := 136) rfl)) (fun v202 e202 => ?_)
              refine ff_iconst hx hb (eX12_writeDate (257, .iconst 1, 1) (List.mem_of_getElem? (i := 137) rfl)) (by decide) (by decide) (fun v203 e203 => ?_)
              refine tz_rowV (As := [.long v202, .int v203]) (st := []) (b := a) (C := RX12) (Ts := gT) hx hb hml hown h2 (fun _ h => h) (hX12_putNumber l D cA ro sz H0 a v202 v203 1 ([] ++ yrL v37.toInt ++ [v190.toInt] ++ dgL 2 v197.toInt) ha (by omega) (by omega) (by omega) (by omega) (by have hyl := yrL_len v37.toInt; (try simp only [List.length_append, List.length_nil, List.length_cons, dgL_len]); omega)) ⟨rfl, rfl⟩ ⟨by decide, by decide⟩ ⟨by decide, by decide⟩ (tb_8 169 rfl rfl) (tb_1 12 rfl rfl) (tb_8 166 rfl rfl) (tb_8 168 rfl rfl) (tb_0 58 rfl rfl) (show yX12_putNumber.cls ≠ "java/lang/invoke/MethodHandle" ∧ yX12_putNumber.cls ≠ "java/lang/invoke/VarHandle" ∧ (parseMethodDescriptor yX12_putNumber.desc).map (fun d => d.parameters.length) = some 2 by decide +kernel) zs_blind (zs_ob hh199 ha (show RTg[11]? = some (0, 11, 0, fsX12) from rfl) (zCX12 hKn.1)) (fun U hU hW => ⟨rfl, by rw [hU]; exact hh199.l0, zKb s U hW.alike hKn, by rw [hU]; exact j199⟩) hh199.2.2.1 hl184.1 (Nat.le_of_ble_eq_true rfl) (eX12_writeDate (258, .invokevirtual 453, 3) (List.mem_of_getElem? (i := 138) rfl)) (fun r204 s204 t204 lo204 g204 f204 l204 => ?_)
              obtain ⟨q204, z204, c204, j204⟩ := f204
              cases q204
              rw [g204] at c204
              have hh204 : zh_ok D cA RTg ro sz H0 t204.heap lo204 := ⟨z204.1, z204.2.1, l204, z204.2.2.2⟩
              have kp204 := kp199.trans (c204.mono (ms' := [(11, 0), (11, 15), (11, 18), (11, 19), (11, 20), (31, 0)]) (by decide))
              have mf204_a_0 := (c204.1 a 11 0 11 0 fsX12 ha rfl (by decide) (by decide)).trans mf199_a_0
              have mf204_a_18 := (c204.1 a 11 18 11 0 fsX12 ha rfl (by decide) (by decide)).trans mf199_a_18
              have mf204_a_19 := (c204.1 a 11 19 11 0 fsX12 ha rfl (by decide) (by decide)).trans mf199_a_19
              have mf204_a_20 := (c204.1 a 11 20 11 0 fsX12 ha rfl (by decide) (by decide)).trans mf199_a_20
              refine W.eq (g2 := F0 m 261 ls184 []) rfl ?_
              have hj205 := j204
              obtain ⟨wb205, nw205, zw205, fa205, ra205, fb205, hn205, hc205, hz205⟩ := id hj205
              refine lv_aload_n hx hb (eX12_writeDate (261, .aload_n 0, 1) (List.mem_of_getElem? (i := 139) rfl)) rfl (lv_at hl184 6 rfl) ?_
              refine tz_get (r := 11) (k := 15) (t := (0, 0, 120)) hx hb hh204 ha rfl rfl (hcl11 447 15 (0, 0, 120) (by decide) rfl).1 fb205 (eX12_writeDate (262, .getfield 447, 3) (List.mem_of_getElem? (i := 140) rfl)) ?_
              have hO9 : [] ++ yrL v37.toInt ++ [v190.toInt] ++ dgL 2 v197.toInt ++ dgL 1 v202.toInt = dateL n0.toInt st0.toInt y57.toInt m57.toInt d57.toInt v37.toInt := by
                have hdsh : dshI st0.toInt v37.toInt = 0 := by unfold dshI; split <;> omega
                unfold dateL
                rw [if_pos (by omega), hdsh]
                rw [show v190.toInt = 87 by omega]
                rw [show v197.toInt = ((thI n0.toInt - ysI v37.toInt) / 7 + 1) by omega]
                rw [show v202.toInt = ((n0.toInt + 3) % 7 + 1) by omega]
                simp [wkL, dsL]
              have hj9 := hj205
              rw [hO9] at hj9
              have hl9 := hn205
              rw [hO9] at hl9
              have hok := dateL_ok n0.toInt st0.toInt y57.toInt m57.toInt d57.toInt v37.toInt
              exact W.zret hx hb hr rfl (fun t ht hW => ⟨_, _, _, T, dateL n0.toInt st0.toInt y57.toInt m57.toInt d57.toInt v37.toInt, rfl, ⟨_, rfl, rfl⟩, by rw [ht]; exact hh204.l0, by rw [ht]; exact kp204.mono (by decide), by rw [ht]; exact mf204_a_0, by rw [ht]; exact ⟨hjt.kept ha kp204 (by decide) (by decide) (by decide), hj9, ⟨hkT, by have h7 := hok.2; omega, hok.1⟩⟩, rfl, Or.inr ⟨by omega, by unfold dwV dOK; omega, ⟨_, _, _, _, cv57, iw37, rfl⟩, hl9⟩⟩) hh204.2.2.1 (eX12_writeDate (265, .ireturn, 1) (List.mem_of_getElem? (i := 141) rfl))
            · skip
              refine ff_iconst hx hb (eX12_writeDate (139, .iconst 1, 1) (List.mem_of_getElem? (i := 71) rfl)) (by decide) (by decide) (fun v206 e206 => ?_)
              refine lv_goto hx hb (eX12_writeDate (140, .goto 4, 3) (List.mem_of_getElem? (i := 72) rfl)) (tgt := 144) rfl ?_
              refine lv_istore hx hb (eX12_writeDate (144, .istore 11, 2) (List.mem_of_getElem? (i := 74) rfl)) hl150 (by decide) rfl (fun ls207 hl207 => ?_)
              refine lv_iload hx hb (eX12_writeDate (146, .iload 11, 2) (List.mem_of_getElem? (i := 75) rfl)) (lv_at hl207 0 rfl) ?_
              refine ff_if_eq hx hb (eX12_writeDate (148, .ifCond .eq 9, 3) (List.mem_of_getElem? (i := 76) rfl)) (tgt := 157) rfl (fun c208 => (by exfalso; omega)) (fun c208 => ?_)
              refine lv_aload_n hx hb (eX12_writeDate (151, .aload_n 0, 1) (List.mem_of_getElem? (i := 77) rfl)) rfl (lv_at hl207 6 rfl) ?_
              refine ff_bipush hx hb (eX12_writeDate (152, .bipush 45, 2) (List.mem_of_getElem? (i := 78) rfl)) (by decide) (by decide) (fun v209 e209 => ?_)
              refine tz_rowV (As := [.int v209]) (st := []) (b := a) (C := RX12) (Ts := gT) hx hb hml hown h2 (fun _ h => h) (hX12_put l D cA ro sz H0 a v209 ([] ++ yrL v37.toInt) ha (by omega) (by omega) (by have hyl := yrL_len v37.toInt; (try simp only [List.length_append, List.length_nil, List.length_cons, dgL_len]); omega)) ⟨rfl, rfl⟩ ⟨by decide, by decide⟩ ⟨by decide, by decide⟩ (tb_8 173 rfl rfl) (tb_1 12 rfl rfl) (tb_8 170 rfl rfl) (tb_8 172 rfl rfl) (tb_0 59 rfl rfl) (show yX12_put.cls ≠ "java/lang/invoke/MethodHandle" ∧ yX12_put.cls ≠ "java/lang/invoke/VarHandle" ∧ (parseMethodDescriptor yX12_put.desc).map (fun d => d.parameters.length) = some 1 by decide +kernel) zs_blind (zs_ob hh151 ha (show RTg[11]? = some (0, 11, 0, fsX12) from rfl) (zCX12 hKn.1)) (fun U hU hW => ⟨rfl, by rw [hU]; exact hh151.l0, zKb s U hW.alike hKn, by rw [hU]; exact j151⟩) hh151.2.2.1 hl207.1 (Nat.le_of_ble_eq_true rfl) (eX12_writeDate (154, .invokevirtual 450, 3) (List.mem_of_getElem? (i := 79) rfl)) (fun r210 s210 t210 lo210 g210 f210 l210 => ?_)
              obtain ⟨q210, z210, c210, j210⟩ := f210
              cases q210
              rw [g210] at c210
              have hh210 : zh_ok D cA RTg ro sz H0 t210.heap lo210 := ⟨z210.1, z210.2.1, l210, z210.2.2.2⟩
              have kp210 := kp151.trans (c210.mono (ms' := [(11, 0), (11, 15), (11, 18), (11, 19), (11, 20), (31, 0)]) (by decide))
              have mf210_a_0 := (c210.1 a 11 0 11 0 fsX12 ha rfl (by decide) (by decide)).trans mf151_a_0
              have mf210_a_18 := (c210.1 a 11 18 11 0 fsX12 ha rfl (by decide) (by decide)).trans mf151_a_18
              have mf210_a_19 := (c210.1 a 11 19 11 0 fsX12 ha rfl (by decide) (by decide)).trans mf151_a_19
              have mf210_a_20 := (c210.1 a 11 20 11 0 fsX12 ha rfl (by decide) (by decide)).trans mf151_a_20
              refine W.eq (g2 := F0 m 157 ls207 []) rfl ?_
              refine lv_iload_n hx hb (eX12_writeDate (157, .iload_n 3, 1) (List.mem_of_getElem? (i := 80) rfl)) rfl (lv_at hl207 8 rfl) ?_
              refine ff_iconst hx hb (eX12_writeDate (158, .iconst 2, 1) (List.mem_of_getElem? (i := 81) rfl)) (by decide) (by decide) (fun v211 e211 => ?_)
              refine ff_icmp_ge hx hb (eX12_writeDate (159, .if_icmp .ge 33, 3) (List.mem_of_getElem? (i := 82) rfl)) (tgt := 192) rfl (fun c212 => ?_) (fun c212 => (by exfalso; omega))
              refine lv_iload_n hx hb (eX12_writeDate (192, .iload_n 3, 1) (List.mem_of_getElem? (i := 99) rfl)) rfl (lv_at hl207 8 rfl) ?_
              refine ff_iconst hx hb (eX12_writeDate (193, .iconst 4, 1) (List.mem_of_getElem? (i := 100) rfl)) (by decide) (by decide) (fun v213 e213 => ?_)
              refine ff_icmp_ge hx hb (eX12_writeDate (194, .if_icmp .ge 22, 3) (List.mem_of_getElem? (i := 101) rfl)) (tgt := 216) rfl (fun c214 => ?_) (fun c214 => (by exfalso; omega))
              refine lv_aload_n hx hb (eX12_writeDate (216, .aload_n 0, 1) (List.mem_of_getElem? (i := 114) rfl)) rfl (lv_at hl207 6 rfl) ?_
              refine ff_bipush hx hb (eX12_writeDate (217, .bipush 87, 2) (List.mem_of_getElem? (i := 115) rfl)) (by decide) (by decide) (fun v215 e215 => ?_)
              refine tz_rowV (As := [.int v215]) (st := []) (b := a) (C := RX12) (Ts := gT) hx hb hml hown h2 (fun _ h => h) (hX12_put l D cA ro sz H0 a v215 ([] ++ yrL v37.toInt ++ [v209.toInt]) ha (by omega) (by omega) (by have hyl := yrL_len v37.toInt; (try simp only [List.length_append, List.length_nil, List.length_cons, dgL_len]); omega)) ⟨rfl, rfl⟩ ⟨by decide, by decide⟩ ⟨by decide, by decide⟩ (tb_8 173 rfl rfl) (tb_1 12 rfl rfl) (tb_8 170 rfl rfl) (tb_8 172 rfl rfl) (tb_0 59 rfl rfl) (show yX12_put.cls ≠ "java/lang/invoke/MethodHandle" ∧ yX12_put.cls ≠ "java/lang/invoke/VarHandle" ∧ (parseMethodDescriptor yX12_put.desc).map (fun d => d.parameters.length) = some 1 by decide +kernel) zs_blind (zs_ob hh210 ha (show RTg[11]? = some (0, 11, 0, fsX12) from rfl) (zCX12 hKn.1)) (fun U hU hW => ⟨rfl, by rw [hU]; exact hh210.l0, zKb s U hW.alike hKn, by rw [hU]; exact j210⟩) hh210.2.2.1 hl207.1 (Nat.le_of_ble_eq_true rfl) (eX12_writeDate (219, .invokevirtual 450, 3) (List.mem_of_getElem? (i := 116) rfl)) (fun r216 s216 t216 lo216 g216 f216 l216 => ?_)
              obtain ⟨q216, z216, c216, j216⟩ := f216
              cases q216
              rw [g216] at c216
              have hh216 : zh_ok D cA RTg ro sz H0 t216.heap lo216 := ⟨z216.1, z216.2.1, l216, z216.2.2.2⟩
              have kp216 := kp210.trans (c216.mono (ms' := [(11, 0), (11, 15), (11, 18), (11, 19), (11, 20), (31, 0)]) (by decide))
              have mf216_a_0 := (c216.1 a 11 0 11 0 fsX12 ha rfl (by decide) (by decide)).trans mf210_a_0
              have mf216_a_18 := (c216.1 a 11 18 11 0 fsX12 ha rfl (by decide) (by decide)).trans mf210_a_18
              have mf216_a_19 := (c216.1 a 11 19 11 0 fsX12 ha rfl (by decide) (by decide)).trans mf210_a_19
              have mf216_a_20 := (c216.1 a 11 20 11 0 fsX12 ha rfl (by decide) (by decide)).trans mf210_a_20
              refine W.eq (g2 := F0 m 222 ls207 []) rfl ?_
              refine lv_aload_n hx hb (eX12_writeDate (222, .aload_n 0, 1) (List.mem_of_getElem? (i := 117) rfl)) rfl (lv_at hl207 6 rfl) ?_
              refine lv_lload_n hx hb (eX12_writeDate (223, .lload_n 1, 1) (List.mem_of_getElem? (i := 118) rfl)) rfl (lv_at hl207 7 rfl) ?_
              refine lv_lload hx hb (eX12_writeDate (224, .lload 5, 2) (List.mem_of_getElem? (i := 119) rfl)) (lv_at hl207 5 rfl) ?_
              refine zu_S (vs := [.long v37]) (rest := [.long n0, .ref a]) hx hb hml hown hts0 zu_BT (hX12_firstWeek l v37 (by omega) (by omega)) ⟨rfl, rfl⟩ ⟨by decide, by decide⟩ ⟨by decide, by decide⟩ (tb_7 77 rfl rfl) (tb_1 12 rfl rfl) (tb_7 75 rfl rfl) (tb_7 76 rfl rfl) (show yX12_firstWeek.cls ≠ "java/lang/invoke/MethodHandle" ∧ yX12_firstWeek.cls ≠ "java/lang/invoke/VarHandle" ∧ (parseMethodDescriptor yX12_firstWeek.desc).map (fun d => d.parameters.length) = some 1 by decide +kernel) rfl (fun _ _ _ => trivial) hl207.1 (Nat.le_of_ble_eq_true rfl) (eX12_writeDate (226, .invokestatic 142, 3) (List.mem_of_getElem? (i := 120) rfl)) (fun w217 f217 => ?_)
              obtain ⟨v217, rfl, e217⟩ := f217
              have g217 := wk_ref iw37
              refine ff_lsub hx hb (eX12_writeDate (229, .lsub, 1) (List.mem_of_getElem? (i := 121) rfl)) (by omega) (by omega) (fun v218 e218 => ?_)
              refine ff_ldc2 (n := 7) hx hb hown h2 (clX12_ok 136 7 (List.mem_of_getElem? (i := 16) rfl)) (eX12_writeDate (230, .ldc2_w 136, 3) (List.mem_of_getElem? (i := 122) rfl)) (fun v219 e219 => ?_)
              refine ff_ldivP hx hb (eX12_writeDate (233, .ldiv, 1) (List.mem_of_getElem? (i := 123) rfl)) (by omega) (e219) (by decide) (fun v220 e220 => ?_)
              refine ff_lconst hx hb (eX12_writeDate (234, .lconst 1, 1) (List.mem_of_getElem? (i := 124) rfl)) rfl (fun v221 e221 => ?_)
              refine ff_ladd hx hb (eX12_writeDate (235, .ladd, 1) (List.mem_of_getElem? (i := 125) rfl)) (by omega) (by omega) (fun v222 e222 => ?_)
              refine ff_iconst hx hb (eX12_writeDate (236, .iconst 2, 1) (List.mem_of_getElem? (i := 126) rfl)) (by decide) (by decide) (fun v223 e223 => ?_)
              refine tz_rowV (As := [.long v222, .int v223]) (st := []) (b := a) (C := RX12) (Ts := gT) hx hb hml hown h2 (fun _ h => h) (hX12_putNumber l D cA ro sz H0 a v222 v223 2 ([] ++ yrL v37.toInt ++ [v209.toInt] ++ [v215.toInt]) ha (by omega) (by omega) (by omega) (by omega) (by have hyl := yrL_len v37.toInt; (try simp only [List.length_append, List.length_nil, List.length_cons, dgL_len]); omega)) ⟨rfl, rfl⟩ ⟨by decide, by decide⟩ ⟨by decide, by decide⟩ (tb_8 169 rfl rfl) (tb_1 12 rfl rfl) (tb_8 166 rfl rfl) (tb_8 168 rfl rfl) (tb_0 58 rfl rfl) (show yX12_putNumber.cls ≠ "java/lang/invoke/MethodHandle" ∧ yX12_putNumber.cls ≠ "java/lang/invoke/VarHandle" ∧ (parseMethodDescriptor yX12_putNumber.desc).map (fun d => d.parameters.length) = some 2 by decide +kernel) zs_blind (zs_ob hh216 ha (show RTg[11]? = some (0, 11, 0, fsX12) from rfl) (zCX12 hKn.1)) (fun U hU hW => ⟨rfl, by rw [hU]; exact hh216.l0, zKb s U hW.alike hKn, by rw [hU]; exact j216⟩) hh216.2.2.1 hl207.1 (Nat.le_of_ble_eq_true rfl) (eX12_writeDate (237, .invokevirtual 453, 3) (List.mem_of_getElem? (i := 127) rfl)) (fun r224 s224 t224 lo224 g224 f224 l224 => ?_)
              obtain ⟨q224, z224, c224, j224⟩ := f224
              cases q224
              rw [g224] at c224
              have hh224 : zh_ok D cA RTg ro sz H0 t224.heap lo224 := ⟨z224.1, z224.2.1, l224, z224.2.2.2⟩
              have kp224 := kp216.trans (c224.mono (ms' := [(11, 0), (11, 15), (11, 18), (11, 19), (11, 20), (31, 0)]) (by decide))
              have mf224_a_0 := (c224.1 a 11 0 11 0 fsX12 ha rfl (by decide) (by decide)).trans mf216_a_0
              have mf224_a_18 := (c224.1 a 11 18 11 0 fsX12 ha rfl (by decide) (by decide)).trans mf216_a_18
              have mf224_a_19 := (c224.1 a 11 19 11 0 fsX12 ha rfl (by decide) (by decide)).trans mf216_a_19
              have mf224_a_20 := (c224.1 a 11 20 11 0 fsX12 ha rfl (by decide) (by decide)).trans mf216_a_20
              refine W.eq (g2 := F0 m 240 ls207 []) rfl ?_
              refine lv_iload hx hb (eX12_writeDate (240, .iload 11, 2) (List.mem_of_getElem? (i := 128) rfl)) (lv_at hl207 0 rfl) ?_
              refine ff_if_eq hx hb (eX12_writeDate (242, .ifCond .eq 9, 3) (List.mem_of_getElem? (i := 129) rfl)) (tgt := 251) rfl (fun c225 => (by exfalso; omega)) (fun c225 => ?_)
              refine lv_aload_n hx hb (eX12_writeDate (245, .aload_n 0, 1) (List.mem_of_getElem? (i := 130) rfl)) rfl (lv_at hl207 6 rfl) ?_
              refine ff_bipush hx hb (eX12_writeDate (246, .bipush 45, 2) (List.mem_of_getElem? (i := 131) rfl)) (by decide) (by decide) (fun v226 e226 => ?_)
              refine tz_rowV (As := [.int v226]) (st := []) (b := a) (C := RX12) (Ts := gT) hx hb hml hown h2 (fun _ h => h) (hX12_put l D cA ro sz H0 a v226 ([] ++ yrL v37.toInt ++ [v209.toInt] ++ [v215.toInt] ++ dgL 2 v222.toInt) ha (by omega) (by omega) (by have hyl := yrL_len v37.toInt; (try simp only [List.length_append, List.length_nil, List.length_cons, dgL_len]); omega)) ⟨rfl, rfl⟩ ⟨by decide, by decide⟩ ⟨by decide, by decide⟩ (tb_8 173 rfl rfl) (tb_1 12 rfl rfl) (tb_8 170 rfl rfl) (tb_8 172 rfl rfl) (tb_0 59 rfl rfl) (show yX12_put.cls ≠ "java/lang/invoke/MethodHandle" ∧ yX12_put.cls ≠ "java/lang/invoke/VarHandle" ∧ (parseMethodDescriptor yX12_put.desc).map (fun d => d.parameters.length) = some 1 by decide +kernel) zs_blind (zs_ob hh224 ha (show RTg[11]? = some (0, 11, 0, fsX12) from rfl) (zCX12 hKn.1)) (fun U hU hW => ⟨rfl, by rw [hU]; exact hh224.l0, zKb s U hW.alike hKn, by rw [hU]; exact j224⟩) hh224.2.2.1 hl207.1 (Nat.le_of_ble_eq_true rfl) (eX12_writeDate (248, .invokevirtual 450, 3) (List.mem_of_getElem? (i := 132) rfl)) (fun r227 s227 t227 lo227 g227 f227 l227 => ?_)
              obtain ⟨q227, z227, c227, j227⟩ := f227
              cases q227
              rw [g227] at c227
              have hh227 : zh_ok D cA RTg ro sz H0 t227.heap lo227 := ⟨z227.1, z227.2.1, l227, z227.2.2.2⟩
              have kp227 := kp224.trans (c227.mono (ms' := [(11, 0), (11, 15), (11, 18), (11, 19), (11, 20), (31, 0)]) (by decide))
              have mf227_a_0 := (c227.1 a 11 0 11 0 fsX12 ha rfl (by decide) (by decide)).trans mf224_a_0
              have mf227_a_18 := (c227.1 a 11 18 11 0 fsX12 ha rfl (by decide) (by decide)).trans mf224_a_18
              have mf227_a_19 := (c227.1 a 11 19 11 0 fsX12 ha rfl (by decide) (by decide)).trans mf224_a_19
              have mf227_a_20 := (c227.1 a 11 20 11 0 fsX12 ha rfl (by decide) (by decide)).trans mf224_a_20
              refine W.eq (g2 := F0 m 251 ls207 []) rfl ?_
              refine lv_aload_n hx hb (eX12_writeDate (251, .aload_n 0, 1) (List.mem_of_getElem? (i := 133) rfl)) rfl (lv_at hl207 6 rfl) ?_
              refine lv_lload_n hx hb (eX12_writeDate (252, .lload_n 1, 1) (List.mem_of_getElem? (i := 134) rfl)) rfl (lv_at hl207 7 rfl) ?_
              refine zu_S (vs := [.long n0]) (rest := [.ref a]) hx hb hml hown hts0 zu_BT (hX12_weekdayOf l n0 (by omega) (by omega)) ⟨rfl, rfl⟩ ⟨by decide, by decide⟩ ⟨by decide, by decide⟩ (tb_7 80 rfl rfl) (tb_1 12 rfl rfl) (tb_7 78 rfl rfl) (tb_7 79 rfl rfl) (show yX12_weekdayOf.cls ≠ "java/lang/invoke/MethodHandle" ∧ yX12_weekdayOf.cls ≠ "java/lang/invoke/VarHandle" ∧ (parseMethodDescriptor yX12_weekdayOf.desc).map (fun d => d.parameters.length) = some 1 by decide +kernel) rfl (fun _ _ _ => trivial) hl207.1 (Nat.le_of_ble_eq_true rfl) (eX12_writeDate (253, .invokestatic 138, 3) (List.mem_of_getElem? (i := 135) rfl)) (fun w228 f228 => ?_)
              obtain ⟨v228, rfl, e228⟩ := f228
              refine ff_i2l hx hb (eX12_writeDate (256, .i2l, 1) (List.mem_of_getElem? (i := 136) rfl)) (fun v229 e229 => ?_)
              refine ff_iconst hx hb (eX12_writeDate (257, .iconst 1, 1) (List.mem_of_getElem? (i := 137) rfl)) (by decide) (by decide) (fun v230 e230 => ?_)
              refine tz_rowV (As := [.long v229, .int v230]) (st := []) (b := a) (C := RX12) (Ts := gT) hx hb hml hown h2 (fun _ h => h) (hX12_putNumber l D cA ro sz H0 a v229 v230 1 ([] ++ yrL v37.toInt ++ [v209.toInt] ++ [v215.toInt] ++ dgL 2 v222.toInt ++ [v226.toInt]) ha (by omega) (by omega) (by omega) (by omega) (by have hyl := yrL_len v37.toInt; (try simp only [List.length_append, List.length_nil, List.length_cons, dgL_len]); omega)) ⟨rfl, rfl⟩ ⟨by decide, by decide⟩ ⟨by decide, by decide⟩ (tb_8 169 rfl rfl) (tb_1 12 rfl rfl) (tb_8 166 rfl rfl) (tb_8 168 rfl rfl) (tb_0 58 rfl rfl) (show yX12_putNumber.cls ≠ "java/lang/invoke/MethodHandle" ∧ yX12_putNumber.cls ≠ "java/lang/invoke/VarHandle" ∧ (parseMethodDescriptor yX12_putNumber.desc).map (fun d => d.parameters.length) = some 2 by decide +kernel) zs_blind (zs_ob hh227 ha (show RTg[11]? = some (0, 11, 0, fsX12) from rfl) (zCX12 hKn.1)) (fun U hU hW => ⟨rfl, by rw [hU]; exact hh227.l0, zKb s U hW.alike hKn, by rw [hU]; exact j227⟩) hh227.2.2.1 hl207.1 (Nat.le_of_ble_eq_true rfl) (eX12_writeDate (258, .invokevirtual 453, 3) (List.mem_of_getElem? (i := 138) rfl)) (fun r231 s231 t231 lo231 g231 f231 l231 => ?_)
              obtain ⟨q231, z231, c231, j231⟩ := f231
              cases q231
              rw [g231] at c231
              have hh231 : zh_ok D cA RTg ro sz H0 t231.heap lo231 := ⟨z231.1, z231.2.1, l231, z231.2.2.2⟩
              have kp231 := kp227.trans (c231.mono (ms' := [(11, 0), (11, 15), (11, 18), (11, 19), (11, 20), (31, 0)]) (by decide))
              have mf231_a_0 := (c231.1 a 11 0 11 0 fsX12 ha rfl (by decide) (by decide)).trans mf227_a_0
              have mf231_a_18 := (c231.1 a 11 18 11 0 fsX12 ha rfl (by decide) (by decide)).trans mf227_a_18
              have mf231_a_19 := (c231.1 a 11 19 11 0 fsX12 ha rfl (by decide) (by decide)).trans mf227_a_19
              have mf231_a_20 := (c231.1 a 11 20 11 0 fsX12 ha rfl (by decide) (by decide)).trans mf227_a_20
              refine W.eq (g2 := F0 m 261 ls207 []) rfl ?_
              have hj232 := j231
              obtain ⟨wb232, nw232, zw232, fa232, ra232, fb232, hn232, hc232, hz232⟩ := id hj232
              refine lv_aload_n hx hb (eX12_writeDate (261, .aload_n 0, 1) (List.mem_of_getElem? (i := 139) rfl)) rfl (lv_at hl207 6 rfl) ?_
              refine tz_get (r := 11) (k := 15) (t := (0, 0, 120)) hx hb hh231 ha rfl rfl (hcl11 447 15 (0, 0, 120) (by decide) rfl).1 fb232 (eX12_writeDate (262, .getfield 447, 3) (List.mem_of_getElem? (i := 140) rfl)) ?_
              have hO9 : [] ++ yrL v37.toInt ++ [v209.toInt] ++ [v215.toInt] ++ dgL 2 v222.toInt ++ [v226.toInt] ++ dgL 1 v229.toInt = dateL n0.toInt st0.toInt y57.toInt m57.toInt d57.toInt v37.toInt := by
                have hdsh : dshI st0.toInt v37.toInt = 1 := by unfold dshI; split <;> omega
                unfold dateL
                rw [if_pos (by omega), hdsh]
                rw [show v209.toInt = 45 by omega]
                rw [show v215.toInt = 87 by omega]
                rw [show v222.toInt = ((thI n0.toInt - ysI v37.toInt) / 7 + 1) by omega]
                rw [show v226.toInt = 45 by omega]
                rw [show v229.toInt = ((n0.toInt + 3) % 7 + 1) by omega]
                simp [wkL, dsL]
              have hj9 := hj232
              rw [hO9] at hj9
              have hl9 := hn232
              rw [hO9] at hl9
              have hok := dateL_ok n0.toInt st0.toInt y57.toInt m57.toInt d57.toInt v37.toInt
              exact W.zret hx hb hr rfl (fun t ht hW => ⟨_, _, _, T, dateL n0.toInt st0.toInt y57.toInt m57.toInt d57.toInt v37.toInt, rfl, ⟨_, rfl, rfl⟩, by rw [ht]; exact hh231.l0, by rw [ht]; exact kp231.mono (by decide), by rw [ht]; exact mf231_a_0, by rw [ht]; exact ⟨hjt.kept ha kp231 (by decide) (by decide) (by decide), hj9, ⟨hkT, by have h7 := hok.2; omega, hok.1⟩⟩, rfl, Or.inr ⟨by omega, by unfold dwV dOK; omega, ⟨_, _, _, _, cv57, iw37, rfl⟩, hl9⟩⟩) hh231.2.2.1 (eX12_writeDate (265, .ireturn, 1) (List.mem_of_getElem? (i := 141) rfl))
