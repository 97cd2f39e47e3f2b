theorem nbF_hM {T : List Int} {ld : Int} {n : Nat} {s : uS} {M : Int} (h : nB (0 + n) = M) : 0 ≤ (nbF T ld n 0 0 s).1 ∧ (nbF T ld n 0 0 s).1 ≤ M := by
  have := nbF_hi (T := T) (ld := ld) n (i := 0) (v := 0) (s := s) (k := 0) (Int.le_refl 0) (Int.le_refl 0)
  rw [h] at this
  exact this
set_option maxRecDepth 100000 in
set_option maxHeartbeats 4000000 in
theorem hX1_endShort (l : Launch) (D : va_G) (cA : Nat → ClassId) (ro : Nat → Option Nat) (sz : Nat) (H0 : Heap) (dt : Nat) (tx : Nat) (kv : Int32) (wq : Int32) (kd wh : Int) (T : List Int) (sg : uS) (f : fN) (hdt : ro dt = some 1) (htx : ro tx = some 0) (hkd : kv.toInt = kd) (hwh : wq.toInt = wh) (hwb : wh = 0 ∨ wh = 1) : Met l yX1_endShort (gW yX1_endShort cX1_endShort 4 none) { frames := 1, cells := 0, slots := 0, locals := 20 } (zs_P D cA ro sz H0 (fun H => jU D cA ro H tx T sg ∧ jF D H dt 1 10 f) [.ref dt, .ref tx, .int kv, .int wq]) (du_V D cA ro sz H0 dtM tx T dt 1 10 (enF kd wh (f, sg))) 0 0 (zy_fr sz) := by
  refine zy_ofW (cc := cX1_endShort) (maxL := 4) (ret := none) (by decide +kernel) rfl ?_
  intro p e s m args below meth c s1 B hml hv
  obtain ⟨rfl, hh, hKn, hJ⟩ := hv
  have hx := B.exec
  have hb := B.bytes
  have hr := B.returns
  have hlk := B.notSynchronized
  have hts0 := atoms_spec (ws := gW yX1_endShort cX1_endShort 4 none) B.pre
  have h2 : ∀ w ∈ gT, w.before ([.ref dt, .ref tx, .int kv, .int wq] : List Value).toArray s = true := fun w hw => hts0 w (List.mem_cons_of_mem _ hw)
  have hown : s.vm.findClass RX1 = some m.cls := findClass_of_methodNamed B.named
  have hl := lv_entry [.ref dt, .ref tx, .int kv, .int wq] (n := 4) (Nat.le_of_ble_eq_true rfl)
  rw [lg_entry_eq]
  generalize (lg_sl [.ref dt, .ref tx, .int kv, .int wq] ++ List.replicate (4 - (lg_sl [.ref dt, .ref tx, .int kv, .int wq]).length) Slot.unset).toArray = ls at hl ⊢
  have b_kv := zn_i32 kv
  have b_wq := zn_i32 wq
  have hD := zD_all h2 hKn.1
  have hcl0 := fun (idx k : Nat) (t : zt_T) (h : (idx, 0, k) ∈ gfX1) (hk : fsX0[k]? = some t) => zf_clause (ro := ro) (ms := dtM) h2 hown hKn.1 gfX1_ok (by decide +kernel) idx 0 k 0 0 fsX0 t h rfl hk
  have hcl1 := fun (idx k : Nat) (t : zt_T) (h : (idx, 1, k) ∈ gfX1) (hk : fsX1[k]? = some t) => zf_clause (ro := ro) (ms := dtM) h2 hown hKn.1 gfX1_ok (by decide +kernel) idx 1 k 1 0 fsX1 t h rfl hk
  have kp0 : zc_kept D RTg ro dtM s.heap s.heap := zc_kept.refl
  obtain ⟨hJ, jd0⟩ := hJ
  obtain ⟨hjt, ⟨av, bv, wv, f2, f3, f4, hav, hbv, hwv⟩, hu⟩ := id hJ
  obtain ⟨tb, n, z, f0, r0, f1, hn, hc, hz⟩ := id hjt
  obtain ⟨n9, g9, n1, n2⟩ := zh_fT (k := 1) (t := (0, 0, 120)) hh htx (show RTg[0]? = some (0, 0, 0, fsX0) from rfl) rfl
  cases f1.symm.trans g9
  dsimp only at n1 n2
  clear g9
  obtain ⟨-, z9, c9, hy9⟩ := zh_arr hh r0 (show RTg[12]? = some (1, 2, 120, [(0, (-128), 127)]) from rfl)
  have hy : ∀ i, i < 120 → zt_ok ro (z i) (0, (-128), 127) := zs_arr (hc.symm.trans c9) hy9
  obtain ⟨u1, u2, u3⟩ := id hu
  have fr0 : ∀ p9 : Nat, p9 ∉ [tx, dt] → s.heap[p9]? = s.heap[p9]? := fun _ _ => rfl
  refine lv_aload_n hx hb (eX1_endShort (0, .aload_n 0, 1) (List.mem_of_getElem? (i := 0) rfl)) rfl (lv_at hl 0 rfl) ?_
  refine lv_iload_n hx hb (eX1_endShort (1, .iload_n 2, 1) (List.mem_of_getElem? (i := 1) rfl)) rfl (lv_at hl 2 rfl) ?_
  refine tz_put (r := 1) (k := 0) (t := (0, (-2147483648), 2147483647)) hx hb hD hh hdt rfl rfl ((hcl1 9 0 (0, (-2147483648), 2147483647) (by decide) rfl).2 (by decide)) (tz_i (zn_i32 _).1 (zn_i32 _).2) (eX1_endShort (2, .putfield 9, 3) (List.mem_of_getElem? (i := 2) rfl)) (fun H1 lo1 hh1 hf1 hk1 _ hq1 => ?_)
  have mf1_tx_0 := (hk1.1 tx 0 0 0 0 fsX0 htx rfl (by decide) (by decide)).trans f0
  have mf1_tx_1 := (hk1.1 tx 0 1 0 0 fsX0 htx rfl (by decide) (by decide)).trans f1
  have mf1_tx_2 := (hk1.1 tx 0 2 0 0 fsX0 htx rfl (by decide) (by decide)).trans f2
  have mf1_tx_3 := (hk1.1 tx 0 3 0 0 fsX0 htx rfl (by decide) (by decide)).trans f3
  have mf1_tx_4 := (hk1.1 tx 0 4 0 0 fsX0 htx rfl (by decide) (by decide)).trans f4
  have mc1_tb := (hk1.2 tb 12 0 2 120 _ r0 rfl (by decide)).trans hc
  have kp1 := kp0.trans (hk1.mono (ms' := dtM) (fun x hx => by cases List.mem_singleton.mp hx; decide))
  have jm1 := (hJ).kept htx hk1 (by decide)
  have fr1 : ∀ p9 : Nat, p9 ∉ [tx, dt] → H1[p9]? = s.heap[p9]? := fun p9 h9 => (hq1 p9 (fun e9 => h9 (by rw [e9]; exact (List.mem_cons_of_mem _ List.mem_cons_self)))).trans (fr0 p9 h9)
  have jd1 := jF.put hdt rfl (by decide) hk1 hf1 (show kv.toInt = kd by omega) jd0
  refine lv_iload_n hx hb (eX1_endShort (5, .iload_n 3, 1) (List.mem_of_getElem? (i := 3) rfl)) rfl (lv_at hl 3 rfl) ?_
  refine ff_if_eq hx hb (eX1_endShort (6, .ifCond .eq 7, 3) (List.mem_of_getElem? (i := 4) rfl)) (tgt := 13) rfl (fun c2 => ?_) (fun c2 => ?_)
  · have dw : ¬ wh = 1 := by omega
    have hfin : enF kd wh (f, sg) = ((upF f 0 (kd)), sg) := by first | (simp only [enF, if_neg dw, up_eq]; done) | (simp only [enF, if_neg dw, up_eq] <;> rfl) | rfl
    exact W.vret hx hb hr (fun t ht hW => ⟨rfl, by rw [ht]; exact hh1.l0, by rw [ht]; exact kp1, by rw [ht, hfin]; exact jm1, by rw [ht, hfin]; exact jd1, by rw [ht]; exact fr1⟩) hh1.2.2.1 (eX1_endShort (13, .return_, 1) (List.mem_of_getElem? (i := 7) rfl))
  · have dw : wh = 1 := by omega
    refine lv_aload_n hx hb (eX1_endShort (9, .aload_n 1, 1) (List.mem_of_getElem? (i := 5) rfl)) rfl (lv_at hl 1 rfl) ?_
    refine tz_rowV (As := []) (st := []) (b := tx) (C := RX0) (Ts := gT) hx hb hml hown h2 (fun _ h => h) (hX0_fail l D cA ro sz H0 tx T (sg) htx) ⟨rfl, rfl⟩ ⟨by decide, by decide⟩ ⟨by decide, by decide⟩ (tb_4 40 rfl rfl) (tb_1 5 rfl rfl) (tb_5 119 rfl rfl) (tb_4 38 rfl rfl) (tb_4 39 rfl rfl) (show yX0_fail.cls ≠ "java/lang/invoke/MethodHandle" ∧ yX0_fail.cls ≠ "java/lang/invoke/VarHandle" ∧ (parseMethodDescriptor yX0_fail.desc).map (fun d => d.parameters.length) = some 0 by decide +kernel) zs_blind (zs_ob hh1 htx (show RTg[0]? = some (0, 0, 0, fsX0) from rfl) (zCX0 hKn.1)) (fun U hU hW => ⟨rfl, by rw [hU]; exact hh1.l0, zKb s U hW.alike hKn, by rw [hU]; exact jm1⟩) hh1.2.2.1 hl.1 (Nat.le_of_ble_eq_true rfl) (eX1_endShort (10, .invokevirtual 82, 3) (List.mem_of_getElem? (i := 6) rfl)) (fun r3 s3 t3 lo3 g3 f3 l3 => ?_)
    obtain ⟨q3, z3, c3, j3, fx3⟩ := f3
    cases q3
    rw [g3] at c3 fx3
    have fr3 : ∀ p9 : Nat, p9 ∉ [tx, dt] → t3.heap[p9]? = s.heap[p9]? := fun p9 h9 => (fx3 p9 (fun q => h9 (by rw [List.mem_singleton.mp q]; exact List.mem_cons_self))).trans (fr1 p9 h9)
    have hh3 : zh_ok D cA RTg ro sz H0 t3.heap lo3 := ⟨z3.1, z3.2.1, l3, z3.2.2.2⟩
    have kp3 := kp1.trans (c3.mono (ms' := dtM) (by decide))
    generalize hx3 : flF sg = x3 at j3
    have uu3 := j3.2.2
    unfold uOK at uu3
    have mf3_tx_0 := (c3.1 tx 0 0 0 0 fsX0 htx rfl (by decide) (by decide)).trans mf1_tx_0
    have mf3_tx_1 := (c3.1 tx 0 1 0 0 fsX0 htx rfl (by decide) (by decide)).trans mf1_tx_1
    have mf3_dt_0 := (c3.1 dt 1 0 1 0 fsX1 hdt rfl (by decide) (by decide)).trans hf1
    have jd3 := jd1.kept hdt rfl (by decide) c3 (by decide)
    refine W.eq (g2 := F0 m 13 ls []) rfl ?_
    have hfin : enF kd wh (f, sg) = ((upF f 0 (kd)), x3) := by first | (simp only [enF, hx3, if_pos dw, up_eq]; done) | (simp only [enF, hx3, if_pos dw, up_eq] <;> rfl) | rfl
    exact W.vret hx hb hr (fun t ht hW => ⟨rfl, by rw [ht]; exact hh3.l0, by rw [ht]; exact kp3, by rw [ht, hfin]; exact j3, by rw [ht, hfin]; exact jd3, by rw [ht]; exact fr3⟩) hh3.2.2.1 (eX1_endShort (13, .return_, 1) (List.mem_of_getElem? (i := 7) rfl))
set_option maxRecDepth 100000 in
set_option maxHeartbeats 4000000 in
theorem hX1_scanYear (l : Launch) (D : va_G) (cA : Nat → ClassId) (ro : Nat → Option Nat) (sz : Nat) (H0 : Heap) (dt : Nat) (tx : Nat) (T : List Int) (sg : uS) (f : fN) (hdt : ro dt = some 1) (htx : ro tx = some 0) : Met l yX1_scanYear (gW yX1_scanYear cX1_scanYear 3 none) { frames := 2, cells := 0, slots := 0, locals := 46 } (zs_P D cA ro sz H0 (fun H => jU D cA ro H tx T sg ∧ jF D H dt 1 10 f) [.ref dt, .ref tx]) (du_V D cA ro sz H0 dtM tx T dt 1 10 (yrF T (f, sg))) 0 0 (zy_fr sz) := by
  refine zy_ofW (cc := cX1_scanYear) (maxL := 3) (ret := none) (by decide +kernel) rfl ?_
  intro p e s m args below meth c s1 B hml hv
  obtain ⟨rfl, hh, hKn, hJ⟩ := hv
  have hx := B.exec
  have hb := B.bytes
  have hr := B.returns
  have hlk := B.notSynchronized
  have hts0 := atoms_spec (ws := gW yX1_scanYear cX1_scanYear 3 none) B.pre
  have h2 : ∀ w ∈ gT, w.before ([.ref dt, .ref tx] : List Value).toArray s = true := fun w hw => hts0 w (List.mem_cons_of_mem _ hw)
  have hown : s.vm.findClass RX1 = some m.cls := findClass_of_methodNamed B.named
  have hl := lv_entry [.ref dt, .ref tx] (n := 3) (Nat.le_of_ble_eq_true rfl)
  rw [lg_entry_eq]
  generalize (lg_sl [.ref dt, .ref tx] ++ List.replicate (3 - (lg_sl [.ref dt, .ref tx]).length) Slot.unset).toArray = ls at hl ⊢
  have hD := zD_all h2 hKn.1
  have hcl0 := fun (idx k : Nat) (t : zt_T) (h : (idx, 0, k) ∈ gfX1) (hk : fsX0[k]? = some t) => zf_clause (ro := ro) (ms := dtM) h2 hown hKn.1 gfX1_ok (by decide +kernel) idx 0 k 0 0 fsX0 t h rfl hk
  have hcl1 := fun (idx k : Nat) (t : zt_T) (h : (idx, 1, k) ∈ gfX1) (hk : fsX1[k]? = some t) => zf_clause (ro := ro) (ms := dtM) h2 hown hKn.1 gfX1_ok (by decide +kernel) idx 1 k 1 0 fsX1 t h rfl hk
  have kp0 : zc_kept D RTg ro dtM s.heap s.heap := zc_kept.refl
  obtain ⟨hJ, jd0⟩ := hJ
  obtain ⟨hjt, ⟨av, bv, wv, f2, f3, f4, hav, hbv, hwv⟩, hu⟩ := id hJ
  obtain ⟨tb, n, z, f0, r0, f1, hn, hc, hz⟩ := id hjt
  obtain ⟨n9, g9, n1, n2⟩ := zh_fT (k := 1) (t := (0, 0, 120)) hh htx (show RTg[0]? = some (0, 0, 0, fsX0) from rfl) rfl
  cases f1.symm.trans g9
  dsimp only at n1 n2
  clear g9
  obtain ⟨-, z9, c9, hy9⟩ := zh_arr hh r0 (show RTg[12]? = some (1, 2, 120, [(0, (-128), 127)]) from rfl)
  have hy : ∀ i, i < 120 → zt_ok ro (z i) (0, (-128), 127) := zs_arr (hc.symm.trans c9) hy9
  obtain ⟨u1, u2, u3⟩ := id hu
  have fr0 : ∀ p9 : Nat, p9 ∉ [tx, dt] → s.heap[p9]? = s.heap[p9]? := fun _ _ => rfl
  refine lv_aload_n hx hb (eX1_scanYear (0, .aload_n 0, 1) (List.mem_of_getElem? (i := 0) rfl)) rfl (lv_at hl 0 rfl) ?_
  refine lv_aload_n hx hb (eX1_scanYear (1, .aload_n 1, 1) (List.mem_of_getElem? (i := 1) rfl)) rfl (lv_at hl 1 rfl) ?_
  refine tz_get (r := 0) (k := 2) (t := (0, (-2147483648), 2147483647)) hx hb hh htx rfl rfl (hcl0 79 2 (0, (-2147483648), 2147483647) (by decide) rfl).1 f2 (eX1_scanYear (2, .getfield 79, 3) (List.mem_of_getElem? (i := 2) rfl)) ?_
  refine tz_put (r := 1) (k := 2) (t := (0, (-2147483648), 2147483647)) hx hb hD hh hdt rfl rfl ((hcl1 19 2 (0, (-2147483648), 2147483647) (by decide) rfl).2 (by decide)) (tz_i (zn_i32 _).1 (zn_i32 _).2) (eX1_scanYear (5, .putfield 19, 3) (List.mem_of_getElem? (i := 3) rfl)) (fun H1 lo1 hh1 hf1 hk1 _ hq1 => ?_)
  have mf1_tx_0 := (hk1.1 tx 0 0 0 0 fsX0 htx rfl (by decide) (by decide)).trans f0
  have mf1_tx_1 := (hk1.1 tx 0 1 0 0 fsX0 htx rfl (by decide) (by decide)).trans f1
  have mf1_tx_2 := (hk1.1 tx 0 2 0 0 fsX0 htx rfl (by decide) (by decide)).trans f2
  have mf1_tx_3 := (hk1.1 tx 0 3 0 0 fsX0 htx rfl (by decide) (by decide)).trans f3
  have mf1_tx_4 := (hk1.1 tx 0 4 0 0 fsX0 htx rfl (by decide) (by decide)).trans f4
  have mc1_tb := (hk1.2 tb 12 0 2 120 _ r0 rfl (by decide)).trans hc
  have kp1 := kp0.trans (hk1.mono (ms' := dtM) (fun x hx => by cases List.mem_singleton.mp hx; decide))
  have jm1 := (hJ).kept htx hk1 (by decide)
  have fr1 : ∀ p9 : Nat, p9 ∉ [tx, dt] → H1[p9]? = s.heap[p9]? := fun p9 h9 => (hq1 p9 (fun e9 => h9 (by rw [e9]; exact (List.mem_cons_of_mem _ List.mem_cons_self)))).trans (fr0 p9 h9)
  have jd1 := jF.put hdt rfl (by decide) hk1 hf1 (show av.toInt = (sg).1 by omega) jd0
  refine lv_aload_n hx hb (eX1_scanYear (8, .aload_n 0, 1) (List.mem_of_getElem? (i := 4) rfl)) rfl (lv_at hl 0 rfl) ?_
  refine lv_aload_n hx hb (eX1_scanYear (9, .aload_n 1, 1) (List.mem_of_getElem? (i := 5) rfl)) rfl (lv_at hl 1 rfl) ?_
  refine ff_bipush hx hb (eX1_scanYear (10, .bipush 45, 2) (List.mem_of_getElem? (i := 6) rfl)) (by decide) (by decide) (fun v2 e2 => ?_)
  refine tz_rowV (As := [.int v2]) (st := [.ref dt]) (b := tx) (C := RX0) (Ts := gT) hx hb hml hown h2 (fun _ h => h) (hX0_take l D cA ro sz H0 tx v2 45 T (sg) htx (by omega) (by decide)) ⟨rfl, rfl⟩ ⟨by decide, by decide⟩ ⟨by decide, by decide⟩ (tb_4 8 rfl rfl) (tb_1 5 rfl rfl) (tb_5 109 rfl rfl) (tb_4 6 rfl rfl) (tb_4 7 rfl rfl) (show yX0_take.cls ≠ "java/lang/invoke/MethodHandle" ∧ yX0_take.cls ≠ "java/lang/invoke/VarHandle" ∧ (parseMethodDescriptor yX0_take.desc).map (fun d => d.parameters.length) = some 1 by decide +kernel) zs_blind (zs_ob hh1 htx (show RTg[0]? = some (0, 0, 0, fsX0) from rfl) (zCX0 hKn.1)) (fun U hU hW => ⟨rfl, by rw [hU]; exact hh1.l0, zKb s U hW.alike hKn, by rw [hU]; exact jm1⟩) hh1.2.2.1 hl.1 (Nat.le_of_ble_eq_true rfl) (eX1_scanYear (12, .invokevirtual 47, 3) (List.mem_of_getElem? (i := 7) rfl)) (fun r3 s3 t3 lo3 g3 f3 l3 => ?_)
  obtain ⟨v3, q3, e3, z3, c3, j3, fx3⟩ := f3
  cases q3
  rw [g3] at c3 fx3
  have fr3 : ∀ p9 : Nat, p9 ∉ [tx, dt] → t3.heap[p9]? = s.heap[p9]? := fun p9 h9 => (fx3 p9 (fun q => h9 (by rw [List.mem_singleton.mp q]; exact List.mem_cons_self))).trans (fr1 p9 h9)
  have hh3 : zh_ok D cA RTg ro sz H0 t3.heap lo3 := ⟨z3.1, z3.2.1, l3, z3.2.2.2⟩
  have kp3 := kp1.trans (c3.mono (ms' := dtM) (by decide))
  have kf3 := tkF_01 T 45 sg
  generalize hx3 : tkF T 45 sg = x3 at j3 e3 kf3
  have uu3 := j3.2.2
  unfold uOK at uu3
  have mf3_tx_0 := (c3.1 tx 0 0 0 0 fsX0 htx rfl (by decide) (by decide)).trans mf1_tx_0
  have mf3_tx_1 := (c3.1 tx 0 1 0 0 fsX0 htx rfl (by decide) (by decide)).trans mf1_tx_1
  have mf3_dt_2 := (c3.1 dt 1 2 1 0 fsX1 hdt rfl (by decide) (by decide)).trans hf1
  have jd3 := jd1.kept hdt rfl (by decide) c3 (by decide)
  refine W.eq (g2 := F0 m 15 ls [.int v3, .ref dt]) rfl ?_
  refine tz_put (r := 1) (k := 4) (t := (0, 0, 1)) hx hb hD hh3 hdt rfl rfl ((hcl1 25 4 (0, 0, 1) (by decide) rfl).2 (by decide)) (tz_i (by omega) (by omega)) (eX1_scanYear (15, .putfield 25, 3) (List.mem_of_getElem? (i := 8) rfl)) (fun H4 lo4 hh4 hf4 hk4 _ hq4 => ?_)
  have mf4_tx_0 := (hk4.1 tx 0 0 0 0 fsX0 htx rfl (by decide) (by decide)).trans mf3_tx_0
  have mf4_tx_1 := (hk4.1 tx 0 1 0 0 fsX0 htx rfl (by decide) (by decide)).trans mf3_tx_1
  have mf4_dt_2 := (hk4.1 dt 1 2 1 0 fsX1 hdt rfl (by decide) (by decide)).trans mf3_dt_2
  have kp4 := kp3.trans (hk4.mono (ms' := dtM) (fun x hx => by cases List.mem_singleton.mp hx; decide))
  have jm4 := (j3).kept htx hk4 (by decide)
  have fr4 : ∀ p9 : Nat, p9 ∉ [tx, dt] → H4[p9]? = s.heap[p9]? := fun p9 h9 => (hq4 p9 (fun e9 => h9 (by rw [e9]; exact (List.mem_cons_of_mem _ List.mem_cons_self)))).trans (fr3 p9 h9)
  have jd4 := jF.put hdt rfl (by decide) hk4 hf4 (show v3.toInt = x3.1 by omega) jd3
  refine lv_aload_n hx hb (eX1_scanYear (18, .aload_n 0, 1) (List.mem_of_getElem? (i := 9) rfl)) rfl (lv_at hl 0 rfl) ?_
  refine lv_aload_n hx hb (eX1_scanYear (19, .aload_n 0, 1) (List.mem_of_getElem? (i := 10) rfl)) rfl (lv_at hl 0 rfl) ?_
  refine tz_get (r := 1) (k := 4) (t := (0, 0, 1)) hx hb hh4 hdt rfl rfl (hcl1 25 4 (0, 0, 1) (by decide) rfl).1 hf4 (eX1_scanYear (20, .getfield 25, 3) (List.mem_of_getElem? (i := 11) rfl)) ?_
  refine ff_if_ne hx hb (eX1_scanYear (23, .ifCond .ne 12, 3) (List.mem_of_getElem? (i := 12) rfl)) (tgt := 35) rfl (fun c5 => ?_) (fun c5 => ?_)
  · skip
    have d3 : x3.1 = 1 := by omega
    refine ff_iconst hx hb (eX1_scanYear (35, .iconst 1, 1) (List.mem_of_getElem? (i := 17) rfl)) (by decide) (by decide) (fun v6 e6 => ?_)
    refine lv_goto hx hb (eX1_scanYear (36, .goto 4, 3) (List.mem_of_getElem? (i := 18) rfl)) (tgt := 40) rfl ?_
    refine tz_put (r := 1) (k := 3) (t := (0, 0, 1)) hx hb hD hh4 hdt rfl rfl ((hcl1 22 3 (0, 0, 1) (by decide) rfl).2 (by decide)) (tz_i (by omega) (by omega)) (eX1_scanYear (40, .putfield 22, 3) (List.mem_of_getElem? (i := 20) rfl)) (fun H7 lo7 hh7 hf7 hk7 _ hq7 => ?_)
    have mf7_tx_0 := (hk7.1 tx 0 0 0 0 fsX0 htx rfl (by decide) (by decide)).trans mf4_tx_0
    have mf7_tx_1 := (hk7.1 tx 0 1 0 0 fsX0 htx rfl (by decide) (by decide)).trans mf4_tx_1
    have mf7_dt_2 := (hk7.1 dt 1 2 1 0 fsX1 hdt rfl (by decide) (by decide)).trans mf4_dt_2
    have mf7_dt_4 := (hk7.1 dt 1 4 1 0 fsX1 hdt rfl (by decide) (by decide)).trans hf4
    have kp7 := kp4.trans (hk7.mono (ms' := dtM) (fun x hx => by cases List.mem_singleton.mp hx; decide))
    have jm7 := (jm4).kept htx hk7 (by decide)
    have fr7 : ∀ p9 : Nat, p9 ∉ [tx, dt] → H7[p9]? = s.heap[p9]? := fun p9 h9 => (hq7 p9 (fun e9 => h9 (by rw [e9]; exact (List.mem_cons_of_mem _ List.mem_cons_self)))).trans (fr4 p9 h9)
    have jd7 := jF.put hdt rfl (by decide) hk7 hf7 (show v6.toInt = 1 by omega) jd4
    refine lv_aload_n hx hb (eX1_scanYear (43, .aload_n 0, 1) (List.mem_of_getElem? (i := 21) rfl)) rfl (lv_at hl 0 rfl) ?_
    refine tz_get (r := 1) (k := 3) (t := (0, 0, 1)) hx hb hh7 hdt rfl rfl (hcl1 22 3 (0, 0, 1) (by decide) rfl).1 hf7 (eX1_scanYear (44, .getfield 22, 3) (List.mem_of_getElem? (i := 22) rfl)) ?_
    refine ff_if_eq hx hb (eX1_scanYear (47, .ifCond .eq 8, 3) (List.mem_of_getElem? (i := 23) rfl)) (tgt := 55) rfl (fun c8 => (by exfalso; omega)) (fun c8 => ?_)
    refine ff_bipush hx hb (eX1_scanYear (50, .bipush 6, 2) (List.mem_of_getElem? (i := 24) rfl)) (by decide) (by decide) (fun v9 e9 => ?_)
    refine lv_goto hx hb (eX1_scanYear (52, .goto 4, 3) (List.mem_of_getElem? (i := 25) rfl)) (tgt := 56) rfl ?_
    refine lv_istore_n hx hb (eX1_scanYear (56, .istore_n 2, 1) (List.mem_of_getElem? (i := 27) rfl)) rfl hl (by decide) rfl (fun ls10 hl10 => ?_)
    refine lv_aload_n hx hb (eX1_scanYear (57, .aload_n 0, 1) (List.mem_of_getElem? (i := 28) rfl)) rfl (lv_at hl10 1 rfl) ?_
    refine lv_aload_n hx hb (eX1_scanYear (58, .aload_n 1, 1) (List.mem_of_getElem? (i := 29) rfl)) rfl (lv_at hl10 2 rfl) ?_
    refine lv_iload_n hx hb (eX1_scanYear (59, .iload_n 2, 1) (List.mem_of_getElem? (i := 30) rfl)) rfl (lv_at hl10 0 rfl) ?_
    refine lv_iload_n hx hb (eX1_scanYear (60, .iload_n 2, 1) (List.mem_of_getElem? (i := 31) rfl)) rfl (lv_at hl10 0 rfl) ?_
    refine tz_rowV (As := [.int v9, .int v9]) (st := [.ref dt]) (b := tx) (C := RX0) (Ts := gT) hx hb hml hown h2 (fun _ h => h) (hX0_numberW l D cA ro sz H0 tx v9 v9 6 6 T (x3.2) htx (by omega) (by omega) (by decide)) ⟨rfl, rfl⟩ ⟨by decide, by decide⟩ ⟨by decide, by decide⟩ (tb_4 60 rfl rfl) (tb_1 5 rfl rfl) (tb_4 227 rfl rfl) (tb_4 58 rfl rfl) (tb_4 59 rfl rfl) (show yX0_number.cls ≠ "java/lang/invoke/MethodHandle" ∧ yX0_number.cls ≠ "java/lang/invoke/VarHandle" ∧ (parseMethodDescriptor yX0_number.desc).map (fun d => d.parameters.length) = some 2 by decide +kernel) zs_blind (zs_ob hh7 htx (show RTg[0]? = some (0, 0, 0, fsX0) from rfl) (zCX0 hKn.1)) (fun U hU hW => ⟨rfl, by rw [hU]; exact hh7.l0, zKb s U hW.alike hKn, by rw [hU]; exact jm7⟩) hh7.2.2.1 hl10.1 (Nat.le_of_ble_eq_true rfl) (eX1_scanYear (61, .invokevirtual 71, 3) (List.mem_of_getElem? (i := 32) rfl)) (fun r11 s11 t11 lo11 g11 f11 l11 => ?_)
    obtain ⟨v11, q11, e11, z11, c11, j11, fx11⟩ := f11
    cases q11
    rw [g11] at c11 fx11
    have fr11 : ∀ p9 : Nat, p9 ∉ [tx, dt] → t11.heap[p9]? = s.heap[p9]? := fun p9 h9 => (fx11 p9 (fun q => h9 (by rw [List.mem_singleton.mp q]; exact List.mem_cons_self))).trans (fr7 p9 h9)
    have hh11 : zh_ok D cA RTg ro sz H0 t11.heap lo11 := ⟨z11.1, z11.2.1, l11, z11.2.2.2⟩
    have kp11 := kp7.trans (c11.mono (ms' := dtM) (by decide))
    have kf11 := nbF_hM (T := T) (ld := 6) (n := 6) (s := x3.2) (M := 999999) (by decide)
    generalize hx11 : nbF T 6 6 0 0 x3.2 = x11 at j11 e11 kf11
    have uu11 := j11.2.2
    unfold uOK at uu11
    have mf11_tx_0 := (c11.1 tx 0 0 0 0 fsX0 htx rfl (by decide) (by decide)).trans mf7_tx_0
    have mf11_tx_1 := (c11.1 tx 0 1 0 0 fsX0 htx rfl (by decide) (by decide)).trans mf7_tx_1
    have mf11_dt_2 := (c11.1 dt 1 2 1 0 fsX1 hdt rfl (by decide) (by decide)).trans mf7_dt_2
    have mf11_dt_4 := (c11.1 dt 1 4 1 0 fsX1 hdt rfl (by decide) (by decide)).trans mf7_dt_4
    have mf11_dt_3 := (c11.1 dt 1 3 1 0 fsX1 hdt rfl (by decide) (by decide)).trans hf7
    have jd11 := jd7.kept hdt rfl (by decide) c11 (by decide)
    refine W.eq (g2 := F0 m 64 ls10 [.int v11, .ref dt]) rfl ?_
    refine tz_put (r := 1) (k := 5) (t := (0, (-2147483648), 2147483647)) hx hb hD hh11 hdt rfl rfl ((hcl1 28 5 (0, (-2147483648), 2147483647) (by decide) rfl).2 (by decide)) (tz_i (zn_i32 _).1 (zn_i32 _).2) (eX1_scanYear (64, .putfield 28, 3) (List.mem_of_getElem? (i := 33) rfl)) (fun H12 lo12 hh12 hf12 hk12 _ hq12 => ?_)
    have mf12_tx_0 := (hk12.1 tx 0 0 0 0 fsX0 htx rfl (by decide) (by decide)).trans mf11_tx_0
    have mf12_tx_1 := (hk12.1 tx 0 1 0 0 fsX0 htx rfl (by decide) (by decide)).trans mf11_tx_1
    have mf12_dt_2 := (hk12.1 dt 1 2 1 0 fsX1 hdt rfl (by decide) (by decide)).trans mf11_dt_2
    have mf12_dt_4 := (hk12.1 dt 1 4 1 0 fsX1 hdt rfl (by decide) (by decide)).trans mf11_dt_4
    have mf12_dt_3 := (hk12.1 dt 1 3 1 0 fsX1 hdt rfl (by decide) (by decide)).trans mf11_dt_3
    have kp12 := kp11.trans (hk12.mono (ms' := dtM) (fun x hx => by cases List.mem_singleton.mp hx; decide))
    have jm12 := (j11).kept htx hk12 (by decide)
    have fr12 : ∀ p9 : Nat, p9 ∉ [tx, dt] → H12[p9]? = s.heap[p9]? := fun p9 h9 => (hq12 p9 (fun e9 => h9 (by rw [e9]; exact (List.mem_cons_of_mem _ List.mem_cons_self)))).trans (fr11 p9 h9)
    have jd12 := jF.put hdt rfl (by decide) hk12 hf12 (show v11.toInt = x11.1 by omega) jd11
    have hfin : yrF T (f, sg) = ((upF (upF (upF (upF f 2 ((sg).1)) 4 (x3.1)) 3 (1)) 5 (x11.1)), x11.2) := by first | (simp only [yrF, hx3, hx11, if_pos d3, up_eq]; done) | (simp only [yrF, hx3, hx11, if_pos d3, up_eq] <;> rfl) | rfl
    exact W.vret hx hb hr (fun t ht hW => ⟨rfl, by rw [ht]; exact hh12.l0, by rw [ht]; exact kp12, by rw [ht, hfin]; exact jm12, by rw [ht, hfin]; exact jd12, by rw [ht]; exact fr12⟩) hh12.2.2.1 (eX1_scanYear (67, .return_, 1) (List.mem_of_getElem? (i := 34) rfl))
  · skip
    have d3 : ¬ x3.1 = 1 := by omega
    refine lv_aload_n hx hb (eX1_scanYear (26, .aload_n 1, 1) (List.mem_of_getElem? (i := 13) rfl)) rfl (lv_at hl 1 rfl) ?_
    refine ff_bipush hx hb (eX1_scanYear (27, .bipush 43, 2) (List.mem_of_getElem? (i := 14) rfl)) (by decide) (by decide) (fun v13 e13 => ?_)
    refine tz_rowV (As := [.int v13]) (st := [.ref dt]) (b := tx) (C := RX0) (Ts := gT) hx hb hml hown h2 (fun _ h => h) (hX0_take l D cA ro sz H0 tx v13 43 T (x3.2) htx (by omega) (by decide)) ⟨rfl, rfl⟩ ⟨by decide, by decide⟩ ⟨by decide, by decide⟩ (tb_4 8 rfl rfl) (tb_1 5 rfl rfl) (tb_5 109 rfl rfl) (tb_4 6 rfl rfl) (tb_4 7 rfl rfl) (show yX0_take.cls ≠ "java/lang/invoke/MethodHandle" ∧ yX0_take.cls ≠ "java/lang/invoke/VarHandle" ∧ (parseMethodDescriptor yX0_take.desc).map (fun d => d.parameters.length) = some 1 by decide +kernel) zs_blind (zs_ob hh4 htx (show RTg[0]? = some (0, 0, 0, fsX0) from rfl) (zCX0 hKn.1)) (fun U hU hW => ⟨rfl, by rw [hU]; exact hh4.l0, zKb s U hW.alike hKn, by rw [hU]; exact jm4⟩) hh4.2.2.1 hl.1 (Nat.le_of_ble_eq_true rfl) (eX1_scanYear (29, .invokevirtual 47, 3) (List.mem_of_getElem? (i := 15) rfl)) (fun r14 s14 t14 lo14 g14 f14 l14 => ?_)
    obtain ⟨v14, q14, e14, z14, c14, j14, fx14⟩ := f14
    cases q14
    rw [g14] at c14 fx14
    have fr14 : ∀ p9 : Nat, p9 ∉ [tx, dt] → t14.heap[p9]? = s.heap[p9]? := fun p9 h9 => (fx14 p9 (fun q => h9 (by rw [List.mem_singleton.mp q]; exact List.mem_cons_self))).trans (fr4 p9 h9)
    have hh14 : zh_ok D cA RTg ro sz H0 t14.heap lo14 := ⟨z14.1, z14.2.1, l14, z14.2.2.2⟩
    have kp14 := kp4.trans (c14.mono (ms' := dtM) (by decide))
    have kf14 := tkF_01 T 43 x3.2
    generalize hx14 : tkF T 43 x3.2 = x14 at j14 e14 kf14
    have uu14 := j14.2.2
    unfold uOK at uu14
    have mf14_tx_0 := (c14.1 tx 0 0 0 0 fsX0 htx rfl (by decide) (by decide)).trans mf4_tx_0
    have mf14_tx_1 := (c14.1 tx 0 1 0 0 fsX0 htx rfl (by decide) (by decide)).trans mf4_tx_1
    have mf14_dt_2 := (c14.1 dt 1 2 1 0 fsX1 hdt rfl (by decide) (by decide)).trans mf4_dt_2
    have mf14_dt_4 := (c14.1 dt 1 4 1 0 fsX1 hdt rfl (by decide) (by decide)).trans hf4
    have jd14 := jd4.kept hdt rfl (by decide) c14 (by decide)
    refine W.eq (g2 := F0 m 32 ls [.int v14, .ref dt]) rfl ?_
    refine ff_if_eq hx hb (eX1_scanYear (32, .ifCond .eq 7, 3) (List.mem_of_getElem? (i := 16) rfl)) (tgt := 39) rfl (fun c15 => ?_) (fun c15 => ?_)
    · skip
      have d14 : ¬ x14.1 = 1 := by omega
      refine ff_iconst hx hb (eX1_scanYear (39, .iconst 0, 1) (List.mem_of_getElem? (i := 19) rfl)) (by decide) (by decide) (fun v16 e16 => ?_)
      refine tz_put (r := 1) (k := 3) (t := (0, 0, 1)) hx hb hD hh14 hdt rfl rfl ((hcl1 22 3 (0, 0, 1) (by decide) rfl).2 (by decide)) (tz_i (by omega) (by omega)) (eX1_scanYear (40, .putfield 22, 3) (List.mem_of_getElem? (i := 20) rfl)) (fun H17 lo17 hh17 hf17 hk17 _ hq17 => ?_)
      have mf17_tx_0 := (hk17.1 tx 0 0 0 0 fsX0 htx rfl (by decide) (by decide)).trans mf14_tx_0
      have mf17_tx_1 := (hk17.1 tx 0 1 0 0 fsX0 htx rfl (by decide) (by decide)).trans mf14_tx_1
      have mf17_dt_2 := (hk17.1 dt 1 2 1 0 fsX1 hdt rfl (by decide) (by decide)).trans mf14_dt_2
      have mf17_dt_4 := (hk17.1 dt 1 4 1 0 fsX1 hdt rfl (by decide) (by decide)).trans mf14_dt_4
      have kp17 := kp14.trans (hk17.mono (ms' := dtM) (fun x hx => by cases List.mem_singleton.mp hx; decide))
      have jm17 := (j14).kept htx hk17 (by decide)
      have fr17 : ∀ p9 : Nat, p9 ∉ [tx, dt] → H17[p9]? = s.heap[p9]? := fun p9 h9 => (hq17 p9 (fun e9 => h9 (by rw [e9]; exact (List.mem_cons_of_mem _ List.mem_cons_self)))).trans (fr14 p9 h9)
      have jd17 := jF.put hdt rfl (by decide) hk17 hf17 (show v16.toInt = 0 by omega) jd14
      refine lv_aload_n hx hb (eX1_scanYear (43, .aload_n 0, 1) (List.mem_of_getElem? (i := 21) rfl)) rfl (lv_at hl 0 rfl) ?_
      refine tz_get (r := 1) (k := 3) (t := (0, 0, 1)) hx hb hh17 hdt rfl rfl (hcl1 22 3 (0, 0, 1) (by decide) rfl).1 hf17 (eX1_scanYear (44, .getfield 22, 3) (List.mem_of_getElem? (i := 22) rfl)) ?_
      refine ff_if_eq hx hb (eX1_scanYear (47, .ifCond .eq 8, 3) (List.mem_of_getElem? (i := 23) rfl)) (tgt := 55) rfl (fun c18 => ?_) (fun c18 => (by exfalso; omega))
      refine ff_iconst hx hb (eX1_scanYear (55, .iconst 4, 1) (List.mem_of_getElem? (i := 26) rfl)) (by decide) (by decide) (fun v19 e19 => ?_)
      refine lv_istore_n hx hb (eX1_scanYear (56, .istore_n 2, 1) (List.mem_of_getElem? (i := 27) rfl)) rfl hl (by decide) rfl (fun ls20 hl20 => ?_)
      refine lv_aload_n hx hb (eX1_scanYear (57, .aload_n 0, 1) (List.mem_of_getElem? (i := 28) rfl)) rfl (lv_at hl20 1 rfl) ?_
      refine lv_aload_n hx hb (eX1_scanYear (58, .aload_n 1, 1) (List.mem_of_getElem? (i := 29) rfl)) rfl (lv_at hl20 2 rfl) ?_
      refine lv_iload_n hx hb (eX1_scanYear (59, .iload_n 2, 1) (List.mem_of_getElem? (i := 30) rfl)) rfl (lv_at hl20 0 rfl) ?_
      refine lv_iload_n hx hb (eX1_scanYear (60, .iload_n 2, 1) (List.mem_of_getElem? (i := 31) rfl)) rfl (lv_at hl20 0 rfl) ?_
      refine tz_rowV (As := [.int v19, .int v19]) (st := [.ref dt]) (b := tx) (C := RX0) (Ts := gT) hx hb hml hown h2 (fun _ h => h) (hX0_numberW l D cA ro sz H0 tx v19 v19 4 4 T (x14.2) htx (by omega) (by omega) (by decide)) ⟨rfl, rfl⟩ ⟨by decide, by decide⟩ ⟨by decide, by decide⟩ (tb_4 60 rfl rfl) (tb_1 5 rfl rfl) (tb_4 227 rfl rfl) (tb_4 58 rfl rfl) (tb_4 59 rfl rfl) (show yX0_number.cls ≠ "java/lang/invoke/MethodHandle" ∧ yX0_number.cls ≠ "java/lang/invoke/VarHandle" ∧ (parseMethodDescriptor yX0_number.desc).map (fun d => d.parameters.length) = some 2 by decide +kernel) zs_blind (zs_ob hh17 htx (show RTg[0]? = some (0, 0, 0, fsX0) from rfl) (zCX0 hKn.1)) (fun U hU hW => ⟨rfl, by rw [hU]; exact hh17.l0, zKb s U hW.alike hKn, by rw [hU]; exact jm17⟩) hh17.2.2.1 hl20.1 (Nat.le_of_ble_eq_true rfl) (eX1_scanYear (61, .invokevirtual 71, 3) (List.mem_of_getElem? (i := 32) rfl)) (fun r21 s21 t21 lo21 g21 f21 l21 => ?_)
      obtain ⟨v21, q21, e21, z21, c21, j21, fx21⟩ := f21
      cases q21
      rw [g21] at c21 fx21
      have fr21 : ∀ p9 : Nat, p9 ∉ [tx, dt] → t21.heap[p9]? = s.heap[p9]? := fun p9 h9 => (fx21 p9 (fun q => h9 (by rw [List.mem_singleton.mp q]; exact List.mem_cons_self))).trans (fr17 p9 h9)
      have hh21 : zh_ok D cA RTg ro sz H0 t21.heap lo21 := ⟨z21.1, z21.2.1, l21, z21.2.2.2⟩
      have kp21 := kp17.trans (c21.mono (ms' := dtM) (by decide))
      have kf21 := nbF_hM (T := T) (ld := 4) (n := 4) (s := x14.2) (M := 9999) (by decide)
      generalize hx21 : nbF T 4 4 0 0 x14.2 = x21 at j21 e21 kf21
      have uu21 := j21.2.2
      unfold uOK at uu21
      have mf21_tx_0 := (c21.1 tx 0 0 0 0 fsX0 htx rfl (by decide) (by decide)).trans mf17_tx_0
      have mf21_tx_1 := (c21.1 tx 0 1 0 0 fsX0 htx rfl (by decide) (by decide)).trans mf17_tx_1
      have mf21_dt_2 := (c21.1 dt 1 2 1 0 fsX1 hdt rfl (by decide) (by decide)).trans mf17_dt_2
      have mf21_dt_4 := (c21.1 dt 1 4 1 0 fsX1 hdt rfl (by decide) (by decide)).trans mf17_dt_4
      have mf21_dt_3 := (c21.1 dt 1 3 1 0 fsX1 hdt rfl (by decide) (by decide)).trans hf17
      have jd21 := jd17.kept hdt rfl (by decide) c21 (by decide)
      refine W.eq (g2 := F0 m 64 ls20 [.int v21, .ref dt]) rfl ?_
      refine tz_put (r := 1) (k := 5) (t := (0, (-2147483648), 2147483647)) hx hb hD hh21 hdt rfl rfl ((hcl1 28 5 (0, (-2147483648), 2147483647) (by decide) rfl).2 (by decide)) (tz_i (zn_i32 _).1 (zn_i32 _).2) (eX1_scanYear (64, .putfield 28, 3) (List.mem_of_getElem? (i := 33) rfl)) (fun H22 lo22 hh22 hf22 hk22 _ hq22 => ?_)
      have mf22_tx_0 := (hk22.1 tx 0 0 0 0 fsX0 htx rfl (by decide) (by decide)).trans mf21_tx_0
      have mf22_tx_1 := (hk22.1 tx 0 1 0 0 fsX0 htx rfl (by decide) (by decide)).trans mf21_tx_1
      have mf22_dt_2 := (hk22.1 dt 1 2 1 0 fsX1 hdt rfl (by decide) (by decide)).trans mf21_dt_2
      have mf22_dt_4 := (hk22.1 dt 1 4 1 0 fsX1 hdt rfl (by decide) (by decide)).trans mf21_dt_4
      have mf22_dt_3 := (hk22.1 dt 1 3 1 0 fsX1 hdt rfl (by decide) (by decide)).trans mf21_dt_3
      have kp22 := kp21.trans (hk22.mono (ms' := dtM) (fun x hx => by cases List.mem_singleton.mp hx; decide))
      have jm22 := (j21).kept htx hk22 (by decide)
      have fr22 : ∀ p9 : Nat, p9 ∉ [tx, dt] → H22[p9]? = s.heap[p9]? := fun p9 h9 => (hq22 p9 (fun e9 => h9 (by rw [e9]; exact (List.mem_cons_of_mem _ List.mem_cons_self)))).trans (fr21 p9 h9)
      have jd22 := jF.put hdt rfl (by decide) hk22 hf22 (show v21.toInt = x21.1 by omega) jd21
      have hfin : yrF T (f, sg) = ((upF (upF (upF (upF f 2 ((sg).1)) 4 (x3.1)) 3 (0)) 5 (x21.1)), x21.2) := by first | (simp only [yrF, hx3, hx14, hx21, if_neg d3, if_neg d14, up_eq]; done) | (simp only [yrF, hx3, hx14, hx21, if_neg d3, if_neg d14, up_eq] <;> rfl) | rfl
      exact W.vret hx hb hr (fun t ht hW => ⟨rfl, by rw [ht]; exact hh22.l0, by rw [ht]; exact kp22, by rw [ht, hfin]; exact jm22, by rw [ht, hfin]; exact jd22, by rw [ht]; exact fr22⟩) hh22.2.2.1 (eX1_scanYear (67, .return_, 1) (List.mem_of_getElem? (i := 34) rfl))
    · skip
      have d14 : x14.1 = 1 := by omega
      refine ff_iconst hx hb (eX1_scanYear (35, .iconst 1, 1) (List.mem_of_getElem? (i := 17) rfl)) (by decide) (by decide) (fun v23 e23 => ?_)
      refine lv_goto hx hb (eX1_scanYear (36, .goto 4, 3) (List.mem_of_getElem? (i := 18) rfl)) (tgt := 40) rfl ?_
      refine tz_put (r := 1) (k := 3) (t := (0, 0, 1)) hx hb hD hh14 hdt rfl rfl ((hcl1 22 3 (0, 0, 1) (by decide) rfl).2 (by decide)) (tz_i (by omega) (by omega)) (eX1_scanYear (40, .putfield 22, 3) (List.mem_of_getElem? (i := 20) rfl)) (fun H24 lo24 hh24 hf24 hk24 _ hq24 => ?_)
      have mf24_tx_0 := (hk24.1 tx 0 0 0 0 fsX0 htx rfl (by decide) (by decide)).trans mf14_tx_0
      have mf24_tx_1 := (hk24.1 tx 0 1 0 0 fsX0 htx rfl (by decide) (by decide)).trans mf14_tx_1
      have mf24_dt_2 := (hk24.1 dt 1 2 1 0 fsX1 hdt rfl (by decide) (by decide)).trans mf14_dt_2
      have mf24_dt_4 := (hk24.1 dt 1 4 1 0 fsX1 hdt rfl (by decide) (by decide)).trans mf14_dt_4
      have kp24 := kp14.trans (hk24.mono (ms' := dtM) (fun x hx => by cases List.mem_singleton.mp hx; decide))
      have jm24 := (j14).kept htx hk24 (by decide)
      have fr24 : ∀ p9 : Nat, p9 ∉ [tx, dt] → H24[p9]? = s.heap[p9]? := fun p9 h9 => (hq24 p9 (fun e9 => h9 (by rw [e9]; exact (List.mem_cons_of_mem _ List.mem_cons_self)))).trans (fr14 p9 h9)
      have jd24 := jF.put hdt rfl (by decide) hk24 hf24 (show v23.toInt = 1 by omega) jd14
      refine lv_aload_n hx hb (eX1_scanYear (43, .aload_n 0, 1) (List.mem_of_getElem? (i := 21) rfl)) rfl (lv_at hl 0 rfl) ?_
      refine tz_get (r := 1) (k := 3) (t := (0, 0, 1)) hx hb hh24 hdt rfl rfl (hcl1 22 3 (0, 0, 1) (by decide) rfl).1 hf24 (eX1_scanYear (44, .getfield 22, 3) (List.mem_of_getElem? (i := 22) rfl)) ?_
      refine ff_if_eq hx hb (eX1_scanYear (47, .ifCond .eq 8, 3) (List.mem_of_getElem? (i := 23) rfl)) (tgt := 55) rfl (fun c25 => (by exfalso; omega)) (fun c25 => ?_)
      refine ff_bipush hx hb (eX1_scanYear (50, .bipush 6, 2) (List.mem_of_getElem? (i := 24) rfl)) (by decide) (by decide) (fun v26 e26 => ?_)
      refine lv_goto hx hb (eX1_scanYear (52, .goto 4, 3) (List.mem_of_getElem? (i := 25) rfl)) (tgt := 56) rfl ?_
      refine lv_istore_n hx hb (eX1_scanYear (56, .istore_n 2, 1) (List.mem_of_getElem? (i := 27) rfl)) rfl hl (by decide) rfl (fun ls27 hl27 => ?_)
      refine lv_aload_n hx hb (eX1_scanYear (57, .aload_n 0, 1) (List.mem_of_getElem? (i := 28) rfl)) rfl (lv_at hl27 1 rfl) ?_
      refine lv_aload_n hx hb (eX1_scanYear (58, .aload_n 1, 1) (List.mem_of_getElem? (i := 29) rfl)) rfl (lv_at hl27 2 rfl) ?_
      refine lv_iload_n hx hb (eX1_scanYear (59, .iload_n 2, 1) (List.mem_of_getElem? (i := 30) rfl)) rfl (lv_at hl27 0 rfl) ?_
      refine lv_iload_n hx hb (eX1_scanYear (60, .iload_n 2, 1) (List.mem_of_getElem? (i := 31) rfl)) rfl (lv_at hl27 0 rfl) ?_
      refine tz_rowV (As := [.int v26, .int v26]) (st := [.ref dt]) (b := tx) (C := RX0) (Ts := gT) hx hb hml hown h2 (fun _ h => h) (hX0_numberW l D cA ro sz H0 tx v26 v26 6 6 T (x14.2) htx (by omega) (by omega) (by decide)) ⟨rfl, rfl⟩ ⟨by decide, by decide⟩ ⟨by decide, by decide⟩ (tb_4 60 rfl rfl) (tb_1 5 rfl rfl) (tb_4 227 rfl rfl) (tb_4 58 rfl rfl) (tb_4 59 rfl rfl) (show yX0_number.cls ≠ "java/lang/invoke/MethodHandle" ∧ yX0_number.cls ≠ "java/lang/invoke/VarHandle" ∧ (parseMethodDescriptor yX0_number.desc).map (fun d => d.parameters.length) = some 2 by decide +kernel) zs_blind (zs_ob hh24 htx (show RTg[0]? = some (0, 0, 0, fsX0) from rfl) (zCX0 hKn.1)) (fun U hU hW => ⟨rfl, by rw [hU]; exact hh24.l0, zKb s U hW.alike hKn, by rw [hU]; exact jm24⟩) hh24.2.2.1 hl27.1 (Nat.le_of_ble_eq_true rfl) (eX1_scanYear (61, .invokevirtual 71, 3) (List.mem_of_getElem? (i := 32) rfl)) (fun r28 s28 t28 lo28 g28 f28 l28 => ?_)
      obtain ⟨v28, q28, e28, z28, c28, j28, fx28⟩ := f28
      cases q28
      rw [g28] at c28 fx28
      have fr28 : ∀ p9 : Nat, p9 ∉ [tx, dt] → t28.heap[p9]? = s.heap[p9]? := fun p9 h9 => (fx28 p9 (fun q => h9 (by rw [List.mem_singleton.mp q]; exact List.mem_cons_self))).trans (fr24 p9 h9)
      have hh28 : zh_ok D cA RTg ro sz H0 t28.heap lo28 := ⟨z28.1, z28.2.1, l28, z28.2.2.2⟩
      have kp28 := kp24.trans (c28.mono (ms' := dtM) (by decide))
      have kf28 := nbF_hM (T := T) (ld := 6) (n := 6) (s := x14.2) (M := 999999) (by decide)
      generalize hx28 : nbF T 6 6 0 0 x14.2 = x28 at j28 e28 kf28
      have uu28 := j28.2.2
      unfold uOK at uu28
      have mf28_tx_0 := (c28.1 tx 0 0 0 0 fsX0 htx rfl (by decide) (by decide)).trans mf24_tx_0
      have mf28_tx_1 := (c28.1 tx 0 1 0 0 fsX0 htx rfl (by decide) (by decide)).trans mf24_tx_1
      have mf28_dt_2 := (c28.1 dt 1 2 1 0 fsX1 hdt rfl (by decide) (by decide)).trans mf24_dt_2
      have mf28_dt_4 := (c28.1 dt 1 4 1 0 fsX1 hdt rfl (by decide) (by decide)).trans mf24_dt_4
      have mf28_dt_3 := (c28.1 dt 1 3 1 0 fsX1 hdt rfl (by decide) (by decide)).trans hf24
      have jd28 := jd24.kept hdt rfl (by decide) c28 (by decide)
      refine W.eq (g2 := F0 m 64 ls27 [.int v28, .ref dt]) rfl ?_
      refine tz_put (r := 1) (k := 5) (t := (0, (-2147483648), 2147483647)) hx hb hD hh28 hdt rfl rfl ((hcl1 28 5 (0, (-2147483648), 2147483647) (by decide) rfl).2 (by decide)) (tz_i (zn_i32 _).1 (zn_i32 _).2) (eX1_scanYear (64, .putfield 28, 3) (List.mem_of_getElem? (i := 33) rfl)) (fun H29 lo29 hh29 hf29 hk29 _ hq29 => ?_)
      have mf29_tx_0 := (hk29.1 tx 0 0 0 0 fsX0 htx rfl (by decide) (by decide)).trans mf28_tx_0
      have mf29_tx_1 := (hk29.1 tx 0 1 0 0 fsX0 htx rfl (by decide) (by decide)).trans mf28_tx_1
      have mf29_dt_2 := (hk29.1 dt 1 2 1 0 fsX1 hdt rfl (by decide) (by decide)).trans mf28_dt_2
      have mf29_dt_4 := (hk29.1 dt 1 4 1 0 fsX1 hdt rfl (by decide) (by decide)).trans mf28_dt_4
      have mf29_dt_3 := (hk29.1 dt 1 3 1 0 fsX1 hdt rfl (by decide) (by decide)).trans mf28_dt_3
      have kp29 := kp28.trans (hk29.mono (ms' := dtM) (fun x hx => by cases List.mem_singleton.mp hx; decide))
      have jm29 := (j28).kept htx hk29 (by decide)
      have fr29 : ∀ p9 : Nat, p9 ∉ [tx, dt] → H29[p9]? = s.heap[p9]? := fun p9 h9 => (hq29 p9 (fun e9 => h9 (by rw [e9]; exact (List.mem_cons_of_mem _ List.mem_cons_self)))).trans (fr28 p9 h9)
      have jd29 := jF.put hdt rfl (by decide) hk29 hf29 (show v28.toInt = x28.1 by omega) jd28
      have hfin : yrF T (f, sg) = ((upF (upF (upF (upF f 2 ((sg).1)) 4 (x3.1)) 3 (1)) 5 (x28.1)), x28.2) := by first | (simp only [yrF, hx3, hx14, hx28, if_neg d3, if_pos d14, up_eq]; done) | (simp only [yrF, hx3, hx14, hx28, if_neg d3, if_pos d14, up_eq] <;> rfl) | rfl
      exact W.vret hx hb hr (fun t ht hW => ⟨rfl, by rw [ht]; exact hh29.l0, by rw [ht]; exact kp29, by rw [ht, hfin]; exact jm29, by rw [ht, hfin]; exact jd29, by rw [ht]; exact fr29⟩) hh29.2.2.1 (eX1_scanYear (67, .return_, 1) (List.mem_of_getElem? (i := 34) rfl))
set_option maxRecDepth 100000 in
set_option maxHeartbeats 4000000 in
theorem hX1_scanDashed (l : Launch) (D : va_G) (cA : Nat → ClassId) (ro : Nat → Option Nat) (sz : Nat) (H0 : Heap) (dt : Nat) (tx : Nat) (wq : Int32) (wh : Int) (T : List Int) (sg : uS) (f : fN) (hdt : ro dt = some 1) (htx : ro tx = some 0) (hwh : wq.toInt = wh) (hwb : wh = 0 ∨ wh = 1) : Met l yX1_scanDashed (gW yX1_scanDashed cX1_scanDashed 3 none) { frames := 2, cells := 0, slots := 0, locals := 46 } (zs_P D cA ro sz H0 (fun H => jU D cA ro H tx T sg ∧ jF D H dt 1 10 f) [.ref dt, .ref tx, .int wq]) (du_V D cA ro sz H0 dtM tx T dt 1 10 (daF T wh (f, sg))) 0 0 (zy_fr sz) := by
  refine zy_ofW (cc := cX1_scanDashed) (maxL := 3) (ret := none) (by decide +kernel) rfl ?_
  intro p e s m args below meth c s1 B hml hv
  obtain ⟨rfl, hh, hKn, hJ⟩ := hv
  have hx := B.exec
  have hb := B.bytes
  have hr := B.returns
  have hlk := B.notSynchronized
  have hts0 := atoms_spec (ws := gW yX1_scanDashed cX1_scanDashed 3 none) B.pre
  have h2 : ∀ w ∈ gT, w.before ([.ref dt, .ref tx, .int wq] : List Value).toArray s = true := fun w hw => hts0 w (List.mem_cons_of_mem _ hw)
  have hown : s.vm.findClass RX1 = some m.cls := findClass_of_methodNamed B.named
  have hl := lv_entry [.ref dt, .ref tx, .int wq] (n := 3) (Nat.le_of_ble_eq_true rfl)
  rw [lg_entry_eq]
  generalize (lg_sl [.ref dt, .ref tx, .int wq] ++ List.replicate (3 - (lg_sl [.ref dt, .ref tx, .int wq]).length) Slot.unset).toArray = ls at hl ⊢
  have b_wq := zn_i32 wq
  have hD := zD_all h2 hKn.1
  have hcl0 := fun (idx k : Nat) (t : zt_T) (h : (idx, 0, k) ∈ gfX1) (hk : fsX0[k]? = some t) => zf_clause (ro := ro) (ms := dtM) h2 hown hKn.1 gfX1_ok (by decide +kernel) idx 0 k 0 0 fsX0 t h rfl hk
  have hcl1 := fun (idx k : Nat) (t : zt_T) (h : (idx, 1, k) ∈ gfX1) (hk : fsX1[k]? = some t) => zf_clause (ro := ro) (ms := dtM) h2 hown hKn.1 gfX1_ok (by decide +kernel) idx 1 k 1 0 fsX1 t h rfl hk
  have kp0 : zc_kept D RTg ro dtM s.heap s.heap := zc_kept.refl
  obtain ⟨hJ, jd0⟩ := hJ
  obtain ⟨hjt, ⟨av, bv, wv, f2, f3, f4, hav, hbv, hwv⟩, hu⟩ := id hJ
  obtain ⟨tb, n, z, f0, r0, f1, hn, hc, hz⟩ := id hjt
  obtain ⟨n9, g9, n1, n2⟩ := zh_fT (k := 1) (t := (0, 0, 120)) hh htx (show RTg[0]? = some (0, 0, 0, fsX0) from rfl) rfl
  cases f1.symm.trans g9
  dsimp only at n1 n2
  clear g9
  obtain ⟨-, z9, c9, hy9⟩ := zh_arr hh r0 (show RTg[12]? = some (1, 2, 120, [(0, (-128), 127)]) from rfl)
  have hy : ∀ i, i < 120 → zt_ok ro (z i) (0, (-128), 127) := zs_arr (hc.symm.trans c9) hy9
  obtain ⟨u1, u2, u3⟩ := id hu
  have fr0 : ∀ p9 : Nat, p9 ∉ [tx, dt] → s.heap[p9]? = s.heap[p9]? := fun _ _ => rfl
  refine lv_aload_n hx hb (eX1_scanDashed (0, .aload_n 0, 1) (List.mem_of_getElem? (i := 0) rfl)) rfl (lv_at hl 0 rfl) ?_
  refine lv_aload_n hx hb (eX1_scanDashed (1, .aload_n 1, 1) (List.mem_of_getElem? (i := 1) rfl)) rfl (lv_at hl 1 rfl) ?_
  refine tz_get (r := 0) (k := 2) (t := (0, (-2147483648), 2147483647)) hx hb hh htx rfl rfl (hcl0 79 2 (0, (-2147483648), 2147483647) (by decide) rfl).1 f2 (eX1_scanDashed (2, .getfield 79, 3) (List.mem_of_getElem? (i := 2) rfl)) ?_
  refine tz_put (r := 1) (k := 6) (t := (0, (-2147483648), 2147483647)) hx hb hD hh hdt rfl rfl ((hcl1 31 6 (0, (-2147483648), 2147483647) (by decide) rfl).2 (by decide)) (tz_i (zn_i32 _).1 (zn_i32 _).2) (eX1_scanDashed (5, .putfield 31, 3) (List.mem_of_getElem? (i := 3) rfl)) (fun H1 lo1 hh1 hf1 hk1 _ hq1 => ?_)
  have mf1_tx_0 := (hk1.1 tx 0 0 0 0 fsX0 htx rfl (by decide) (by decide)).trans f0
  have mf1_tx_1 := (hk1.1 tx 0 1 0 0 fsX0 htx rfl (by decide) (by decide)).trans f1
  have mf1_tx_2 := (hk1.1 tx 0 2 0 0 fsX0 htx rfl (by decide) (by decide)).trans f2
  have mf1_tx_3 := (hk1.1 tx 0 3 0 0 fsX0 htx rfl (by decide) (by decide)).trans f3
  have mf1_tx_4 := (hk1.1 tx 0 4 0 0 fsX0 htx rfl (by decide) (by decide)).trans f4
  have mc1_tb := (hk1.2 tb 12 0 2 120 _ r0 rfl (by decide)).trans hc
  have kp1 := kp0.trans (hk1.mono (ms' := dtM) (fun x hx => by cases List.mem_singleton.mp hx; decide))
  have jm1 := (hJ).kept htx hk1 (by decide)
  have fr1 : ∀ p9 : Nat, p9 ∉ [tx, dt] → H1[p9]? = s.heap[p9]? := fun p9 h9 => (hq1 p9 (fun e9 => h9 (by rw [e9]; exact (List.mem_cons_of_mem _ List.mem_cons_self)))).trans (fr0 p9 h9)
  have jd1 := jF.put hdt rfl (by decide) hk1 hf1 (show av.toInt = (sg).1 by omega) jd0
  refine lv_aload_n hx hb (eX1_scanDashed (8, .aload_n 0, 1) (List.mem_of_getElem? (i := 4) rfl)) rfl (lv_at hl 0 rfl) ?_
  refine lv_aload_n hx hb (eX1_scanDashed (9, .aload_n 1, 1) (List.mem_of_getElem? (i := 5) rfl)) rfl (lv_at hl 1 rfl) ?_
  refine ff_iconst hx hb (eX1_scanDashed (10, .iconst 2, 1) (List.mem_of_getElem? (i := 6) rfl)) (by decide) (by decide) (fun v2 e2 => ?_)
  refine ff_iconst hx hb (eX1_scanDashed (11, .iconst 2, 1) (List.mem_of_getElem? (i := 7) rfl)) (by decide) (by decide) (fun v3 e3 => ?_)
  refine tz_rowV (As := [.int v2, .int v3]) (st := [.ref dt]) (b := tx) (C := RX0) (Ts := gT) hx hb hml hown h2 (fun _ h => h) (hX0_numberW l D cA ro sz H0 tx v2 v3 2 2 T (sg) htx (by omega) (by omega) (by decide)) ⟨rfl, rfl⟩ ⟨by decide, by decide⟩ ⟨by decide, by decide⟩ (tb_4 60 rfl rfl) (tb_1 5 rfl rfl) (tb_4 227 rfl rfl) (tb_4 58 rfl rfl) (tb_4 59 rfl rfl) (show yX0_number.cls ≠ "java/lang/invoke/MethodHandle" ∧ yX0_number.cls ≠ "java/lang/invoke/VarHandle" ∧ (parseMethodDescriptor yX0_number.desc).map (fun d => d.parameters.length) = some 2 by decide +kernel) zs_blind (zs_ob hh1 htx (show RTg[0]? = some (0, 0, 0, fsX0) from rfl) (zCX0 hKn.1)) (fun U hU hW => ⟨rfl, by rw [hU]; exact hh1.l0, zKb s U hW.alike hKn, by rw [hU]; exact jm1⟩) hh1.2.2.1 hl.1 (Nat.le_of_ble_eq_true rfl) (eX1_scanDashed (12, .invokevirtual 71, 3) (List.mem_of_getElem? (i := 8) rfl)) (fun r4 s4 t4 lo4 g4 f4 l4 => ?_)
  obtain ⟨v4, q4, e4, z4, c4, j4, fx4⟩ := f4
  cases q4
  rw [g4] at c4 fx4
  have fr4 : ∀ p9 : Nat, p9 ∉ [tx, dt] → t4.heap[p9]? = s.heap[p9]? := fun p9 h9 => (fx4 p9 (fun q => h9 (by rw [List.mem_singleton.mp q]; exact List.mem_cons_self))).trans (fr1 p9 h9)
  have hh4 : zh_ok D cA RTg ro sz H0 t4.heap lo4 := ⟨z4.1, z4.2.1, l4, z4.2.2.2⟩
  have kp4 := kp1.trans (c4.mono (ms' := dtM) (by decide))
  have kf4 := nbF_hM (T := T) (ld := 2) (n := 2) (s := sg) (M := 99) (by decide)
  generalize hx4 : nbF T 2 2 0 0 sg = x4 at j4 e4 kf4
  have uu4 := j4.2.2
  unfold uOK at uu4
  have mf4_tx_0 := (c4.1 tx 0 0 0 0 fsX0 htx rfl (by decide) (by decide)).trans mf1_tx_0
  have mf4_tx_1 := (c4.1 tx 0 1 0 0 fsX0 htx rfl (by decide) (by decide)).trans mf1_tx_1
  have mf4_dt_6 := (c4.1 dt 1 6 1 0 fsX1 hdt rfl (by decide) (by decide)).trans hf1
  have jd4 := jd1.kept hdt rfl (by decide) c4 (by decide)
  refine W.eq (g2 := F0 m 15 ls [.int v4, .ref dt]) rfl ?_
  refine tz_put (r := 1) (k := 7) (t := (0, (-2147483648), 2147483647)) hx hb hD hh4 hdt rfl rfl ((hcl1 34 7 (0, (-2147483648), 2147483647) (by decide) rfl).2 (by decide)) (tz_i (zn_i32 _).1 (zn_i32 _).2) (eX1_scanDashed (15, .putfield 34, 3) (List.mem_of_getElem? (i := 9) rfl)) (fun H5 lo5 hh5 hf5 hk5 _ hq5 => ?_)
  have mf5_tx_0 := (hk5.1 tx 0 0 0 0 fsX0 htx rfl (by decide) (by decide)).trans mf4_tx_0
  have mf5_tx_1 := (hk5.1 tx 0 1 0 0 fsX0 htx rfl (by decide) (by decide)).trans mf4_tx_1
  have mf5_dt_6 := (hk5.1 dt 1 6 1 0 fsX1 hdt rfl (by decide) (by decide)).trans mf4_dt_6
  have kp5 := kp4.trans (hk5.mono (ms' := dtM) (fun x hx => by cases List.mem_singleton.mp hx; decide))
  have jm5 := (j4).kept htx hk5 (by decide)
  have fr5 : ∀ p9 : Nat, p9 ∉ [tx, dt] → H5[p9]? = s.heap[p9]? := fun p9 h9 => (hq5 p9 (fun e9 => h9 (by rw [e9]; exact (List.mem_cons_of_mem _ List.mem_cons_self)))).trans (fr4 p9 h9)
  have jd5 := jF.put hdt rfl (by decide) hk5 hf5 (show v4.toInt = x4.1 by omega) jd4
  refine lv_aload_n hx hb (eX1_scanDashed (18, .aload_n 1, 1) (List.mem_of_getElem? (i := 10) rfl)) rfl (lv_at hl 1 rfl) ?_
  refine ff_bipush hx hb (eX1_scanDashed (19, .bipush 45, 2) (List.mem_of_getElem? (i := 11) rfl)) (by decide) (by decide) (fun v6 e6 => ?_)
  refine tz_rowV (As := [.int v6]) (st := []) (b := tx) (C := RX0) (Ts := gT) hx hb hml hown h2 (fun _ h => h) (hX0_take l D cA ro sz H0 tx v6 45 T (x4.2) htx (by omega) (by decide)) ⟨rfl, rfl⟩ ⟨by decide, by decide⟩ ⟨by decide, by decide⟩ (tb_4 8 rfl rfl) (tb_1 5 rfl rfl) (tb_5 109 rfl rfl) (tb_4 6 rfl rfl) (tb_4 7 rfl rfl) (show yX0_take.cls ≠ "java/lang/invoke/MethodHandle" ∧ yX0_take.cls ≠ "java/lang/invoke/VarHandle" ∧ (parseMethodDescriptor yX0_take.desc).map (fun d => d.parameters.length) = some 1 by decide +kernel) zs_blind (zs_ob hh5 htx (show RTg[0]? = some (0, 0, 0, fsX0) from rfl) (zCX0 hKn.1)) (fun U hU hW => ⟨rfl, by rw [hU]; exact hh5.l0, zKb s U hW.alike hKn, by rw [hU]; exact jm5⟩) hh5.2.2.1 hl.1 (Nat.le_of_ble_eq_true rfl) (eX1_scanDashed (21, .invokevirtual 47, 3) (List.mem_of_getElem? (i := 12) rfl)) (fun r7 s7 t7 lo7 g7 f7 l7 => ?_)
  obtain ⟨v7, q7, e7, z7, c7, j7, fx7⟩ := f7
  cases q7
  rw [g7] at c7 fx7
  have fr7 : ∀ p9 : Nat, p9 ∉ [tx, dt] → t7.heap[p9]? = s.heap[p9]? := fun p9 h9 => (fx7 p9 (fun q => h9 (by rw [List.mem_singleton.mp q]; exact List.mem_cons_self))).trans (fr5 p9 h9)
  have hh7 : zh_ok D cA RTg ro sz H0 t7.heap lo7 := ⟨z7.1, z7.2.1, l7, z7.2.2.2⟩
  have kp7 := kp5.trans (c7.mono (ms' := dtM) (by decide))
  have kf7 := tkF_01 T 45 x4.2
  generalize hx7 : tkF T 45 x4.2 = x7 at j7 e7 kf7
  have uu7 := j7.2.2
  unfold uOK at uu7
  have mf7_tx_0 := (c7.1 tx 0 0 0 0 fsX0 htx rfl (by decide) (by decide)).trans mf5_tx_0
  have mf7_tx_1 := (c7.1 tx 0 1 0 0 fsX0 htx rfl (by decide) (by decide)).trans mf5_tx_1
  have mf7_dt_6 := (c7.1 dt 1 6 1 0 fsX1 hdt rfl (by decide) (by decide)).trans mf5_dt_6
  have mf7_dt_7 := (c7.1 dt 1 7 1 0 fsX1 hdt rfl (by decide) (by decide)).trans hf5
  have jd7 := jd5.kept hdt rfl (by decide) c7 (by decide)
  refine W.eq (g2 := F0 m 24 ls [.int v7]) rfl ?_
  refine ff_if_eq hx hb (eX1_scanDashed (24, .ifCond .eq 29, 3) (List.mem_of_getElem? (i := 13) rfl)) (tgt := 53) rfl (fun c8 => ?_) (fun c8 => ?_)
  · skip
    have d7 : ¬ x7.1 = 1 := by omega
    refine lv_aload_n hx hb (eX1_scanDashed (53, .aload_n 1, 1) (List.mem_of_getElem? (i := 28) rfl)) rfl (lv_at hl 1 rfl) ?_
    refine tz_rowV (As := []) (st := []) (b := tx) (C := RX0) (Ts := gT) hx hb hml hown h2 (fun _ h => h) (hX0_atDigit l D cA ro sz H0 tx T (x7.2) htx) ⟨rfl, rfl⟩ ⟨by decide, by decide⟩ ⟨by decide, by decide⟩ (tb_4 24 rfl rfl) (tb_1 5 rfl rfl) (tb_5 114 rfl rfl) (tb_4 22 rfl rfl) (tb_4 23 rfl rfl) (show yX0_atDigit.cls ≠ "java/lang/invoke/MethodHandle" ∧ yX0_atDigit.cls ≠ "java/lang/invoke/VarHandle" ∧ (parseMethodDescriptor yX0_atDigit.desc).map (fun d => d.parameters.length) = some 0 by decide +kernel) zs_blind (zs_ob hh7 htx (show RTg[0]? = some (0, 0, 0, fsX0) from rfl) (zCX0 hKn.1)) (fun U hU hW => ⟨rfl, by rw [hU]; exact hh7.l0, zKb s U hW.alike hKn, by rw [hU]; exact j7⟩) hh7.2.2.1 hl.1 (Nat.le_of_ble_eq_true rfl) (eX1_scanDashed (54, .invokevirtual 60, 3) (List.mem_of_getElem? (i := 29) rfl)) (fun r9 s9 t9 lo9 g9 f9 l9 => ?_)
    obtain ⟨z9, v9, q9, e9⟩ := f9
    cases q9
    rw [z9, g9]
    have hh9 : zh_ok D cA RTg ro sz H0 t7.heap lo9 := ⟨hh7.1, hh7.2.1, l9, hh7.2.2.2⟩
    refine W.eq (g2 := F0 m 57 ls [.int v9]) rfl ?_
    refine ff_if_eq hx hb (eX1_scanDashed (57, .ifCond .eq 29, 3) (List.mem_of_getElem? (i := 30) rfl)) (tgt := 86) rfl (fun c10 => ?_) (fun c10 => ?_)
    · have d11 : ¬ 0 ≤ dgF T x7.2 := by omega
      refine lv_aload_n hx hb (eX1_scanDashed (86, .aload_n 0, 1) (List.mem_of_getElem? (i := 46) rfl)) rfl (lv_at hl 0 rfl) ?_
      refine lv_aload_n hx hb (eX1_scanDashed (87, .aload_n 1, 1) (List.mem_of_getElem? (i := 47) rfl)) rfl (lv_at hl 1 rfl) ?_
      refine ff_iconst hx hb (eX1_scanDashed (88, .iconst 4, 1) (List.mem_of_getElem? (i := 48) rfl)) (by decide) (by decide) (fun v12 e12 => ?_)
      refine lv_iload_n hx hb (eX1_scanDashed (89, .iload_n 2, 1) (List.mem_of_getElem? (i := 49) rfl)) rfl (lv_at hl 2 rfl) ?_
      refine tz_rowV (As := [.ref tx, .int v12, .int wq]) (st := []) (b := dt) (C := RX1) (Ts := gT) hx hb hml hown h2 (fun _ h => h) (hX1_endShort l D cA ro sz H0 dt tx v12 wq 4 wh T (x7.2) ((upF (upF f 6 ((sg).1)) 7 (x4.1))) hdt htx (by omega) hwh hwb) ⟨rfl, rfl⟩ ⟨by decide, by decide⟩ ⟨by decide, by decide⟩ (tb_5 118 rfl rfl) (tb_1 8 rfl rfl) (tb_5 115 rfl rfl) (tb_5 116 rfl rfl) (tb_5 117 rfl rfl) (show yX1_endShort.cls ≠ "java/lang/invoke/MethodHandle" ∧ yX1_endShort.cls ≠ "java/lang/invoke/VarHandle" ∧ (parseMethodDescriptor yX1_endShort.desc).map (fun d => d.parameters.length) = some 3 by decide +kernel) zs_blind (zs_ob hh9 hdt (show RTg[1]? = some (0, 1, 0, fsX1) from rfl) (zCX1 hKn.1)) (fun U hU hW => ⟨rfl, by rw [hU]; exact hh9.l0, zKb s U hW.alike hKn, by rw [hU]; exact ⟨j7, jd7⟩⟩) hh9.2.2.1 hl.1 (Nat.le_of_ble_eq_true rfl) (eX1_scanDashed (90, .invokevirtual 67, 3) (List.mem_of_getElem? (i := 50) rfl)) (fun r13 s13 t13 lo13 g13 f13 l13 => ?_)
      obtain ⟨q13, z13, c13, j13, jd13, fx13⟩ := f13
      cases q13
      rw [g13] at c13 fx13
      have fr13 : ∀ p9 : Nat, p9 ∉ [tx, dt] → t13.heap[p9]? = s.heap[p9]? := fun p9 h9 => (fx13 p9 (fun q => h9 (by rcases List.mem_cons.mp q with q | q; (rw [q]; exact List.mem_cons_self); (rw [List.mem_singleton.mp q]; exact (List.mem_cons_of_mem _ List.mem_cons_self))))).trans (fr7 p9 h9)
      have hh13 : zh_ok D cA RTg ro sz H0 t13.heap lo13 := ⟨z13.1, z13.2.1, l13, z13.2.2.2⟩
      have kp13 := kp7.trans (c13.mono (ms' := dtM) (by decide))
      generalize hx13 : enF 4 wh ((upF (upF f 6 ((sg).1)) 7 (x4.1)), x7.2) = x13 at j13 jd13
      have uu13 := j13.2.2
      unfold uOK at uu13
      refine W.eq (g2 := F0 m 93 ls []) rfl ?_
      have hfin : daF T wh (f, sg) = (x13.1, x13.2) := by first | (simp only [daF, nmF, laF, hx4, hx7, hx13, if_neg d7, if_neg d11, up_eq]; done) | (simp only [daF, nmF, laF, hx4, hx7, hx13, if_neg d7, if_neg d11, up_eq] <;> rfl) | rfl
      exact W.vret hx hb hr (fun t ht hW => ⟨rfl, by rw [ht]; exact hh13.l0, by rw [ht]; exact kp13, by rw [ht, hfin]; exact j13, by rw [ht, hfin]; exact jd13, by rw [ht]; exact fr13⟩) hh13.2.2.1 (eX1_scanDashed (93, .return_, 1) (List.mem_of_getElem? (i := 51) rfl))
    · have d14 : 0 ≤ dgF T x7.2 := by omega
      refine lv_aload_n hx hb (eX1_scanDashed (60, .aload_n 0, 1) (List.mem_of_getElem? (i := 31) rfl)) rfl (lv_at hl 0 rfl) ?_
      refine ff_iconst hx hb (eX1_scanDashed (61, .iconst 2, 1) (List.mem_of_getElem? (i := 32) rfl)) (by decide) (by decide) (fun v15 e15 => ?_)
      refine tz_put (r := 1) (k := 0) (t := (0, (-2147483648), 2147483647)) hx hb hD hh9 hdt rfl rfl ((hcl1 9 0 (0, (-2147483648), 2147483647) (by decide) rfl).2 (by decide)) (tz_i (zn_i32 _).1 (zn_i32 _).2) (eX1_scanDashed (62, .putfield 9, 3) (List.mem_of_getElem? (i := 33) rfl)) (fun H16 lo16 hh16 hf16 hk16 _ hq16 => ?_)
      have mf16_tx_0 := (hk16.1 tx 0 0 0 0 fsX0 htx rfl (by decide) (by decide)).trans mf7_tx_0
      have mf16_tx_1 := (hk16.1 tx 0 1 0 0 fsX0 htx rfl (by decide) (by decide)).trans mf7_tx_1
      have mf16_dt_6 := (hk16.1 dt 1 6 1 0 fsX1 hdt rfl (by decide) (by decide)).trans mf7_dt_6
      have mf16_dt_7 := (hk16.1 dt 1 7 1 0 fsX1 hdt rfl (by decide) (by decide)).trans mf7_dt_7
      have kp16 := kp7.trans (hk16.mono (ms' := dtM) (fun x hx => by cases List.mem_singleton.mp hx; decide))
      have jm16 := (j7).kept htx hk16 (by decide)
      have fr16 : ∀ p9 : Nat, p9 ∉ [tx, dt] → H16[p9]? = s.heap[p9]? := fun p9 h9 => (hq16 p9 (fun e9 => h9 (by rw [e9]; exact (List.mem_cons_of_mem _ List.mem_cons_self)))).trans (fr7 p9 h9)
      have jd16 := jF.put hdt rfl (by decide) hk16 hf16 (show v15.toInt = 2 by omega) jd7
      refine lv_aload_n hx hb (eX1_scanDashed (65, .aload_n 0, 1) (List.mem_of_getElem? (i := 34) rfl)) rfl (lv_at hl 0 rfl) ?_
      refine lv_aload_n hx hb (eX1_scanDashed (66, .aload_n 0, 1) (List.mem_of_getElem? (i := 35) rfl)) rfl (lv_at hl 0 rfl) ?_
      refine tz_get (r := 1) (k := 7) (t := (0, (-2147483648), 2147483647)) hx hb hh16 hdt rfl rfl (hcl1 34 7 (0, (-2147483648), 2147483647) (by decide) rfl).1 mf16_dt_7 (eX1_scanDashed (67, .getfield 34, 3) (List.mem_of_getElem? (i := 36) rfl)) ?_
      refine ff_bipush hx hb (eX1_scanDashed (70, .bipush 10, 2) (List.mem_of_getElem? (i := 37) rfl)) (by decide) (by decide) (fun v17 e17 => ?_)
      refine ff_imulR hx hb (eX1_scanDashed (72, .imul, 1) (List.mem_of_getElem? (i := 38) rfl)) (e17) (by omega) (by omega) (fun v18 e18 => ?_)
      refine lv_aload_n hx hb (eX1_scanDashed (73, .aload_n 1, 1) (List.mem_of_getElem? (i := 39) rfl)) rfl (lv_at hl 1 rfl) ?_
      refine ff_iconst hx hb (eX1_scanDashed (74, .iconst 1, 1) (List.mem_of_getElem? (i := 40) rfl)) (by decide) (by decide) (fun v19 e19 => ?_)
      refine ff_iconst hx hb (eX1_scanDashed (75, .iconst 1, 1) (List.mem_of_getElem? (i := 41) rfl)) (by decide) (by decide) (fun v20 e20 => ?_)
      refine tz_rowV (As := [.int v19, .int v20]) (st := [.int v18, .ref dt]) (b := tx) (C := RX0) (Ts := gT) hx hb hml hown h2 (fun _ h => h) (hX0_numberW l D cA ro sz H0 tx v19 v20 1 1 T (x7.2) htx (by omega) (by omega) (by decide)) ⟨rfl, rfl⟩ ⟨by decide, by decide⟩ ⟨by decide, by decide⟩ (tb_4 60 rfl rfl) (tb_1 5 rfl rfl) (tb_4 227 rfl rfl) (tb_4 58 rfl rfl) (tb_4 59 rfl rfl) (show yX0_number.cls ≠ "java/lang/invoke/MethodHandle" ∧ yX0_number.cls ≠ "java/lang/invoke/VarHandle" ∧ (parseMethodDescriptor yX0_number.desc).map (fun d => d.parameters.length) = some 2 by decide +kernel) zs_blind (zs_ob hh16 htx (show RTg[0]? = some (0, 0, 0, fsX0) from rfl) (zCX0 hKn.1)) (fun U hU hW => ⟨rfl, by rw [hU]; exact hh16.l0, zKb s U hW.alike hKn, by rw [hU]; exact jm16⟩) hh16.2.2.1 hl.1 (Nat.le_of_ble_eq_true rfl) (eX1_scanDashed (76, .invokevirtual 71, 3) (List.mem_of_getElem? (i := 42) rfl)) (fun r21 s21 t21 lo21 g21 f21 l21 => ?_)
      obtain ⟨v21, q21, e21, z21, c21, j21, fx21⟩ := f21
      cases q21
      rw [g21] at c21 fx21
      have fr21 : ∀ p9 : Nat, p9 ∉ [tx, dt] → t21.heap[p9]? = s.heap[p9]? := fun p9 h9 => (fx21 p9 (fun q => h9 (by rw [List.mem_singleton.mp q]; exact List.mem_cons_self))).trans (fr16 p9 h9)
      have hh21 : zh_ok D cA RTg ro sz H0 t21.heap lo21 := ⟨z21.1, z21.2.1, l21, z21.2.2.2⟩
      have kp21 := kp16.trans (c21.mono (ms' := dtM) (by decide))
      have kf21 := nbF_hM (T := T) (ld := 1) (n := 1) (s := x7.2) (M := 9) (by decide)
      generalize hx21 : nbF T 1 1 0 0 x7.2 = x21 at j21 e21 kf21
      have uu21 := j21.2.2
      unfold uOK at uu21
      have mf21_tx_0 := (c21.1 tx 0 0 0 0 fsX0 htx rfl (by decide) (by decide)).trans mf16_tx_0
      have mf21_tx_1 := (c21.1 tx 0 1 0 0 fsX0 htx rfl (by decide) (by decide)).trans mf16_tx_1
      have mf21_dt_6 := (c21.1 dt 1 6 1 0 fsX1 hdt rfl (by decide) (by decide)).trans mf16_dt_6
      have mf21_dt_7 := (c21.1 dt 1 7 1 0 fsX1 hdt rfl (by decide) (by decide)).trans mf16_dt_7
      have mf21_dt_0 := (c21.1 dt 1 0 1 0 fsX1 hdt rfl (by decide) (by decide)).trans hf16
      have jd21 := jd16.kept hdt rfl (by decide) c21 (by decide)
      refine W.eq (g2 := F0 m 79 ls [.int v21, .int v18, .ref dt]) rfl ?_
      refine ff_iadd hx hb (eX1_scanDashed (79, .iadd, 1) (List.mem_of_getElem? (i := 43) rfl)) (by omega) (by omega) (fun v22 e22 => ?_)
      refine tz_put (r := 1) (k := 7) (t := (0, (-2147483648), 2147483647)) hx hb hD hh21 hdt rfl rfl ((hcl1 34 7 (0, (-2147483648), 2147483647) (by decide) rfl).2 (by decide)) (tz_i (zn_i32 _).1 (zn_i32 _).2) (eX1_scanDashed (80, .putfield 34, 3) (List.mem_of_getElem? (i := 44) rfl)) (fun H23 lo23 hh23 hf23 hk23 _ hq23 => ?_)
      have mf23_tx_0 := (hk23.1 tx 0 0 0 0 fsX0 htx rfl (by decide) (by decide)).trans mf21_tx_0
      have mf23_tx_1 := (hk23.1 tx 0 1 0 0 fsX0 htx rfl (by decide) (by decide)).trans mf21_tx_1
      have mf23_dt_6 := (hk23.1 dt 1 6 1 0 fsX1 hdt rfl (by decide) (by decide)).trans mf21_dt_6
      have mf23_dt_0 := (hk23.1 dt 1 0 1 0 fsX1 hdt rfl (by decide) (by decide)).trans mf21_dt_0
      have kp23 := kp21.trans (hk23.mono (ms' := dtM) (fun x hx => by cases List.mem_singleton.mp hx; decide))
      have jm23 := (j21).kept htx hk23 (by decide)
      have fr23 : ∀ p9 : Nat, p9 ∉ [tx, dt] → H23[p9]? = s.heap[p9]? := fun p9 h9 => (hq23 p9 (fun e9 => h9 (by rw [e9]; exact (List.mem_cons_of_mem _ List.mem_cons_self)))).trans (fr21 p9 h9)
      have jd23 := jF.put hdt rfl (by decide) hk23 hf23 (show v22.toInt = x4.1 * 10 + x21.1 by omega) jd21
      refine lv_goto hx hb (eX1_scanDashed (83, .goto 10, 3) (List.mem_of_getElem? (i := 45) rfl)) (tgt := 93) rfl ?_
      have hfin : daF T wh (f, sg) = ((upF (upF (upF (upF f 6 ((sg).1)) 7 (x4.1)) 0 (2)) 7 (x4.1 * 10 + x21.1)), x21.2) := by first | (simp only [daF, nmF, laF, hx4, hx7, hx21, if_neg d7, if_pos d14, up_eq]; done) | (simp only [daF, nmF, laF, hx4, hx7, hx21, if_neg d7, if_pos d14, up_eq] <;> rfl) | rfl
      exact W.vret hx hb hr (fun t ht hW => ⟨rfl, by rw [ht]; exact hh23.l0, by rw [ht]; exact kp23, by rw [ht, hfin]; exact jm23, by rw [ht, hfin]; exact jd23, by rw [ht]; exact fr23⟩) hh23.2.2.1 (eX1_scanDashed (93, .return_, 1) (List.mem_of_getElem? (i := 51) rfl))
  · skip
    have d7 : x7.1 = 1 := by omega
    refine lv_aload_n hx hb (eX1_scanDashed (27, .aload_n 0, 1) (List.mem_of_getElem? (i := 14) rfl)) rfl (lv_at hl 0 rfl) ?_
    refine ff_iconst hx hb (eX1_scanDashed (28, .iconst 0, 1) (List.mem_of_getElem? (i := 15) rfl)) (by decide) (by decide) (fun v24 e24 => ?_)
    refine tz_put (r := 1) (k := 0) (t := (0, (-2147483648), 2147483647)) hx hb hD hh7 hdt rfl rfl ((hcl1 9 0 (0, (-2147483648), 2147483647) (by decide) rfl).2 (by decide)) (tz_i (zn_i32 _).1 (zn_i32 _).2) (eX1_scanDashed (29, .putfield 9, 3) (List.mem_of_getElem? (i := 16) rfl)) (fun H25 lo25 hh25 hf25 hk25 _ hq25 => ?_)
    have mf25_tx_0 := (hk25.1 tx 0 0 0 0 fsX0 htx rfl (by decide) (by decide)).trans mf7_tx_0
    have mf25_tx_1 := (hk25.1 tx 0 1 0 0 fsX0 htx rfl (by decide) (by decide)).trans mf7_tx_1
    have mf25_dt_6 := (hk25.1 dt 1 6 1 0 fsX1 hdt rfl (by decide) (by decide)).trans mf7_dt_6
    have mf25_dt_7 := (hk25.1 dt 1 7 1 0 fsX1 hdt rfl (by decide) (by decide)).trans mf7_dt_7
    have kp25 := kp7.trans (hk25.mono (ms' := dtM) (fun x hx => by cases List.mem_singleton.mp hx; decide))
    have jm25 := (j7).kept htx hk25 (by decide)
    have fr25 : ∀ p9 : Nat, p9 ∉ [tx, dt] → H25[p9]? = s.heap[p9]? := fun p9 h9 => (hq25 p9 (fun e9 => h9 (by rw [e9]; exact (List.mem_cons_of_mem _ List.mem_cons_self)))).trans (fr7 p9 h9)
    have jd25 := jF.put hdt rfl (by decide) hk25 hf25 (show v24.toInt = 0 by omega) jd7
    refine lv_aload_n hx hb (eX1_scanDashed (32, .aload_n 0, 1) (List.mem_of_getElem? (i := 17) rfl)) rfl (lv_at hl 0 rfl) ?_
    refine lv_aload_n hx hb (eX1_scanDashed (33, .aload_n 1, 1) (List.mem_of_getElem? (i := 18) rfl)) rfl (lv_at hl 1 rfl) ?_
    obtain ⟨jt26, ⟨av26, bv26, wv26, f226, f326, f426, hav26, hbv26, hwv26⟩, hu26⟩ := id jm25
    refine tz_get (r := 0) (k := 2) (t := (0, (-2147483648), 2147483647)) hx hb hh25 htx rfl rfl (hcl0 79 2 (0, (-2147483648), 2147483647) (by decide) rfl).1 f226 (eX1_scanDashed (34, .getfield 79, 3) (List.mem_of_getElem? (i := 19) rfl)) ?_
    refine tz_put (r := 1) (k := 8) (t := (0, (-2147483648), 2147483647)) hx hb hD hh25 hdt rfl rfl ((hcl1 37 8 (0, (-2147483648), 2147483647) (by decide) rfl).2 (by decide)) (tz_i (zn_i32 _).1 (zn_i32 _).2) (eX1_scanDashed (37, .putfield 37, 3) (List.mem_of_getElem? (i := 20) rfl)) (fun H27 lo27 hh27 hf27 hk27 _ hq27 => ?_)
    have mf27_tx_0 := (hk27.1 tx 0 0 0 0 fsX0 htx rfl (by decide) (by decide)).trans mf25_tx_0
    have mf27_tx_1 := (hk27.1 tx 0 1 0 0 fsX0 htx rfl (by decide) (by decide)).trans mf25_tx_1
    have mf27_dt_6 := (hk27.1 dt 1 6 1 0 fsX1 hdt rfl (by decide) (by decide)).trans mf25_dt_6
    have mf27_dt_7 := (hk27.1 dt 1 7 1 0 fsX1 hdt rfl (by decide) (by decide)).trans mf25_dt_7
    have mf27_dt_0 := (hk27.1 dt 1 0 1 0 fsX1 hdt rfl (by decide) (by decide)).trans hf25
    have mf27_tx_2 := (hk27.1 tx 0 2 0 0 fsX0 htx rfl (by decide) (by decide)).trans f226
    have mf27_tx_3 := (hk27.1 tx 0 3 0 0 fsX0 htx rfl (by decide) (by decide)).trans f326
    have mf27_tx_4 := (hk27.1 tx 0 4 0 0 fsX0 htx rfl (by decide) (by decide)).trans f426
    have kp27 := kp25.trans (hk27.mono (ms' := dtM) (fun x hx => by cases List.mem_singleton.mp hx; decide))
    have jm27 := (jm25).kept htx hk27 (by decide)
    have fr27 : ∀ p9 : Nat, p9 ∉ [tx, dt] → H27[p9]? = s.heap[p9]? := fun p9 h9 => (hq27 p9 (fun e9 => h9 (by rw [e9]; exact (List.mem_cons_of_mem _ List.mem_cons_self)))).trans (fr25 p9 h9)
    have jd27 := jF.put hdt rfl (by decide) hk27 hf27 (show av26.toInt = (x7.2).1 by omega) jd25
    refine lv_aload_n hx hb (eX1_scanDashed (40, .aload_n 0, 1) (List.mem_of_getElem? (i := 21) rfl)) rfl (lv_at hl 0 rfl) ?_
    refine lv_aload_n hx hb (eX1_scanDashed (41, .aload_n 1, 1) (List.mem_of_getElem? (i := 22) rfl)) rfl (lv_at hl 1 rfl) ?_
    refine ff_iconst hx hb (eX1_scanDashed (42, .iconst 2, 1) (List.mem_of_getElem? (i := 23) rfl)) (by decide) (by decide) (fun v28 e28 => ?_)
    refine ff_iconst hx hb (eX1_scanDashed (43, .iconst 2, 1) (List.mem_of_getElem? (i := 24) rfl)) (by decide) (by decide) (fun v29 e29 => ?_)
    refine tz_rowV (As := [.int v28, .int v29]) (st := [.ref dt]) (b := tx) (C := RX0) (Ts := gT) hx hb hml hown h2 (fun _ h => h) (hX0_numberW l D cA ro sz H0 tx v28 v29 2 2 T (x7.2) htx (by omega) (by omega) (by decide)) ⟨rfl, rfl⟩ ⟨by decide, by decide⟩ ⟨by decide, by decide⟩ (tb_4 60 rfl rfl) (tb_1 5 rfl rfl) (tb_4 227 rfl rfl) (tb_4 58 rfl rfl) (tb_4 59 rfl rfl) (show yX0_number.cls ≠ "java/lang/invoke/MethodHandle" ∧ yX0_number.cls ≠ "java/lang/invoke/VarHandle" ∧ (parseMethodDescriptor yX0_number.desc).map (fun d => d.parameters.length) = some 2 by decide +kernel) zs_blind (zs_ob hh27 htx (show RTg[0]? = some (0, 0, 0, fsX0) from rfl) (zCX0 hKn.1)) (fun U hU hW => ⟨rfl, by rw [hU]; exact hh27.l0, zKb s U hW.alike hKn, by rw [hU]; exact jm27⟩) hh27.2.2.1 hl.1 (Nat.le_of_ble_eq_true rfl) (eX1_scanDashed (44, .invokevirtual 71, 3) (List.mem_of_getElem? (i := 25) rfl)) (fun r30 s30 t30 lo30 g30 f30 l30 => ?_)
    obtain ⟨v30, q30, e30, z30, c30, j30, fx30⟩ := f30
    cases q30
    rw [g30] at c30 fx30
    have fr30 : ∀ p9 : Nat, p9 ∉ [tx, dt] → t30.heap[p9]? = s.heap[p9]? := fun p9 h9 => (fx30 p9 (fun q => h9 (by rw [List.mem_singleton.mp q]; exact List.mem_cons_self))).trans (fr27 p9 h9)
    have hh30 : zh_ok D cA RTg ro sz H0 t30.heap lo30 := ⟨z30.1, z30.2.1, l30, z30.2.2.2⟩
    have kp30 := kp27.trans (c30.mono (ms' := dtM) (by decide))
    have kf30 := nbF_hM (T := T) (ld := 2) (n := 2) (s := x7.2) (M := 99) (by decide)
    generalize hx30 : nbF T 2 2 0 0 x7.2 = x30 at j30 e30 kf30
    have uu30 := j30.2.2
    unfold uOK at uu30
    have mf30_tx_0 := (c30.1 tx 0 0 0 0 fsX0 htx rfl (by decide) (by decide)).trans mf27_tx_0
    have mf30_tx_1 := (c30.1 tx 0 1 0 0 fsX0 htx rfl (by decide) (by decide)).trans mf27_tx_1
    have mf30_dt_6 := (c30.1 dt 1 6 1 0 fsX1 hdt rfl (by decide) (by decide)).trans mf27_dt_6
    have mf30_dt_7 := (c30.1 dt 1 7 1 0 fsX1 hdt rfl (by decide) (by decide)).trans mf27_dt_7
    have mf30_dt_0 := (c30.1 dt 1 0 1 0 fsX1 hdt rfl (by decide) (by decide)).trans mf27_dt_0
    have mf30_dt_8 := (c30.1 dt 1 8 1 0 fsX1 hdt rfl (by decide) (by decide)).trans hf27
    have jd30 := jd27.kept hdt rfl (by decide) c30 (by decide)
    refine W.eq (g2 := F0 m 47 ls [.int v30, .ref dt]) rfl ?_
    refine tz_put (r := 1) (k := 9) (t := (0, (-2147483648), 2147483647)) hx hb hD hh30 hdt rfl rfl ((hcl1 40 9 (0, (-2147483648), 2147483647) (by decide) rfl).2 (by decide)) (tz_i (zn_i32 _).1 (zn_i32 _).2) (eX1_scanDashed (47, .putfield 40, 3) (List.mem_of_getElem? (i := 26) rfl)) (fun H31 lo31 hh31 hf31 hk31 _ hq31 => ?_)
    have mf31_tx_0 := (hk31.1 tx 0 0 0 0 fsX0 htx rfl (by decide) (by decide)).trans mf30_tx_0
    have mf31_tx_1 := (hk31.1 tx 0 1 0 0 fsX0 htx rfl (by decide) (by decide)).trans mf30_tx_1
    have mf31_dt_6 := (hk31.1 dt 1 6 1 0 fsX1 hdt rfl (by decide) (by decide)).trans mf30_dt_6
    have mf31_dt_7 := (hk31.1 dt 1 7 1 0 fsX1 hdt rfl (by decide) (by decide)).trans mf30_dt_7
    have mf31_dt_0 := (hk31.1 dt 1 0 1 0 fsX1 hdt rfl (by decide) (by decide)).trans mf30_dt_0
    have mf31_dt_8 := (hk31.1 dt 1 8 1 0 fsX1 hdt rfl (by decide) (by decide)).trans mf30_dt_8
    have kp31 := kp30.trans (hk31.mono (ms' := dtM) (fun x hx => by cases List.mem_singleton.mp hx; decide))
    have jm31 := (j30).kept htx hk31 (by decide)
    have fr31 : ∀ p9 : Nat, p9 ∉ [tx, dt] → H31[p9]? = s.heap[p9]? := fun p9 h9 => (hq31 p9 (fun e9 => h9 (by rw [e9]; exact (List.mem_cons_of_mem _ List.mem_cons_self)))).trans (fr30 p9 h9)
    have jd31 := jF.put hdt rfl (by decide) hk31 hf31 (show v30.toInt = x30.1 by omega) jd30
    refine lv_goto hx hb (eX1_scanDashed (50, .goto 43, 3) (List.mem_of_getElem? (i := 27) rfl)) (tgt := 93) rfl ?_
    have hfin : daF T wh (f, sg) = ((upF (upF (upF (upF (upF f 6 ((sg).1)) 7 (x4.1)) 0 (0)) 8 ((x7.2).1)) 9 (x30.1)), x30.2) := by first | (simp only [daF, nmF, laF, hx4, hx7, hx30, if_pos d7, up_eq]; done) | (simp only [daF, nmF, laF, hx4, hx7, hx30, if_pos d7, up_eq] <;> rfl) | rfl
    exact W.vret hx hb hr (fun t ht hW => ⟨rfl, by rw [ht]; exact hh31.l0, by rw [ht]; exact kp31, by rw [ht, hfin]; exact jm31, by rw [ht, hfin]; exact jd31, by rw [ht]; exact fr31⟩) hh31.2.2.1 (eX1_scanDashed (93, .return_, 1) (List.mem_of_getElem? (i := 51) rfl))
set_option maxRecDepth 100000 in
set_option maxHeartbeats 4000000 in
theorem hX1_scanWeek (l : Launch) (D : va_G) (cA : Nat → ClassId) (ro : Nat → Option Nat) (sz : Nat) (H0 : Heap) (dt : Nat) (tx : Nat) (wq : Int32) (wh : Int) (T : List Int) (sg : uS) (f : fN) (hdt : ro dt = some 1) (htx : ro tx = some 0) (hwh : wq.toInt = wh) (hwb : wh = 0 ∨ wh = 1) (hf1 : f 1 = 0 ∨ f 1 = 1) : Met l yX1_scanWeek (gW yX1_scanWeek cX1_scanWeek 3 none) { frames := 2, cells := 0, slots := 0, locals := 46 } (zs_P D cA ro sz H0 (fun H => jU D cA ro H tx T sg ∧ jF D H dt 1 10 f) [.ref dt, .ref tx, .int wq]) (du_V D cA ro sz H0 dtM tx T dt 1 10 (wkF T wh (f, sg))) 0 0 (zy_fr sz) := by
  refine zy_ofW (cc := cX1_scanWeek) (maxL := 3) (ret := none) (by decide +kernel) rfl ?_
  intro p e s m args below meth c s1 B hml hv
  obtain ⟨rfl, hh, hKn, hJ⟩ := hv
  have hx := B.exec
  have hb := B.bytes
  have hr := B.returns
  have hlk := B.notSynchronized
  have hts0 := atoms_spec (ws := gW yX1_scanWeek cX1_scanWeek 3 none) B.pre
  have h2 : ∀ w ∈ gT, w.before ([.ref dt, .ref tx, .int wq] : List Value).toArray s = true := fun w hw => hts0 w (List.mem_cons_of_mem _ hw)
  have hown : s.vm.findClass RX1 = some m.cls := findClass_of_methodNamed B.named
  have hl := lv_entry [.ref dt, .ref tx, .int wq] (n := 3) (Nat.le_of_ble_eq_true rfl)
  rw [lg_entry_eq]
  generalize (lg_sl [.ref dt, .ref tx, .int wq] ++ List.replicate (3 - (lg_sl [.ref dt, .ref tx, .int wq]).length) Slot.unset).toArray = ls at hl ⊢
  have b_wq := zn_i32 wq
  have hD := zD_all h2 hKn.1
  have hcl0 := fun (idx k : Nat) (t : zt_T) (h : (idx, 0, k) ∈ gfX1) (hk : fsX0[k]? = some t) => zf_clause (ro := ro) (ms := dtM) h2 hown hKn.1 gfX1_ok (by decide +kernel) idx 0 k 0 0 fsX0 t h rfl hk
  have hcl1 := fun (idx k : Nat) (t : zt_T) (h : (idx, 1, k) ∈ gfX1) (hk : fsX1[k]? = some t) => zf_clause (ro := ro) (ms := dtM) h2 hown hKn.1 gfX1_ok (by decide +kernel) idx 1 k 1 0 fsX1 t h rfl hk
  have kp0 : zc_kept D RTg ro dtM s.heap s.heap := zc_kept.refl
  obtain ⟨hJ, jd0⟩ := hJ
  obtain ⟨hjt, ⟨av, bv, wv, f2, f3, f4, hav, hbv, hwv⟩, hu⟩ := id hJ
  obtain ⟨tb, n, z, f0, r0, f1, hn, hc, hz⟩ := id hjt
  obtain ⟨n9, g9, n1, n2⟩ := zh_fT (k := 1) (t := (0, 0, 120)) hh htx (show RTg[0]? = some (0, 0, 0, fsX0) from rfl) rfl
  cases f1.symm.trans g9
  dsimp only at n1 n2
  clear g9
  obtain ⟨-, z9, c9, hy9⟩ := zh_arr hh r0 (show RTg[12]? = some (1, 2, 120, [(0, (-128), 127)]) from rfl)
  have hy : ∀ i, i < 120 → zt_ok ro (z i) (0, (-128), 127) := zs_arr (hc.symm.trans c9) hy9
  obtain ⟨u1, u2, u3⟩ := id hu
  have fr0 : ∀ p9 : Nat, p9 ∉ [tx, dt] → s.heap[p9]? = s.heap[p9]? := fun _ _ => rfl
  refine lv_aload_n hx hb (eX1_scanWeek (0, .aload_n 0, 1) (List.mem_of_getElem? (i := 0) rfl)) rfl (lv_at hl 0 rfl) ?_
  refine lv_aload_n hx hb (eX1_scanWeek (1, .aload_n 1, 1) (List.mem_of_getElem? (i := 1) rfl)) rfl (lv_at hl 1 rfl) ?_
  refine tz_get (r := 0) (k := 2) (t := (0, (-2147483648), 2147483647)) hx hb hh htx rfl rfl (hcl0 79 2 (0, (-2147483648), 2147483647) (by decide) rfl).1 f2 (eX1_scanWeek (2, .getfield 79, 3) (List.mem_of_getElem? (i := 2) rfl)) ?_
  refine tz_put (r := 1) (k := 6) (t := (0, (-2147483648), 2147483647)) hx hb hD hh hdt rfl rfl ((hcl1 31 6 (0, (-2147483648), 2147483647) (by decide) rfl).2 (by decide)) (tz_i (zn_i32 _).1 (zn_i32 _).2) (eX1_scanWeek (5, .putfield 31, 3) (List.mem_of_getElem? (i := 3) rfl)) (fun H1 lo1 hh1 hf1 hk1 _ hq1 => ?_)
  have mf1_tx_0 := (hk1.1 tx 0 0 0 0 fsX0 htx rfl (by decide) (by decide)).trans f0
  have mf1_tx_1 := (hk1.1 tx 0 1 0 0 fsX0 htx rfl (by decide) (by decide)).trans f1
  have mf1_tx_2 := (hk1.1 tx 0 2 0 0 fsX0 htx rfl (by decide) (by decide)).trans f2
  have mf1_tx_3 := (hk1.1 tx 0 3 0 0 fsX0 htx rfl (by decide) (by decide)).trans f3
  have mf1_tx_4 := (hk1.1 tx 0 4 0 0 fsX0 htx rfl (by decide) (by decide)).trans f4
  have mc1_tb := (hk1.2 tb 12 0 2 120 _ r0 rfl (by decide)).trans hc
  have kp1 := kp0.trans (hk1.mono (ms' := dtM) (fun x hx => by cases List.mem_singleton.mp hx; decide))
  have jm1 := (hJ).kept htx hk1 (by decide)
  have fr1 : ∀ p9 : Nat, p9 ∉ [tx, dt] → H1[p9]? = s.heap[p9]? := fun p9 h9 => (hq1 p9 (fun e9 => h9 (by rw [e9]; exact (List.mem_cons_of_mem _ List.mem_cons_self)))).trans (fr0 p9 h9)
  have jd1 := jF.put hdt rfl (by decide) hk1 hf1 (show av.toInt = (sg).1 by omega) jd0
  refine lv_aload_n hx hb (eX1_scanWeek (8, .aload_n 0, 1) (List.mem_of_getElem? (i := 4) rfl)) rfl (lv_at hl 0 rfl) ?_
  refine lv_aload_n hx hb (eX1_scanWeek (9, .aload_n 1, 1) (List.mem_of_getElem? (i := 5) rfl)) rfl (lv_at hl 1 rfl) ?_
  refine ff_iconst hx hb (eX1_scanWeek (10, .iconst 2, 1) (List.mem_of_getElem? (i := 6) rfl)) (by decide) (by decide) (fun v2 e2 => ?_)
  refine ff_iconst hx hb (eX1_scanWeek (11, .iconst 2, 1) (List.mem_of_getElem? (i := 7) rfl)) (by decide) (by decide) (fun v3 e3 => ?_)
  refine tz_rowV (As := [.int v2, .int v3]) (st := [.ref dt]) (b := tx) (C := RX0) (Ts := gT) hx hb hml hown h2 (fun _ h => h) (hX0_numberW l D cA ro sz H0 tx v2 v3 2 2 T (sg) htx (by omega) (by omega) (by decide)) ⟨rfl, rfl⟩ ⟨by decide, by decide⟩ ⟨by decide, by decide⟩ (tb_4 60 rfl rfl) (tb_1 5 rfl rfl) (tb_4 227 rfl rfl) (tb_4 58 rfl rfl) (tb_4 59 rfl rfl) (show yX0_number.cls ≠ "java/lang/invoke/MethodHandle" ∧ yX0_number.cls ≠ "java/lang/invoke/VarHandle" ∧ (parseMethodDescriptor yX0_number.desc).map (fun d => d.parameters.length) = some 2 by decide +kernel) zs_blind (zs_ob hh1 htx (show RTg[0]? = some (0, 0, 0, fsX0) from rfl) (zCX0 hKn.1)) (fun U hU hW => ⟨rfl, by rw [hU]; exact hh1.l0, zKb s U hW.alike hKn, by rw [hU]; exact jm1⟩) hh1.2.2.1 hl.1 (Nat.le_of_ble_eq_true rfl) (eX1_scanWeek (12, .invokevirtual 71, 3) (List.mem_of_getElem? (i := 8) rfl)) (fun r4 s4 t4 lo4 g4 f4 l4 => ?_)
  obtain ⟨v4, q4, e4, z4, c4, j4, fx4⟩ := f4
  cases q4
  rw [g4] at c4 fx4
  have fr4 : ∀ p9 : Nat, p9 ∉ [tx, dt] → t4.heap[p9]? = s.heap[p9]? := fun p9 h9 => (fx4 p9 (fun q => h9 (by rw [List.mem_singleton.mp q]; exact List.mem_cons_self))).trans (fr1 p9 h9)
  have hh4 : zh_ok D cA RTg ro sz H0 t4.heap lo4 := ⟨z4.1, z4.2.1, l4, z4.2.2.2⟩
  have kp4 := kp1.trans (c4.mono (ms' := dtM) (by decide))
  have kf4 := nbF_hM (T := T) (ld := 2) (n := 2) (s := sg) (M := 99) (by decide)
  generalize hx4 : nbF T 2 2 0 0 sg = x4 at j4 e4 kf4
  have uu4 := j4.2.2
  unfold uOK at uu4
  have mf4_tx_0 := (c4.1 tx 0 0 0 0 fsX0 htx rfl (by decide) (by decide)).trans mf1_tx_0
  have mf4_tx_1 := (c4.1 tx 0 1 0 0 fsX0 htx rfl (by decide) (by decide)).trans mf1_tx_1
  have mf4_dt_6 := (c4.1 dt 1 6 1 0 fsX1 hdt rfl (by decide) (by decide)).trans hf1
  have jd4 := jd1.kept hdt rfl (by decide) c4 (by decide)
  refine W.eq (g2 := F0 m 15 ls [.int v4, .ref dt]) rfl ?_
  refine tz_put (r := 1) (k := 7) (t := (0, (-2147483648), 2147483647)) hx hb hD hh4 hdt rfl rfl ((hcl1 34 7 (0, (-2147483648), 2147483647) (by decide) rfl).2 (by decide)) (tz_i (zn_i32 _).1 (zn_i32 _).2) (eX1_scanWeek (15, .putfield 34, 3) (List.mem_of_getElem? (i := 9) rfl)) (fun H5 lo5 hh5 hf5 hk5 _ hq5 => ?_)
  have mf5_tx_0 := (hk5.1 tx 0 0 0 0 fsX0 htx rfl (by decide) (by decide)).trans mf4_tx_0
  have mf5_tx_1 := (hk5.1 tx 0 1 0 0 fsX0 htx rfl (by decide) (by decide)).trans mf4_tx_1
  have mf5_dt_6 := (hk5.1 dt 1 6 1 0 fsX1 hdt rfl (by decide) (by decide)).trans mf4_dt_6
  have kp5 := kp4.trans (hk5.mono (ms' := dtM) (fun x hx => by cases List.mem_singleton.mp hx; decide))
  have jm5 := (j4).kept htx hk5 (by decide)
  have fr5 : ∀ p9 : Nat, p9 ∉ [tx, dt] → H5[p9]? = s.heap[p9]? := fun p9 h9 => (hq5 p9 (fun e9 => h9 (by rw [e9]; exact (List.mem_cons_of_mem _ List.mem_cons_self)))).trans (fr4 p9 h9)
  have jd5 := jF.put hdt rfl (by decide) hk5 hf5 (show v4.toInt = x4.1 by omega) jd4
  refine lv_aload_n hx hb (eX1_scanWeek (18, .aload_n 0, 1) (List.mem_of_getElem? (i := 10) rfl)) rfl (lv_at hl 0 rfl) ?_
  obtain ⟨v6, fa6, e6⟩ := jd5 1 (by decide)
  have e6 : v6.toInt = f 1 := e6
  refine tz_get (r := 1) (k := 1) (t := (0, 0, 1)) hx hb hh5 hdt rfl rfl (hcl1 15 1 (0, 0, 1) (by decide) rfl).1 fa6 (eX1_scanWeek (19, .getfield 15, 3) (List.mem_of_getElem? (i := 11) rfl)) ?_
  refine ff_if_eq hx hb (eX1_scanWeek (22, .ifCond .eq 15, 3) (List.mem_of_getElem? (i := 12) rfl)) (tgt := 37) rfl (fun c7 => ?_) (fun c7 => ?_)
  · have d8 : ¬ f 1 = 1 := by omega
    refine lv_aload_n hx hb (eX1_scanWeek (37, .aload_n 1, 1) (List.mem_of_getElem? (i := 18) rfl)) rfl (lv_at hl 1 rfl) ?_
    refine tz_rowV (As := []) (st := []) (b := tx) (C := RX0) (Ts := gT) hx hb hml hown h2 (fun _ h => h) (hX0_atDigit l D cA ro sz H0 tx T (x4.2) htx) ⟨rfl, rfl⟩ ⟨by decide, by decide⟩ ⟨by decide, by decide⟩ (tb_4 24 rfl rfl) (tb_1 5 rfl rfl) (tb_5 114 rfl rfl) (tb_4 22 rfl rfl) (tb_4 23 rfl rfl) (show yX0_atDigit.cls ≠ "java/lang/invoke/MethodHandle" ∧ yX0_atDigit.cls ≠ "java/lang/invoke/VarHandle" ∧ (parseMethodDescriptor yX0_atDigit.desc).map (fun d => d.parameters.length) = some 0 by decide +kernel) zs_blind (zs_ob hh5 htx (show RTg[0]? = some (0, 0, 0, fsX0) from rfl) (zCX0 hKn.1)) (fun U hU hW => ⟨rfl, by rw [hU]; exact hh5.l0, zKb s U hW.alike hKn, by rw [hU]; exact jm5⟩) hh5.2.2.1 hl.1 (Nat.le_of_ble_eq_true rfl) (eX1_scanWeek (38, .invokevirtual 60, 3) (List.mem_of_getElem? (i := 19) rfl)) (fun r9 s9 t9 lo9 g9 f9 l9 => ?_)
    obtain ⟨z9, v9, q9, e9⟩ := f9
    cases q9
    rw [z9, g9]
    have hh9 : zh_ok D cA RTg ro sz H0 H5 lo9 := ⟨hh5.1, hh5.2.1, l9, hh5.2.2.2⟩
    refine W.eq (g2 := F0 m 41 ls [.int v9]) rfl ?_
    refine ff_if_eq hx hb (eX1_scanWeek (41, .ifCond .eq 29, 3) (List.mem_of_getElem? (i := 20) rfl)) (tgt := 70) rfl (fun c10 => ?_) (fun c10 => ?_)
    · have d11 : ¬ 0 ≤ dgF T x4.2 := by omega
      refine lv_aload_n hx hb (eX1_scanWeek (70, .aload_n 0, 1) (List.mem_of_getElem? (i := 35) rfl)) rfl (lv_at hl 0 rfl) ?_
      refine lv_aload_n hx hb (eX1_scanWeek (71, .aload_n 1, 1) (List.mem_of_getElem? (i := 36) rfl)) rfl (lv_at hl 1 rfl) ?_
      refine ff_iconst hx hb (eX1_scanWeek (72, .iconst 5, 1) (List.mem_of_getElem? (i := 37) rfl)) (by decide) (by decide) (fun v12 e12 => ?_)
      refine lv_iload_n hx hb (eX1_scanWeek (73, .iload_n 2, 1) (List.mem_of_getElem? (i := 38) rfl)) rfl (lv_at hl 2 rfl) ?_
      refine tz_rowV (As := [.ref tx, .int v12, .int wq]) (st := []) (b := dt) (C := RX1) (Ts := gT) hx hb hml hown h2 (fun _ h => h) (hX1_endShort l D cA ro sz H0 dt tx v12 wq 5 wh T (x4.2) ((upF (upF f 6 ((sg).1)) 7 (x4.1))) hdt htx (by omega) hwh hwb) ⟨rfl, rfl⟩ ⟨by decide, by decide⟩ ⟨by decide, by decide⟩ (tb_5 118 rfl rfl) (tb_1 8 rfl rfl) (tb_5 115 rfl rfl) (tb_5 116 rfl rfl) (tb_5 117 rfl rfl) (show yX1_endShort.cls ≠ "java/lang/invoke/MethodHandle" ∧ yX1_endShort.cls ≠ "java/lang/invoke/VarHandle" ∧ (parseMethodDescriptor yX1_endShort.desc).map (fun d => d.parameters.length) = some 3 by decide +kernel) zs_blind (zs_ob hh9 hdt (show RTg[1]? = some (0, 1, 0, fsX1) from rfl) (zCX1 hKn.1)) (fun U hU hW => ⟨rfl, by rw [hU]; exact hh9.l0, zKb s U hW.alike hKn, by rw [hU]; exact ⟨jm5, jd5⟩⟩) hh9.2.2.1 hl.1 (Nat.le_of_ble_eq_true rfl) (eX1_scanWeek (74, .invokevirtual 67, 3) (List.mem_of_getElem? (i := 39) rfl)) (fun r13 s13 t13 lo13 g13 f13 l13 => ?_)
      obtain ⟨q13, z13, c13, j13, jd13, fx13⟩ := f13
      cases q13
      rw [g13] at c13 fx13
      have fr13 : ∀ p9 : Nat, p9 ∉ [tx, dt] → t13.heap[p9]? = s.heap[p9]? := fun p9 h9 => (fx13 p9 (fun q => h9 (by rcases List.mem_cons.mp q with q | q; (rw [q]; exact List.mem_cons_self); (rw [List.mem_singleton.mp q]; exact (List.mem_cons_of_mem _ List.mem_cons_self))))).trans (fr5 p9 h9)
      have hh13 : zh_ok D cA RTg ro sz H0 t13.heap lo13 := ⟨z13.1, z13.2.1, l13, z13.2.2.2⟩
      have kp13 := kp5.trans (c13.mono (ms' := dtM) (by decide))
      generalize hx13 : enF 5 wh ((upF (upF f 6 ((sg).1)) 7 (x4.1)), x4.2) = x13 at j13 jd13
      have uu13 := j13.2.2
      unfold uOK at uu13
      refine W.eq (g2 := F0 m 77 ls []) rfl ?_
      have hfin : wkF T wh (f, sg) = (x13.1, x13.2) := by first | (simp only [wkF, nmF, laF, hx4, hx13, if_neg d8, if_neg d11, up_eq]; done) | (simp only [wkF, nmF, laF, hx4, hx13, if_neg d8, if_neg d11, up_eq] <;> rfl) | rfl
      exact W.vret hx hb hr (fun t ht hW => ⟨rfl, by rw [ht]; exact hh13.l0, by rw [ht]; exact kp13, by rw [ht, hfin]; exact j13, by rw [ht, hfin]; exact jd13, by rw [ht]; exact fr13⟩) hh13.2.2.1 (eX1_scanWeek (77, .return_, 1) (List.mem_of_getElem? (i := 40) rfl))
    · have d14 : 0 ≤ dgF T x4.2 := by omega
      refine lv_aload_n hx hb (eX1_scanWeek (44, .aload_n 0, 1) (List.mem_of_getElem? (i := 21) rfl)) rfl (lv_at hl 0 rfl) ?_
      refine ff_iconst hx hb (eX1_scanWeek (45, .iconst 1, 1) (List.mem_of_getElem? (i := 22) rfl)) (by decide) (by decide) (fun v15 e15 => ?_)
      refine tz_put (r := 1) (k := 0) (t := (0, (-2147483648), 2147483647)) hx hb hD hh9 hdt rfl rfl ((hcl1 9 0 (0, (-2147483648), 2147483647) (by decide) rfl).2 (by decide)) (tz_i (zn_i32 _).1 (zn_i32 _).2) (eX1_scanWeek (46, .putfield 9, 3) (List.mem_of_getElem? (i := 23) rfl)) (fun H16 lo16 hh16 hf16 hk16 _ hq16 => ?_)
      have mf16_tx_0 := (hk16.1 tx 0 0 0 0 fsX0 htx rfl (by decide) (by decide)).trans mf5_tx_0
      have mf16_tx_1 := (hk16.1 tx 0 1 0 0 fsX0 htx rfl (by decide) (by decide)).trans mf5_tx_1
      have mf16_dt_6 := (hk16.1 dt 1 6 1 0 fsX1 hdt rfl (by decide) (by decide)).trans mf5_dt_6
      have mf16_dt_7 := (hk16.1 dt 1 7 1 0 fsX1 hdt rfl (by decide) (by decide)).trans hf5
      have mf16_dt_1 := (hk16.1 dt 1 1 1 0 fsX1 hdt rfl (by decide) (by decide)).trans fa6
      have kp16 := kp5.trans (hk16.mono (ms' := dtM) (fun x hx => by cases List.mem_singleton.mp hx; decide))
      have jm16 := (jm5).kept htx hk16 (by decide)
      have fr16 : ∀ p9 : Nat, p9 ∉ [tx, dt] → H16[p9]? = s.heap[p9]? := fun p9 h9 => (hq16 p9 (fun e9 => h9 (by rw [e9]; exact (List.mem_cons_of_mem _ List.mem_cons_self)))).trans (fr5 p9 h9)
      have jd16 := jF.put hdt rfl (by decide) hk16 hf16 (show v15.toInt = 1 by omega) jd5
      refine lv_aload_n hx hb (eX1_scanWeek (49, .aload_n 0, 1) (List.mem_of_getElem? (i := 24) rfl)) rfl (lv_at hl 0 rfl) ?_
      refine lv_aload_n hx hb (eX1_scanWeek (50, .aload_n 1, 1) (List.mem_of_getElem? (i := 25) rfl)) rfl (lv_at hl 1 rfl) ?_
      obtain ⟨jt17, ⟨av17, bv17, wv17, f217, f317, f417, hav17, hbv17, hwv17⟩, hu17⟩ := id jm16
      refine tz_get (r := 0) (k := 2) (t := (0, (-2147483648), 2147483647)) hx hb hh16 htx rfl rfl (hcl0 79 2 (0, (-2147483648), 2147483647) (by decide) rfl).1 f217 (eX1_scanWeek (51, .getfield 79, 3) (List.mem_of_getElem? (i := 26) rfl)) ?_
      refine tz_put (r := 1) (k := 8) (t := (0, (-2147483648), 2147483647)) hx hb hD hh16 hdt rfl rfl ((hcl1 37 8 (0, (-2147483648), 2147483647) (by decide) rfl).2 (by decide)) (tz_i (zn_i32 _).1 (zn_i32 _).2) (eX1_scanWeek (54, .putfield 37, 3) (List.mem_of_getElem? (i := 27) rfl)) (fun H18 lo18 hh18 hf18 hk18 _ hq18 => ?_)
      have mf18_tx_0 := (hk18.1 tx 0 0 0 0 fsX0 htx rfl (by decide) (by decide)).trans mf16_tx_0
      have mf18_tx_1 := (hk18.1 tx 0 1 0 0 fsX0 htx rfl (by decide) (by decide)).trans mf16_tx_1
      have mf18_dt_6 := (hk18.1 dt 1 6 1 0 fsX1 hdt rfl (by decide) (by decide)).trans mf16_dt_6
      have mf18_dt_7 := (hk18.1 dt 1 7 1 0 fsX1 hdt rfl (by decide) (by decide)).trans mf16_dt_7
      have mf18_dt_1 := (hk18.1 dt 1 1 1 0 fsX1 hdt rfl (by decide) (by decide)).trans mf16_dt_1
      have mf18_dt_0 := (hk18.1 dt 1 0 1 0 fsX1 hdt rfl (by decide) (by decide)).trans hf16
      have mf18_tx_2 := (hk18.1 tx 0 2 0 0 fsX0 htx rfl (by decide) (by decide)).trans f217
      have mf18_tx_3 := (hk18.1 tx 0 3 0 0 fsX0 htx rfl (by decide) (by decide)).trans f317
      have mf18_tx_4 := (hk18.1 tx 0 4 0 0 fsX0 htx rfl (by decide) (by decide)).trans f417
      have kp18 := kp16.trans (hk18.mono (ms' := dtM) (fun x hx => by cases List.mem_singleton.mp hx; decide))
      have jm18 := (jm16).kept htx hk18 (by decide)
      have fr18 : ∀ p9 : Nat, p9 ∉ [tx, dt] → H18[p9]? = s.heap[p9]? := fun p9 h9 => (hq18 p9 (fun e9 => h9 (by rw [e9]; exact (List.mem_cons_of_mem _ List.mem_cons_self)))).trans (fr16 p9 h9)
      have jd18 := jF.put hdt rfl (by decide) hk18 hf18 (show av17.toInt = (x4.2).1 by omega) jd16
      refine lv_aload_n hx hb (eX1_scanWeek (57, .aload_n 0, 1) (List.mem_of_getElem? (i := 28) rfl)) rfl (lv_at hl 0 rfl) ?_
      refine lv_aload_n hx hb (eX1_scanWeek (58, .aload_n 1, 1) (List.mem_of_getElem? (i := 29) rfl)) rfl (lv_at hl 1 rfl) ?_
      refine ff_iconst hx hb (eX1_scanWeek (59, .iconst 1, 1) (List.mem_of_getElem? (i := 30) rfl)) (by decide) (by decide) (fun v19 e19 => ?_)
      refine ff_iconst hx hb (eX1_scanWeek (60, .iconst 1, 1) (List.mem_of_getElem? (i := 31) rfl)) (by decide) (by decide) (fun v20 e20 => ?_)
      refine tz_rowV (As := [.int v19, .int v20]) (st := [.ref dt]) (b := tx) (C := RX0) (Ts := gT) hx hb hml hown h2 (fun _ h => h) (hX0_numberW l D cA ro sz H0 tx v19 v20 1 1 T (x4.2) htx (by omega) (by omega) (by decide)) ⟨rfl, rfl⟩ ⟨by decide, by decide⟩ ⟨by decide, by decide⟩ (tb_4 60 rfl rfl) (tb_1 5 rfl rfl) (tb_4 227 rfl rfl) (tb_4 58 rfl rfl) (tb_4 59 rfl rfl) (show yX0_number.cls ≠ "java/lang/invoke/MethodHandle" ∧ yX0_number.cls ≠ "java/lang/invoke/VarHandle" ∧ (parseMethodDescriptor yX0_number.desc).map (fun d => d.parameters.length) = some 2 by decide +kernel) zs_blind (zs_ob hh18 htx (show RTg[0]? = some (0, 0, 0, fsX0) from rfl) (zCX0 hKn.1)) (fun U hU hW => ⟨rfl, by rw [hU]; exact hh18.l0, zKb s U hW.alike hKn, by rw [hU]; exact jm18⟩) hh18.2.2.1 hl.1 (Nat.le_of_ble_eq_true rfl) (eX1_scanWeek (61, .invokevirtual 71, 3) (List.mem_of_getElem? (i := 32) rfl)) (fun r21 s21 t21 lo21 g21 f21 l21 => ?_)
      obtain ⟨v21, q21, e21, z21, c21, j21, fx21⟩ := f21
      cases q21
      rw [g21] at c21 fx21
      have fr21 : ∀ p9 : Nat, p9 ∉ [tx, dt] → t21.heap[p9]? = s.heap[p9]? := fun p9 h9 => (fx21 p9 (fun q => h9 (by rw [List.mem_singleton.mp q]; exact List.mem_cons_self))).trans (fr18 p9 h9)
      have hh21 : zh_ok D cA RTg ro sz H0 t21.heap lo21 := ⟨z21.1, z21.2.1, l21, z21.2.2.2⟩
      have kp21 := kp18.trans (c21.mono (ms' := dtM) (by decide))
      have kf21 := nbF_hM (T := T) (ld := 1) (n := 1) (s := x4.2) (M := 9) (by decide)
      generalize hx21 : nbF T 1 1 0 0 x4.2 = x21 at j21 e21 kf21
      have uu21 := j21.2.2
      unfold uOK at uu21
      have mf21_tx_0 := (c21.1 tx 0 0 0 0 fsX0 htx rfl (by decide) (by decide)).trans mf18_tx_0
      have mf21_tx_1 := (c21.1 tx 0 1 0 0 fsX0 htx rfl (by decide) (by decide)).trans mf18_tx_1
      have mf21_dt_6 := (c21.1 dt 1 6 1 0 fsX1 hdt rfl (by decide) (by decide)).trans mf18_dt_6
      have mf21_dt_7 := (c21.1 dt 1 7 1 0 fsX1 hdt rfl (by decide) (by decide)).trans mf18_dt_7
      have mf21_dt_1 := (c21.1 dt 1 1 1 0 fsX1 hdt rfl (by decide) (by decide)).trans mf18_dt_1
      have mf21_dt_0 := (c21.1 dt 1 0 1 0 fsX1 hdt rfl (by decide) (by decide)).trans mf18_dt_0
      have mf21_dt_8 := (c21.1 dt 1 8 1 0 fsX1 hdt rfl (by decide) (by decide)).trans hf18
      have jd21 := jd18.kept hdt rfl (by decide) c21 (by decide)
      refine W.eq (g2 := F0 m 64 ls [.int v21, .ref dt]) rfl ?_
      refine tz_put (r := 1) (k := 9) (t := (0, (-2147483648), 2147483647)) hx hb hD hh21 hdt rfl rfl ((hcl1 40 9 (0, (-2147483648), 2147483647) (by decide) rfl).2 (by decide)) (tz_i (zn_i32 _).1 (zn_i32 _).2) (eX1_scanWeek (64, .putfield 40, 3) (List.mem_of_getElem? (i := 33) rfl)) (fun H22 lo22 hh22 hf22 hk22 _ hq22 => ?_)
      have mf22_tx_0 := (hk22.1 tx 0 0 0 0 fsX0 htx rfl (by decide) (by decide)).trans mf21_tx_0
      have mf22_tx_1 := (hk22.1 tx 0 1 0 0 fsX0 htx rfl (by decide) (by decide)).trans mf21_tx_1
      have mf22_dt_6 := (hk22.1 dt 1 6 1 0 fsX1 hdt rfl (by decide) (by decide)).trans mf21_dt_6
      have mf22_dt_7 := (hk22.1 dt 1 7 1 0 fsX1 hdt rfl (by decide) (by decide)).trans mf21_dt_7
      have mf22_dt_1 := (hk22.1 dt 1 1 1 0 fsX1 hdt rfl (by decide) (by decide)).trans mf21_dt_1
      have mf22_dt_0 := (hk22.1 dt 1 0 1 0 fsX1 hdt rfl (by decide) (by decide)).trans mf21_dt_0
      have mf22_dt_8 := (hk22.1 dt 1 8 1 0 fsX1 hdt rfl (by decide) (by decide)).trans mf21_dt_8
      have kp22 := kp21.trans (hk22.mono (ms' := dtM) (fun x hx => by cases List.mem_singleton.mp hx; decide))
      have jm22 := (j21).kept htx hk22 (by decide)
      have fr22 : ∀ p9 : Nat, p9 ∉ [tx, dt] → H22[p9]? = s.heap[p9]? := fun p9 h9 => (hq22 p9 (fun e9 => h9 (by rw [e9]; exact (List.mem_cons_of_mem _ List.mem_cons_self)))).trans (fr21 p9 h9)
      have jd22 := jF.put hdt rfl (by decide) hk22 hf22 (show v21.toInt = x21.1 by omega) jd21
      refine lv_goto hx hb (eX1_scanWeek (67, .goto 10, 3) (List.mem_of_getElem? (i := 34) rfl)) (tgt := 77) rfl ?_
      have hfin : wkF T wh (f, sg) = ((upF (upF (upF (upF (upF f 6 ((sg).1)) 7 (x4.1)) 0 (1)) 8 ((x4.2).1)) 9 (x21.1)), x21.2) := by first | (simp only [wkF, nmF, laF, hx4, hx21, if_neg d8, if_pos d14, up_eq]; done) | (simp only [wkF, nmF, laF, hx4, hx21, if_neg d8, if_pos d14, up_eq] <;> rfl) | rfl
      exact W.vret hx hb hr (fun t ht hW => ⟨rfl, by rw [ht]; exact hh22.l0, by rw [ht]; exact kp22, by rw [ht, hfin]; exact jm22, by rw [ht, hfin]; exact jd22, by rw [ht]; exact fr22⟩) hh22.2.2.1 (eX1_scanWeek (77, .return_, 1) (List.mem_of_getElem? (i := 40) rfl))
  · have d23 : f 1 = 1 := by omega
    refine lv_aload_n hx hb (eX1_scanWeek (25, .aload_n 1, 1) (List.mem_of_getElem? (i := 13) rfl)) rfl (lv_at hl 1 rfl) ?_
    refine ff_bipush hx hb (eX1_scanWeek (26, .bipush 45, 2) (List.mem_of_getElem? (i := 14) rfl)) (by decide) (by decide) (fun v24 e24 => ?_)
    refine tz_rowV (As := [.int v24]) (st := []) (b := tx) (C := RX0) (Ts := gT) hx hb hml hown h2 (fun _ h => h) (hX0_take l D cA ro sz H0 tx v24 45 T (x4.2) htx (by omega) (by decide)) ⟨rfl, rfl⟩ ⟨by decide, by decide⟩ ⟨by decide, by decide⟩ (tb_4 8 rfl rfl) (tb_1 5 rfl rfl) (tb_5 109 rfl rfl) (tb_4 6 rfl rfl) (tb_4 7 rfl rfl) (show yX0_take.cls ≠ "java/lang/invoke/MethodHandle" ∧ yX0_take.cls ≠ "java/lang/invoke/VarHandle" ∧ (parseMethodDescriptor yX0_take.desc).map (fun d => d.parameters.length) = some 1 by decide +kernel) zs_blind (zs_ob hh5 htx (show RTg[0]? = some (0, 0, 0, fsX0) from rfl) (zCX0 hKn.1)) (fun U hU hW => ⟨rfl, by rw [hU]; exact hh5.l0, zKb s U hW.alike hKn, by rw [hU]; exact jm5⟩) hh5.2.2.1 hl.1 (Nat.le_of_ble_eq_true rfl) (eX1_scanWeek (28, .invokevirtual 47, 3) (List.mem_of_getElem? (i := 15) rfl)) (fun r25 s25 t25 lo25 g25 f25 l25 => ?_)
    obtain ⟨v25, q25, e25, z25, c25, j25, fx25⟩ := f25
    cases q25
    rw [g25] at c25 fx25
    have fr25 : ∀ p9 : Nat, p9 ∉ [tx, dt] → t25.heap[p9]? = s.heap[p9]? := fun p9 h9 => (fx25 p9 (fun q => h9 (by rw [List.mem_singleton.mp q]; exact List.mem_cons_self))).trans (fr5 p9 h9)
    have hh25 : zh_ok D cA RTg ro sz H0 t25.heap lo25 := ⟨z25.1, z25.2.1, l25, z25.2.2.2⟩
    have kp25 := kp5.trans (c25.mono (ms' := dtM) (by decide))
    have kf25 := tkF_01 T 45 x4.2
    generalize hx25 : tkF T 45 x4.2 = x25 at j25 e25 kf25
    have uu25 := j25.2.2
    unfold uOK at uu25
    have mf25_tx_0 := (c25.1 tx 0 0 0 0 fsX0 htx rfl (by decide) (by decide)).trans mf5_tx_0
    have mf25_tx_1 := (c25.1 tx 0 1 0 0 fsX0 htx rfl (by decide) (by decide)).trans mf5_tx_1
    have mf25_dt_6 := (c25.1 dt 1 6 1 0 fsX1 hdt rfl (by decide) (by decide)).trans mf5_dt_6
    have mf25_dt_7 := (c25.1 dt 1 7 1 0 fsX1 hdt rfl (by decide) (by decide)).trans hf5
    have mf25_dt_1 := (c25.1 dt 1 1 1 0 fsX1 hdt rfl (by decide) (by decide)).trans fa6
    have jd25 := jd5.kept hdt rfl (by decide) c25 (by decide)
    refine W.eq (g2 := F0 m 31 ls [.int v25]) rfl ?_
    refine ff_if_eq hx hb (eX1_scanWeek (31, .ifCond .eq 39, 3) (List.mem_of_getElem? (i := 16) rfl)) (tgt := 70) rfl (fun c26 => ?_) (fun c26 => ?_)
    · skip
      have d25 : ¬ x25.1 = 1 := by omega
      refine lv_aload_n hx hb (eX1_scanWeek (70, .aload_n 0, 1) (List.mem_of_getElem? (i := 35) rfl)) rfl (lv_at hl 0 rfl) ?_
      refine lv_aload_n hx hb (eX1_scanWeek (71, .aload_n 1, 1) (List.mem_of_getElem? (i := 36) rfl)) rfl (lv_at hl 1 rfl) ?_
      refine ff_iconst hx hb (eX1_scanWeek (72, .iconst 5, 1) (List.mem_of_getElem? (i := 37) rfl)) (by decide) (by decide) (fun v27 e27 => ?_)
      refine lv_iload_n hx hb (eX1_scanWeek (73, .iload_n 2, 1) (List.mem_of_getElem? (i := 38) rfl)) rfl (lv_at hl 2 rfl) ?_
      refine tz_rowV (As := [.ref tx, .int v27, .int wq]) (st := []) (b := dt) (C := RX1) (Ts := gT) hx hb hml hown h2 (fun _ h => h) (hX1_endShort l D cA ro sz H0 dt tx v27 wq 5 wh T (x25.2) ((upF (upF f 6 ((sg).1)) 7 (x4.1))) hdt htx (by omega) hwh hwb) ⟨rfl, rfl⟩ ⟨by decide, by decide⟩ ⟨by decide, by decide⟩ (tb_5 118 rfl rfl) (tb_1 8 rfl rfl) (tb_5 115 rfl rfl) (tb_5 116 rfl rfl) (tb_5 117 rfl rfl) (show yX1_endShort.cls ≠ "java/lang/invoke/MethodHandle" ∧ yX1_endShort.cls ≠ "java/lang/invoke/VarHandle" ∧ (parseMethodDescriptor yX1_endShort.desc).map (fun d => d.parameters.length) = some 3 by decide +kernel) zs_blind (zs_ob hh25 hdt (show RTg[1]? = some (0, 1, 0, fsX1) from rfl) (zCX1 hKn.1)) (fun U hU hW => ⟨rfl, by rw [hU]; exact hh25.l0, zKb s U hW.alike hKn, by rw [hU]; exact ⟨j25, jd25⟩⟩) hh25.2.2.1 hl.1 (Nat.le_of_ble_eq_true rfl) (eX1_scanWeek (74, .invokevirtual 67, 3) (List.mem_of_getElem? (i := 39) rfl)) (fun r28 s28 t28 lo28 g28 f28 l28 => ?_)
      obtain ⟨q28, z28, c28, j28, jd28, fx28⟩ := f28
      cases q28
      rw [g28] at c28 fx28
      have fr28 : ∀ p9 : Nat, p9 ∉ [tx, dt] → t28.heap[p9]? = s.heap[p9]? := fun p9 h9 => (fx28 p9 (fun q => h9 (by rcases List.mem_cons.mp q with q | q; (rw [q]; exact List.mem_cons_self); (rw [List.mem_singleton.mp q]; exact (List.mem_cons_of_mem _ List.mem_cons_self))))).trans (fr25 p9 h9)
      have hh28 : zh_ok D cA RTg ro sz H0 t28.heap lo28 := ⟨z28.1, z28.2.1, l28, z28.2.2.2⟩
      have kp28 := kp25.trans (c28.mono (ms' := dtM) (by decide))
      generalize hx28 : enF 5 wh ((upF (upF f 6 ((sg).1)) 7 (x4.1)), x25.2) = x28 at j28 jd28
      have uu28 := j28.2.2
      unfold uOK at uu28
      refine W.eq (g2 := F0 m 77 ls []) rfl ?_
      have hfin : wkF T wh (f, sg) = (x28.1, x28.2) := by first | (simp only [wkF, nmF, laF, hx4, hx25, hx28, if_pos d23, if_neg d25, up_eq]; done) | (simp only [wkF, nmF, laF, hx4, hx25, hx28, if_pos d23, if_neg d25, up_eq] <;> rfl) | rfl
      exact W.vret hx hb hr (fun t ht hW => ⟨rfl, by rw [ht]; exact hh28.l0, by rw [ht]; exact kp28, by rw [ht, hfin]; exact j28, by rw [ht, hfin]; exact jd28, by rw [ht]; exact fr28⟩) hh28.2.2.1 (eX1_scanWeek (77, .return_, 1) (List.mem_of_getElem? (i := 40) rfl))
    · skip
      have d25 : x25.1 = 1 := by omega
      refine lv_goto hx hb (eX1_scanWeek (34, .goto 10, 3) (List.mem_of_getElem? (i := 17) rfl)) (tgt := 44) rfl ?_
      refine lv_aload_n hx hb (eX1_scanWeek (44, .aload_n 0, 1) (List.mem_of_getElem? (i := 21) rfl)) rfl (lv_at hl 0 rfl) ?_
      refine ff_iconst hx hb (eX1_scanWeek (45, .iconst 1, 1) (List.mem_of_getElem? (i := 22) rfl)) (by decide) (by decide) (fun v29 e29 => ?_)
      refine tz_put (r := 1) (k := 0) (t := (0, (-2147483648), 2147483647)) hx hb hD hh25 hdt rfl rfl ((hcl1 9 0 (0, (-2147483648), 2147483647) (by decide) rfl).2 (by decide)) (tz_i (zn_i32 _).1 (zn_i32 _).2) (eX1_scanWeek (46, .putfield 9, 3) (List.mem_of_getElem? (i := 23) rfl)) (fun H30 lo30 hh30 hf30 hk30 _ hq30 => ?_)
      have mf30_tx_0 := (hk30.1 tx 0 0 0 0 fsX0 htx rfl (by decide) (by decide)).trans mf25_tx_0
      have mf30_tx_1 := (hk30.1 tx 0 1 0 0 fsX0 htx rfl (by decide) (by decide)).trans mf25_tx_1
      have mf30_dt_6 := (hk30.1 dt 1 6 1 0 fsX1 hdt rfl (by decide) (by decide)).trans mf25_dt_6
      have mf30_dt_7 := (hk30.1 dt 1 7 1 0 fsX1 hdt rfl (by decide) (by decide)).trans mf25_dt_7
      have mf30_dt_1 := (hk30.1 dt 1 1 1 0 fsX1 hdt rfl (by decide) (by decide)).trans mf25_dt_1
      have kp30 := kp25.trans (hk30.mono (ms' := dtM) (fun x hx => by cases List.mem_singleton.mp hx; decide))
      have jm30 := (j25).kept htx hk30 (by decide)
      have fr30 : ∀ p9 : Nat, p9 ∉ [tx, dt] → H30[p9]? = s.heap[p9]? := fun p9 h9 => (hq30 p9 (fun e9 => h9 (by rw [e9]; exact (List.mem_cons_of_mem _ List.mem_cons_self)))).trans (fr25 p9 h9)
      have jd30 := jF.put hdt rfl (by decide) hk30 hf30 (show v29.toInt = 1 by omega) jd25
      refine lv_aload_n hx hb (eX1_scanWeek (49, .aload_n 0, 1) (List.mem_of_getElem? (i := 24) rfl)) rfl (lv_at hl 0 rfl) ?_
      refine lv_aload_n hx hb (eX1_scanWeek (50, .aload_n 1, 1) (List.mem_of_getElem? (i := 25) rfl)) rfl (lv_at hl 1 rfl) ?_
      obtain ⟨jt31, ⟨av31, bv31, wv31, f231, f331, f431, hav31, hbv31, hwv31⟩, hu31⟩ := id jm30
      refine tz_get (r := 0) (k := 2) (t := (0, (-2147483648), 2147483647)) hx hb hh30 htx rfl rfl (hcl0 79 2 (0, (-2147483648), 2147483647) (by decide) rfl).1 f231 (eX1_scanWeek (51, .getfield 79, 3) (List.mem_of_getElem? (i := 26) rfl)) ?_
      refine tz_put (r := 1) (k := 8) (t := (0, (-2147483648), 2147483647)) hx hb hD hh30 hdt rfl rfl ((hcl1 37 8 (0, (-2147483648), 2147483647) (by decide) rfl).2 (by decide)) (tz_i (zn_i32 _).1 (zn_i32 _).2) (eX1_scanWeek (54, .putfield 37, 3) (List.mem_of_getElem? (i := 27) rfl)) (fun H32 lo32 hh32 hf32 hk32 _ hq32 => ?_)
      have mf32_tx_0 := (hk32.1 tx 0 0 0 0 fsX0 htx rfl (by decide) (by decide)).trans mf30_tx_0
      have mf32_tx_1 := (hk32.1 tx 0 1 0 0 fsX0 htx rfl (by decide) (by decide)).trans mf30_tx_1
      have mf32_dt_6 := (hk32.1 dt 1 6 1 0 fsX1 hdt rfl (by decide) (by decide)).trans mf30_dt_6
      have mf32_dt_7 := (hk32.1 dt 1 7 1 0 fsX1 hdt rfl (by decide) (by decide)).trans mf30_dt_7
      have mf32_dt_1 := (hk32.1 dt 1 1 1 0 fsX1 hdt rfl (by decide) (by decide)).trans mf30_dt_1
      have mf32_dt_0 := (hk32.1 dt 1 0 1 0 fsX1 hdt rfl (by decide) (by decide)).trans hf30
      have mf32_tx_2 := (hk32.1 tx 0 2 0 0 fsX0 htx rfl (by decide) (by decide)).trans f231
      have mf32_tx_3 := (hk32.1 tx 0 3 0 0 fsX0 htx rfl (by decide) (by decide)).trans f331
      have mf32_tx_4 := (hk32.1 tx 0 4 0 0 fsX0 htx rfl (by decide) (by decide)).trans f431
      have kp32 := kp30.trans (hk32.mono (ms' := dtM) (fun x hx => by cases List.mem_singleton.mp hx; decide))
      have jm32 := (jm30).kept htx hk32 (by decide)
      have fr32 : ∀ p9 : Nat, p9 ∉ [tx, dt] → H32[p9]? = s.heap[p9]? := fun p9 h9 => (hq32 p9 (fun e9 => h9 (by rw [e9]; exact (List.mem_cons_of_mem _ List.mem_cons_self)))).trans (fr30 p9 h9)
      have jd32 := jF.put hdt rfl (by decide) hk32 hf32 (show av31.toInt = (x25.2).1 by omega) jd30
      refine lv_aload_n hx hb (eX1_scanWeek (57, .aload_n 0, 1) (List.mem_of_getElem? (i := 28) rfl)) rfl (lv_at hl 0 rfl) ?_
      refine lv_aload_n hx hb (eX1_scanWeek (58, .aload_n 1, 1) (List.mem_of_getElem? (i := 29) rfl)) rfl (lv_at hl 1 rfl) ?_
      refine ff_iconst hx hb (eX1_scanWeek (59, .iconst 1, 1) (List.mem_of_getElem? (i := 30) rfl)) (by decide) (by decide) (fun v33 e33 => ?_)
      refine ff_iconst hx hb (eX1_scanWeek (60, .iconst 1, 1) (List.mem_of_getElem? (i := 31) rfl)) (by decide) (by decide) (fun v34 e34 => ?_)
      refine tz_rowV (As := [.int v33, .int v34]) (st := [.ref dt]) (b := tx) (C := RX0) (Ts := gT) hx hb hml hown h2 (fun _ h => h) (hX0_numberW l D cA ro sz H0 tx v33 v34 1 1 T (x25.2) htx (by omega) (by omega) (by decide)) ⟨rfl, rfl⟩ ⟨by decide, by decide⟩ ⟨by decide, by decide⟩ (tb_4 60 rfl rfl) (tb_1 5 rfl rfl) (tb_4 227 rfl rfl) (tb_4 58 rfl rfl) (tb_4 59 rfl rfl) (show yX0_number.cls ≠ "java/lang/invoke/MethodHandle" ∧ yX0_number.cls ≠ "java/lang/invoke/VarHandle" ∧ (parseMethodDescriptor yX0_number.desc).map (fun d => d.parameters.length) = some 2 by decide +kernel) zs_blind (zs_ob hh32 htx (show RTg[0]? = some (0, 0, 0, fsX0) from rfl) (zCX0 hKn.1)) (fun U hU hW => ⟨rfl, by rw [hU]; exact hh32.l0, zKb s U hW.alike hKn, by rw [hU]; exact jm32⟩) hh32.2.2.1 hl.1 (Nat.le_of_ble_eq_true rfl) (eX1_scanWeek (61, .invokevirtual 71, 3) (List.mem_of_getElem? (i := 32) rfl)) (fun r35 s35 t35 lo35 g35 f35 l35 => ?_)
      obtain ⟨v35, q35, e35, z35, c35, j35, fx35⟩ := f35
      cases q35
      rw [g35] at c35 fx35
      have fr35 : ∀ p9 : Nat, p9 ∉ [tx, dt] → t35.heap[p9]? = s.heap[p9]? := fun p9 h9 => (fx35 p9 (fun q => h9 (by rw [List.mem_singleton.mp q]; exact List.mem_cons_self))).trans (fr32 p9 h9)
      have hh35 : zh_ok D cA RTg ro sz H0 t35.heap lo35 := ⟨z35.1, z35.2.1, l35, z35.2.2.2⟩
      have kp35 := kp32.trans (c35.mono (ms' := dtM) (by decide))
      have kf35 := nbF_hM (T := T) (ld := 1) (n := 1) (s := x25.2) (M := 9) (by decide)
      generalize hx35 : nbF T 1 1 0 0 x25.2 = x35 at j35 e35 kf35
      have uu35 := j35.2.2
      unfold uOK at uu35
      have mf35_tx_0 := (c35.1 tx 0 0 0 0 fsX0 htx rfl (by decide) (by decide)).trans mf32_tx_0
      have mf35_tx_1 := (c35.1 tx 0 1 0 0 fsX0 htx rfl (by decide) (by decide)).trans mf32_tx_1
      have mf35_dt_6 := (c35.1 dt 1 6 1 0 fsX1 hdt rfl (by decide) (by decide)).trans mf32_dt_6
      have mf35_dt_7 := (c35.1 dt 1 7 1 0 fsX1 hdt rfl (by decide) (by decide)).trans mf32_dt_7
      have mf35_dt_1 := (c35.1 dt 1 1 1 0 fsX1 hdt rfl (by decide) (by decide)).trans mf32_dt_1
      have mf35_dt_0 := (c35.1 dt 1 0 1 0 fsX1 hdt rfl (by decide) (by decide)).trans mf32_dt_0
      have mf35_dt_8 := (c35.1 dt 1 8 1 0 fsX1 hdt rfl (by decide) (by decide)).trans hf32
      have jd35 := jd32.kept hdt rfl (by decide) c35 (by decide)
      refine W.eq (g2 := F0 m 64 ls [.int v35, .ref dt]) rfl ?_
      refine tz_put (r := 1) (k := 9) (t := (0, (-2147483648), 2147483647)) hx hb hD hh35 hdt rfl rfl ((hcl1 40 9 (0, (-2147483648), 2147483647) (by decide) rfl).2 (by decide)) (tz_i (zn_i32 _).1 (zn_i32 _).2) (eX1_scanWeek (64, .putfield 40, 3) (List.mem_of_getElem? (i := 33) rfl)) (fun H36 lo36 hh36 hf36 hk36 _ hq36 => ?_)
      have mf36_tx_0 := (hk36.1 tx 0 0 0 0 fsX0 htx rfl (by decide) (by decide)).trans mf35_tx_0
      have mf36_tx_1 := (hk36.1 tx 0 1 0 0 fsX0 htx rfl (by decide) (by decide)).trans mf35_tx_1
      have mf36_dt_6 := (hk36.1 dt 1 6 1 0 fsX1 hdt rfl (by decide) (by decide)).trans mf35_dt_6
      have mf36_dt_7 := (hk36.1 dt 1 7 1 0 fsX1 hdt rfl (by decide) (by decide)).trans mf35_dt_7
      have mf36_dt_1 := (hk36.1 dt 1 1 1 0 fsX1 hdt rfl (by decide) (by decide)).trans mf35_dt_1
      have mf36_dt_0 := (hk36.1 dt 1 0 1 0 fsX1 hdt rfl (by decide) (by decide)).trans mf35_dt_0
      have mf36_dt_8 := (hk36.1 dt 1 8 1 0 fsX1 hdt rfl (by decide) (by decide)).trans mf35_dt_8
      have kp36 := kp35.trans (hk36.mono (ms' := dtM) (fun x hx => by cases List.mem_singleton.mp hx; decide))
      have jm36 := (j35).kept htx hk36 (by decide)
      have fr36 : ∀ p9 : Nat, p9 ∉ [tx, dt] → H36[p9]? = s.heap[p9]? := fun p9 h9 => (hq36 p9 (fun e9 => h9 (by rw [e9]; exact (List.mem_cons_of_mem _ List.mem_cons_self)))).trans (fr35 p9 h9)
      have jd36 := jF.put hdt rfl (by decide) hk36 hf36 (show v35.toInt = x35.1 by omega) jd35
      refine lv_goto hx hb (eX1_scanWeek (67, .goto 10, 3) (List.mem_of_getElem? (i := 34) rfl)) (tgt := 77) rfl ?_
      have hfin : wkF T wh (f, sg) = ((upF (upF (upF (upF (upF f 6 ((sg).1)) 7 (x4.1)) 0 (1)) 8 ((x25.2).1)) 9 (x35.1)), x35.2) := by first | (simp only [wkF, nmF, laF, hx4, hx25, hx35, if_pos d23, if_pos d25, up_eq]; done) | (simp only [wkF, nmF, laF, hx4, hx25, hx35, if_pos d23, if_pos d25, up_eq] <;> rfl) | rfl
      exact W.vret hx hb hr (fun t ht hW => ⟨rfl, by rw [ht]; exact hh36.l0, by rw [ht]; exact kp36, by rw [ht, hfin]; exact jm36, by rw [ht, hfin]; exact jd36, by rw [ht]; exact fr36⟩) hh36.2.2.1 (eX1_scanWeek (77, .return_, 1) (List.mem_of_getElem? (i := 40) rfl))
set_option maxRecDepth 100000 in
set_option maxHeartbeats 4000000 in
theorem hX1_scanPlain (l : Launch) (D : va_G) (cA : Nat → ClassId) (ro : Nat → Option Nat) (sz : Nat) (H0 : Heap) (dt : Nat) (tx : Nat) (T : List Int) (sg : uS) (f : fN) (hdt : ro dt = some 1) (htx : ro tx = some 0) : Met l yX1_scanPlain (gW yX1_scanPlain cX1_scanPlain 3 none) { frames := 2, cells := 0, slots := 0, locals := 46 } (zs_P D cA ro sz H0 (fun H => jU D cA ro H tx T sg ∧ jF D H dt 1 10 f) [.ref dt, .ref tx]) (du_V D cA ro sz H0 dtM tx T dt 1 10 (plF9 T (f, sg))) 0 0 (zy_fr sz) := by
  refine zy_ofW (cc := cX1_scanPlain) (maxL := 3) (ret := none) (by decide +kernel) rfl ?_
  intro p e s m args below meth c s1 B hml hv
  obtain ⟨rfl, hh, hKn, hJ⟩ := hv
  have hx := B.exec
  have hb := B.bytes
  have hr := B.returns
  have hlk := B.notSynchronized
  have hts0 := atoms_spec (ws := gW yX1_scanPlain cX1_scanPlain 3 none) B.pre
  have h2 : ∀ w ∈ gT, w.before ([.ref dt, .ref tx] : List Value).toArray s = true := fun w hw => hts0 w (List.mem_cons_of_mem _ hw)
  have hown : s.vm.findClass RX1 = some m.cls := findClass_of_methodNamed B.named
  have hl := lv_entry [.ref dt, .ref tx] (n := 3) (Nat.le_of_ble_eq_true rfl)
  rw [lg_entry_eq]
  generalize (lg_sl [.ref dt, .ref tx] ++ List.replicate (3 - (lg_sl [.ref dt, .ref tx]).length) Slot.unset).toArray = ls at hl ⊢
  have hD := zD_all h2 hKn.1
  have hcl0 := fun (idx k : Nat) (t : zt_T) (h : (idx, 0, k) ∈ gfX1) (hk : fsX0[k]? = some t) => zf_clause (ro := ro) (ms := dtM) h2 hown hKn.1 gfX1_ok (by decide +kernel) idx 0 k 0 0 fsX0 t h rfl hk
  have hcl1 := fun (idx k : Nat) (t : zt_T) (h : (idx, 1, k) ∈ gfX1) (hk : fsX1[k]? = some t) => zf_clause (ro := ro) (ms := dtM) h2 hown hKn.1 gfX1_ok (by decide +kernel) idx 1 k 1 0 fsX1 t h rfl hk
  have kp0 : zc_kept D RTg ro dtM s.heap s.heap := zc_kept.refl
  obtain ⟨hJ, jd0⟩ := hJ
  obtain ⟨hjt, ⟨av, bv, wv, f2, f3, f4, hav, hbv, hwv⟩, hu⟩ := id hJ
  obtain ⟨tb, n, z, f0, r0, f1, hn, hc, hz⟩ := id hjt
  obtain ⟨n9, g9, n1, n2⟩ := zh_fT (k := 1) (t := (0, 0, 120)) hh htx (show RTg[0]? = some (0, 0, 0, fsX0) from rfl) rfl
  cases f1.symm.trans g9
  dsimp only at n1 n2
  clear g9
  obtain ⟨-, z9, c9, hy9⟩ := zh_arr hh r0 (show RTg[12]? = some (1, 2, 120, [(0, (-128), 127)]) from rfl)
  have hy : ∀ i, i < 120 → zt_ok ro (z i) (0, (-128), 127) := zs_arr (hc.symm.trans c9) hy9
  obtain ⟨u1, u2, u3⟩ := id hu
  have fr0 : ∀ p9 : Nat, p9 ∉ [tx, dt] → s.heap[p9]? = s.heap[p9]? := fun _ _ => rfl
  refine lv_aload_n hx hb (eX1_scanPlain (0, .aload_n 0, 1) (List.mem_of_getElem? (i := 0) rfl)) rfl (lv_at hl 0 rfl) ?_
  refine lv_aload_n hx hb (eX1_scanPlain (1, .aload_n 1, 1) (List.mem_of_getElem? (i := 1) rfl)) rfl (lv_at hl 1 rfl) ?_
  refine tz_get (r := 0) (k := 2) (t := (0, (-2147483648), 2147483647)) hx hb hh htx rfl rfl (hcl0 79 2 (0, (-2147483648), 2147483647) (by decide) rfl).1 f2 (eX1_scanPlain (2, .getfield 79, 3) (List.mem_of_getElem? (i := 2) rfl)) ?_
  refine tz_put (r := 1) (k := 6) (t := (0, (-2147483648), 2147483647)) hx hb hD hh hdt rfl rfl ((hcl1 31 6 (0, (-2147483648), 2147483647) (by decide) rfl).2 (by decide)) (tz_i (zn_i32 _).1 (zn_i32 _).2) (eX1_scanPlain (5, .putfield 31, 3) (List.mem_of_getElem? (i := 3) rfl)) (fun H1 lo1 hh1 hf1 hk1 _ hq1 => ?_)
  have mf1_tx_0 := (hk1.1 tx 0 0 0 0 fsX0 htx rfl (by decide) (by decide)).trans f0
  have mf1_tx_1 := (hk1.1 tx 0 1 0 0 fsX0 htx rfl (by decide) (by decide)).trans f1
  have mf1_tx_2 := (hk1.1 tx 0 2 0 0 fsX0 htx rfl (by decide) (by decide)).trans f2
  have mf1_tx_3 := (hk1.1 tx 0 3 0 0 fsX0 htx rfl (by decide) (by decide)).trans f3
  have mf1_tx_4 := (hk1.1 tx 0 4 0 0 fsX0 htx rfl (by decide) (by decide)).trans f4
  have mc1_tb := (hk1.2 tb 12 0 2 120 _ r0 rfl (by decide)).trans hc
  have kp1 := kp0.trans (hk1.mono (ms' := dtM) (fun x hx => by cases List.mem_singleton.mp hx; decide))
  have jm1 := (hJ).kept htx hk1 (by decide)
  have fr1 : ∀ p9 : Nat, p9 ∉ [tx, dt] → H1[p9]? = s.heap[p9]? := fun p9 h9 => (hq1 p9 (fun e9 => h9 (by rw [e9]; exact (List.mem_cons_of_mem _ List.mem_cons_self)))).trans (fr0 p9 h9)
  have jd1 := jF.put hdt rfl (by decide) hk1 hf1 (show av.toInt = (sg).1 by omega) jd0
  refine lv_aload_n hx hb (eX1_scanPlain (8, .aload_n 0, 1) (List.mem_of_getElem? (i := 4) rfl)) rfl (lv_at hl 0 rfl) ?_
  refine lv_aload_n hx hb (eX1_scanPlain (9, .aload_n 1, 1) (List.mem_of_getElem? (i := 5) rfl)) rfl (lv_at hl 1 rfl) ?_
  refine tz_get (r := 0) (k := 2) (t := (0, (-2147483648), 2147483647)) hx hb hh1 htx rfl rfl (hcl0 79 2 (0, (-2147483648), 2147483647) (by decide) rfl).1 mf1_tx_2 (eX1_scanPlain (10, .getfield 79, 3) (List.mem_of_getElem? (i := 6) rfl)) ?_
  refine ff_iconst hx hb (eX1_scanPlain (13, .iconst 2, 1) (List.mem_of_getElem? (i := 7) rfl)) (by decide) (by decide) (fun v2 e2 => ?_)
  refine ff_iadd hx hb (eX1_scanPlain (14, .iadd, 1) (List.mem_of_getElem? (i := 8) rfl)) (by omega) (by omega) (fun v3 e3 => ?_)
  refine tz_put (r := 1) (k := 8) (t := (0, (-2147483648), 2147483647)) hx hb hD hh1 hdt rfl rfl ((hcl1 37 8 (0, (-2147483648), 2147483647) (by decide) rfl).2 (by decide)) (tz_i (zn_i32 _).1 (zn_i32 _).2) (eX1_scanPlain (15, .putfield 37, 3) (List.mem_of_getElem? (i := 9) rfl)) (fun H4 lo4 hh4 hf4 hk4 _ hq4 => ?_)
  have mf4_tx_0 := (hk4.1 tx 0 0 0 0 fsX0 htx rfl (by decide) (by decide)).trans mf1_tx_0
  have mf4_tx_1 := (hk4.1 tx 0 1 0 0 fsX0 htx rfl (by decide) (by decide)).trans mf1_tx_1
  have mf4_tx_2 := (hk4.1 tx 0 2 0 0 fsX0 htx rfl (by decide) (by decide)).trans mf1_tx_2
  have mf4_tx_3 := (hk4.1 tx 0 3 0 0 fsX0 htx rfl (by decide) (by decide)).trans mf1_tx_3
  have mf4_tx_4 := (hk4.1 tx 0 4 0 0 fsX0 htx rfl (by decide) (by decide)).trans mf1_tx_4
  have mf4_dt_6 := (hk4.1 dt 1 6 1 0 fsX1 hdt rfl (by decide) (by decide)).trans hf1
  have mc4_tb := (hk4.2 tb 12 0 2 120 _ r0 rfl (by decide)).trans mc1_tb
  have kp4 := kp1.trans (hk4.mono (ms' := dtM) (fun x hx => by cases List.mem_singleton.mp hx; decide))
  have jm4 := (jm1).kept htx hk4 (by decide)
  have fr4 : ∀ p9 : Nat, p9 ∉ [tx, dt] → H4[p9]? = s.heap[p9]? := fun p9 h9 => (hq4 p9 (fun e9 => h9 (by rw [e9]; exact (List.mem_cons_of_mem _ List.mem_cons_self)))).trans (fr1 p9 h9)
  have jd4 := jF.put hdt rfl (by decide) hk4 hf4 (show v3.toInt = sg.1 + 2 by omega) jd1
  refine lv_aload_n hx hb (eX1_scanPlain (18, .aload_n 1, 1) (List.mem_of_getElem? (i := 10) rfl)) rfl (lv_at hl 1 rfl) ?_
  refine ff_iconst hx hb (eX1_scanPlain (19, .iconst 3, 1) (List.mem_of_getElem? (i := 11) rfl)) (by decide) (by decide) (fun v5 e5 => ?_)
  refine ff_iconst hx hb (eX1_scanPlain (20, .iconst 3, 1) (List.mem_of_getElem? (i := 12) rfl)) (by decide) (by decide) (fun v6 e6 => ?_)
  refine tz_rowV (As := [.int v5, .int v6]) (st := []) (b := tx) (C := RX0) (Ts := gT) hx hb hml hown h2 (fun _ h => h) (hX0_numberW l D cA ro sz H0 tx v5 v6 3 3 T (sg) htx (by omega) (by omega) (by decide)) ⟨rfl, rfl⟩ ⟨by decide, by decide⟩ ⟨by decide, by decide⟩ (tb_4 60 rfl rfl) (tb_1 5 rfl rfl) (tb_4 227 rfl rfl) (tb_4 58 rfl rfl) (tb_4 59 rfl rfl) (show yX0_number.cls ≠ "java/lang/invoke/MethodHandle" ∧ yX0_number.cls ≠ "java/lang/invoke/VarHandle" ∧ (parseMethodDescriptor yX0_number.desc).map (fun d => d.parameters.length) = some 2 by decide +kernel) zs_blind (zs_ob hh4 htx (show RTg[0]? = some (0, 0, 0, fsX0) from rfl) (zCX0 hKn.1)) (fun U hU hW => ⟨rfl, by rw [hU]; exact hh4.l0, zKb s U hW.alike hKn, by rw [hU]; exact jm4⟩) hh4.2.2.1 hl.1 (Nat.le_of_ble_eq_true rfl) (eX1_scanPlain (21, .invokevirtual 71, 3) (List.mem_of_getElem? (i := 13) rfl)) (fun r7 s7 t7 lo7 g7 f7 l7 => ?_)
  obtain ⟨v7, q7, e7, z7, c7, j7, fx7⟩ := f7
  cases q7
  rw [g7] at c7 fx7
  have fr7 : ∀ p9 : Nat, p9 ∉ [tx, dt] → t7.heap[p9]? = s.heap[p9]? := fun p9 h9 => (fx7 p9 (fun q => h9 (by rw [List.mem_singleton.mp q]; exact List.mem_cons_self))).trans (fr4 p9 h9)
  have hh7 : zh_ok D cA RTg ro sz H0 t7.heap lo7 := ⟨z7.1, z7.2.1, l7, z7.2.2.2⟩
  have kp7 := kp4.trans (c7.mono (ms' := dtM) (by decide))
  have kf7 := nbF_hM (T := T) (ld := 3) (n := 3) (s := sg) (M := 999) (by decide)
  generalize hx7 : nbF T 3 3 0 0 sg = x7 at j7 e7 kf7
  have uu7 := j7.2.2
  unfold uOK at uu7
  have mf7_tx_0 := (c7.1 tx 0 0 0 0 fsX0 htx rfl (by decide) (by decide)).trans mf4_tx_0
  have mf7_tx_1 := (c7.1 tx 0 1 0 0 fsX0 htx rfl (by decide) (by decide)).trans mf4_tx_1
  have mf7_dt_6 := (c7.1 dt 1 6 1 0 fsX1 hdt rfl (by decide) (by decide)).trans mf4_dt_6
  have mf7_dt_8 := (c7.1 dt 1 8 1 0 fsX1 hdt rfl (by decide) (by decide)).trans hf4
  have jd7 := jd4.kept hdt rfl (by decide) c7 (by decide)
  refine W.eq (g2 := F0 m 24 ls [.int v7]) rfl ?_
  refine lv_istore_n hx hb (eX1_scanPlain (24, .istore_n 2, 1) (List.mem_of_getElem? (i := 14) rfl)) rfl hl (by decide) rfl (fun ls8 hl8 => ?_)
  refine lv_aload_n hx hb (eX1_scanPlain (25, .aload_n 1, 1) (List.mem_of_getElem? (i := 15) rfl)) rfl (lv_at hl8 2 rfl) ?_
  refine tz_rowV (As := []) (st := []) (b := tx) (C := RX0) (Ts := gT) hx hb hml hown h2 (fun _ h => h) (hX0_atDigit l D cA ro sz H0 tx T (x7.2) htx) ⟨rfl, rfl⟩ ⟨by decide, by decide⟩ ⟨by decide, by decide⟩ (tb_4 24 rfl rfl) (tb_1 5 rfl rfl) (tb_5 114 rfl rfl) (tb_4 22 rfl rfl) (tb_4 23 rfl rfl) (show yX0_atDigit.cls ≠ "java/lang/invoke/MethodHandle" ∧ yX0_atDigit.cls ≠ "java/lang/invoke/VarHandle" ∧ (parseMethodDescriptor yX0_atDigit.desc).map (fun d => d.parameters.length) = some 0 by decide +kernel) zs_blind (zs_ob hh7 htx (show RTg[0]? = some (0, 0, 0, fsX0) from rfl) (zCX0 hKn.1)) (fun U hU hW => ⟨rfl, by rw [hU]; exact hh7.l0, zKb s U hW.alike hKn, by rw [hU]; exact j7⟩) hh7.2.2.1 hl8.1 (Nat.le_of_ble_eq_true rfl) (eX1_scanPlain (26, .invokevirtual 60, 3) (List.mem_of_getElem? (i := 16) rfl)) (fun r9 s9 t9 lo9 g9 f9 l9 => ?_)
  obtain ⟨z9, v9, q9, e9⟩ := f9
  cases q9
  rw [z9, g9]
  have hh9 : zh_ok D cA RTg ro sz H0 t7.heap lo9 := ⟨hh7.1, hh7.2.1, l9, hh7.2.2.2⟩
  refine W.eq (g2 := F0 m 29 ls8 [.int v9]) rfl ?_
  refine ff_if_eq hx hb (eX1_scanPlain (29, .ifCond .eq 39, 3) (List.mem_of_getElem? (i := 17) rfl)) (tgt := 68) rfl (fun c10 => ?_) (fun c10 => ?_)
  · have d11 : ¬ 0 ≤ dgF T x7.2 := by omega
    refine lv_aload_n hx hb (eX1_scanPlain (68, .aload_n 0, 1) (List.mem_of_getElem? (i := 41) rfl)) rfl (lv_at hl8 1 rfl) ?_
    refine ff_iconst hx hb (eX1_scanPlain (69, .iconst 2, 1) (List.mem_of_getElem? (i := 42) rfl)) (by decide) (by decide) (fun v12 e12 => ?_)
    refine tz_put (r := 1) (k := 0) (t := (0, (-2147483648), 2147483647)) hx hb hD hh9 hdt rfl rfl ((hcl1 9 0 (0, (-2147483648), 2147483647) (by decide) rfl).2 (by decide)) (tz_i (zn_i32 _).1 (zn_i32 _).2) (eX1_scanPlain (70, .putfield 9, 3) (List.mem_of_getElem? (i := 43) rfl)) (fun H13 lo13 hh13 hf13 hk13 _ hq13 => ?_)
    have mf13_tx_0 := (hk13.1 tx 0 0 0 0 fsX0 htx rfl (by decide) (by decide)).trans mf7_tx_0
    have mf13_tx_1 := (hk13.1 tx 0 1 0 0 fsX0 htx rfl (by decide) (by decide)).trans mf7_tx_1
    have mf13_dt_6 := (hk13.1 dt 1 6 1 0 fsX1 hdt rfl (by decide) (by decide)).trans mf7_dt_6
    have mf13_dt_8 := (hk13.1 dt 1 8 1 0 fsX1 hdt rfl (by decide) (by decide)).trans mf7_dt_8
    have kp13 := kp7.trans (hk13.mono (ms' := dtM) (fun x hx => by cases List.mem_singleton.mp hx; decide))
    have jm13 := (j7).kept htx hk13 (by decide)
    have fr13 : ∀ p9 : Nat, p9 ∉ [tx, dt] → H13[p9]? = s.heap[p9]? := fun p9 h9 => (hq13 p9 (fun e9 => h9 (by rw [e9]; exact (List.mem_cons_of_mem _ List.mem_cons_self)))).trans (fr7 p9 h9)
    have jd13 := jF.put hdt rfl (by decide) hk13 hf13 (show v12.toInt = 2 by omega) jd7
    refine lv_aload_n hx hb (eX1_scanPlain (73, .aload_n 0, 1) (List.mem_of_getElem? (i := 44) rfl)) rfl (lv_at hl8 1 rfl) ?_
    refine lv_iload_n hx hb (eX1_scanPlain (74, .iload_n 2, 1) (List.mem_of_getElem? (i := 45) rfl)) rfl (lv_at hl8 0 rfl) ?_
    refine tz_put (r := 1) (k := 7) (t := (0, (-2147483648), 2147483647)) hx hb hD hh13 hdt rfl rfl ((hcl1 34 7 (0, (-2147483648), 2147483647) (by decide) rfl).2 (by decide)) (tz_i (zn_i32 _).1 (zn_i32 _).2) (eX1_scanPlain (75, .putfield 34, 3) (List.mem_of_getElem? (i := 46) rfl)) (fun H14 lo14 hh14 hf14 hk14 _ hq14 => ?_)
    have mf14_tx_0 := (hk14.1 tx 0 0 0 0 fsX0 htx rfl (by decide) (by decide)).trans mf13_tx_0
    have mf14_tx_1 := (hk14.1 tx 0 1 0 0 fsX0 htx rfl (by decide) (by decide)).trans mf13_tx_1
    have mf14_dt_6 := (hk14.1 dt 1 6 1 0 fsX1 hdt rfl (by decide) (by decide)).trans mf13_dt_6
    have mf14_dt_8 := (hk14.1 dt 1 8 1 0 fsX1 hdt rfl (by decide) (by decide)).trans mf13_dt_8
    have mf14_dt_0 := (hk14.1 dt 1 0 1 0 fsX1 hdt rfl (by decide) (by decide)).trans hf13
    have kp14 := kp13.trans (hk14.mono (ms' := dtM) (fun x hx => by cases List.mem_singleton.mp hx; decide))
    have jm14 := (jm13).kept htx hk14 (by decide)
    have fr14 : ∀ p9 : Nat, p9 ∉ [tx, dt] → H14[p9]? = s.heap[p9]? := fun p9 h9 => (hq14 p9 (fun e9 => h9 (by rw [e9]; exact (List.mem_cons_of_mem _ List.mem_cons_self)))).trans (fr13 p9 h9)
    have jd14 := jF.put hdt rfl (by decide) hk14 hf14 (show v7.toInt = x7.1 by omega) jd13
    have hfin : plF9 T (f, sg) = ((upF (upF (upF (upF f 6 ((sg).1)) 8 (sg.1 + 2)) 0 (2)) 7 (x7.1)), x7.2) := by first | (simp only [plF9, hx7, if_neg d11, up_eq]; done) | (simp only [plF9, hx7, if_neg d11, up_eq] <;> rfl) | rfl
    exact W.vret hx hb hr (fun t ht hW => ⟨rfl, by rw [ht]; exact hh14.l0, by rw [ht]; exact kp14, by rw [ht, hfin]; exact jm14, by rw [ht, hfin]; exact jd14, by rw [ht]; exact fr14⟩) hh14.2.2.1 (eX1_scanPlain (78, .return_, 1) (List.mem_of_getElem? (i := 47) rfl))
  · have d15 : 0 ≤ dgF T x7.2 := by omega
    refine lv_aload_n hx hb (eX1_scanPlain (32, .aload_n 0, 1) (List.mem_of_getElem? (i := 18) rfl)) rfl (lv_at hl8 1 rfl) ?_
    refine ff_iconst hx hb (eX1_scanPlain (33, .iconst 0, 1) (List.mem_of_getElem? (i := 19) rfl)) (by decide) (by decide) (fun v16 e16 => ?_)
    refine tz_put (r := 1) (k := 0) (t := (0, (-2147483648), 2147483647)) hx hb hD hh9 hdt rfl rfl ((hcl1 9 0 (0, (-2147483648), 2147483647) (by decide) rfl).2 (by decide)) (tz_i (zn_i32 _).1 (zn_i32 _).2) (eX1_scanPlain (34, .putfield 9, 3) (List.mem_of_getElem? (i := 20) rfl)) (fun H17 lo17 hh17 hf17 hk17 _ hq17 => ?_)
    have mf17_tx_0 := (hk17.1 tx 0 0 0 0 fsX0 htx rfl (by decide) (by decide)).trans mf7_tx_0
    have mf17_tx_1 := (hk17.1 tx 0 1 0 0 fsX0 htx rfl (by decide) (by decide)).trans mf7_tx_1
    have mf17_dt_6 := (hk17.1 dt 1 6 1 0 fsX1 hdt rfl (by decide) (by decide)).trans mf7_dt_6
    have mf17_dt_8 := (hk17.1 dt 1 8 1 0 fsX1 hdt rfl (by decide) (by decide)).trans mf7_dt_8
    have kp17 := kp7.trans (hk17.mono (ms' := dtM) (fun x hx => by cases List.mem_singleton.mp hx; decide))
    have jm17 := (j7).kept htx hk17 (by decide)
    have fr17 : ∀ p9 : Nat, p9 ∉ [tx, dt] → H17[p9]? = s.heap[p9]? := fun p9 h9 => (hq17 p9 (fun e9 => h9 (by rw [e9]; exact (List.mem_cons_of_mem _ List.mem_cons_self)))).trans (fr7 p9 h9)
    have jd17 := jF.put hdt rfl (by decide) hk17 hf17 (show v16.toInt = 0 by omega) jd7
    refine lv_iload_n hx hb (eX1_scanPlain (37, .iload_n 2, 1) (List.mem_of_getElem? (i := 21) rfl)) rfl (lv_at hl8 0 rfl) ?_
    refine ff_bipush hx hb (eX1_scanPlain (38, .bipush 10, 2) (List.mem_of_getElem? (i := 22) rfl)) (by decide) (by decide) (fun v18 e18 => ?_)
    refine ff_imulR hx hb (eX1_scanPlain (40, .imul, 1) (List.mem_of_getElem? (i := 23) rfl)) (e18) (by omega) (by omega) (fun v19 e19 => ?_)
    refine lv_aload_n hx hb (eX1_scanPlain (41, .aload_n 1, 1) (List.mem_of_getElem? (i := 24) rfl)) rfl (lv_at hl8 2 rfl) ?_
    refine ff_iconst hx hb (eX1_scanPlain (42, .iconst 1, 1) (List.mem_of_getElem? (i := 25) rfl)) (by decide) (by decide) (fun v20 e20 => ?_)
    refine ff_iconst hx hb (eX1_scanPlain (43, .iconst 1, 1) (List.mem_of_getElem? (i := 26) rfl)) (by decide) (by decide) (fun v21 e21 => ?_)
    refine tz_rowV (As := [.int v20, .int v21]) (st := [.int v19]) (b := tx) (C := RX0) (Ts := gT) hx hb hml hown h2 (fun _ h => h) (hX0_numberW l D cA ro sz H0 tx v20 v21 1 1 T (x7.2) htx (by omega) (by omega) (by decide)) ⟨rfl, rfl⟩ ⟨by decide, by decide⟩ ⟨by decide, by decide⟩ (tb_4 60 rfl rfl) (tb_1 5 rfl rfl) (tb_4 227 rfl rfl) (tb_4 58 rfl rfl) (tb_4 59 rfl rfl) (show yX0_number.cls ≠ "java/lang/invoke/MethodHandle" ∧ yX0_number.cls ≠ "java/lang/invoke/VarHandle" ∧ (parseMethodDescriptor yX0_number.desc).map (fun d => d.parameters.length) = some 2 by decide +kernel) zs_blind (zs_ob hh17 htx (show RTg[0]? = some (0, 0, 0, fsX0) from rfl) (zCX0 hKn.1)) (fun U hU hW => ⟨rfl, by rw [hU]; exact hh17.l0, zKb s U hW.alike hKn, by rw [hU]; exact jm17⟩) hh17.2.2.1 hl8.1 (Nat.le_of_ble_eq_true rfl) (eX1_scanPlain (44, .invokevirtual 71, 3) (List.mem_of_getElem? (i := 27) rfl)) (fun r22 s22 t22 lo22 g22 f22 l22 => ?_)
    obtain ⟨v22, q22, e22, z22, c22, j22, fx22⟩ := f22
    cases q22
    rw [g22] at c22 fx22
    have fr22 : ∀ p9 : Nat, p9 ∉ [tx, dt] → t22.heap[p9]? = s.heap[p9]? := fun p9 h9 => (fx22 p9 (fun q => h9 (by rw [List.mem_singleton.mp q]; exact List.mem_cons_self))).trans (fr17 p9 h9)
    have hh22 : zh_ok D cA RTg ro sz H0 t22.heap lo22 := ⟨z22.1, z22.2.1, l22, z22.2.2.2⟩
    have kp22 := kp17.trans (c22.mono (ms' := dtM) (by decide))
    have kf22 := nbF_hM (T := T) (ld := 1) (n := 1) (s := x7.2) (M := 9) (by decide)
    generalize hx22 : nbF T 1 1 0 0 x7.2 = x22 at j22 e22 kf22
    have uu22 := j22.2.2
    unfold uOK at uu22
    have mf22_tx_0 := (c22.1 tx 0 0 0 0 fsX0 htx rfl (by decide) (by decide)).trans mf17_tx_0
    have mf22_tx_1 := (c22.1 tx 0 1 0 0 fsX0 htx rfl (by decide) (by decide)).trans mf17_tx_1
    have mf22_dt_6 := (c22.1 dt 1 6 1 0 fsX1 hdt rfl (by decide) (by decide)).trans mf17_dt_6
    have mf22_dt_8 := (c22.1 dt 1 8 1 0 fsX1 hdt rfl (by decide) (by decide)).trans mf17_dt_8
    have mf22_dt_0 := (c22.1 dt 1 0 1 0 fsX1 hdt rfl (by decide) (by decide)).trans hf17
    have jd22 := jd17.kept hdt rfl (by decide) c22 (by decide)
    refine W.eq (g2 := F0 m 47 ls8 [.int v22, .int v19]) rfl ?_
    refine ff_iadd hx hb (eX1_scanPlain (47, .iadd, 1) (List.mem_of_getElem? (i := 28) rfl)) (by omega) (by omega) (fun v23 e23 => ?_)
    refine lv_istore_n hx hb (eX1_scanPlain (48, .istore_n 2, 1) (List.mem_of_getElem? (i := 29) rfl)) rfl hl8 (by decide) rfl (fun ls24 hl24 => ?_)
    refine lv_aload_n hx hb (eX1_scanPlain (49, .aload_n 0, 1) (List.mem_of_getElem? (i := 30) rfl)) rfl (lv_at hl24 1 rfl) ?_
    refine lv_iload_n hx hb (eX1_scanPlain (50, .iload_n 2, 1) (List.mem_of_getElem? (i := 31) rfl)) rfl (lv_at hl24 0 rfl) ?_
    refine ff_bipush hx hb (eX1_scanPlain (51, .bipush 100, 2) (List.mem_of_getElem? (i := 32) rfl)) (by decide) (by decide) (fun v25 e25 => ?_)
    refine ff_idivP hx hb (eX1_scanPlain (53, .idiv, 1) (List.mem_of_getElem? (i := 33) rfl)) (by omega) (e25) (by decide) (fun v26 e26 => ?_)
    refine tz_put (r := 1) (k := 7) (t := (0, (-2147483648), 2147483647)) hx hb hD hh22 hdt rfl rfl ((hcl1 34 7 (0, (-2147483648), 2147483647) (by decide) rfl).2 (by decide)) (tz_i (zn_i32 _).1 (zn_i32 _).2) (eX1_scanPlain (54, .putfield 34, 3) (List.mem_of_getElem? (i := 34) rfl)) (fun H27 lo27 hh27 hf27 hk27 _ hq27 => ?_)
    have mf27_tx_0 := (hk27.1 tx 0 0 0 0 fsX0 htx rfl (by decide) (by decide)).trans mf22_tx_0
    have mf27_tx_1 := (hk27.1 tx 0 1 0 0 fsX0 htx rfl (by decide) (by decide)).trans mf22_tx_1
    have mf27_dt_6 := (hk27.1 dt 1 6 1 0 fsX1 hdt rfl (by decide) (by decide)).trans mf22_dt_6
    have mf27_dt_8 := (hk27.1 dt 1 8 1 0 fsX1 hdt rfl (by decide) (by decide)).trans mf22_dt_8
    have mf27_dt_0 := (hk27.1 dt 1 0 1 0 fsX1 hdt rfl (by decide) (by decide)).trans mf22_dt_0
    have kp27 := kp22.trans (hk27.mono (ms' := dtM) (fun x hx => by cases List.mem_singleton.mp hx; decide))
    have jm27 := (j22).kept htx hk27 (by decide)
    have fr27 : ∀ p9 : Nat, p9 ∉ [tx, dt] → H27[p9]? = s.heap[p9]? := fun p9 h9 => (hq27 p9 (fun e9 => h9 (by rw [e9]; exact (List.mem_cons_of_mem _ List.mem_cons_self)))).trans (fr22 p9 h9)
    have jd27 := jF.put hdt rfl (by decide) hk27 hf27 (show v26.toInt = (x7.1 * 10 + x22.1) / 100 by omega) jd22
    refine lv_aload_n hx hb (eX1_scanPlain (57, .aload_n 0, 1) (List.mem_of_getElem? (i := 35) rfl)) rfl (lv_at hl24 1 rfl) ?_
    refine lv_iload_n hx hb (eX1_scanPlain (58, .iload_n 2, 1) (List.mem_of_getElem? (i := 36) rfl)) rfl (lv_at hl24 0 rfl) ?_
    refine ff_bipush hx hb (eX1_scanPlain (59, .bipush 100, 2) (List.mem_of_getElem? (i := 37) rfl)) (by decide) (by decide) (fun v28 e28 => ?_)
    refine ff_iremP hx hb (eX1_scanPlain (61, .irem, 1) (List.mem_of_getElem? (i := 38) rfl)) (by omega) (e28) (by decide) (fun v29 e29 => ?_)
    refine tz_put (r := 1) (k := 9) (t := (0, (-2147483648), 2147483647)) hx hb hD hh27 hdt rfl rfl ((hcl1 40 9 (0, (-2147483648), 2147483647) (by decide) rfl).2 (by decide)) (tz_i (zn_i32 _).1 (zn_i32 _).2) (eX1_scanPlain (62, .putfield 40, 3) (List.mem_of_getElem? (i := 39) rfl)) (fun H30 lo30 hh30 hf30 hk30 _ hq30 => ?_)
    have mf30_tx_0 := (hk30.1 tx 0 0 0 0 fsX0 htx rfl (by decide) (by decide)).trans mf27_tx_0
    have mf30_tx_1 := (hk30.1 tx 0 1 0 0 fsX0 htx rfl (by decide) (by decide)).trans mf27_tx_1
    have mf30_dt_6 := (hk30.1 dt 1 6 1 0 fsX1 hdt rfl (by decide) (by decide)).trans mf27_dt_6
    have mf30_dt_8 := (hk30.1 dt 1 8 1 0 fsX1 hdt rfl (by decide) (by decide)).trans mf27_dt_8
    have mf30_dt_0 := (hk30.1 dt 1 0 1 0 fsX1 hdt rfl (by decide) (by decide)).trans mf27_dt_0
    have mf30_dt_7 := (hk30.1 dt 1 7 1 0 fsX1 hdt rfl (by decide) (by decide)).trans hf27
    have kp30 := kp27.trans (hk30.mono (ms' := dtM) (fun x hx => by cases List.mem_singleton.mp hx; decide))
    have jm30 := (jm27).kept htx hk30 (by decide)
    have fr30 : ∀ p9 : Nat, p9 ∉ [tx, dt] → H30[p9]? = s.heap[p9]? := fun p9 h9 => (hq30 p9 (fun e9 => h9 (by rw [e9]; exact (List.mem_cons_of_mem _ List.mem_cons_self)))).trans (fr27 p9 h9)
    have jd30 := jF.put hdt rfl (by decide) hk30 hf30 (show v29.toInt = (x7.1 * 10 + x22.1) % 100 by omega) jd27
    refine lv_goto hx hb (eX1_scanPlain (65, .goto 13, 3) (List.mem_of_getElem? (i := 40) rfl)) (tgt := 78) rfl ?_
    have hfin : plF9 T (f, sg) = ((upF (upF (upF (upF (upF f 6 ((sg).1)) 8 (sg.1 + 2)) 0 (0)) 7 ((x7.1 * 10 + x22.1) / 100)) 9 ((x7.1 * 10 + x22.1) % 100)), x22.2) := by first | (simp only [plF9, hx7, hx22, if_pos d15, up_eq]; done) | (simp only [plF9, hx7, hx22, if_pos d15, up_eq] <;> rfl) | rfl
    exact W.vret hx hb hr (fun t ht hW => ⟨rfl, by rw [ht]; exact hh30.l0, by rw [ht]; exact kp30, by rw [ht, hfin]; exact jm30, by rw [ht, hfin]; exact jd30, by rw [ht]; exact fr30⟩) hh30.2.2.1 (eX1_scanPlain (78, .return_, 1) (List.mem_of_getElem? (i := 47) rfl))
set_option maxRecDepth 100000 in
set_option maxHeartbeats 4000000 in
theorem hX1_scanFull (l : Launch) (D : va_G) (cA : Nat → ClassId) (ro : Nat → Option Nat) (sz : Nat) (H0 : Heap) (dt : Nat) (tx : Nat) (T : List Int) (sg : uS) (f : fN) (hdt : ro dt = some 1) (htx : ro tx = some 0) : Met l yX1_scanFull (gW yX1_scanFull cX1_scanFull 2 none) { frames := 3, cells := 0, slots := 0, locals := 62 } (zs_P D cA ro sz H0 (fun H => jU D cA ro H tx T sg ∧ jF D H dt 1 10 f) [.ref dt, .ref tx]) (du_V D cA ro sz H0 dtM tx T dt 1 10 (dfF T (f, sg))) 0 0 (zy_fr sz) := by
  refine zy_ofW (cc := cX1_scanFull) (maxL := 2) (ret := none) (by decide +kernel) rfl ?_
  intro p e s m args below meth c s1 B hml hv
  obtain ⟨rfl, hh, hKn, hJ⟩ := hv
  have hx := B.exec
  have hb := B.bytes
  have hr := B.returns
  have hlk := B.notSynchronized
  have hts0 := atoms_spec (ws := gW yX1_scanFull cX1_scanFull 2 none) B.pre
  have h2 : ∀ w ∈ gT, w.before ([.ref dt, .ref tx] : List Value).toArray s = true := fun w hw => hts0 w (List.mem_cons_of_mem _ hw)
  have hown : s.vm.findClass RX1 = some m.cls := findClass_of_methodNamed B.named
  have hl := lv_entry [.ref dt, .ref tx] (n := 2) (Nat.le_of_ble_eq_true rfl)
  rw [lg_entry_eq]
  generalize (lg_sl [.ref dt, .ref tx] ++ List.replicate (2 - (lg_sl [.ref dt, .ref tx]).length) Slot.unset).toArray = ls at hl ⊢
  have hD := zD_all h2 hKn.1
  have hcl0 := fun (idx k : Nat) (t : zt_T) (h : (idx, 0, k) ∈ gfX1) (hk : fsX0[k]? = some t) => zf_clause (ro := ro) (ms := dtM) h2 hown hKn.1 gfX1_ok (by decide +kernel) idx 0 k 0 0 fsX0 t h rfl hk
  have hcl1 := fun (idx k : Nat) (t : zt_T) (h : (idx, 1, k) ∈ gfX1) (hk : fsX1[k]? = some t) => zf_clause (ro := ro) (ms := dtM) h2 hown hKn.1 gfX1_ok (by decide +kernel) idx 1 k 1 0 fsX1 t h rfl hk
  have kp0 : zc_kept D RTg ro dtM s.heap s.heap := zc_kept.refl
  obtain ⟨hJ, jd0⟩ := hJ
  obtain ⟨hjt, ⟨av, bv, wv, f2, f3, f4, hav, hbv, hwv⟩, hu⟩ := id hJ
  obtain ⟨tb, n, z, f0, r0, f1, hn, hc, hz⟩ := id hjt
  obtain ⟨n9, g9, n1, n2⟩ := zh_fT (k := 1) (t := (0, 0, 120)) hh htx (show RTg[0]? = some (0, 0, 0, fsX0) from rfl) rfl
  cases f1.symm.trans g9
  dsimp only at n1 n2
  clear g9
  obtain ⟨-, z9, c9, hy9⟩ := zh_arr hh r0 (show RTg[12]? = some (1, 2, 120, [(0, (-128), 127)]) from rfl)
  have hy : ∀ i, i < 120 → zt_ok ro (z i) (0, (-128), 127) := zs_arr (hc.symm.trans c9) hy9
  obtain ⟨u1, u2, u3⟩ := id hu
  have fr0 : ∀ p9 : Nat, p9 ∉ [tx, dt] → s.heap[p9]? = s.heap[p9]? := fun _ _ => rfl
  refine lv_aload_n hx hb (eX1_scanFull (0, .aload_n 0, 1) (List.mem_of_getElem? (i := 0) rfl)) rfl (lv_at hl 0 rfl) ?_
  refine ff_iconst hx hb (eX1_scanFull (1, .iconst 0, 1) (List.mem_of_getElem? (i := 1) rfl)) (by decide) (by decide) (fun v1 e1 => ?_)
  refine tz_put (r := 1) (k := 0) (t := (0, (-2147483648), 2147483647)) hx hb hD hh hdt rfl rfl ((hcl1 9 0 (0, (-2147483648), 2147483647) (by decide) rfl).2 (by decide)) (tz_i (zn_i32 _).1 (zn_i32 _).2) (eX1_scanFull (2, .putfield 9, 3) (List.mem_of_getElem? (i := 2) rfl)) (fun H2 lo2 hh2 hf2 hk2 _ hq2 => ?_)
  have mf2_tx_0 := (hk2.1 tx 0 0 0 0 fsX0 htx rfl (by decide) (by decide)).trans f0
  have mf2_tx_1 := (hk2.1 tx 0 1 0 0 fsX0 htx rfl (by decide) (by decide)).trans f1
  have mf2_tx_2 := (hk2.1 tx 0 2 0 0 fsX0 htx rfl (by decide) (by decide)).trans f2
  have mf2_tx_3 := (hk2.1 tx 0 3 0 0 fsX0 htx rfl (by decide) (by decide)).trans f3
  have mf2_tx_4 := (hk2.1 tx 0 4 0 0 fsX0 htx rfl (by decide) (by decide)).trans f4
  have mc2_tb := (hk2.2 tb 12 0 2 120 _ r0 rfl (by decide)).trans hc
  have kp2 := kp0.trans (hk2.mono (ms' := dtM) (fun x hx => by cases List.mem_singleton.mp hx; decide))
  have jm2 := (hJ).kept htx hk2 (by decide)
  have fr2 : ∀ p9 : Nat, p9 ∉ [tx, dt] → H2[p9]? = s.heap[p9]? := fun p9 h9 => (hq2 p9 (fun e9 => h9 (by rw [e9]; exact (List.mem_cons_of_mem _ List.mem_cons_self)))).trans (fr0 p9 h9)
  have jd2 := jF.put hdt rfl (by decide) hk2 hf2 (show v1.toInt = 0 by omega) jd0
  refine lv_aload_n hx hb (eX1_scanFull (5, .aload_n 0, 1) (List.mem_of_getElem? (i := 3) rfl)) rfl (lv_at hl 0 rfl) ?_
  refine ff_iconst hx hb (eX1_scanFull (6, .iconst 0, 1) (List.mem_of_getElem? (i := 4) rfl)) (by decide) (by decide) (fun v3 e3 => ?_)
  refine tz_put (r := 1) (k := 4) (t := (0, 0, 1)) hx hb hD hh2 hdt rfl rfl ((hcl1 25 4 (0, 0, 1) (by decide) rfl).2 (by decide)) (tz_i (by omega) (by omega)) (eX1_scanFull (7, .putfield 25, 3) (List.mem_of_getElem? (i := 5) rfl)) (fun H4 lo4 hh4 hf4 hk4 _ hq4 => ?_)
  have mf4_tx_0 := (hk4.1 tx 0 0 0 0 fsX0 htx rfl (by decide) (by decide)).trans mf2_tx_0
  have mf4_tx_1 := (hk4.1 tx 0 1 0 0 fsX0 htx rfl (by decide) (by decide)).trans mf2_tx_1
  have mf4_tx_2 := (hk4.1 tx 0 2 0 0 fsX0 htx rfl (by decide) (by decide)).trans mf2_tx_2
  have mf4_tx_3 := (hk4.1 tx 0 3 0 0 fsX0 htx rfl (by decide) (by decide)).trans mf2_tx_3
  have mf4_tx_4 := (hk4.1 tx 0 4 0 0 fsX0 htx rfl (by decide) (by decide)).trans mf2_tx_4
  have mf4_dt_0 := (hk4.1 dt 1 0 1 0 fsX1 hdt rfl (by decide) (by decide)).trans hf2
  have mc4_tb := (hk4.2 tb 12 0 2 120 _ r0 rfl (by decide)).trans mc2_tb
  have kp4 := kp2.trans (hk4.mono (ms' := dtM) (fun x hx => by cases List.mem_singleton.mp hx; decide))
  have jm4 := (jm2).kept htx hk4 (by decide)
  have fr4 : ∀ p9 : Nat, p9 ∉ [tx, dt] → H4[p9]? = s.heap[p9]? := fun p9 h9 => (hq4 p9 (fun e9 => h9 (by rw [e9]; exact (List.mem_cons_of_mem _ List.mem_cons_self)))).trans (fr2 p9 h9)
  have jd4 := jF.put hdt rfl (by decide) hk4 hf4 (show v3.toInt = 0 by omega) jd2
  refine lv_aload_n hx hb (eX1_scanFull (10, .aload_n 0, 1) (List.mem_of_getElem? (i := 6) rfl)) rfl (lv_at hl 0 rfl) ?_
  refine lv_aload_n hx hb (eX1_scanFull (11, .aload_n 1, 1) (List.mem_of_getElem? (i := 7) rfl)) rfl (lv_at hl 1 rfl) ?_
  refine ff_iconst hx hb (eX1_scanFull (12, .iconst 4, 1) (List.mem_of_getElem? (i := 8) rfl)) (by decide) (by decide) (fun v5 e5 => ?_)
  refine ff_iconst hx hb (eX1_scanFull (13, .iconst 4, 1) (List.mem_of_getElem? (i := 9) rfl)) (by decide) (by decide) (fun v6 e6 => ?_)
  refine tz_rowV (As := [.int v5, .int v6]) (st := [.ref dt]) (b := tx) (C := RX0) (Ts := gT) hx hb hml hown h2 (fun _ h => h) (hX0_numberW l D cA ro sz H0 tx v5 v6 4 4 T (sg) htx (by omega) (by omega) (by decide)) ⟨rfl, rfl⟩ ⟨by decide, by decide⟩ ⟨by decide, by decide⟩ (tb_4 60 rfl rfl) (tb_1 5 rfl rfl) (tb_4 227 rfl rfl) (tb_4 58 rfl rfl) (tb_4 59 rfl rfl) (show yX0_number.cls ≠ "java/lang/invoke/MethodHandle" ∧ yX0_number.cls ≠ "java/lang/invoke/VarHandle" ∧ (parseMethodDescriptor yX0_number.desc).map (fun d => d.parameters.length) = some 2 by decide +kernel) zs_blind (zs_ob hh4 htx (show RTg[0]? = some (0, 0, 0, fsX0) from rfl) (zCX0 hKn.1)) (fun U hU hW => ⟨rfl, by rw [hU]; exact hh4.l0, zKb s U hW.alike hKn, by rw [hU]; exact jm4⟩) hh4.2.2.1 hl.1 (Nat.le_of_ble_eq_true rfl) (eX1_scanFull (14, .invokevirtual 71, 3) (List.mem_of_getElem? (i := 10) rfl)) (fun r7 s7 t7 lo7 g7 f7 l7 => ?_)
  obtain ⟨v7, q7, e7, z7, c7, j7, fx7⟩ := f7
  cases q7
  rw [g7] at c7 fx7
  have fr7 : ∀ p9 : Nat, p9 ∉ [tx, dt] → t7.heap[p9]? = s.heap[p9]? := fun p9 h9 => (fx7 p9 (fun q => h9 (by rw [List.mem_singleton.mp q]; exact List.mem_cons_self))).trans (fr4 p9 h9)
  have hh7 : zh_ok D cA RTg ro sz H0 t7.heap lo7 := ⟨z7.1, z7.2.1, l7, z7.2.2.2⟩
  have kp7 := kp4.trans (c7.mono (ms' := dtM) (by decide))
  have kf7 := nbF_hM (T := T) (ld := 4) (n := 4) (s := sg) (M := 9999) (by decide)
  generalize hx7 : nbF T 4 4 0 0 sg = x7 at j7 e7 kf7
  have uu7 := j7.2.2
  unfold uOK at uu7
  have mf7_tx_0 := (c7.1 tx 0 0 0 0 fsX0 htx rfl (by decide) (by decide)).trans mf4_tx_0
  have mf7_tx_1 := (c7.1 tx 0 1 0 0 fsX0 htx rfl (by decide) (by decide)).trans mf4_tx_1
  have mf7_dt_0 := (c7.1 dt 1 0 1 0 fsX1 hdt rfl (by decide) (by decide)).trans mf4_dt_0
  have mf7_dt_4 := (c7.1 dt 1 4 1 0 fsX1 hdt rfl (by decide) (by decide)).trans hf4
  have jd7 := jd4.kept hdt rfl (by decide) c7 (by decide)
  refine W.eq (g2 := F0 m 17 ls [.int v7, .ref dt]) rfl ?_
  refine tz_put (r := 1) (k := 5) (t := (0, (-2147483648), 2147483647)) hx hb hD hh7 hdt rfl rfl ((hcl1 28 5 (0, (-2147483648), 2147483647) (by decide) rfl).2 (by decide)) (tz_i (zn_i32 _).1 (zn_i32 _).2) (eX1_scanFull (17, .putfield 28, 3) (List.mem_of_getElem? (i := 11) rfl)) (fun H8 lo8 hh8 hf8 hk8 _ hq8 => ?_)
  have mf8_tx_0 := (hk8.1 tx 0 0 0 0 fsX0 htx rfl (by decide) (by decide)).trans mf7_tx_0
  have mf8_tx_1 := (hk8.1 tx 0 1 0 0 fsX0 htx rfl (by decide) (by decide)).trans mf7_tx_1
  have mf8_dt_0 := (hk8.1 dt 1 0 1 0 fsX1 hdt rfl (by decide) (by decide)).trans mf7_dt_0
  have mf8_dt_4 := (hk8.1 dt 1 4 1 0 fsX1 hdt rfl (by decide) (by decide)).trans mf7_dt_4
  have kp8 := kp7.trans (hk8.mono (ms' := dtM) (fun x hx => by cases List.mem_singleton.mp hx; decide))
  have jm8 := (j7).kept htx hk8 (by decide)
  have fr8 : ∀ p9 : Nat, p9 ∉ [tx, dt] → H8[p9]? = s.heap[p9]? := fun p9 h9 => (hq8 p9 (fun e9 => h9 (by rw [e9]; exact (List.mem_cons_of_mem _ List.mem_cons_self)))).trans (fr7 p9 h9)
  have jd8 := jF.put hdt rfl (by decide) hk8 hf8 (show v7.toInt = x7.1 by omega) jd7
  refine lv_aload_n hx hb (eX1_scanFull (20, .aload_n 1, 1) (List.mem_of_getElem? (i := 12) rfl)) rfl (lv_at hl 1 rfl) ?_
  refine ff_bipush hx hb (eX1_scanFull (21, .bipush 45, 2) (List.mem_of_getElem? (i := 13) rfl)) (by decide) (by decide) (fun v9 e9 => ?_)
  refine tz_rowV (As := [.int v9]) (st := []) (b := tx) (C := RX0) (Ts := gT) hx hb hml hown h2 (fun _ h => h) (hX0_need l D cA ro sz H0 tx v9 45 T (x7.2) htx (by omega) (by decide)) ⟨rfl, rfl⟩ ⟨by decide, by decide⟩ ⟨by decide, by decide⟩ (tb_4 44 rfl rfl) (tb_1 5 rfl rfl) (tb_4 228 rfl rfl) (tb_4 42 rfl rfl) (tb_4 43 rfl rfl) (show yX0_need.cls ≠ "java/lang/invoke/MethodHandle" ∧ yX0_need.cls ≠ "java/lang/invoke/VarHandle" ∧ (parseMethodDescriptor yX0_need.desc).map (fun d => d.parameters.length) = some 1 by decide +kernel) zs_blind (zs_ob hh8 htx (show RTg[0]? = some (0, 0, 0, fsX0) from rfl) (zCX0 hKn.1)) (fun U hU hW => ⟨rfl, by rw [hU]; exact hh8.l0, zKb s U hW.alike hKn, by rw [hU]; exact jm8⟩) hh8.2.2.1 hl.1 (Nat.le_of_ble_eq_true rfl) (eX1_scanFull (23, .invokevirtual 75, 3) (List.mem_of_getElem? (i := 14) rfl)) (fun r10 s10 t10 lo10 g10 f10 l10 => ?_)
  obtain ⟨q10, z10, c10, j10, fx10⟩ := f10
  cases q10
  rw [g10] at c10 fx10
  have fr10 : ∀ p9 : Nat, p9 ∉ [tx, dt] → t10.heap[p9]? = s.heap[p9]? := fun p9 h9 => (fx10 p9 (fun q => h9 (by rw [List.mem_singleton.mp q]; exact List.mem_cons_self))).trans (fr8 p9 h9)
  have hh10 : zh_ok D cA RTg ro sz H0 t10.heap lo10 := ⟨z10.1, z10.2.1, l10, z10.2.2.2⟩
  have kp10 := kp8.trans (c10.mono (ms' := dtM) (by decide))
  generalize hx10 : ndF T 45 x7.2 = x10 at j10
  have uu10 := j10.2.2
  unfold uOK at uu10
  have mf10_tx_0 := (c10.1 tx 0 0 0 0 fsX0 htx rfl (by decide) (by decide)).trans mf8_tx_0
  have mf10_tx_1 := (c10.1 tx 0 1 0 0 fsX0 htx rfl (by decide) (by decide)).trans mf8_tx_1
  have mf10_dt_0 := (c10.1 dt 1 0 1 0 fsX1 hdt rfl (by decide) (by decide)).trans mf8_dt_0
  have mf10_dt_4 := (c10.1 dt 1 4 1 0 fsX1 hdt rfl (by decide) (by decide)).trans mf8_dt_4
  have mf10_dt_5 := (c10.1 dt 1 5 1 0 fsX1 hdt rfl (by decide) (by decide)).trans hf8
  have jd10 := jd8.kept hdt rfl (by decide) c10 (by decide)
  refine W.eq (g2 := F0 m 26 ls []) rfl ?_
  refine lv_aload_n hx hb (eX1_scanFull (26, .aload_n 0, 1) (List.mem_of_getElem? (i := 15) rfl)) rfl (lv_at hl 0 rfl) ?_
  refine lv_aload_n hx hb (eX1_scanFull (27, .aload_n 1, 1) (List.mem_of_getElem? (i := 16) rfl)) rfl (lv_at hl 1 rfl) ?_
  obtain ⟨jt11, ⟨av11, bv11, wv11, f211, f311, f411, hav11, hbv11, hwv11⟩, hu11⟩ := id j10
  refine tz_get (r := 0) (k := 2) (t := (0, (-2147483648), 2147483647)) hx hb hh10 htx rfl rfl (hcl0 79 2 (0, (-2147483648), 2147483647) (by decide) rfl).1 f211 (eX1_scanFull (28, .getfield 79, 3) (List.mem_of_getElem? (i := 17) rfl)) ?_
  refine tz_put (r := 1) (k := 6) (t := (0, (-2147483648), 2147483647)) hx hb hD hh10 hdt rfl rfl ((hcl1 31 6 (0, (-2147483648), 2147483647) (by decide) rfl).2 (by decide)) (tz_i (zn_i32 _).1 (zn_i32 _).2) (eX1_scanFull (31, .putfield 31, 3) (List.mem_of_getElem? (i := 18) rfl)) (fun H12 lo12 hh12 hf12 hk12 _ hq12 => ?_)
  have mf12_tx_0 := (hk12.1 tx 0 0 0 0 fsX0 htx rfl (by decide) (by decide)).trans mf10_tx_0
  have mf12_tx_1 := (hk12.1 tx 0 1 0 0 fsX0 htx rfl (by decide) (by decide)).trans mf10_tx_1
  have mf12_dt_0 := (hk12.1 dt 1 0 1 0 fsX1 hdt rfl (by decide) (by decide)).trans mf10_dt_0
  have mf12_dt_4 := (hk12.1 dt 1 4 1 0 fsX1 hdt rfl (by decide) (by decide)).trans mf10_dt_4
  have mf12_dt_5 := (hk12.1 dt 1 5 1 0 fsX1 hdt rfl (by decide) (by decide)).trans mf10_dt_5
  have mf12_tx_2 := (hk12.1 tx 0 2 0 0 fsX0 htx rfl (by decide) (by decide)).trans f211
  have mf12_tx_3 := (hk12.1 tx 0 3 0 0 fsX0 htx rfl (by decide) (by decide)).trans f311
  have mf12_tx_4 := (hk12.1 tx 0 4 0 0 fsX0 htx rfl (by decide) (by decide)).trans f411
  have kp12 := kp10.trans (hk12.mono (ms' := dtM) (fun x hx => by cases List.mem_singleton.mp hx; decide))
  have jm12 := (j10).kept htx hk12 (by decide)
  have fr12 : ∀ p9 : Nat, p9 ∉ [tx, dt] → H12[p9]? = s.heap[p9]? := fun p9 h9 => (hq12 p9 (fun e9 => h9 (by rw [e9]; exact (List.mem_cons_of_mem _ List.mem_cons_self)))).trans (fr10 p9 h9)
  have jd12 := jF.put hdt rfl (by decide) hk12 hf12 (show av11.toInt = (x10).1 by omega) jd10
  refine lv_aload_n hx hb (eX1_scanFull (34, .aload_n 0, 1) (List.mem_of_getElem? (i := 19) rfl)) rfl (lv_at hl 0 rfl) ?_
  refine lv_aload_n hx hb (eX1_scanFull (35, .aload_n 1, 1) (List.mem_of_getElem? (i := 20) rfl)) rfl (lv_at hl 1 rfl) ?_
  refine ff_iconst hx hb (eX1_scanFull (36, .iconst 2, 1) (List.mem_of_getElem? (i := 21) rfl)) (by decide) (by decide) (fun v13 e13 => ?_)
  refine ff_iconst hx hb (eX1_scanFull (37, .iconst 2, 1) (List.mem_of_getElem? (i := 22) rfl)) (by decide) (by decide) (fun v14 e14 => ?_)
  refine tz_rowV (As := [.int v13, .int v14]) (st := [.ref dt]) (b := tx) (C := RX0) (Ts := gT) hx hb hml hown h2 (fun _ h => h) (hX0_numberW l D cA ro sz H0 tx v13 v14 2 2 T (x10) htx (by omega) (by omega) (by decide)) ⟨rfl, rfl⟩ ⟨by decide, by decide⟩ ⟨by decide, by decide⟩ (tb_4 60 rfl rfl) (tb_1 5 rfl rfl) (tb_4 227 rfl rfl) (tb_4 58 rfl rfl) (tb_4 59 rfl rfl) (show yX0_number.cls ≠ "java/lang/invoke/MethodHandle" ∧ yX0_number.cls ≠ "java/lang/invoke/VarHandle" ∧ (parseMethodDescriptor yX0_number.desc).map (fun d => d.parameters.length) = some 2 by decide +kernel) zs_blind (zs_ob hh12 htx (show RTg[0]? = some (0, 0, 0, fsX0) from rfl) (zCX0 hKn.1)) (fun U hU hW => ⟨rfl, by rw [hU]; exact hh12.l0, zKb s U hW.alike hKn, by rw [hU]; exact jm12⟩) hh12.2.2.1 hl.1 (Nat.le_of_ble_eq_true rfl) (eX1_scanFull (38, .invokevirtual 71, 3) (List.mem_of_getElem? (i := 23) rfl)) (fun r15 s15 t15 lo15 g15 f15 l15 => ?_)
  obtain ⟨v15, q15, e15, z15, c15, j15, fx15⟩ := f15
  cases q15
  rw [g15] at c15 fx15
  have fr15 : ∀ p9 : Nat, p9 ∉ [tx, dt] → t15.heap[p9]? = s.heap[p9]? := fun p9 h9 => (fx15 p9 (fun q => h9 (by rw [List.mem_singleton.mp q]; exact List.mem_cons_self))).trans (fr12 p9 h9)
  have hh15 : zh_ok D cA RTg ro sz H0 t15.heap lo15 := ⟨z15.1, z15.2.1, l15, z15.2.2.2⟩
  have kp15 := kp12.trans (c15.mono (ms' := dtM) (by decide))
  have kf15 := nbF_hM (T := T) (ld := 2) (n := 2) (s := x10) (M := 99) (by decide)
  generalize hx15 : nbF T 2 2 0 0 x10 = x15 at j15 e15 kf15
  have uu15 := j15.2.2
  unfold uOK at uu15
  have mf15_tx_0 := (c15.1 tx 0 0 0 0 fsX0 htx rfl (by decide) (by decide)).trans mf12_tx_0
  have mf15_tx_1 := (c15.1 tx 0 1 0 0 fsX0 htx rfl (by decide) (by decide)).trans mf12_tx_1
  have mf15_dt_0 := (c15.1 dt 1 0 1 0 fsX1 hdt rfl (by decide) (by decide)).trans mf12_dt_0
  have mf15_dt_4 := (c15.1 dt 1 4 1 0 fsX1 hdt rfl (by decide) (by decide)).trans mf12_dt_4
  have mf15_dt_5 := (c15.1 dt 1 5 1 0 fsX1 hdt rfl (by decide) (by decide)).trans mf12_dt_5
  have mf15_dt_6 := (c15.1 dt 1 6 1 0 fsX1 hdt rfl (by decide) (by decide)).trans hf12
  have jd15 := jd12.kept hdt rfl (by decide) c15 (by decide)
  refine W.eq (g2 := F0 m 41 ls [.int v15, .ref dt]) rfl ?_
  refine tz_put (r := 1) (k := 7) (t := (0, (-2147483648), 2147483647)) hx hb hD hh15 hdt rfl rfl ((hcl1 34 7 (0, (-2147483648), 2147483647) (by decide) rfl).2 (by decide)) (tz_i (zn_i32 _).1 (zn_i32 _).2) (eX1_scanFull (41, .putfield 34, 3) (List.mem_of_getElem? (i := 24) rfl)) (fun H16 lo16 hh16 hf16 hk16 _ hq16 => ?_)
  have mf16_tx_0 := (hk16.1 tx 0 0 0 0 fsX0 htx rfl (by decide) (by decide)).trans mf15_tx_0
  have mf16_tx_1 := (hk16.1 tx 0 1 0 0 fsX0 htx rfl (by decide) (by decide)).trans mf15_tx_1
  have mf16_dt_0 := (hk16.1 dt 1 0 1 0 fsX1 hdt rfl (by decide) (by decide)).trans mf15_dt_0
  have mf16_dt_4 := (hk16.1 dt 1 4 1 0 fsX1 hdt rfl (by decide) (by decide)).trans mf15_dt_4
  have mf16_dt_5 := (hk16.1 dt 1 5 1 0 fsX1 hdt rfl (by decide) (by decide)).trans mf15_dt_5
  have mf16_dt_6 := (hk16.1 dt 1 6 1 0 fsX1 hdt rfl (by decide) (by decide)).trans mf15_dt_6
  have kp16 := kp15.trans (hk16.mono (ms' := dtM) (fun x hx => by cases List.mem_singleton.mp hx; decide))
  have jm16 := (j15).kept htx hk16 (by decide)
  have fr16 : ∀ p9 : Nat, p9 ∉ [tx, dt] → H16[p9]? = s.heap[p9]? := fun p9 h9 => (hq16 p9 (fun e9 => h9 (by rw [e9]; exact (List.mem_cons_of_mem _ List.mem_cons_self)))).trans (fr15 p9 h9)
  have jd16 := jF.put hdt rfl (by decide) hk16 hf16 (show v15.toInt = x15.1 by omega) jd15
  refine lv_aload_n hx hb (eX1_scanFull (44, .aload_n 1, 1) (List.mem_of_getElem? (i := 25) rfl)) rfl (lv_at hl 1 rfl) ?_
  refine ff_bipush hx hb (eX1_scanFull (45, .bipush 45, 2) (List.mem_of_getElem? (i := 26) rfl)) (by decide) (by decide) (fun v17 e17 => ?_)
  refine tz_rowV (As := [.int v17]) (st := []) (b := tx) (C := RX0) (Ts := gT) hx hb hml hown h2 (fun _ h => h) (hX0_need l D cA ro sz H0 tx v17 45 T (x15.2) htx (by omega) (by decide)) ⟨rfl, rfl⟩ ⟨by decide, by decide⟩ ⟨by decide, by decide⟩ (tb_4 44 rfl rfl) (tb_1 5 rfl rfl) (tb_4 228 rfl rfl) (tb_4 42 rfl rfl) (tb_4 43 rfl rfl) (show yX0_need.cls ≠ "java/lang/invoke/MethodHandle" ∧ yX0_need.cls ≠ "java/lang/invoke/VarHandle" ∧ (parseMethodDescriptor yX0_need.desc).map (fun d => d.parameters.length) = some 1 by decide +kernel) zs_blind (zs_ob hh16 htx (show RTg[0]? = some (0, 0, 0, fsX0) from rfl) (zCX0 hKn.1)) (fun U hU hW => ⟨rfl, by rw [hU]; exact hh16.l0, zKb s U hW.alike hKn, by rw [hU]; exact jm16⟩) hh16.2.2.1 hl.1 (Nat.le_of_ble_eq_true rfl) (eX1_scanFull (47, .invokevirtual 75, 3) (List.mem_of_getElem? (i := 27) rfl)) (fun r18 s18 t18 lo18 g18 f18 l18 => ?_)
  obtain ⟨q18, z18, c18, j18, fx18⟩ := f18
  cases q18
  rw [g18] at c18 fx18
  have fr18 : ∀ p9 : Nat, p9 ∉ [tx, dt] → t18.heap[p9]? = s.heap[p9]? := fun p9 h9 => (fx18 p9 (fun q => h9 (by rw [List.mem_singleton.mp q]; exact List.mem_cons_self))).trans (fr16 p9 h9)
  have hh18 : zh_ok D cA RTg ro sz H0 t18.heap lo18 := ⟨z18.1, z18.2.1, l18, z18.2.2.2⟩
  have kp18 := kp16.trans (c18.mono (ms' := dtM) (by decide))
  generalize hx18 : ndF T 45 x15.2 = x18 at j18
  have uu18 := j18.2.2
  unfold uOK at uu18
  have mf18_tx_0 := (c18.1 tx 0 0 0 0 fsX0 htx rfl (by decide) (by decide)).trans mf16_tx_0
  have mf18_tx_1 := (c18.1 tx 0 1 0 0 fsX0 htx rfl (by decide) (by decide)).trans mf16_tx_1
  have mf18_dt_0 := (c18.1 dt 1 0 1 0 fsX1 hdt rfl (by decide) (by decide)).trans mf16_dt_0
  have mf18_dt_4 := (c18.1 dt 1 4 1 0 fsX1 hdt rfl (by decide) (by decide)).trans mf16_dt_4
  have mf18_dt_5 := (c18.1 dt 1 5 1 0 fsX1 hdt rfl (by decide) (by decide)).trans mf16_dt_5
  have mf18_dt_6 := (c18.1 dt 1 6 1 0 fsX1 hdt rfl (by decide) (by decide)).trans mf16_dt_6
  have mf18_dt_7 := (c18.1 dt 1 7 1 0 fsX1 hdt rfl (by decide) (by decide)).trans hf16
  have jd18 := jd16.kept hdt rfl (by decide) c18 (by decide)
  refine W.eq (g2 := F0 m 50 ls []) rfl ?_
  refine lv_aload_n hx hb (eX1_scanFull (50, .aload_n 0, 1) (List.mem_of_getElem? (i := 28) rfl)) rfl (lv_at hl 0 rfl) ?_
  refine lv_aload_n hx hb (eX1_scanFull (51, .aload_n 1, 1) (List.mem_of_getElem? (i := 29) rfl)) rfl (lv_at hl 1 rfl) ?_
  obtain ⟨jt19, ⟨av19, bv19, wv19, f219, f319, f419, hav19, hbv19, hwv19⟩, hu19⟩ := id j18
  refine tz_get (r := 0) (k := 2) (t := (0, (-2147483648), 2147483647)) hx hb hh18 htx rfl rfl (hcl0 79 2 (0, (-2147483648), 2147483647) (by decide) rfl).1 f219 (eX1_scanFull (52, .getfield 79, 3) (List.mem_of_getElem? (i := 30) rfl)) ?_
  refine tz_put (r := 1) (k := 8) (t := (0, (-2147483648), 2147483647)) hx hb hD hh18 hdt rfl rfl ((hcl1 37 8 (0, (-2147483648), 2147483647) (by decide) rfl).2 (by decide)) (tz_i (zn_i32 _).1 (zn_i32 _).2) (eX1_scanFull (55, .putfield 37, 3) (List.mem_of_getElem? (i := 31) rfl)) (fun H20 lo20 hh20 hf20 hk20 _ hq20 => ?_)
  have mf20_tx_0 := (hk20.1 tx 0 0 0 0 fsX0 htx rfl (by decide) (by decide)).trans mf18_tx_0
  have mf20_tx_1 := (hk20.1 tx 0 1 0 0 fsX0 htx rfl (by decide) (by decide)).trans mf18_tx_1
  have mf20_dt_0 := (hk20.1 dt 1 0 1 0 fsX1 hdt rfl (by decide) (by decide)).trans mf18_dt_0
  have mf20_dt_4 := (hk20.1 dt 1 4 1 0 fsX1 hdt rfl (by decide) (by decide)).trans mf18_dt_4
  have mf20_dt_5 := (hk20.1 dt 1 5 1 0 fsX1 hdt rfl (by decide) (by decide)).trans mf18_dt_5
  have mf20_dt_6 := (hk20.1 dt 1 6 1 0 fsX1 hdt rfl (by decide) (by decide)).trans mf18_dt_6
  have mf20_dt_7 := (hk20.1 dt 1 7 1 0 fsX1 hdt rfl (by decide) (by decide)).trans mf18_dt_7
  have mf20_tx_2 := (hk20.1 tx 0 2 0 0 fsX0 htx rfl (by decide) (by decide)).trans f219
  have mf20_tx_3 := (hk20.1 tx 0 3 0 0 fsX0 htx rfl (by decide) (by decide)).trans f319
  have mf20_tx_4 := (hk20.1 tx 0 4 0 0 fsX0 htx rfl (by decide) (by decide)).trans f419
  have kp20 := kp18.trans (hk20.mono (ms' := dtM) (fun x hx => by cases List.mem_singleton.mp hx; decide))
  have jm20 := (j18).kept htx hk20 (by decide)
  have fr20 : ∀ p9 : Nat, p9 ∉ [tx, dt] → H20[p9]? = s.heap[p9]? := fun p9 h9 => (hq20 p9 (fun e9 => h9 (by rw [e9]; exact (List.mem_cons_of_mem _ List.mem_cons_self)))).trans (fr18 p9 h9)
  have jd20 := jF.put hdt rfl (by decide) hk20 hf20 (show av19.toInt = (x18).1 by omega) jd18
  refine lv_aload_n hx hb (eX1_scanFull (58, .aload_n 0, 1) (List.mem_of_getElem? (i := 32) rfl)) rfl (lv_at hl 0 rfl) ?_
  refine lv_aload_n hx hb (eX1_scanFull (59, .aload_n 1, 1) (List.mem_of_getElem? (i := 33) rfl)) rfl (lv_at hl 1 rfl) ?_
  refine ff_iconst hx hb (eX1_scanFull (60, .iconst 2, 1) (List.mem_of_getElem? (i := 34) rfl)) (by decide) (by decide) (fun v21 e21 => ?_)
  refine ff_iconst hx hb (eX1_scanFull (61, .iconst 2, 1) (List.mem_of_getElem? (i := 35) rfl)) (by decide) (by decide) (fun v22 e22 => ?_)
  refine tz_rowV (As := [.int v21, .int v22]) (st := [.ref dt]) (b := tx) (C := RX0) (Ts := gT) hx hb hml hown h2 (fun _ h => h) (hX0_numberW l D cA ro sz H0 tx v21 v22 2 2 T (x18) htx (by omega) (by omega) (by decide)) ⟨rfl, rfl⟩ ⟨by decide, by decide⟩ ⟨by decide, by decide⟩ (tb_4 60 rfl rfl) (tb_1 5 rfl rfl) (tb_4 227 rfl rfl) (tb_4 58 rfl rfl) (tb_4 59 rfl rfl) (show yX0_number.cls ≠ "java/lang/invoke/MethodHandle" ∧ yX0_number.cls ≠ "java/lang/invoke/VarHandle" ∧ (parseMethodDescriptor yX0_number.desc).map (fun d => d.parameters.length) = some 2 by decide +kernel) zs_blind (zs_ob hh20 htx (show RTg[0]? = some (0, 0, 0, fsX0) from rfl) (zCX0 hKn.1)) (fun U hU hW => ⟨rfl, by rw [hU]; exact hh20.l0, zKb s U hW.alike hKn, by rw [hU]; exact jm20⟩) hh20.2.2.1 hl.1 (Nat.le_of_ble_eq_true rfl) (eX1_scanFull (62, .invokevirtual 71, 3) (List.mem_of_getElem? (i := 36) rfl)) (fun r23 s23 t23 lo23 g23 f23 l23 => ?_)
  obtain ⟨v23, q23, e23, z23, c23, j23, fx23⟩ := f23
  cases q23
  rw [g23] at c23 fx23
  have fr23 : ∀ p9 : Nat, p9 ∉ [tx, dt] → t23.heap[p9]? = s.heap[p9]? := fun p9 h9 => (fx23 p9 (fun q => h9 (by rw [List.mem_singleton.mp q]; exact List.mem_cons_self))).trans (fr20 p9 h9)
  have hh23 : zh_ok D cA RTg ro sz H0 t23.heap lo23 := ⟨z23.1, z23.2.1, l23, z23.2.2.2⟩
  have kp23 := kp20.trans (c23.mono (ms' := dtM) (by decide))
  have kf23 := nbF_hM (T := T) (ld := 2) (n := 2) (s := x18) (M := 99) (by decide)
  generalize hx23 : nbF T 2 2 0 0 x18 = x23 at j23 e23 kf23
  have uu23 := j23.2.2
  unfold uOK at uu23
  have mf23_tx_0 := (c23.1 tx 0 0 0 0 fsX0 htx rfl (by decide) (by decide)).trans mf20_tx_0
  have mf23_tx_1 := (c23.1 tx 0 1 0 0 fsX0 htx rfl (by decide) (by decide)).trans mf20_tx_1
  have mf23_dt_0 := (c23.1 dt 1 0 1 0 fsX1 hdt rfl (by decide) (by decide)).trans mf20_dt_0
  have mf23_dt_4 := (c23.1 dt 1 4 1 0 fsX1 hdt rfl (by decide) (by decide)).trans mf20_dt_4
  have mf23_dt_5 := (c23.1 dt 1 5 1 0 fsX1 hdt rfl (by decide) (by decide)).trans mf20_dt_5
  have mf23_dt_6 := (c23.1 dt 1 6 1 0 fsX1 hdt rfl (by decide) (by decide)).trans mf20_dt_6
  have mf23_dt_7 := (c23.1 dt 1 7 1 0 fsX1 hdt rfl (by decide) (by decide)).trans mf20_dt_7
  have mf23_dt_8 := (c23.1 dt 1 8 1 0 fsX1 hdt rfl (by decide) (by decide)).trans hf20
  have jd23 := jd20.kept hdt rfl (by decide) c23 (by decide)
  refine W.eq (g2 := F0 m 65 ls [.int v23, .ref dt]) rfl ?_
  refine tz_put (r := 1) (k := 9) (t := (0, (-2147483648), 2147483647)) hx hb hD hh23 hdt rfl rfl ((hcl1 40 9 (0, (-2147483648), 2147483647) (by decide) rfl).2 (by decide)) (tz_i (zn_i32 _).1 (zn_i32 _).2) (eX1_scanFull (65, .putfield 40, 3) (List.mem_of_getElem? (i := 37) rfl)) (fun H24 lo24 hh24 hf24 hk24 _ hq24 => ?_)
  have mf24_tx_0 := (hk24.1 tx 0 0 0 0 fsX0 htx rfl (by decide) (by decide)).trans mf23_tx_0
  have mf24_tx_1 := (hk24.1 tx 0 1 0 0 fsX0 htx rfl (by decide) (by decide)).trans mf23_tx_1
  have mf24_dt_0 := (hk24.1 dt 1 0 1 0 fsX1 hdt rfl (by decide) (by decide)).trans mf23_dt_0
  have mf24_dt_4 := (hk24.1 dt 1 4 1 0 fsX1 hdt rfl (by decide) (by decide)).trans mf23_dt_4
  have mf24_dt_5 := (hk24.1 dt 1 5 1 0 fsX1 hdt rfl (by decide) (by decide)).trans mf23_dt_5
  have mf24_dt_6 := (hk24.1 dt 1 6 1 0 fsX1 hdt rfl (by decide) (by decide)).trans mf23_dt_6
  have mf24_dt_7 := (hk24.1 dt 1 7 1 0 fsX1 hdt rfl (by decide) (by decide)).trans mf23_dt_7
  have mf24_dt_8 := (hk24.1 dt 1 8 1 0 fsX1 hdt rfl (by decide) (by decide)).trans mf23_dt_8
  have kp24 := kp23.trans (hk24.mono (ms' := dtM) (fun x hx => by cases List.mem_singleton.mp hx; decide))
  have jm24 := (j23).kept htx hk24 (by decide)
  have fr24 : ∀ p9 : Nat, p9 ∉ [tx, dt] → H24[p9]? = s.heap[p9]? := fun p9 h9 => (hq24 p9 (fun e9 => h9 (by rw [e9]; exact (List.mem_cons_of_mem _ List.mem_cons_self)))).trans (fr23 p9 h9)
  have jd24 := jF.put hdt rfl (by decide) hk24 hf24 (show v23.toInt = x23.1 by omega) jd23
  have hfin : dfF T (f, sg) = ((upF (upF (upF (upF (upF (upF (upF f 0 (0)) 4 (0)) 5 (x7.1)) 6 ((x10).1)) 7 (x15.1)) 8 ((x18).1)) 9 (x23.1)), x23.2) := by first | (simp only [dfF, nmF, hx7, hx10, hx15, hx18, hx23, up_eq]; done) | (simp only [dfF, nmF, hx7, hx10, hx15, hx18, hx23, up_eq] <;> rfl) | rfl
  exact W.vret hx hb hr (fun t ht hW => ⟨rfl, by rw [ht]; exact hh24.l0, by rw [ht]; exact kp24, by rw [ht, hfin]; exact jm24, by rw [ht, hfin]; exact jd24, by rw [ht]; exact fr24⟩) hh24.2.2.1 (eX1_scanFull (68, .return_, 1) (List.mem_of_getElem? (i := 38) rfl))
set_option maxRecDepth 100000 in
set_option maxHeartbeats 4000000 in
theorem hX1_scan (l : Launch) (D : va_G) (cA : Nat → ClassId) (ro : Nat → Option Nat) (sz : Nat) (H0 : Heap) (dt : Nat) (tx : Nat) (wq : Int32) (wh : Int) (T : List Int) (sg : uS) (f : fN) (hdt : ro dt = some 1) (htx : ro tx = some 0) (hwh : wq.toInt = wh) (hwb : wh = 0 ∨ wh = 1) : Met l yX1_scan (gW yX1_scan cX1_scan 4 none) { frames := 3, cells := 0, slots := 0, locals := 68 } (zs_P D cA ro sz H0 (fun H => jU D cA ro H tx T sg ∧ jF D H dt 1 10 f) [.ref dt, .ref tx, .int wq]) (du_V D cA ro sz H0 dtM tx T dt 1 10 (dtF T wh (f, sg))) 0 0 (zy_fr sz) := by
  refine zy_ofW (cc := cX1_scan) (maxL := 4) (ret := none) (by decide +kernel) rfl ?_
  intro p e s m args below meth c s1 B hml hv
  obtain ⟨rfl, hh, hKn, hJ⟩ := hv
  have hx := B.exec
  have hb := B.bytes
  have hr := B.returns
  have hlk := B.notSynchronized
  have hts0 := atoms_spec (ws := gW yX1_scan cX1_scan 4 none) B.pre
  have h2 : ∀ w ∈ gT, w.before ([.ref dt, .ref tx, .int wq] : List Value).toArray s = true := fun w hw => hts0 w (List.mem_cons_of_mem _ hw)
  have hown : s.vm.findClass RX1 = some m.cls := findClass_of_methodNamed B.named
  have hl := lv_entry [.ref dt, .ref tx, .int wq] (n := 4) (Nat.le_of_ble_eq_true rfl)
  rw [lg_entry_eq]
  generalize (lg_sl [.ref dt, .ref tx, .int wq] ++ List.replicate (4 - (lg_sl [.ref dt, .ref tx, .int wq]).length) Slot.unset).toArray = ls at hl ⊢
  have b_wq := zn_i32 wq
  have hD := zD_all h2 hKn.1
  have hcl0 := fun (idx k : Nat) (t : zt_T) (h : (idx, 0, k) ∈ gfX1) (hk : fsX0[k]? = some t) => zf_clause (ro := ro) (ms := dtM) h2 hown hKn.1 gfX1_ok (by decide +kernel) idx 0 k 0 0 fsX0 t h rfl hk
  have hcl1 := fun (idx k : Nat) (t : zt_T) (h : (idx, 1, k) ∈ gfX1) (hk : fsX1[k]? = some t) => zf_clause (ro := ro) (ms := dtM) h2 hown hKn.1 gfX1_ok (by decide +kernel) idx 1 k 1 0 fsX1 t h rfl hk
  have kp0 : zc_kept D RTg ro dtM s.heap s.heap := zc_kept.refl
  obtain ⟨hJ, jd0⟩ := hJ
  obtain ⟨hjt, ⟨av, bv, wv, f2, f3, f4, hav, hbv, hwv⟩, hu⟩ := id hJ
  obtain ⟨tb, n, z, f0, r0, f1, hn, hc, hz⟩ := id hjt
  obtain ⟨n9, g9, n1, n2⟩ := zh_fT (k := 1) (t := (0, 0, 120)) hh htx (show RTg[0]? = some (0, 0, 0, fsX0) from rfl) rfl
  cases f1.symm.trans g9
  dsimp only at n1 n2
  clear g9
  obtain ⟨-, z9, c9, hy9⟩ := zh_arr hh r0 (show RTg[12]? = some (1, 2, 120, [(0, (-128), 127)]) from rfl)
  have hy : ∀ i, i < 120 → zt_ok ro (z i) (0, (-128), 127) := zs_arr (hc.symm.trans c9) hy9
  obtain ⟨u1, u2, u3⟩ := id hu
  have fr0 : ∀ p9 : Nat, p9 ∉ [tx, dt] → s.heap[p9]? = s.heap[p9]? := fun _ _ => rfl
  refine lv_aload_n hx hb (eX1_scan (0, .aload_n 0, 1) (List.mem_of_getElem? (i := 0) rfl)) rfl (lv_at hl 0 rfl) ?_
  refine ff_iconst hx hb (eX1_scan (1, .iconst 1, 1) (List.mem_of_getElem? (i := 1) rfl)) (by decide) (by decide) (fun v1 e1 => ?_)
  refine tz_put (r := 1) (k := 7) (t := (0, (-2147483648), 2147483647)) hx hb hD hh hdt rfl rfl ((hcl1 34 7 (0, (-2147483648), 2147483647) (by decide) rfl).2 (by decide)) (tz_i (zn_i32 _).1 (zn_i32 _).2) (eX1_scan (2, .putfield 34, 3) (List.mem_of_getElem? (i := 2) rfl)) (fun H2 lo2 hh2 hf2 hk2 _ hq2 => ?_)
  have mf2_tx_0 := (hk2.1 tx 0 0 0 0 fsX0 htx rfl (by decide) (by decide)).trans f0
  have mf2_tx_1 := (hk2.1 tx 0 1 0 0 fsX0 htx rfl (by decide) (by decide)).trans f1
  have mf2_tx_2 := (hk2.1 tx 0 2 0 0 fsX0 htx rfl (by decide) (by decide)).trans f2
  have mf2_tx_3 := (hk2.1 tx 0 3 0 0 fsX0 htx rfl (by decide) (by decide)).trans f3
  have mf2_tx_4 := (hk2.1 tx 0 4 0 0 fsX0 htx rfl (by decide) (by decide)).trans f4
  have mc2_tb := (hk2.2 tb 12 0 2 120 _ r0 rfl (by decide)).trans hc
  have kp2 := kp0.trans (hk2.mono (ms' := dtM) (fun x hx => by cases List.mem_singleton.mp hx; decide))
  have jm2 := (hJ).kept htx hk2 (by decide)
  have fr2 : ∀ p9 : Nat, p9 ∉ [tx, dt] → H2[p9]? = s.heap[p9]? := fun p9 h9 => (hq2 p9 (fun e9 => h9 (by rw [e9]; exact (List.mem_cons_of_mem _ List.mem_cons_self)))).trans (fr0 p9 h9)
  have jd2 := jF.put hdt rfl (by decide) hk2 hf2 (show v1.toInt = 1 by omega) jd0
  refine lv_aload_n hx hb (eX1_scan (5, .aload_n 0, 1) (List.mem_of_getElem? (i := 3) rfl)) rfl (lv_at hl 0 rfl) ?_
  refine ff_iconst hx hb (eX1_scan (6, .iconst 1, 1) (List.mem_of_getElem? (i := 4) rfl)) (by decide) (by decide) (fun v3 e3 => ?_)
  refine tz_put (r := 1) (k := 9) (t := (0, (-2147483648), 2147483647)) hx hb hD hh2 hdt rfl rfl ((hcl1 40 9 (0, (-2147483648), 2147483647) (by decide) rfl).2 (by decide)) (tz_i (zn_i32 _).1 (zn_i32 _).2) (eX1_scan (7, .putfield 40, 3) (List.mem_of_getElem? (i := 5) rfl)) (fun H4 lo4 hh4 hf4 hk4 _ hq4 => ?_)
  have mf4_tx_0 := (hk4.1 tx 0 0 0 0 fsX0 htx rfl (by decide) (by decide)).trans mf2_tx_0
  have mf4_tx_1 := (hk4.1 tx 0 1 0 0 fsX0 htx rfl (by decide) (by decide)).trans mf2_tx_1
  have mf4_tx_2 := (hk4.1 tx 0 2 0 0 fsX0 htx rfl (by decide) (by decide)).trans mf2_tx_2
  have mf4_tx_3 := (hk4.1 tx 0 3 0 0 fsX0 htx rfl (by decide) (by decide)).trans mf2_tx_3
  have mf4_tx_4 := (hk4.1 tx 0 4 0 0 fsX0 htx rfl (by decide) (by decide)).trans mf2_tx_4
  have mf4_dt_7 := (hk4.1 dt 1 7 1 0 fsX1 hdt rfl (by decide) (by decide)).trans hf2
  have mc4_tb := (hk4.2 tb 12 0 2 120 _ r0 rfl (by decide)).trans mc2_tb
  have kp4 := kp2.trans (hk4.mono (ms' := dtM) (fun x hx => by cases List.mem_singleton.mp hx; decide))
  have jm4 := (jm2).kept htx hk4 (by decide)
  have fr4 : ∀ p9 : Nat, p9 ∉ [tx, dt] → H4[p9]? = s.heap[p9]? := fun p9 h9 => (hq4 p9 (fun e9 => h9 (by rw [e9]; exact (List.mem_cons_of_mem _ List.mem_cons_self)))).trans (fr2 p9 h9)
  have jd4 := jF.put hdt rfl (by decide) hk4 hf4 (show v3.toInt = 1 by omega) jd2
  refine lv_aload_n hx hb (eX1_scan (10, .aload_n 0, 1) (List.mem_of_getElem? (i := 6) rfl)) rfl (lv_at hl 0 rfl) ?_
  refine lv_aload_n hx hb (eX1_scan (11, .aload_n 1, 1) (List.mem_of_getElem? (i := 7) rfl)) rfl (lv_at hl 1 rfl) ?_
  refine tz_rowV (As := [.ref tx]) (st := []) (b := dt) (C := RX1) (Ts := gT) hx hb hml hown h2 (fun _ h => h) (hX1_scanYear l D cA ro sz H0 dt tx  T (sg) ((upF (upF f 7 (1)) 9 (1))) hdt htx ) ⟨rfl, rfl⟩ ⟨by decide, by decide⟩ ⟨by decide, by decide⟩ (tb_5 108 rfl rfl) (tb_1 8 rfl rfl) (tb_5 105 rfl rfl) (tb_5 106 rfl rfl) (tb_5 107 rfl rfl) (show yX1_scanYear.cls ≠ "java/lang/invoke/MethodHandle" ∧ yX1_scanYear.cls ≠ "java/lang/invoke/VarHandle" ∧ (parseMethodDescriptor yX1_scanYear.desc).map (fun d => d.parameters.length) = some 1 by decide +kernel) zs_blind (zs_ob hh4 hdt (show RTg[1]? = some (0, 1, 0, fsX1) from rfl) (zCX1 hKn.1)) (fun U hU hW => ⟨rfl, by rw [hU]; exact hh4.l0, zKb s U hW.alike hKn, by rw [hU]; exact ⟨jm4, jd4⟩⟩) hh4.2.2.1 hl.1 (Nat.le_of_ble_eq_true rfl) (eX1_scan (12, .invokevirtual 43, 3) (List.mem_of_getElem? (i := 8) rfl)) (fun r5 s5 t5 lo5 g5 f5 l5 => ?_)
  obtain ⟨q5, z5, c5, j5, jd5, fx5⟩ := f5
  cases q5
  rw [g5] at c5 fx5
  have fr5 : ∀ p9 : Nat, p9 ∉ [tx, dt] → t5.heap[p9]? = s.heap[p9]? := fun p9 h9 => (fx5 p9 (fun q => h9 (by rcases List.mem_cons.mp q with q | q; (rw [q]; exact List.mem_cons_self); (rw [List.mem_singleton.mp q]; exact (List.mem_cons_of_mem _ List.mem_cons_self))))).trans (fr4 p9 h9)
  have hh5 : zh_ok D cA RTg ro sz H0 t5.heap lo5 := ⟨z5.1, z5.2.1, l5, z5.2.2.2⟩
  have kp5 := kp4.trans (c5.mono (ms' := dtM) (by decide))
  generalize hx5 : yrF T ((upF (upF f 7 (1)) 9 (1)), sg) = x5 at j5 jd5
  have uu5 := j5.2.2
  unfold uOK at uu5
  refine W.eq (g2 := F0 m 15 ls []) rfl ?_
  refine lv_aload_n hx hb (eX1_scan (15, .aload_n 0, 1) (List.mem_of_getElem? (i := 9) rfl)) rfl (lv_at hl 0 rfl) ?_
  refine lv_aload_n hx hb (eX1_scan (16, .aload_n 1, 1) (List.mem_of_getElem? (i := 10) rfl)) rfl (lv_at hl 1 rfl) ?_
  refine ff_bipush hx hb (eX1_scan (17, .bipush 45, 2) (List.mem_of_getElem? (i := 11) rfl)) (by decide) (by decide) (fun v6 e6 => ?_)
  refine tz_rowV (As := [.int v6]) (st := [.ref dt]) (b := tx) (C := RX0) (Ts := gT) hx hb hml hown h2 (fun _ h => h) (hX0_take l D cA ro sz H0 tx v6 45 T (x5.2) htx (by omega) (by decide)) ⟨rfl, rfl⟩ ⟨by decide, by decide⟩ ⟨by decide, by decide⟩ (tb_4 8 rfl rfl) (tb_1 5 rfl rfl) (tb_5 109 rfl rfl) (tb_4 6 rfl rfl) (tb_4 7 rfl rfl) (show yX0_take.cls ≠ "java/lang/invoke/MethodHandle" ∧ yX0_take.cls ≠ "java/lang/invoke/VarHandle" ∧ (parseMethodDescriptor yX0_take.desc).map (fun d => d.parameters.length) = some 1 by decide +kernel) zs_blind (zs_ob hh5 htx (show RTg[0]? = some (0, 0, 0, fsX0) from rfl) (zCX0 hKn.1)) (fun U hU hW => ⟨rfl, by rw [hU]; exact hh5.l0, zKb s U hW.alike hKn, by rw [hU]; exact j5⟩) hh5.2.2.1 hl.1 (Nat.le_of_ble_eq_true rfl) (eX1_scan (19, .invokevirtual 47, 3) (List.mem_of_getElem? (i := 12) rfl)) (fun r7 s7 t7 lo7 g7 f7 l7 => ?_)
  obtain ⟨v7, q7, e7, z7, c7, j7, fx7⟩ := f7
  cases q7
  rw [g7] at c7 fx7
  have fr7 : ∀ p9 : Nat, p9 ∉ [tx, dt] → t7.heap[p9]? = s.heap[p9]? := fun p9 h9 => (fx7 p9 (fun q => h9 (by rw [List.mem_singleton.mp q]; exact List.mem_cons_self))).trans (fr5 p9 h9)
  have hh7 : zh_ok D cA RTg ro sz H0 t7.heap lo7 := ⟨z7.1, z7.2.1, l7, z7.2.2.2⟩
  have kp7 := kp5.trans (c7.mono (ms' := dtM) (by decide))
  have kf7 := tkF_01 T 45 x5.2
  generalize hx7 : tkF T 45 x5.2 = x7 at j7 e7 kf7
  have uu7 := j7.2.2
  unfold uOK at uu7
  have jd7 := jd5.kept hdt rfl (by decide) c7 (by decide)
  refine W.eq (g2 := F0 m 22 ls [.int v7, .ref dt]) rfl ?_
  refine tz_put (r := 1) (k := 1) (t := (0, 0, 1)) hx hb hD hh7 hdt rfl rfl ((hcl1 15 1 (0, 0, 1) (by decide) rfl).2 (by decide)) (tz_i (by omega) (by omega)) (eX1_scan (22, .putfield 15, 3) (List.mem_of_getElem? (i := 13) rfl)) (fun H8 lo8 hh8 hf8 hk8 _ hq8 => ?_)
  have kp8 := kp7.trans (hk8.mono (ms' := dtM) (fun x hx => by cases List.mem_singleton.mp hx; decide))
  have jm8 := (j7).kept htx hk8 (by decide)
  have fr8 : ∀ p9 : Nat, p9 ∉ [tx, dt] → H8[p9]? = s.heap[p9]? := fun p9 h9 => (hq8 p9 (fun e9 => h9 (by rw [e9]; exact (List.mem_cons_of_mem _ List.mem_cons_self)))).trans (fr7 p9 h9)
  have jd8 := jF.put hdt rfl (by decide) hk8 hf8 (show v7.toInt = x7.1 by omega) jd7
  refine lv_aload_n hx hb (eX1_scan (25, .aload_n 0, 1) (List.mem_of_getElem? (i := 14) rfl)) rfl (lv_at hl 0 rfl) ?_
  refine tz_get (r := 1) (k := 1) (t := (0, 0, 1)) hx hb hh8 hdt rfl rfl (hcl1 15 1 (0, 0, 1) (by decide) rfl).1 hf8 (eX1_scan (26, .getfield 15, 3) (List.mem_of_getElem? (i := 15) rfl)) ?_
  refine ff_if_ne hx hb (eX1_scan (29, .ifCond .ne 10, 3) (List.mem_of_getElem? (i := 16) rfl)) (tgt := 39) rfl (fun c9 => ?_) (fun c9 => ?_)
  · skip
    have d7 : x7.1 = 1 := by omega
    refine ff_iconst hx hb (eX1_scan (39, .iconst 1, 1) (List.mem_of_getElem? (i := 20) rfl)) (by decide) (by decide) (fun v10 e10 => ?_)
    refine lv_goto hx hb (eX1_scan (40, .goto 4, 3) (List.mem_of_getElem? (i := 21) rfl)) (tgt := 44) rfl ?_
    refine lv_istore_n hx hb (eX1_scan (44, .istore_n 3, 1) (List.mem_of_getElem? (i := 23) rfl)) rfl hl (by decide) rfl (fun ls11 hl11 => ?_)
    have dg : (x7.1 = 1 ∨ x5.1 3 = 0) := by omega
    refine lv_iload_n hx hb (eX1_scan (45, .iload_n 3, 1) (List.mem_of_getElem? (i := 24) rfl)) rfl (lv_at hl11 0 rfl) ?_
    refine ff_if_eq hx hb (eX1_scan (46, .ifCond .eq 21, 3) (List.mem_of_getElem? (i := 25) rfl)) (tgt := 67) rfl (fun c12 => (by exfalso; omega)) (fun c12 => ?_)
    refine lv_aload_n hx hb (eX1_scan (49, .aload_n 1, 1) (List.mem_of_getElem? (i := 26) rfl)) rfl (lv_at hl11 2 rfl) ?_
    refine ff_bipush hx hb (eX1_scan (50, .bipush 87, 2) (List.mem_of_getElem? (i := 27) rfl)) (by decide) (by decide) (fun v13 e13 => ?_)
    refine tz_rowV (As := [.int v13]) (st := []) (b := tx) (C := RX0) (Ts := gT) hx hb hml hown h2 (fun _ h => h) (hX0_take l D cA ro sz H0 tx v13 87 T (x7.2) htx (by omega) (by decide)) ⟨rfl, rfl⟩ ⟨by decide, by decide⟩ ⟨by decide, by decide⟩ (tb_4 8 rfl rfl) (tb_1 5 rfl rfl) (tb_5 109 rfl rfl) (tb_4 6 rfl rfl) (tb_4 7 rfl rfl) (show yX0_take.cls ≠ "java/lang/invoke/MethodHandle" ∧ yX0_take.cls ≠ "java/lang/invoke/VarHandle" ∧ (parseMethodDescriptor yX0_take.desc).map (fun d => d.parameters.length) = some 1 by decide +kernel) zs_blind (zs_ob hh8 htx (show RTg[0]? = some (0, 0, 0, fsX0) from rfl) (zCX0 hKn.1)) (fun U hU hW => ⟨rfl, by rw [hU]; exact hh8.l0, zKb s U hW.alike hKn, by rw [hU]; exact jm8⟩) hh8.2.2.1 hl11.1 (Nat.le_of_ble_eq_true rfl) (eX1_scan (52, .invokevirtual 47, 3) (List.mem_of_getElem? (i := 28) rfl)) (fun r14 s14 t14 lo14 g14 f14 l14 => ?_)
    obtain ⟨v14, q14, e14, z14, c14, j14, fx14⟩ := f14
    cases q14
    rw [g14] at c14 fx14
    have fr14 : ∀ p9 : Nat, p9 ∉ [tx, dt] → t14.heap[p9]? = s.heap[p9]? := fun p9 h9 => (fx14 p9 (fun q => h9 (by rw [List.mem_singleton.mp q]; exact List.mem_cons_self))).trans (fr8 p9 h9)
    have hh14 : zh_ok D cA RTg ro sz H0 t14.heap lo14 := ⟨z14.1, z14.2.1, l14, z14.2.2.2⟩
    have kp14 := kp8.trans (c14.mono (ms' := dtM) (by decide))
    have kf14 := tkF_01 T 87 x7.2
    generalize hx14 : tkF T 87 x7.2 = x14 at j14 e14 kf14
    have uu14 := j14.2.2
    unfold uOK at uu14
    have mf14_dt_1 := (c14.1 dt 1 1 1 0 fsX1 hdt rfl (by decide) (by decide)).trans hf8
    have jd14 := jd8.kept hdt rfl (by decide) c14 (by decide)
    refine W.eq (g2 := F0 m 55 ls11 [.int v14]) rfl ?_
    refine ff_if_eq hx hb (eX1_scan (55, .ifCond .eq 12, 3) (List.mem_of_getElem? (i := 29) rfl)) (tgt := 67) rfl (fun c15 => ?_) (fun c15 => ?_)
    · skip
      have d14 : ¬ x14.1 = 1 := by omega
      refine lv_aload_n hx hb (eX1_scan (67, .aload_n 0, 1) (List.mem_of_getElem? (i := 35) rfl)) rfl (lv_at hl11 1 rfl) ?_
      refine tz_get (r := 1) (k := 1) (t := (0, 0, 1)) hx hb hh14 hdt rfl rfl (hcl1 15 1 (0, 0, 1) (by decide) rfl).1 mf14_dt_1 (eX1_scan (68, .getfield 15, 3) (List.mem_of_getElem? (i := 36) rfl)) ?_
      refine ff_if_eq hx hb (eX1_scan (71, .ifCond .eq 12, 3) (List.mem_of_getElem? (i := 37) rfl)) (tgt := 83) rfl (fun c16 => (by exfalso; omega)) (fun c16 => ?_)
      refine lv_aload_n hx hb (eX1_scan (74, .aload_n 0, 1) (List.mem_of_getElem? (i := 38) rfl)) rfl (lv_at hl11 1 rfl) ?_
      refine lv_aload_n hx hb (eX1_scan (75, .aload_n 1, 1) (List.mem_of_getElem? (i := 39) rfl)) rfl (lv_at hl11 2 rfl) ?_
      refine lv_iload_n hx hb (eX1_scan (76, .iload_n 2, 1) (List.mem_of_getElem? (i := 40) rfl)) rfl (lv_at hl11 3 rfl) ?_
      refine tz_rowV (As := [.ref tx, .int wq]) (st := []) (b := dt) (C := RX1) (Ts := gT) hx hb hml hown h2 (fun _ h => h) (hX1_scanDashed l D cA ro sz H0 dt tx wq wh T (x14.2) ((upF x5.1 1 (x7.1))) hdt htx hwh hwb) ⟨rfl, rfl⟩ ⟨by decide, by decide⟩ ⟨by decide, by decide⟩ (tb_5 123 rfl rfl) (tb_1 8 rfl rfl) (tb_5 120 rfl rfl) (tb_5 121 rfl rfl) (tb_5 122 rfl rfl) (show yX1_scanDashed.cls ≠ "java/lang/invoke/MethodHandle" ∧ yX1_scanDashed.cls ≠ "java/lang/invoke/VarHandle" ∧ (parseMethodDescriptor yX1_scanDashed.desc).map (fun d => d.parameters.length) = some 2 by decide +kernel) zs_blind (zs_ob hh14 hdt (show RTg[1]? = some (0, 1, 0, fsX1) from rfl) (zCX1 hKn.1)) (fun U hU hW => ⟨rfl, by rw [hU]; exact hh14.l0, zKb s U hW.alike hKn, by rw [hU]; exact ⟨j14, jd14⟩⟩) hh14.2.2.1 hl11.1 (Nat.le_of_ble_eq_true rfl) (eX1_scan (77, .invokevirtual 57, 3) (List.mem_of_getElem? (i := 41) rfl)) (fun r17 s17 t17 lo17 g17 f17 l17 => ?_)
      obtain ⟨q17, z17, c17, j17, jd17, fx17⟩ := f17
      cases q17
      rw [g17] at c17 fx17
      have fr17 : ∀ p9 : Nat, p9 ∉ [tx, dt] → t17.heap[p9]? = s.heap[p9]? := fun p9 h9 => (fx17 p9 (fun q => h9 (by rcases List.mem_cons.mp q with q | q; (rw [q]; exact List.mem_cons_self); (rw [List.mem_singleton.mp q]; exact (List.mem_cons_of_mem _ List.mem_cons_self))))).trans (fr14 p9 h9)
      have hh17 : zh_ok D cA RTg ro sz H0 t17.heap lo17 := ⟨z17.1, z17.2.1, l17, z17.2.2.2⟩
      have kp17 := kp14.trans (c17.mono (ms' := dtM) (by decide))
      generalize hx17 : daF T wh ((upF x5.1 1 (x7.1)), x14.2) = x17 at j17 jd17
      have uu17 := j17.2.2
      unfold uOK at uu17
      refine W.eq (g2 := F0 m 80 ls11 []) rfl ?_
      refine lv_goto hx hb (eX1_scan (80, .goto 29, 3) (List.mem_of_getElem? (i := 42) rfl)) (tgt := 109) rfl ?_
      have hfin : dtF T wh (f, sg) = (x17.1, x17.2) := by first | (simp only [dtF, beF, hx5, hx7, hx14, hx17, if_pos d7, if_pos dg, if_neg d14, up_eq, up_ne (show (3 : Nat) ≠ 1 by decide)]; done) | (simp only [dtF, beF, hx5, hx7, hx14, hx17, if_pos d7, if_pos dg, if_neg d14, up_eq, up_ne (show (3 : Nat) ≠ 1 by decide)] <;> rfl) | rfl
      exact W.vret hx hb hr (fun t ht hW => ⟨rfl, by rw [ht]; exact hh17.l0, by rw [ht]; exact kp17, by rw [ht, hfin]; exact j17, by rw [ht, hfin]; exact jd17, by rw [ht]; exact fr17⟩) hh17.2.2.1 (eX1_scan (109, .return_, 1) (List.mem_of_getElem? (i := 57) rfl))
    · skip
      have d14 : x14.1 = 1 := by omega
      refine lv_aload_n hx hb (eX1_scan (58, .aload_n 0, 1) (List.mem_of_getElem? (i := 30) rfl)) rfl (lv_at hl11 1 rfl) ?_
      refine lv_aload_n hx hb (eX1_scan (59, .aload_n 1, 1) (List.mem_of_getElem? (i := 31) rfl)) rfl (lv_at hl11 2 rfl) ?_
      refine lv_iload_n hx hb (eX1_scan (60, .iload_n 2, 1) (List.mem_of_getElem? (i := 32) rfl)) rfl (lv_at hl11 3 rfl) ?_
      refine tz_rowV (As := [.ref tx, .int wq]) (st := []) (b := dt) (C := RX1) (Ts := gT) hx hb hml hown h2 (fun _ h => h) (hX1_scanWeek l D cA ro sz H0 dt tx wq wh T (x14.2) ((upF x5.1 1 (x7.1))) hdt htx hwh hwb (show _ ∨ _ from (by show x7.1 = 0 ∨ x7.1 = 1; omega))) ⟨rfl, rfl⟩ ⟨by decide, by decide⟩ ⟨by decide, by decide⟩ (tb_5 113 rfl rfl) (tb_1 8 rfl rfl) (tb_5 110 rfl rfl) (tb_5 111 rfl rfl) (tb_5 112 rfl rfl) (show yX1_scanWeek.cls ≠ "java/lang/invoke/MethodHandle" ∧ yX1_scanWeek.cls ≠ "java/lang/invoke/VarHandle" ∧ (parseMethodDescriptor yX1_scanWeek.desc).map (fun d => d.parameters.length) = some 2 by decide +kernel) zs_blind (zs_ob hh14 hdt (show RTg[1]? = some (0, 1, 0, fsX1) from rfl) (zCX1 hKn.1)) (fun U hU hW => ⟨rfl, by rw [hU]; exact hh14.l0, zKb s U hW.alike hKn, by rw [hU]; exact ⟨j14, jd14⟩⟩) hh14.2.2.1 hl11.1 (Nat.le_of_ble_eq_true rfl) (eX1_scan (61, .invokevirtual 53, 3) (List.mem_of_getElem? (i := 33) rfl)) (fun r18 s18 t18 lo18 g18 f18 l18 => ?_)
      obtain ⟨q18, z18, c18, j18, jd18, fx18⟩ := f18
      cases q18
      rw [g18] at c18 fx18
      have fr18 : ∀ p9 : Nat, p9 ∉ [tx, dt] → t18.heap[p9]? = s.heap[p9]? := fun p9 h9 => (fx18 p9 (fun q => h9 (by rcases List.mem_cons.mp q with q | q; (rw [q]; exact List.mem_cons_self); (rw [List.mem_singleton.mp q]; exact (List.mem_cons_of_mem _ List.mem_cons_self))))).trans (fr14 p9 h9)
      have hh18 : zh_ok D cA RTg ro sz H0 t18.heap lo18 := ⟨z18.1, z18.2.1, l18, z18.2.2.2⟩
      have kp18 := kp14.trans (c18.mono (ms' := dtM) (by decide))
      generalize hx18 : wkF T wh ((upF x5.1 1 (x7.1)), x14.2) = x18 at j18 jd18
      have uu18 := j18.2.2
      unfold uOK at uu18
      refine W.eq (g2 := F0 m 64 ls11 []) rfl ?_
      refine lv_goto hx hb (eX1_scan (64, .goto 45, 3) (List.mem_of_getElem? (i := 34) rfl)) (tgt := 109) rfl ?_
      have hfin : dtF T wh (f, sg) = (x18.1, x18.2) := by first | (simp only [dtF, beF, hx5, hx7, hx14, hx18, if_pos d7, if_pos dg, if_pos d14, up_eq, up_ne (show (3 : Nat) ≠ 1 by decide)]; done) | (simp only [dtF, beF, hx5, hx7, hx14, hx18, if_pos d7, if_pos dg, if_pos d14, up_eq, up_ne (show (3 : Nat) ≠ 1 by decide)] <;> rfl) | rfl
      exact W.vret hx hb hr (fun t ht hW => ⟨rfl, by rw [ht]; exact hh18.l0, by rw [ht]; exact kp18, by rw [ht, hfin]; exact j18, by rw [ht, hfin]; exact jd18, by rw [ht]; exact fr18⟩) hh18.2.2.1 (eX1_scan (109, .return_, 1) (List.mem_of_getElem? (i := 57) rfl))
  · skip
    have d7 : ¬ x7.1 = 1 := by omega
    refine lv_aload_n hx hb (eX1_scan (32, .aload_n 0, 1) (List.mem_of_getElem? (i := 17) rfl)) rfl (lv_at hl 0 rfl) ?_
    obtain ⟨v19, fa19, e19⟩ := jd8 3 (by decide)
    have e19 : v19.toInt = x5.1 3 := e19
    refine tz_get (r := 1) (k := 3) (t := (0, 0, 1)) hx hb hh8 hdt rfl rfl (hcl1 22 3 (0, 0, 1) (by decide) rfl).1 fa19 (eX1_scan (33, .getfield 22, 3) (List.mem_of_getElem? (i := 18) rfl)) ?_
    refine ff_if_ne hx hb (eX1_scan (36, .ifCond .ne 7, 3) (List.mem_of_getElem? (i := 19) rfl)) (tgt := 43) rfl (fun c20 => ?_) (fun c20 => ?_)
    · skip
      refine ff_iconst hx hb (eX1_scan (43, .iconst 0, 1) (List.mem_of_getElem? (i := 22) rfl)) (by decide) (by decide) (fun v21 e21 => ?_)
      refine lv_istore_n hx hb (eX1_scan (44, .istore_n 3, 1) (List.mem_of_getElem? (i := 23) rfl)) rfl hl (by decide) rfl (fun ls22 hl22 => ?_)
      have dg : ¬ (x7.1 = 1 ∨ x5.1 3 = 0) := by omega
      refine lv_iload_n hx hb (eX1_scan (45, .iload_n 3, 1) (List.mem_of_getElem? (i := 24) rfl)) rfl (lv_at hl22 0 rfl) ?_
      refine ff_if_eq hx hb (eX1_scan (46, .ifCond .eq 21, 3) (List.mem_of_getElem? (i := 25) rfl)) (tgt := 67) rfl (fun c23 => ?_) (fun c23 => (by exfalso; omega))
      refine lv_aload_n hx hb (eX1_scan (67, .aload_n 0, 1) (List.mem_of_getElem? (i := 35) rfl)) rfl (lv_at hl22 1 rfl) ?_
      refine tz_get (r := 1) (k := 1) (t := (0, 0, 1)) hx hb hh8 hdt rfl rfl (hcl1 15 1 (0, 0, 1) (by decide) rfl).1 hf8 (eX1_scan (68, .getfield 15, 3) (List.mem_of_getElem? (i := 36) rfl)) ?_
      refine ff_if_eq hx hb (eX1_scan (71, .ifCond .eq 12, 3) (List.mem_of_getElem? (i := 37) rfl)) (tgt := 83) rfl (fun c24 => ?_) (fun c24 => (by exfalso; omega))
      refine lv_iload_n hx hb (eX1_scan (83, .iload_n 3, 1) (List.mem_of_getElem? (i := 43) rfl)) rfl (lv_at hl22 0 rfl) ?_
      refine ff_if_eq hx hb (eX1_scan (84, .ifCond .eq 18, 3) (List.mem_of_getElem? (i := 44) rfl)) (tgt := 102) rfl (fun c25 => ?_) (fun c25 => (by exfalso; omega))
      refine lv_aload_n hx hb (eX1_scan (102, .aload_n 0, 1) (List.mem_of_getElem? (i := 52) rfl)) rfl (lv_at hl22 1 rfl) ?_
      refine lv_aload_n hx hb (eX1_scan (103, .aload_n 1, 1) (List.mem_of_getElem? (i := 53) rfl)) rfl (lv_at hl22 2 rfl) ?_
      refine ff_iconst hx hb (eX1_scan (104, .iconst 3, 1) (List.mem_of_getElem? (i := 54) rfl)) (by decide) (by decide) (fun v26 e26 => ?_)
      refine lv_iload_n hx hb (eX1_scan (105, .iload_n 2, 1) (List.mem_of_getElem? (i := 55) rfl)) rfl (lv_at hl22 3 rfl) ?_
      refine tz_rowV (As := [.ref tx, .int v26, .int wq]) (st := []) (b := dt) (C := RX1) (Ts := gT) hx hb hml hown h2 (fun _ h => h) (hX1_endShort l D cA ro sz H0 dt tx v26 wq 3 wh T (x7.2) ((upF x5.1 1 (x7.1))) hdt htx (by omega) hwh hwb) ⟨rfl, rfl⟩ ⟨by decide, by decide⟩ ⟨by decide, by decide⟩ (tb_5 118 rfl rfl) (tb_1 8 rfl rfl) (tb_5 115 rfl rfl) (tb_5 116 rfl rfl) (tb_5 117 rfl rfl) (show yX1_endShort.cls ≠ "java/lang/invoke/MethodHandle" ∧ yX1_endShort.cls ≠ "java/lang/invoke/VarHandle" ∧ (parseMethodDescriptor yX1_endShort.desc).map (fun d => d.parameters.length) = some 3 by decide +kernel) zs_blind (zs_ob hh8 hdt (show RTg[1]? = some (0, 1, 0, fsX1) from rfl) (zCX1 hKn.1)) (fun U hU hW => ⟨rfl, by rw [hU]; exact hh8.l0, zKb s U hW.alike hKn, by rw [hU]; exact ⟨jm8, jd8⟩⟩) hh8.2.2.1 hl22.1 (Nat.le_of_ble_eq_true rfl) (eX1_scan (106, .invokevirtual 67, 3) (List.mem_of_getElem? (i := 56) rfl)) (fun r27 s27 t27 lo27 g27 f27 l27 => ?_)
      obtain ⟨q27, z27, c27, j27, jd27, fx27⟩ := f27
      cases q27
      rw [g27] at c27 fx27
      have fr27 : ∀ p9 : Nat, p9 ∉ [tx, dt] → t27.heap[p9]? = s.heap[p9]? := fun p9 h9 => (fx27 p9 (fun q => h9 (by rcases List.mem_cons.mp q with q | q; (rw [q]; exact List.mem_cons_self); (rw [List.mem_singleton.mp q]; exact (List.mem_cons_of_mem _ List.mem_cons_self))))).trans (fr8 p9 h9)
      have hh27 : zh_ok D cA RTg ro sz H0 t27.heap lo27 := ⟨z27.1, z27.2.1, l27, z27.2.2.2⟩
      have kp27 := kp8.trans (c27.mono (ms' := dtM) (by decide))
      generalize hx27 : enF 3 wh ((upF x5.1 1 (x7.1)), x7.2) = x27 at j27 jd27
      have uu27 := j27.2.2
      unfold uOK at uu27
      refine W.eq (g2 := F0 m 109 ls22 []) rfl ?_
      have hfin : dtF T wh (f, sg) = (x27.1, x27.2) := by first | (simp only [dtF, beF, hx5, hx7, hx27, if_neg d7, if_neg dg, up_eq, up_ne (show (3 : Nat) ≠ 1 by decide)]; done) | (simp only [dtF, beF, hx5, hx7, hx27, if_neg d7, if_neg dg, up_eq, up_ne (show (3 : Nat) ≠ 1 by decide)] <;> rfl) | rfl
      exact W.vret hx hb hr (fun t ht hW => ⟨rfl, by rw [ht]; exact hh27.l0, by rw [ht]; exact kp27, by rw [ht, hfin]; exact j27, by rw [ht, hfin]; exact jd27, by rw [ht]; exact fr27⟩) hh27.2.2.1 (eX1_scan (109, .return_, 1) (List.mem_of_getElem? (i := 57) rfl))
    · skip
      refine ff_iconst hx hb (eX1_scan (39, .iconst 1, 1) (List.mem_of_getElem? (i := 20) rfl)) (by decide) (by decide) (fun v28 e28 => ?_)
      refine lv_goto hx hb (eX1_scan (40, .goto 4, 3) (List.mem_of_getElem? (i := 21) rfl)) (tgt := 44) rfl ?_
      refine lv_istore_n hx hb (eX1_scan (44, .istore_n 3, 1) (List.mem_of_getElem? (i := 23) rfl)) rfl hl (by decide) rfl (fun ls29 hl29 => ?_)
      have dg : (x7.1 = 1 ∨ x5.1 3 = 0) := by omega
      refine lv_iload_n hx hb (eX1_scan (45, .iload_n 3, 1) (List.mem_of_getElem? (i := 24) rfl)) rfl (lv_at hl29 0 rfl) ?_
      refine ff_if_eq hx hb (eX1_scan (46, .ifCond .eq 21, 3) (List.mem_of_getElem? (i := 25) rfl)) (tgt := 67) rfl (fun c30 => (by exfalso; omega)) (fun c30 => ?_)
      refine lv_aload_n hx hb (eX1_scan (49, .aload_n 1, 1) (List.mem_of_getElem? (i := 26) rfl)) rfl (lv_at hl29 2 rfl) ?_
      refine ff_bipush hx hb (eX1_scan (50, .bipush 87, 2) (List.mem_of_getElem? (i := 27) rfl)) (by decide) (by decide) (fun v31 e31 => ?_)
      refine tz_rowV (As := [.int v31]) (st := []) (b := tx) (C := RX0) (Ts := gT) hx hb hml hown h2 (fun _ h => h) (hX0_take l D cA ro sz H0 tx v31 87 T (x7.2) htx (by omega) (by decide)) ⟨rfl, rfl⟩ ⟨by decide, by decide⟩ ⟨by decide, by decide⟩ (tb_4 8 rfl rfl) (tb_1 5 rfl rfl) (tb_5 109 rfl rfl) (tb_4 6 rfl rfl) (tb_4 7 rfl rfl) (show yX0_take.cls ≠ "java/lang/invoke/MethodHandle" ∧ yX0_take.cls ≠ "java/lang/invoke/VarHandle" ∧ (parseMethodDescriptor yX0_take.desc).map (fun d => d.parameters.length) = some 1 by decide +kernel) zs_blind (zs_ob hh8 htx (show RTg[0]? = some (0, 0, 0, fsX0) from rfl) (zCX0 hKn.1)) (fun U hU hW => ⟨rfl, by rw [hU]; exact hh8.l0, zKb s U hW.alike hKn, by rw [hU]; exact jm8⟩) hh8.2.2.1 hl29.1 (Nat.le_of_ble_eq_true rfl) (eX1_scan (52, .invokevirtual 47, 3) (List.mem_of_getElem? (i := 28) rfl)) (fun r32 s32 t32 lo32 g32 f32 l32 => ?_)
      obtain ⟨v32, q32, e32, z32, c32, j32, fx32⟩ := f32
      cases q32
      rw [g32] at c32 fx32
      have fr32 : ∀ p9 : Nat, p9 ∉ [tx, dt] → t32.heap[p9]? = s.heap[p9]? := fun p9 h9 => (fx32 p9 (fun q => h9 (by rw [List.mem_singleton.mp q]; exact List.mem_cons_self))).trans (fr8 p9 h9)
      have hh32 : zh_ok D cA RTg ro sz H0 t32.heap lo32 := ⟨z32.1, z32.2.1, l32, z32.2.2.2⟩
      have kp32 := kp8.trans (c32.mono (ms' := dtM) (by decide))
      have kf32 := tkF_01 T 87 x7.2
      generalize hx32 : tkF T 87 x7.2 = x32 at j32 e32 kf32
      have uu32 := j32.2.2
      unfold uOK at uu32
      have mf32_dt_1 := (c32.1 dt 1 1 1 0 fsX1 hdt rfl (by decide) (by decide)).trans hf8
      have mf32_dt_3 := (c32.1 dt 1 3 1 0 fsX1 hdt rfl (by decide) (by decide)).trans fa19
      have jd32 := jd8.kept hdt rfl (by decide) c32 (by decide)
      refine W.eq (g2 := F0 m 55 ls29 [.int v32]) rfl ?_
      refine ff_if_eq hx hb (eX1_scan (55, .ifCond .eq 12, 3) (List.mem_of_getElem? (i := 29) rfl)) (tgt := 67) rfl (fun c33 => ?_) (fun c33 => ?_)
      · skip
        have d32 : ¬ x32.1 = 1 := by omega
        refine lv_aload_n hx hb (eX1_scan (67, .aload_n 0, 1) (List.mem_of_getElem? (i := 35) rfl)) rfl (lv_at hl29 1 rfl) ?_
        refine tz_get (r := 1) (k := 1) (t := (0, 0, 1)) hx hb hh32 hdt rfl rfl (hcl1 15 1 (0, 0, 1) (by decide) rfl).1 mf32_dt_1 (eX1_scan (68, .getfield 15, 3) (List.mem_of_getElem? (i := 36) rfl)) ?_
        refine ff_if_eq hx hb (eX1_scan (71, .ifCond .eq 12, 3) (List.mem_of_getElem? (i := 37) rfl)) (tgt := 83) rfl (fun c34 => ?_) (fun c34 => (by exfalso; omega))
        refine lv_iload_n hx hb (eX1_scan (83, .iload_n 3, 1) (List.mem_of_getElem? (i := 43) rfl)) rfl (lv_at hl29 0 rfl) ?_
        refine ff_if_eq hx hb (eX1_scan (84, .ifCond .eq 18, 3) (List.mem_of_getElem? (i := 44) rfl)) (tgt := 102) rfl (fun c35 => (by exfalso; omega)) (fun c35 => ?_)
        refine lv_aload_n hx hb (eX1_scan (87, .aload_n 1, 1) (List.mem_of_getElem? (i := 45) rfl)) rfl (lv_at hl29 2 rfl) ?_
        refine tz_rowV (As := []) (st := []) (b := tx) (C := RX0) (Ts := gT) hx hb hml hown h2 (fun _ h => h) (hX0_atDigit l D cA ro sz H0 tx T (x32.2) htx) ⟨rfl, rfl⟩ ⟨by decide, by decide⟩ ⟨by decide, by decide⟩ (tb_4 24 rfl rfl) (tb_1 5 rfl rfl) (tb_5 114 rfl rfl) (tb_4 22 rfl rfl) (tb_4 23 rfl rfl) (show yX0_atDigit.cls ≠ "java/lang/invoke/MethodHandle" ∧ yX0_atDigit.cls ≠ "java/lang/invoke/VarHandle" ∧ (parseMethodDescriptor yX0_atDigit.desc).map (fun d => d.parameters.length) = some 0 by decide +kernel) zs_blind (zs_ob hh32 htx (show RTg[0]? = some (0, 0, 0, fsX0) from rfl) (zCX0 hKn.1)) (fun U hU hW => ⟨rfl, by rw [hU]; exact hh32.l0, zKb s U hW.alike hKn, by rw [hU]; exact j32⟩) hh32.2.2.1 hl29.1 (Nat.le_of_ble_eq_true rfl) (eX1_scan (88, .invokevirtual 60, 3) (List.mem_of_getElem? (i := 46) rfl)) (fun r36 s36 t36 lo36 g36 f36 l36 => ?_)
        obtain ⟨z36, v36, q36, e36⟩ := f36
        cases q36
        rw [z36, g36]
        have hh36 : zh_ok D cA RTg ro sz H0 t32.heap lo36 := ⟨hh32.1, hh32.2.1, l36, hh32.2.2.2⟩
        refine W.eq (g2 := F0 m 91 ls29 [.int v36]) rfl ?_
        refine ff_if_eq hx hb (eX1_scan (91, .ifCond .eq 11, 3) (List.mem_of_getElem? (i := 47) rfl)) (tgt := 102) rfl (fun c37 => ?_) (fun c37 => ?_)
        · have d38 : ¬ 0 ≤ dgF T x32.2 := by omega
          refine lv_aload_n hx hb (eX1_scan (102, .aload_n 0, 1) (List.mem_of_getElem? (i := 52) rfl)) rfl (lv_at hl29 1 rfl) ?_
          refine lv_aload_n hx hb (eX1_scan (103, .aload_n 1, 1) (List.mem_of_getElem? (i := 53) rfl)) rfl (lv_at hl29 2 rfl) ?_
          refine ff_iconst hx hb (eX1_scan (104, .iconst 3, 1) (List.mem_of_getElem? (i := 54) rfl)) (by decide) (by decide) (fun v39 e39 => ?_)
          refine lv_iload_n hx hb (eX1_scan (105, .iload_n 2, 1) (List.mem_of_getElem? (i := 55) rfl)) rfl (lv_at hl29 3 rfl) ?_
          refine tz_rowV (As := [.ref tx, .int v39, .int wq]) (st := []) (b := dt) (C := RX1) (Ts := gT) hx hb hml hown h2 (fun _ h => h) (hX1_endShort l D cA ro sz H0 dt tx v39 wq 3 wh T (x32.2) ((upF x5.1 1 (x7.1))) hdt htx (by omega) hwh hwb) ⟨rfl, rfl⟩ ⟨by decide, by decide⟩ ⟨by decide, by decide⟩ (tb_5 118 rfl rfl) (tb_1 8 rfl rfl) (tb_5 115 rfl rfl) (tb_5 116 rfl rfl) (tb_5 117 rfl rfl) (show yX1_endShort.cls ≠ "java/lang/invoke/MethodHandle" ∧ yX1_endShort.cls ≠ "java/lang/invoke/VarHandle" ∧ (parseMethodDescriptor yX1_endShort.desc).map (fun d => d.parameters.length) = some 3 by decide +kernel) zs_blind (zs_ob hh36 hdt (show RTg[1]? = some (0, 1, 0, fsX1) from rfl) (zCX1 hKn.1)) (fun U hU hW => ⟨rfl, by rw [hU]; exact hh36.l0, zKb s U hW.alike hKn, by rw [hU]; exact ⟨j32, jd32⟩⟩) hh36.2.2.1 hl29.1 (Nat.le_of_ble_eq_true rfl) (eX1_scan (106, .invokevirtual 67, 3) (List.mem_of_getElem? (i := 56) rfl)) (fun r40 s40 t40 lo40 g40 f40 l40 => ?_)
          obtain ⟨q40, z40, c40, j40, jd40, fx40⟩ := f40
          cases q40
          rw [g40] at c40 fx40
          have fr40 : ∀ p9 : Nat, p9 ∉ [tx, dt] → t40.heap[p9]? = s.heap[p9]? := fun p9 h9 => (fx40 p9 (fun q => h9 (by rcases List.mem_cons.mp q with q | q; (rw [q]; exact List.mem_cons_self); (rw [List.mem_singleton.mp q]; exact (List.mem_cons_of_mem _ List.mem_cons_self))))).trans (fr32 p9 h9)
          have hh40 : zh_ok D cA RTg ro sz H0 t40.heap lo40 := ⟨z40.1, z40.2.1, l40, z40.2.2.2⟩
          have kp40 := kp32.trans (c40.mono (ms' := dtM) (by decide))
          generalize hx40 : enF 3 wh ((upF x5.1 1 (x7.1)), x32.2) = x40 at j40 jd40
          have uu40 := j40.2.2
          unfold uOK at uu40
          refine W.eq (g2 := F0 m 109 ls29 []) rfl ?_
          have hfin : dtF T wh (f, sg) = (x40.1, x40.2) := by first | (simp only [dtF, beF, hx5, hx7, hx32, hx40, if_neg d7, if_pos dg, if_neg d32, if_neg d38, up_eq, up_ne (show (3 : Nat) ≠ 1 by decide)]; done) | (simp only [dtF, beF, hx5, hx7, hx32, hx40, if_neg d7, if_pos dg, if_neg d32, if_neg d38, up_eq, up_ne (show (3 : Nat) ≠ 1 by decide)] <;> rfl) | rfl
          exact W.vret hx hb hr (fun t ht hW => ⟨rfl, by rw [ht]; exact hh40.l0, by rw [ht]; exact kp40, by rw [ht, hfin]; exact j40, by rw [ht, hfin]; exact jd40, by rw [ht]; exact fr40⟩) hh40.2.2.1 (eX1_scan (109, .return_, 1) (List.mem_of_getElem? (i := 57) rfl))
        · have d41 : 0 ≤ dgF T x32.2 := by omega
          refine lv_aload_n hx hb (eX1_scan (94, .aload_n 0, 1) (List.mem_of_getElem? (i := 48) rfl)) rfl (lv_at hl29 1 rfl) ?_
          refine lv_aload_n hx hb (eX1_scan (95, .aload_n 1, 1) (List.mem_of_getElem? (i := 49) rfl)) rfl (lv_at hl29 2 rfl) ?_
          refine tz_rowV (As := [.ref tx]) (st := []) (b := dt) (C := RX1) (Ts := gT) hx hb hml hown h2 (fun _ h => h) (hX1_scanPlain l D cA ro sz H0 dt tx  T (x32.2) ((upF x5.1 1 (x7.1))) hdt htx ) ⟨rfl, rfl⟩ ⟨by decide, by decide⟩ ⟨by decide, by decide⟩ (tb_5 127 rfl rfl) (tb_1 8 rfl rfl) (tb_5 124 rfl rfl) (tb_5 125 rfl rfl) (tb_5 126 rfl rfl) (show yX1_scanPlain.cls ≠ "java/lang/invoke/MethodHandle" ∧ yX1_scanPlain.cls ≠ "java/lang/invoke/VarHandle" ∧ (parseMethodDescriptor yX1_scanPlain.desc).map (fun d => d.parameters.length) = some 1 by decide +kernel) zs_blind (zs_ob hh36 hdt (show RTg[1]? = some (0, 1, 0, fsX1) from rfl) (zCX1 hKn.1)) (fun U hU hW => ⟨rfl, by rw [hU]; exact hh36.l0, zKb s U hW.alike hKn, by rw [hU]; exact ⟨j32, jd32⟩⟩) hh36.2.2.1 hl29.1 (Nat.le_of_ble_eq_true rfl) (eX1_scan (96, .invokevirtual 64, 3) (List.mem_of_getElem? (i := 50) rfl)) (fun r42 s42 t42 lo42 g42 f42 l42 => ?_)
          obtain ⟨q42, z42, c42, j42, jd42, fx42⟩ := f42
          cases q42
          rw [g42] at c42 fx42
          have fr42 : ∀ p9 : Nat, p9 ∉ [tx, dt] → t42.heap[p9]? = s.heap[p9]? := fun p9 h9 => (fx42 p9 (fun q => h9 (by rcases List.mem_cons.mp q with q | q; (rw [q]; exact List.mem_cons_self); (rw [List.mem_singleton.mp q]; exact (List.mem_cons_of_mem _ List.mem_cons_self))))).trans (fr32 p9 h9)
          have hh42 : zh_ok D cA RTg ro sz H0 t42.heap lo42 := ⟨z42.1, z42.2.1, l42, z42.2.2.2⟩
          have kp42 := kp32.trans (c42.mono (ms' := dtM) (by decide))
          generalize hx42 : plF9 T ((upF x5.1 1 (x7.1)), x32.2) = x42 at j42 jd42
          have uu42 := j42.2.2
          unfold uOK at uu42
          refine W.eq (g2 := F0 m 99 ls29 []) rfl ?_
          refine lv_goto hx hb (eX1_scan (99, .goto 10, 3) (List.mem_of_getElem? (i := 51) rfl)) (tgt := 109) rfl ?_
          have hfin : dtF T wh (f, sg) = (x42.1, x42.2) := by first | (simp only [dtF, beF, hx5, hx7, hx32, hx42, if_neg d7, if_pos dg, if_neg d32, if_pos d41, up_eq, up_ne (show (3 : Nat) ≠ 1 by decide)]; done) | (simp only [dtF, beF, hx5, hx7, hx32, hx42, if_neg d7, if_pos dg, if_neg d32, if_pos d41, up_eq, up_ne (show (3 : Nat) ≠ 1 by decide)] <;> rfl) | rfl
          exact W.vret hx hb hr (fun t ht hW => ⟨rfl, by rw [ht]; exact hh42.l0, by rw [ht]; exact kp42, by rw [ht, hfin]; exact j42, by rw [ht, hfin]; exact jd42, by rw [ht]; exact fr42⟩) hh42.2.2.1 (eX1_scan (109, .return_, 1) (List.mem_of_getElem? (i := 57) rfl))
      · skip
        have d32 : x32.1 = 1 := by omega
        refine lv_aload_n hx hb (eX1_scan (58, .aload_n 0, 1) (List.mem_of_getElem? (i := 30) rfl)) rfl (lv_at hl29 1 rfl) ?_
        refine lv_aload_n hx hb (eX1_scan (59, .aload_n 1, 1) (List.mem_of_getElem? (i := 31) rfl)) rfl (lv_at hl29 2 rfl) ?_
        refine lv_iload_n hx hb (eX1_scan (60, .iload_n 2, 1) (List.mem_of_getElem? (i := 32) rfl)) rfl (lv_at hl29 3 rfl) ?_
        refine tz_rowV (As := [.ref tx, .int wq]) (st := []) (b := dt) (C := RX1) (Ts := gT) hx hb hml hown h2 (fun _ h => h) (hX1_scanWeek l D cA ro sz H0 dt tx wq wh T (x32.2) ((upF x5.1 1 (x7.1))) hdt htx hwh hwb (show _ ∨ _ from (by show x7.1 = 0 ∨ x7.1 = 1; omega))) ⟨rfl, rfl⟩ ⟨by decide, by decide⟩ ⟨by decide, by decide⟩ (tb_5 113 rfl rfl) (tb_1 8 rfl rfl) (tb_5 110 rfl rfl) (tb_5 111 rfl rfl) (tb_5 112 rfl rfl) (show yX1_scanWeek.cls ≠ "java/lang/invoke/MethodHandle" ∧ yX1_scanWeek.cls ≠ "java/lang/invoke/VarHandle" ∧ (parseMethodDescriptor yX1_scanWeek.desc).map (fun d => d.parameters.length) = some 2 by decide +kernel) zs_blind (zs_ob hh32 hdt (show RTg[1]? = some (0, 1, 0, fsX1) from rfl) (zCX1 hKn.1)) (fun U hU hW => ⟨rfl, by rw [hU]; exact hh32.l0, zKb s U hW.alike hKn, by rw [hU]; exact ⟨j32, jd32⟩⟩) hh32.2.2.1 hl29.1 (Nat.le_of_ble_eq_true rfl) (eX1_scan (61, .invokevirtual 53, 3) (List.mem_of_getElem? (i := 33) rfl)) (fun r43 s43 t43 lo43 g43 f43 l43 => ?_)
        obtain ⟨q43, z43, c43, j43, jd43, fx43⟩ := f43
        cases q43
        rw [g43] at c43 fx43
        have fr43 : ∀ p9 : Nat, p9 ∉ [tx, dt] → t43.heap[p9]? = s.heap[p9]? := fun p9 h9 => (fx43 p9 (fun q => h9 (by rcases List.mem_cons.mp q with q | q; (rw [q]; exact List.mem_cons_self); (rw [List.mem_singleton.mp q]; exact (List.mem_cons_of_mem _ List.mem_cons_self))))).trans (fr32 p9 h9)
        have hh43 : zh_ok D cA RTg ro sz H0 t43.heap lo43 := ⟨z43.1, z43.2.1, l43, z43.2.2.2⟩
        have kp43 := kp32.trans (c43.mono (ms' := dtM) (by decide))
        generalize hx43 : wkF T wh ((upF x5.1 1 (x7.1)), x32.2) = x43 at j43 jd43
        have uu43 := j43.2.2
        unfold uOK at uu43
        refine W.eq (g2 := F0 m 64 ls29 []) rfl ?_
        refine lv_goto hx hb (eX1_scan (64, .goto 45, 3) (List.mem_of_getElem? (i := 34) rfl)) (tgt := 109) rfl ?_
        have hfin : dtF T wh (f, sg) = (x43.1, x43.2) := by first | (simp only [dtF, beF, hx5, hx7, hx32, hx43, if_neg d7, if_pos dg, if_pos d32, up_eq, up_ne (show (3 : Nat) ≠ 1 by decide)]; done) | (simp only [dtF, beF, hx5, hx7, hx32, hx43, if_neg d7, if_pos dg, if_pos d32, up_eq, up_ne (show (3 : Nat) ≠ 1 by decide)] <;> rfl) | rfl
        exact W.vret hx hb hr (fun t ht hW => ⟨rfl, by rw [ht]; exact hh43.l0, by rw [ht]; exact kp43, by rw [ht, hfin]; exact j43, by rw [ht, hfin]; exact jd43, by rw [ht]; exact fr43⟩) hh43.2.2.1 (eX1_scan (109, .return_, 1) (List.mem_of_getElem? (i := 57) rfl))
