set_option maxRecDepth 100000 in
set_option maxHeartbeats 4000000 in
theorem hX0_append (l : Launch) (D : va_G) (cA : Nat → ClassId) (ro : Nat → Option Nat) (sz : Nat) (H0 : Heap) (tx : Nat) (v : Int32) (T : List Int) (htx0 : ro tx = some 0) (hv1 : -128 ≤ v.toInt) (hv2 : v.toInt ≤ 127) (hlen : T.length < 120) : Met l yX0_append (gW yX0_append cX0_append 2 none) { frames := 0, cells := 0, slots := 0, locals := 0 } (zs_P D cA ro sz H0 (fun H => jTx D cA ro H tx T) [.ref tx, .int v]) (zs_apT D cA ro sz H0 tx (T ++ [v.toInt])) 0 0 (zy_fr sz) := by
  refine zy_ofW (cc := cX0_append) (maxL := 2) (ret := none) (by decide +kernel) rfl ?_
  intro p e s m args below meth c s1 B hml hv
  obtain ⟨rfl, hh, hKn, hJ⟩ := hv
  have hx := B.exec
  have hb := B.bytes
  have hr := B.returns
  have hlk := B.notSynchronized
  have hts0 := atoms_spec (ws := gW yX0_append cX0_append 2 none) B.pre
  have h2 : ∀ w ∈ gT, w.before ([.ref tx, .int v] : List Value).toArray s = true := fun w hw => hts0 w (List.mem_cons_of_mem _ hw)
  have hown : s.vm.findClass RX0 = some m.cls := findClass_of_methodNamed B.named
  have hl := lv_entry [.ref tx, .int v] (n := 2) (Nat.le_of_ble_eq_true rfl)
  rw [lg_entry_eq]
  generalize (lg_sl [.ref tx, .int v] ++ List.replicate (2 - (lg_sl [.ref tx, .int v]).length) Slot.unset).toArray = ls at hl ⊢
  have b_v := zn_i32 v
  have hD := zD_all h2 hKn.1
  have hcl0 := fun (idx k : Nat) (t : zt_T) (h : (idx, 0, k) ∈ gfX0) (hk : fsX0[k]? = some t) => zf_clause (ro := ro) (ms := [(0, 1), (12, 0)]) h2 hown hKn.1 gfX0_ok (by decide +kernel) idx 0 k 0 0 fsX0 t h rfl hk
  have kp0 : zc_kept D RTg ro [(0, 1), (12, 0)] s.heap s.heap := zc_kept.refl
  obtain ⟨tb, n, z, f0, r0, f1, hn, hc, hz⟩ := id hJ
  obtain ⟨n9, g9, n1, n2⟩ := zh_fT (k := 1) (t := (0, 0, 120)) hh htx0 (show RTg[0]? = some (0, 0, 0, fsX0) from rfl) rfl
  cases f1.symm.trans g9
  dsimp only at n1 n2
  clear g9
  obtain ⟨-, z9, c9, hy9⟩ := zh_arr hh r0 (show RTg[12]? = some (1, 2, 120, [(0, (-128), 127)]) from rfl)
  have hy : ∀ i, i < 120 → zt_ok ro (z i) (0, (-128), 127) := zs_arr (hc.symm.trans c9) hy9
  refine lv_aload_n hx hb (eX0_append (0, .aload_n 0, 1) (List.mem_of_getElem? (i := 0) rfl)) rfl (lv_at hl 0 rfl) ?_
  refine tz_get (r := 0) (k := 1) (t := (0, 0, 120)) hx hb hh htx0 rfl rfl (hcl0 15 1 (0, 0, 120) (by decide) rfl).1 f1 (eX0_append (1, .getfield 15, 3) (List.mem_of_getElem? (i := 1) rfl)) ?_
  refine ff_if_lt hx hb (eX0_append (4, .ifCond .lt 35, 3) (List.mem_of_getElem? (i := 2) rfl)) (tgt := 39) rfl (fun c1 => (by exfalso; omega)) (fun c1 => ?_)
  refine lv_aload_n hx hb (eX0_append (7, .aload_n 0, 1) (List.mem_of_getElem? (i := 3) rfl)) rfl (lv_at hl 0 rfl) ?_
  refine tz_get (r := 0) (k := 1) (t := (0, 0, 120)) hx hb hh htx0 rfl rfl (hcl0 15 1 (0, 0, 120) (by decide) rfl).1 f1 (eX0_append (8, .getfield 15, 3) (List.mem_of_getElem? (i := 4) rfl)) ?_
  refine lv_aload_n hx hb (eX0_append (11, .aload_n 0, 1) (List.mem_of_getElem? (i := 5) rfl)) rfl (lv_at hl 0 rfl) ?_
  refine tz_get (r := 0) (k := 0) (t := (28, 0, 0)) hx hb hh htx0 rfl rfl (hcl0 9 0 (28, 0, 0) (by decide) rfl).1 f0 (eX0_append (12, .getfield 9, 3) (List.mem_of_getElem? (i := 6) rfl)) ?_
  refine tz_alen (ty := .byte) hx hb (zAr hKn.1 2 (by decide)) hh r0 (show RTg[12]? = some (1, 2, 120, [(0, (-128), 127)]) from rfl) (by decide) (eX0_append (15, .arraylength, 1) (List.mem_of_getElem? (i := 7) rfl)) (fun v2 e2 => ?_)
  refine ff_icmp_ge hx hb (eX0_append (16, .if_icmp .ge 23, 3) (List.mem_of_getElem? (i := 8) rfl)) (tgt := 39) rfl (fun c3 => (by exfalso; omega)) (fun c3 => ?_)
  refine lv_aload_n hx hb (eX0_append (19, .aload_n 0, 1) (List.mem_of_getElem? (i := 9) rfl)) rfl (lv_at hl 0 rfl) ?_
  refine tz_get (r := 0) (k := 0) (t := (28, 0, 0)) hx hb hh htx0 rfl rfl (hcl0 9 0 (28, 0, 0) (by decide) rfl).1 f0 (eX0_append (20, .getfield 9, 3) (List.mem_of_getElem? (i := 10) rfl)) ?_
  refine lv_aload_n hx hb (eX0_append (23, .aload_n 0, 1) (List.mem_of_getElem? (i := 11) rfl)) rfl (lv_at hl 0 rfl) ?_
  refine tz_get (r := 0) (k := 1) (t := (0, 0, 120)) hx hb hh htx0 rfl rfl (hcl0 15 1 (0, 0, 120) (by decide) rfl).1 f1 (eX0_append (24, .getfield 15, 3) (List.mem_of_getElem? (i := 12) rfl)) ?_
  refine lv_iload_n hx hb (eX0_append (27, .iload_n 1, 1) (List.mem_of_getElem? (i := 13) rfl)) rfl (lv_at hl 1 rfl) ?_
  have hzz := jY_app (d := v) (c := v.toInt) hz rfl
  rw [← show n.toNatClampNeg = T.length by show n.toInt.toNat = T.length; omega] at hzz
  refine tz_bast hx hb (zAr hKn.1 2 (by decide)) hh r0 (show RTg[12]? = some (1, 2, 120, [(0, (-128), 127)]) from rfl) hc hy (by omega) (by omega) (by omega) (by omega) (eX0_append (28, .bastore, 1) (List.mem_of_getElem? (i := 14) rfl)) (fun H4 lo4 hh4 hc4 hk4 hq4 _ => ?_)
  have mf4_tx_0 := (hk4.1 tx 0 0 0 0 fsX0 htx0 rfl (by decide) (by decide)).trans f0
  have mf4_tx_1 := (hk4.1 tx 0 1 0 0 fsX0 htx0 rfl (by decide) (by decide)).trans f1
  have kp4 := kp0.trans (hk4.mono (ms' := [(0, 1), (12, 0)]) (fun x hx => by cases List.mem_singleton.mp hx; decide))
  have hy4 := tz_upd (j := n.toNatClampNeg) hy (x := .int v) (show zt_ok ro (.int v) (0, (-128), 127) from tz_i (by omega) (by omega))
  refine lv_aload_n hx hb (eX0_append (29, .aload_n 0, 1) (List.mem_of_getElem? (i := 15) rfl)) rfl (lv_at hl 0 rfl) ?_
  refine lv_dup hx hb (eX0_append (30, .dup, 1) (List.mem_of_getElem? (i := 16) rfl)) rfl ?_
  refine tz_get (r := 0) (k := 1) (t := (0, 0, 120)) hx hb hh4 htx0 rfl rfl (hcl0 15 1 (0, 0, 120) (by decide) rfl).1 mf4_tx_1 (eX0_append (31, .getfield 15, 3) (List.mem_of_getElem? (i := 17) rfl)) ?_
  refine ff_iconst hx hb (eX0_append (34, .iconst 1, 1) (List.mem_of_getElem? (i := 18) rfl)) (by decide) (by decide) (fun v5 e5 => ?_)
  refine ff_iadd hx hb (eX0_append (35, .iadd, 1) (List.mem_of_getElem? (i := 19) rfl)) (by omega) (by omega) (fun v6 e6 => ?_)
  refine tz_put (r := 0) (k := 1) (t := (0, 0, 120)) hx hb hD hh4 htx0 rfl rfl ((hcl0 15 1 (0, 0, 120) (by decide) rfl).2 (by decide)) (tz_i (by omega) (by omega)) (eX0_append (36, .putfield 15, 3) (List.mem_of_getElem? (i := 20) rfl)) (fun H7 lo7 hh7 hf7 hk7 _ hq7 => ?_)
  have mf7_tx_0 := (hk7.1 tx 0 0 0 0 fsX0 htx0 rfl (by decide) (by decide)).trans mf4_tx_0
  have mc7_tb := (hk7.2 tb 12 0 2 120 _ r0 rfl (by decide)).trans hc4
  have kp7 := kp4.trans (hk7.mono (ms' := [(0, 1), (12, 0)]) (fun x hx => by cases List.mem_singleton.mp hx; decide))
  exact W.vret hx hb hr (fun t ht hW => ⟨rfl, by rw [ht]; exact hh7.l0, by rw [ht]; exact kp7, by rw [ht]; exact ⟨tb, _, _, mf7_tx_0, r0, hf7, by rw [List.length_append]; show _ = ((T.length + 1 : Nat) : Int); omega, mc7_tb, hzz⟩⟩) hh7.2.2.1 (eX0_append (39, .return_, 1) (List.mem_of_getElem? (i := 21) rfl))
set_option maxRecDepth 100000 in
set_option maxHeartbeats 4000000 in
theorem hX11_type (l : Launch) (hst : l.stackTraces = false) (D : va_G) (cA : Nat → ClassId) (ro : Nat → Option Nat) (sz : Nat) (H0 : Heap) (x : Nat) (bs : Int64) (n0 : Int32) (L : List Int) (zc : Int) (T O : List Int) (hx10 : ro x = some 10) : vx_Met l yX11_type (gW yX11_type cX11_type 5 (some .int)) { frames := 6, cells := 1, slots := 6, locals := 82 } (zs_PY D cA ro sz H0 (fun H => jCS D cA ro H x L zc ∧ jCK D cA ro H x T O) [.ref x, .long bs, .int n0]) (zk_Q D cA ro sz H0 x vI (spT bs n0.toInt T O)) (zk_X D cA ro sz H0 T O (spT bs n0.toInt T O)) 1 6 (zy_fr sz) := by
  refine vx_ofW (cc := cX11_type) (maxL := 5) (ret := (some .int)) (by decide +kernel) rfl ?_
  intro p e s m args below meth c s1 B hml hex hv
  obtain ⟨rfl, hh, hKa, hBQ, hJ⟩ := hv
  have hx := B.exec
  have hb := B.bytes
  have hr := B.returns
  have hlk := B.notSynchronized
  have hts0 := atoms_spec (ws := gW yX11_type cX11_type 5 (some .int)) B.pre
  have h2 : ∀ w ∈ gT, w.before ([.ref x, .long bs, .int n0] : List Value).toArray s = true := fun w hw => hts0 w (List.mem_cons_of_mem _ hw)
  have hown : s.vm.findClass RX11 = some m.cls := findClass_of_methodNamed B.named
  have hl := lv_entry [.ref x, .long bs, .int n0] (n := 5) (Nat.le_of_ble_eq_true rfl)
  rw [lg_entry_eq]
  generalize (lg_sl [.ref x, .long bs, .int n0] ++ List.replicate (5 - (lg_sl [.ref x, .long bs, .int n0]).length) Slot.unset).toArray = ls at hl ⊢
  have b_bs := zn_i64 bs
  have b_n0 := zn_i32 n0
  obtain ⟨⟨⟨lp, fx0, rlp, hlp⟩, ⟨nz, fn, hnz⟩, hjl⟩, ⟨tx, fx4, rtx, htx⟩, ⟨wr, fx5, rwr, hwj⟩, hkb⟩ := id hJ
  have hjL := hjl.2.1
  have hkT := hkb.1
  have hkO := hkb.2.1
  have hD := zD_all h2 hKa.1.1.1
  have hcl10 := fun (idx k : Nat) (t : zt_T) (h : (idx, 10, k) ∈ gfX11) (hk : fsX11[k]? = some t) => zf_clause (ro := ro) (ms := kMc) h2 hown hKa.1.1.1 gfX11_ok (by decide +kernel) idx 10 k 10 0 fsX11 t h rfl hk
  have hcl0 := fun (idx k : Nat) (t : zt_T) (h : (idx, 0, k) ∈ gfX11) (hk : fsX0[k]? = some t) => zf_clause (ro := ro) (ms := kMc) h2 hown hKa.1.1.1 gfX11_ok (by decide +kernel) idx 0 k 0 0 fsX0 t h rfl hk
  have hcl8 := fun (idx k : Nat) (t : zt_T) (h : (idx, 8, k) ∈ gfX11) (hk : fsX9[k]? = some t) => zf_clause (ro := ro) (ms := kMc) h2 hown hKa.1.1.1 gfX11_ok (by decide +kernel) idx 8 k 8 0 fsX9 t h rfl hk
  have kp0 : zc_kept D RTg ro kMc s.heap s.heap := zc_kept.refl
  refine lv_iload_n hx hb (eX11_type (0, .iload_n 3, 1) (List.mem_of_getElem? (i := 0) rfl)) rfl (lv_at hl 2 rfl) ?_
  refine ff_if_lt hx hb (eX11_type (1, .ifCond .lt 9, 3) (List.mem_of_getElem? (i := 1) rfl)) (tgt := 10) rfl (fun c1 => ?_) (fun c1 => ?_)
  · skip
    exact zx_leafG (ik := 83) (is := 240) (ic := 87) (cls := "java/lang/IllegalArgumentException") (text := "no such count of bytes") hx hb hst hown h2 hKa.1 hh hh (by rw [hl.1, hml]) hex hlk ⟨by decide, by decide, by decide, by decide⟩ (tb_2 121 rfl rfl) (tb_1 17 rfl rfl) (by decide) (gAt_in gAt_1) (by decide +kernel) (by decide) (by decide) (fun t h7 h8 => ⟨hh.grow h7 h8, kept_grow hh h8, Or.inl ⟨rfl, 0, rfl, Or.inl ⟨rfl, rfl, by omega⟩⟩⟩) (eX11_type (10, .new 83, 3) (List.mem_of_getElem? (i := 5) rfl)) (eX11_type (13, .dup, 1) (List.mem_of_getElem? (i := 6) rfl)) (eX11_type (14, .ldc 240, 2) (List.mem_of_getElem? (i := 7) rfl)) (eX11_type (16, .invokespecial 87, 3) (List.mem_of_getElem? (i := 8) rfl)) (eX11_type (19, .athrow, 1) (List.mem_of_getElem? (i := 9) rfl))
  · skip
    refine lv_iload_n hx hb (eX11_type (4, .iload_n 3, 1) (List.mem_of_getElem? (i := 2) rfl)) rfl (lv_at hl 2 rfl) ?_
    refine ff_bipush hx hb (eX11_type (5, .bipush 8, 2) (List.mem_of_getElem? (i := 3) rfl)) (by decide) (by decide) (fun v2 e2 => ?_)
    refine ff_icmp_le hx hb (eX11_type (7, .if_icmp .le 13, 3) (List.mem_of_getElem? (i := 4) rfl)) (tgt := 20) rfl (fun c3 => ?_) (fun c3 => ?_)
    · skip
      obtain ⟨tb4, nt4, zt4, fa4, ra4, fb4, hn4, hc4, hz4⟩ := id htx
      refine lv_aload_n hx hb (eX11_type (20, .aload_n 0, 1) (List.mem_of_getElem? (i := 10) rfl)) rfl (lv_at hl 0 rfl) ?_
      refine tz_get (r := 10) (k := 4) (t := (4, 0, 0)) hx hb hh hx10 rfl rfl (hcl10 38 4 (4, 0, 0) (by decide) rfl).1 fx4 (eX11_type (21, .getfield 38, 3) (List.mem_of_getElem? (i := 11) rfl)) ?_
      refine tz_get (r := 0) (k := 1) (t := (0, 0, 120)) hx hb hh rtx rfl rfl (hcl0 242 1 (0, 0, 120) (by decide) rfl).1 fb4 (eX11_type (24, .getfield 242, 3) (List.mem_of_getElem? (i := 12) rfl)) ?_
      refine lv_iload_n hx hb (eX11_type (27, .iload_n 3, 1) (List.mem_of_getElem? (i := 13) rfl)) rfl (lv_at hl 2 rfl) ?_
      refine ff_iadd hx hb (eX11_type (28, .iadd, 1) (List.mem_of_getElem? (i := 14) rfl)) (by omega) (by omega) (fun v5 e5 => ?_)
      refine ff_bipush hx hb (eX11_type (29, .bipush 120, 2) (List.mem_of_getElem? (i := 15) rfl)) (by decide) (by decide) (fun v6 e6 => ?_)
      refine ff_icmp_le hx hb (eX11_type (31, .if_icmp .le 13, 3) (List.mem_of_getElem? (i := 16) rfl)) (tgt := 44) rfl (fun c7 => ?_) (fun c7 => ?_)
      · skip
        refine ff_iconst hx hb (eX11_type (44, .iconst 0, 1) (List.mem_of_getElem? (i := 22) rfl)) (by decide) (by decide) (fun v8 e8 => ?_)
        refine lv_istore hx hb (eX11_type (45, .istore 4, 2) (List.mem_of_getElem? (i := 23) rfl)) hl (by decide) rfl (fun ls9 hl9 => ?_)
        have loop : ∀ (m0 i : Nat) (iv : Int32) (ls : Array Slot) (H : Heap) (lo0 : List Loc), (i : Int) + m0 = n0.toInt → iv.toInt = (i : Int) → zh_ok D cA RTg ro sz H0 H lo0 → zc_kept D RTg ro kMc s.heap H → zh_f D H x 10 4 = .ref tx → zh_f D H x 10 5 = .ref wr → jTx D cA ro H tx (T ++ btL bs i) → jW D cA ro H wr O → lv_has ls 5 [(4, .int iv), (0, .ref x), (1, .long bs), (3, .int n0)] → W p l e (headSpec (gW yX11_type cX11_type 5 (some .int)) { frames := 6, cells := 1, slots := 6, locals := 82 }).room s m ([.ref x, .long bs, .int n0] : List Value).toArray below meth c H lo0 0 0 (vx_MQ below (zk_Q D cA ro sz H0 x vI (spT bs n0.toInt T O)) (zk_X D cA ro sz H0 T O (spT bs n0.toInt T O)) ([.ref x, .long bs, .int n0] : List Value).toArray s 1 6 (zy_fr sz)) (F0 m 47 ls []) := by
          intro m0
          induction m0 with
          | zero =>
            intro i iv ls H lo0 hi hiv hh0 kpl g4 g5 gTx gWx hl
            refine lv_iload hx hb (eX11_type (47, .iload 4, 2) (List.mem_of_getElem? (i := 24) rfl)) (lv_at hl 0 rfl) ?_
            refine lv_iload_n hx hb (eX11_type (49, .iload_n 3, 1) (List.mem_of_getElem? (i := 25) rfl)) rfl (lv_at hl 3 rfl) ?_
            refine ff_icmp_ge hx hb (eX11_type (50, .if_icmp .ge 25, 3) (List.mem_of_getElem? (i := 26) rfl)) (tgt := 75) rfl (fun c10 => ?_) (fun c10 => (by exfalso; omega))
            obtain ⟨tb11, nt11, zt11, fa11, ra11, fb11, hn11, hc11, hz11⟩ := id gTx
            refine lv_aload_n hx hb (eX11_type (75, .aload_n 0, 1) (List.mem_of_getElem? (i := 39) rfl)) rfl (lv_at hl 1 rfl) ?_
            refine tz_get (r := 10) (k := 4) (t := (4, 0, 0)) hx hb hh0 hx10 rfl rfl (hcl10 38 4 (4, 0, 0) (by decide) rfl).1 g4 (eX11_type (76, .getfield 38, 3) (List.mem_of_getElem? (i := 40) rfl)) ?_
            refine tz_get (r := 0) (k := 1) (t := (0, 0, 120)) hx hb hh0 rtx rfl rfl (hcl0 242 1 (0, 0, 120) (by decide) rfl).1 fb11 (eX11_type (79, .getfield 242, 3) (List.mem_of_getElem? (i := 41) rfl)) ?_
            have hii : n0.toInt.toNat = i := by omega
            have hl9 := hn11
            rw [List.length_append, btL_len] at hl9
            exact vx_ret (W.widen (k := 1) (n := 6) (Nat.zero_le _) (Nat.zero_le _) (W.zret hx hb hr rfl (fun t ht hW => ⟨_, _, (T ++ btL bs i), O, rfl, ⟨_, rfl, rfl⟩, by rw [ht]; exact hh0.l0, by rw [ht]; exact kpl, by rw [ht]; exact ⟨⟨tx, g4, rtx, gTx⟩, ⟨wr, g5, rwr, gWx⟩, ⟨by rw [List.length_append, btL_len]; omega, hkO, hkb.2.2⟩⟩, rfl, Or.inr (Or.inr ⟨rfl, by omega, by omega, by omega, by rw [hii], by omega⟩)⟩) hh0.2.2.1 (eX11_type (82, .ireturn, 1) (List.mem_of_getElem? (i := 42) rfl))))
          | succ m0 ih =>
            intro i iv ls H lo0 hi hiv hh0 kpl g4 g5 gTx gWx hl
            refine lv_iload hx hb (eX11_type (47, .iload 4, 2) (List.mem_of_getElem? (i := 24) rfl)) (lv_at hl 0 rfl) ?_
            refine lv_iload_n hx hb (eX11_type (49, .iload_n 3, 1) (List.mem_of_getElem? (i := 25) rfl)) rfl (lv_at hl 3 rfl) ?_
            refine ff_icmp_ge hx hb (eX11_type (50, .if_icmp .ge 25, 3) (List.mem_of_getElem? (i := 26) rfl)) (tgt := 75) rfl (fun c12 => (by exfalso; omega)) (fun c12 => ?_)
            refine lv_aload_n hx hb (eX11_type (53, .aload_n 0, 1) (List.mem_of_getElem? (i := 27) rfl)) rfl (lv_at hl 1 rfl) ?_
            refine tz_get (r := 10) (k := 4) (t := (4, 0, 0)) hx hb hh0 hx10 rfl rfl (hcl10 38 4 (4, 0, 0) (by decide) rfl).1 g4 (eX11_type (54, .getfield 38, 3) (List.mem_of_getElem? (i := 28) rfl)) ?_
            refine lv_lload_n hx hb (eX11_type (57, .lload_n 1, 1) (List.mem_of_getElem? (i := 29) rfl)) rfl (lv_at hl 2 rfl) ?_
            refine ff_bipush hx hb (eX11_type (58, .bipush 8, 2) (List.mem_of_getElem? (i := 30) rfl)) (by decide) (by decide) (fun v13 e13 => ?_)
            refine lv_iload hx hb (eX11_type (60, .iload 4, 2) (List.mem_of_getElem? (i := 31) rfl)) (lv_at hl 0 rfl) ?_
            refine ff_imulL hx hb (eX11_type (62, .imul, 1) (List.mem_of_getElem? (i := 32) rfl)) (e13) (by omega) (by omega) (fun v14 e14 => ?_)
            refine tz_byC (i := i) hx hb (by omega) (by omega) (eX11_type (63, .lushr, 1) (List.mem_of_getElem? (i := 33) rfl)) (eX11_type (64, .l2i, 1) (List.mem_of_getElem? (i := 34) rfl)) (eX11_type (65, .i2b, 1) (List.mem_of_getElem? (i := 35) rfl)) (fun v15 e15 => ?_)
            refine tz_rowV (As := [.int v15]) (st := []) (b := tx) (C := RX0) (Ts := gT) hx hb hml hown h2 (fun _ h => h) (hX0_append l D cA ro sz H0 tx v15 (T ++ btL bs i) rtx (by omega) (by omega) (by rw [List.length_append, btL_len]; omega)) ⟨rfl, rfl⟩ ⟨by decide, by decide⟩ ⟨by decide, by decide⟩ (tb_2 95 rfl rfl) (tb_1 5 rfl rfl) (tb_2 92 rfl rfl) (tb_2 93 rfl rfl) (tb_2 94 rfl rfl) (show yX0_append.cls ≠ "java/lang/invoke/MethodHandle" ∧ yX0_append.cls ≠ "java/lang/invoke/VarHandle" ∧ (parseMethodDescriptor yX0_append.desc).map (fun d => d.parameters.length) = some 1 by decide +kernel) zs_blind (zs_ob hh0 rtx (show RTg[0]? = some (0, 0, 0, fsX0) from rfl) (zCX0 hKa.1.1.1)) (fun U hU hW => ⟨rfl, by rw [hU]; exact hh0.l0, zKb s U hW.alike hKa.1.1, by rw [hU]; exact gTx⟩) hh0.2.2.1 hl.1 (Nat.le_of_ble_eq_true rfl) (eX11_type (66, .invokevirtual 247, 3) (List.mem_of_getElem? (i := 36) rfl)) (fun r16 s16 t16 lo16 g16 f16 l16 => ?_)
            obtain ⟨q16, z16, c16, j16⟩ := f16
            cases q16
            rw [g16] at c16
            have hh16 : zh_ok D cA RTg ro sz H0 t16.heap lo16 := ⟨z16.1, z16.2.1, l16, z16.2.2.2⟩
            have kp16 := kpl.trans (c16.mono (ms' := kMc) (by decide))
            have mf16_x_4 := (c16.1 x 10 4 10 0 fsX11 hx10 rfl (by decide) (by decide)).trans g4
            have mf16_x_5 := (c16.1 x 10 5 10 0 fsX11 hx10 rfl (by decide) (by decide)).trans g5
            have jw16 := gWx.kept rwr c16 (by decide) (by decide) (by decide)
            refine W.eq (g2 := F0 m 69 ls []) rfl ?_
            refine ff_iinc (k := 0) hx hb (eX11_type (69, .iinc 4 1, 3) (List.mem_of_getElem? (i := 37) rfl)) hl rfl (by decide) (by decide) (by decide) (by omega) (by omega) (fun v17 e17 ls17 hl17 => ?_)
            refine lv_goto hx hb (eX11_type (72, .goto (-25), 3) (List.mem_of_getElem? (i := 38) rfl)) (tgt := 47) rfl ?_
            have hT9 : T ++ btL bs (i + 1) = T ++ btL bs i ++ [v15.toInt] := by rw [btL, ← e15.1, List.append_assoc]
            exact ih (i + 1) v17 ls17 _ _ (by omega) (by omega) hh16 kp16 mf16_x_4 mf16_x_5 (by rw [hT9]; exact j16) jw16 (lv_sub hl17 [0, 1, 2, 3] rfl)
        exact loop n0.toInt.toNat 0 v8 ls9 s.heap _ (by omega) (by omega) hh kp0 fx4 fx5 (by show jTx D cA ro s.heap tx (T ++ []); rw [List.append_nil]; exact htx) hwj (lv_sub hl9 [0, 1, 2, 3] rfl)
      · skip
        exact zx_leafG (ik := 157) (is := 245) (ic := 161) (cls := "java/lang/UnsupportedOperationException") (text := "no room for more bytes") hx hb hst hown h2 hKa.1 hh hh (by rw [hl.1, hml]) hex hlk ⟨by decide, by decide, by decide, by decide⟩ (tb_3 79 rfl rfl) (tb_1 19 rfl rfl) (by decide) (gAt_in gAt_2) (by decide +kernel) (by decide) (by decide) (fun t h7 h8 => ⟨hh.grow h7 h8, kept_grow hh h8, Or.inr ⟨rfl, 0, rfl, Or.inr (Or.inl ⟨rfl, rfl, by omega, by omega, by omega⟩)⟩⟩) (eX11_type (34, .new 157, 3) (List.mem_of_getElem? (i := 17) rfl)) (eX11_type (37, .dup, 1) (List.mem_of_getElem? (i := 18) rfl)) (eX11_type (38, .ldc 245, 2) (List.mem_of_getElem? (i := 19) rfl)) (eX11_type (40, .invokespecial 161, 3) (List.mem_of_getElem? (i := 20) rfl)) (eX11_type (43, .athrow, 1) (List.mem_of_getElem? (i := 21) rfl))
    · skip
      exact zx_leafG (ik := 83) (is := 240) (ic := 87) (cls := "java/lang/IllegalArgumentException") (text := "no such count of bytes") hx hb hst hown h2 hKa.1 hh hh (by rw [hl.1, hml]) hex hlk ⟨by decide, by decide, by decide, by decide⟩ (tb_2 121 rfl rfl) (tb_1 17 rfl rfl) (by decide) (gAt_in gAt_1) (by decide +kernel) (by decide) (by decide) (fun t h7 h8 => ⟨hh.grow h7 h8, kept_grow hh h8, Or.inl ⟨rfl, 0, rfl, Or.inl ⟨rfl, rfl, by omega⟩⟩⟩) (eX11_type (10, .new 83, 3) (List.mem_of_getElem? (i := 5) rfl)) (eX11_type (13, .dup, 1) (List.mem_of_getElem? (i := 6) rfl)) (eX11_type (14, .ldc 240, 2) (List.mem_of_getElem? (i := 7) rfl)) (eX11_type (16, .invokespecial 87, 3) (List.mem_of_getElem? (i := 8) rfl)) (eX11_type (19, .athrow, 1) (List.mem_of_getElem? (i := 9) rfl))
set_option maxRecDepth 100000 in
set_option maxHeartbeats 4000000 in
theorem hX11_out (l : Launch) (hst : l.stackTraces = false) (D : va_G) (cA : Nat → ClassId) (ro : Nat → Option Nat) (sz : Nat) (H0 : Heap) (x : Nat) (i0 : Int32) (L : List Int) (zc : Int) (T O : List Int) (hx10 : ro x = some 10) : vx_Met l yX11_out (gW yX11_out cX11_out 2 (some .int)) { frames := 6, cells := 1, slots := 6, locals := 82 } (zs_PY D cA ro sz H0 (fun H => jCS D cA ro H x L zc ∧ jCK D cA ro H x T O) [.ref x, .int i0]) (zk_Q D cA ro sz H0 x vI (spO i0.toInt T O)) (zk_XO D cA ro sz H0 T O (spO i0.toInt T O)) 1 6 (zy_fr sz) := by
  refine vx_ofW (cc := cX11_out) (maxL := 2) (ret := (some .int)) (by decide +kernel) rfl ?_
  intro p e s m args below meth c s1 B hml hex hv
  obtain ⟨rfl, hh, hKa, hBQ, hJ⟩ := hv
  have hx := B.exec
  have hb := B.bytes
  have hr := B.returns
  have hlk := B.notSynchronized
  have hts0 := atoms_spec (ws := gW yX11_out cX11_out 2 (some .int)) B.pre
  have h2 : ∀ w ∈ gT, w.before ([.ref x, .int i0] : List Value).toArray s = true := fun w hw => hts0 w (List.mem_cons_of_mem _ hw)
  have hown : s.vm.findClass RX11 = some m.cls := findClass_of_methodNamed B.named
  have hl := lv_entry [.ref x, .int i0] (n := 2) (Nat.le_of_ble_eq_true rfl)
  rw [lg_entry_eq]
  generalize (lg_sl [.ref x, .int i0] ++ List.replicate (2 - (lg_sl [.ref x, .int i0]).length) Slot.unset).toArray = ls at hl ⊢
  have b_i0 := zn_i32 i0
  obtain ⟨⟨⟨lp, fx0, rlp, hlp⟩, ⟨nz, fn, hnz⟩, hjl⟩, ⟨tx, fx4, rtx, htx⟩, ⟨wr, fx5, rwr, hwj⟩, hkb⟩ := id hJ
  have hjL := hjl.2.1
  have hkT := hkb.1
  have hkO := hkb.2.1
  have hD := zD_all h2 hKa.1.1.1
  have hcl10 := fun (idx k : Nat) (t : zt_T) (h : (idx, 10, k) ∈ gfX11) (hk : fsX11[k]? = some t) => zf_clause (ro := ro) (ms := kMc) h2 hown hKa.1.1.1 gfX11_ok (by decide +kernel) idx 10 k 10 0 fsX11 t h rfl hk
  have hcl0 := fun (idx k : Nat) (t : zt_T) (h : (idx, 0, k) ∈ gfX11) (hk : fsX0[k]? = some t) => zf_clause (ro := ro) (ms := kMc) h2 hown hKa.1.1.1 gfX11_ok (by decide +kernel) idx 0 k 0 0 fsX0 t h rfl hk
  have hcl8 := fun (idx k : Nat) (t : zt_T) (h : (idx, 8, k) ∈ gfX11) (hk : fsX9[k]? = some t) => zf_clause (ro := ro) (ms := kMc) h2 hown hKa.1.1.1 gfX11_ok (by decide +kernel) idx 8 k 8 0 fsX9 t h rfl hk
  have kp0 : zc_kept D RTg ro kMc s.heap s.heap := zc_kept.refl
  obtain ⟨wb1, nw1, zw1, ga1, gr1, gb1, gn1, gc1, gz1⟩ := id hwj
  have hgn := gn1
  refine lv_iload_n hx hb (eX11_out (0, .iload_n 1, 1) (List.mem_of_getElem? (i := 0) rfl)) rfl (lv_at hl 1 rfl) ?_
  refine ff_if_lt hx hb (eX11_out (1, .ifCond .lt 26, 3) (List.mem_of_getElem? (i := 1) rfl)) (tgt := 27) rfl (fun c2 => ?_) (fun c2 => ?_)
  · skip
    exact zx_leafGW (ik := 369) (is := 371) (ic := 373) (cls := "java/lang/IndexOutOfBoundsException") (text := "no such byte") hx hb hst hown h2 hKa.1 hh hh (by rw [hl.1, hml]) hex hlk ⟨by decide, by decide, by decide, by decide⟩ (tb_6 70 rfl rfl) (tb_1 22 rfl rfl) (by decide) (gAt_in gAt_3) (by decide +kernel) (by decide) (by decide) (fun t h7 h8 => ⟨hh.grow h7 h8, kept_grow hh h8, rfl, 0, rfl, rfl, Or.inl ⟨rfl, by omega⟩⟩) (eX11_out (27, .new 369, 3) (List.mem_of_getElem? (i := 13) rfl)) (eX11_out (30, .dup, 1) (List.mem_of_getElem? (i := 14) rfl)) (eX11_out (31, .ldc_w 371, 3) (List.mem_of_getElem? (i := 15) rfl)) (eX11_out (34, .invokespecial 373, 3) (List.mem_of_getElem? (i := 16) rfl)) (eX11_out (37, .athrow, 1) (List.mem_of_getElem? (i := 17) rfl))
  · skip
    refine lv_iload_n hx hb (eX11_out (4, .iload_n 1, 1) (List.mem_of_getElem? (i := 2) rfl)) rfl (lv_at hl 1 rfl) ?_
    refine lv_aload_n hx hb (eX11_out (5, .aload_n 0, 1) (List.mem_of_getElem? (i := 3) rfl)) rfl (lv_at hl 0 rfl) ?_
    refine tz_get (r := 10) (k := 5) (t := (20, 0, 0)) hx hb hh hx10 rfl rfl (hcl10 45 5 (20, 0, 0) (by decide) rfl).1 fx5 (eX11_out (6, .getfield 45, 3) (List.mem_of_getElem? (i := 4) rfl)) ?_
    refine tz_get (r := 8) (k := 1) (t := (0, 0, 120)) hx hb hh rwr rfl rfl (hcl8 251 1 (0, 0, 120) (by decide) rfl).1 gb1 (eX11_out (9, .getfield 251, 3) (List.mem_of_getElem? (i := 5) rfl)) ?_
    refine ff_icmp_ge hx hb (eX11_out (12, .if_icmp .ge 15, 3) (List.mem_of_getElem? (i := 6) rfl)) (tgt := 27) rfl (fun c3 => ?_) (fun c3 => ?_)
    · skip
      exact zx_leafGW (ik := 369) (is := 371) (ic := 373) (cls := "java/lang/IndexOutOfBoundsException") (text := "no such byte") hx hb hst hown h2 hKa.1 hh hh (by rw [hl.1, hml]) hex hlk ⟨by decide, by decide, by decide, by decide⟩ (tb_6 70 rfl rfl) (tb_1 22 rfl rfl) (by decide) (gAt_in gAt_3) (by decide +kernel) (by decide) (by decide) (fun t h7 h8 => ⟨hh.grow h7 h8, kept_grow hh h8, rfl, 0, rfl, rfl, Or.inl ⟨rfl, by omega⟩⟩) (eX11_out (27, .new 369, 3) (List.mem_of_getElem? (i := 13) rfl)) (eX11_out (30, .dup, 1) (List.mem_of_getElem? (i := 14) rfl)) (eX11_out (31, .ldc_w 371, 3) (List.mem_of_getElem? (i := 15) rfl)) (eX11_out (34, .invokespecial 373, 3) (List.mem_of_getElem? (i := 16) rfl)) (eX11_out (37, .athrow, 1) (List.mem_of_getElem? (i := 17) rfl))
    · skip
      refine lv_iload_n hx hb (eX11_out (15, .iload_n 1, 1) (List.mem_of_getElem? (i := 7) rfl)) rfl (lv_at hl 1 rfl) ?_
      refine lv_aload_n hx hb (eX11_out (16, .aload_n 0, 1) (List.mem_of_getElem? (i := 8) rfl)) rfl (lv_at hl 0 rfl) ?_
      refine tz_get (r := 10) (k := 5) (t := (20, 0, 0)) hx hb hh hx10 rfl rfl (hcl10 45 5 (20, 0, 0) (by decide) rfl).1 fx5 (eX11_out (17, .getfield 45, 3) (List.mem_of_getElem? (i := 9) rfl)) ?_
      refine tz_get (r := 8) (k := 0) (t := (36, 0, 0)) hx hb hh rwr rfl rfl (hcl8 252 0 (36, 0, 0) (by decide) rfl).1 ga1 (eX11_out (20, .getfield 252, 3) (List.mem_of_getElem? (i := 10) rfl)) ?_
      refine tz_alen (ty := .byte) hx hb (zAr hKa.1.1.1 2 (by decide)) hh gr1 (show RTg[16]? = some (1, 2, 120, [(0, (-128), 127)]) from rfl) (by decide) (eX11_out (23, .arraylength, 1) (List.mem_of_getElem? (i := 11) rfl)) (fun v4 e4 => ?_)
      refine ff_icmp_lt hx hb (eX11_out (24, .if_icmp .lt 14, 3) (List.mem_of_getElem? (i := 12) rfl)) (tgt := 38) rfl (fun c5 => ?_) (fun c5 => ?_)
      · skip
        refine lv_aload_n hx hb (eX11_out (38, .aload_n 0, 1) (List.mem_of_getElem? (i := 18) rfl)) rfl (lv_at hl 0 rfl) ?_
        refine tz_get (r := 10) (k := 5) (t := (20, 0, 0)) hx hb hh hx10 rfl rfl (hcl10 45 5 (20, 0, 0) (by decide) rfl).1 fx5 (eX11_out (39, .getfield 45, 3) (List.mem_of_getElem? (i := 19) rfl)) ?_
        refine tz_get (r := 8) (k := 0) (t := (36, 0, 0)) hx hb hh rwr rfl rfl (hcl8 252 0 (36, 0, 0) (by decide) rfl).1 ga1 (eX11_out (42, .getfield 252, 3) (List.mem_of_getElem? (i := 20) rfl)) ?_
        refine lv_iload_n hx hb (eX11_out (45, .iload_n 1, 1) (List.mem_of_getElem? (i := 21) rfl)) rfl (lv_at hl 1 rfl) ?_
        refine tz_bald hx hb (zAr hKa.1.1.1 2 (by decide)) gc1 (by omega) (by omega) (eX11_out (46, .baload, 1) (List.mem_of_getElem? (i := 22) rfl)) ?_
        obtain ⟨v6, hz6, hO6⟩ := gz1 i0.toInt.toNat (by omega)
        have hb6 := hkb.2.2 v6.toInt (List.mem_of_getElem? hO6)
        rw [show i0.toNatClampNeg = i0.toInt.toNat from rfl, hz6]
        refine ff_sipush hx hb (eX11_out (47, .sipush 255, 3) (List.mem_of_getElem? (i := 23) rfl)) (by decide) (by decide) (fun v7 e7 => ?_)
        refine lv_iand hx hb (eX11_out (50, .iand, 1) (List.mem_of_getElem? (i := 24) rfl)) ?_
        have h255 := an_255 (x := v6) (y := v7) (by omega) (by omega) (by omega)
        generalize v6 &&& v7 = v8 at h255 ⊢
        exact vx_ret (W.widen (k := 1) (n := 6) (Nat.zero_le _) (Nat.zero_le _) (W.zret hx hb hr rfl (fun t ht hW => ⟨_, _, T, O, rfl, ⟨_, rfl, rfl⟩, by rw [ht]; exact hh.l0, by rw [ht]; exact kp0, by rw [ht]; exact ⟨⟨tx, fx4, rtx, htx⟩, ⟨wr, fx5, rwr, hwj⟩, hkb⟩, rfl, rfl, Or.inr ⟨rfl, by omega, by omega, by rw [h255]; exact hO6⟩⟩) hh.2.2.1 (eX11_out (51, .ireturn, 1) (List.mem_of_getElem? (i := 25) rfl))))
      · skip
        exact zx_leafGW (ik := 369) (is := 371) (ic := 373) (cls := "java/lang/IndexOutOfBoundsException") (text := "no such byte") hx hb hst hown h2 hKa.1 hh hh (by rw [hl.1, hml]) hex hlk ⟨by decide, by decide, by decide, by decide⟩ (tb_6 70 rfl rfl) (tb_1 22 rfl rfl) (by decide) (gAt_in gAt_3) (by decide +kernel) (by decide) (by decide) (fun t h7 h8 => ⟨hh.grow h7 h8, kept_grow hh h8, rfl, 0, rfl, rfl, Or.inl ⟨rfl, by omega⟩⟩) (eX11_out (27, .new 369, 3) (List.mem_of_getElem? (i := 13) rfl)) (eX11_out (30, .dup, 1) (List.mem_of_getElem? (i := 14) rfl)) (eX11_out (31, .ldc_w 371, 3) (List.mem_of_getElem? (i := 15) rfl)) (eX11_out (34, .invokespecial 373, 3) (List.mem_of_getElem? (i := 16) rfl)) (eX11_out (37, .athrow, 1) (List.mem_of_getElem? (i := 17) rfl))
set_option maxRecDepth 100000 in
set_option maxHeartbeats 4000000 in
theorem hX11_clear (l : Launch) (D : va_G) (cA : Nat → ClassId) (ro : Nat → Option Nat) (sz : Nat) (H0 : Heap) (x : Nat)  (L : List Int) (zc : Int) (T O : List Int) (hx10 : ro x = some 10)  : Met l yX11_clear (gW yX11_clear cX11_clear 2 (some .int)) { frames := 0, cells := 0, slots := 0, locals := 0 } (zs_P D cA ro sz H0 (fun H => jCS D cA ro H x L zc ∧ jCK D cA ro H x T O) [.ref x]) (zk_Q D cA ro sz H0 x vI (spC T O)) 0 0 (zy_fr sz) := by
  refine zy_ofW (cc := cX11_clear) (maxL := 2) (ret := (some .int)) (by decide +kernel) rfl ?_
  intro p e s m args below meth c s1 B hml hv
  obtain ⟨rfl, hh, hKn, hJ⟩ := hv
  have hx := B.exec
  have hb := B.bytes
  have hr := B.returns
  have hlk := B.notSynchronized
  have hts0 := atoms_spec (ws := gW yX11_clear cX11_clear 2 (some .int)) B.pre
  have h2 : ∀ w ∈ gT, w.before ([.ref x] : List Value).toArray s = true := fun w hw => hts0 w (List.mem_cons_of_mem _ hw)
  have hown : s.vm.findClass RX11 = some m.cls := findClass_of_methodNamed B.named
  have hl := lv_entry [.ref x] (n := 2) (Nat.le_of_ble_eq_true rfl)
  rw [lg_entry_eq]
  generalize (lg_sl [.ref x] ++ List.replicate (2 - (lg_sl [.ref x]).length) Slot.unset).toArray = ls at hl ⊢
  have hD := zD_all h2 hKn.1
  have hcl10 := fun (idx k : Nat) (t : zt_T) (h : (idx, 10, k) ∈ gfX11) (hk : fsX11[k]? = some t) => zf_clause (ro := ro) (ms := kMc) h2 hown hKn.1 gfX11_ok (by decide +kernel) idx 10 k 10 0 fsX11 t h rfl hk
  have hcl0 := fun (idx k : Nat) (t : zt_T) (h : (idx, 0, k) ∈ gfX11) (hk : fsX0[k]? = some t) => zf_clause (ro := ro) (ms := kMc) h2 hown hKn.1 gfX11_ok (by decide +kernel) idx 0 k 0 0 fsX0 t h rfl hk
  have hcl8 := fun (idx k : Nat) (t : zt_T) (h : (idx, 8, k) ∈ gfX11) (hk : fsX9[k]? = some t) => zf_clause (ro := ro) (ms := kMc) h2 hown hKn.1 gfX11_ok (by decide +kernel) idx 8 k 8 0 fsX9 t h rfl hk
  have kp0 : zc_kept D RTg ro kMc s.heap s.heap := zc_kept.refl
  obtain ⟨-, ⟨tx, fx4, rtx, htx⟩, ⟨wr, fx5, rwr, hwj⟩, hkb⟩ := id hJ
  have hkT := hkb.1
  have hkO := hkb.2.1
  obtain ⟨tb1, nt1, zt1, fa1, ra1, fb1, hn1, hc1, hz1⟩ := id htx
  refine lv_aload_n hx hb (eX11_clear (0, .aload_n 0, 1) (List.mem_of_getElem? (i := 0) rfl)) rfl (lv_at hl 0 rfl) ?_
  refine tz_get (r := 10) (k := 4) (t := (4, 0, 0)) hx hb hh hx10 rfl rfl (hcl10 38 4 (4, 0, 0) (by decide) rfl).1 fx4 (eX11_clear (1, .getfield 38, 3) (List.mem_of_getElem? (i := 1) rfl)) ?_
  refine tz_get (r := 0) (k := 1) (t := (0, 0, 120)) hx hb hh rtx rfl rfl (hcl0 242 1 (0, 0, 120) (by decide) rfl).1 fb1 (eX11_clear (4, .getfield 242, 3) (List.mem_of_getElem? (i := 2) rfl)) ?_
  refine lv_istore_n hx hb (eX11_clear (7, .istore_n 1, 1) (List.mem_of_getElem? (i := 3) rfl)) rfl hl (by decide) rfl (fun ls2 hl2 => ?_)
  refine lv_aload_n hx hb (eX11_clear (8, .aload_n 0, 1) (List.mem_of_getElem? (i := 4) rfl)) rfl (lv_at hl2 1 rfl) ?_
  refine tz_get (r := 10) (k := 4) (t := (4, 0, 0)) hx hb hh hx10 rfl rfl (hcl10 38 4 (4, 0, 0) (by decide) rfl).1 fx4 (eX11_clear (9, .getfield 38, 3) (List.mem_of_getElem? (i := 5) rfl)) ?_
  refine ff_iconst hx hb (eX11_clear (12, .iconst 0, 1) (List.mem_of_getElem? (i := 6) rfl)) (by decide) (by decide) (fun v3 e3 => ?_)
  obtain ⟨tb8, nt8, zt8, fa8, ra8, fb8, hn8, hc8, hz8⟩ := id htx
  refine tz_put (r := 0) (k := 1) (t := (0, 0, 120)) hx hb hD hh rtx rfl rfl ((hcl0 242 1 (0, 0, 120) (by decide) rfl).2 (by decide)) (tz_i (by omega) (by omega)) (eX11_clear (13, .putfield 242, 3) (List.mem_of_getElem? (i := 7) rfl)) (fun H5 lo5 hh5 hf5 hk5 _ hq5 => ?_)
  have mf5_x_4 := (hk5.1 x 10 4 10 0 fsX11 hx10 rfl (by decide) (by decide)).trans fx4
  have mf5_x_5 := (hk5.1 x 10 5 10 0 fsX11 hx10 rfl (by decide) (by decide)).trans fx5
  have kp5 := kp0.trans (hk5.mono (ms' := kMc) (fun x hx => by cases List.mem_singleton.mp hx; decide))
  have hc9 := (hk5.2 tb8 12 0 2 120 _ ra8 rfl (by decide)).trans hc8
  have hf9 := (hk5.1 tx 0 0 0 0 fsX0 rtx rfl (by decide) (by decide)).trans fa8
  have jz : jTx D cA ro H5 tx [] := ⟨tb8, _, _, hf9, ra8, hf5, by show _ = (0 : Int); omega, hc9, fun i hi => absurd hi (Nat.not_lt_zero _)⟩
  have jwz := hwj.kept rwr hk5 (by decide) (by decide) (by decide)
  refine lv_iload_n hx hb (eX11_clear (16, .iload_n 1, 1) (List.mem_of_getElem? (i := 8) rfl)) rfl (lv_at hl2 0 rfl) ?_
  exact W.zret hx hb hr rfl (fun t ht hW => ⟨_, _, [], O, rfl, ⟨_, rfl, rfl⟩, by rw [ht]; exact hh5.l0, by rw [ht]; exact kp5, by rw [ht]; exact ⟨⟨tx, mf5_x_4, rtx, jz⟩, ⟨wr, mf5_x_5, rwr, jwz⟩, ⟨by decide, hkO, hkb.2.2⟩⟩, rfl, rfl, rfl, hn1⟩) hh5.2.2.1 (eX11_clear (17, .ireturn, 1) (List.mem_of_getElem? (i := 9) rfl))
set_option maxRecDepth 100000 in
set_option maxHeartbeats 4000000 in
theorem hX11_pass (l : Launch) (D : va_G) (cA : Nat → ClassId) (ro : Nat → Option Nat) (sz : Nat) (H0 : Heap) (x : Nat)  (L : List Int) (zc : Int) (T O : List Int) (hx10 : ro x = some 10)  : Met l yX11_pass (gW yX11_pass cX11_pass 2 (some .int)) { frames := 1, cells := 0, slots := 0, locals := 21 } (zs_P D cA ro sz H0 (fun H => jCS D cA ro H x L zc ∧ jCK D cA ro H x T O) [.ref x]) (zk_Q D cA ro sz H0 x vI (spP T O)) 0 0 (zy_fr sz) := by
  refine zy_ofW (cc := cX11_pass) (maxL := 2) (ret := (some .int)) (by decide +kernel) rfl ?_
  intro p e s m args below meth c s1 B hml hv
  obtain ⟨rfl, hh, hKn, hJ⟩ := hv
  have hx := B.exec
  have hb := B.bytes
  have hr := B.returns
  have hlk := B.notSynchronized
  have hts0 := atoms_spec (ws := gW yX11_pass cX11_pass 2 (some .int)) B.pre
  have h2 : ∀ w ∈ gT, w.before ([.ref x] : List Value).toArray s = true := fun w hw => hts0 w (List.mem_cons_of_mem _ hw)
  have hown : s.vm.findClass RX11 = some m.cls := findClass_of_methodNamed B.named
  have hl := lv_entry [.ref x] (n := 2) (Nat.le_of_ble_eq_true rfl)
  rw [lg_entry_eq]
  generalize (lg_sl [.ref x] ++ List.replicate (2 - (lg_sl [.ref x]).length) Slot.unset).toArray = ls at hl ⊢
  have hD := zD_all h2 hKn.1
  have hcl10 := fun (idx k : Nat) (t : zt_T) (h : (idx, 10, k) ∈ gfX11) (hk : fsX11[k]? = some t) => zf_clause (ro := ro) (ms := kMc) h2 hown hKn.1 gfX11_ok (by decide +kernel) idx 10 k 10 0 fsX11 t h rfl hk
  have hcl0 := fun (idx k : Nat) (t : zt_T) (h : (idx, 0, k) ∈ gfX11) (hk : fsX0[k]? = some t) => zf_clause (ro := ro) (ms := kMc) h2 hown hKn.1 gfX11_ok (by decide +kernel) idx 0 k 0 0 fsX0 t h rfl hk
  have hcl8 := fun (idx k : Nat) (t : zt_T) (h : (idx, 8, k) ∈ gfX11) (hk : fsX9[k]? = some t) => zf_clause (ro := ro) (ms := kMc) h2 hown hKn.1 gfX11_ok (by decide +kernel) idx 8 k 8 0 fsX9 t h rfl hk
  have kp0 : zc_kept D RTg ro kMc s.heap s.heap := zc_kept.refl
  obtain ⟨-, ⟨tx, fx4, rtx, htx⟩, ⟨wr, fx5, rwr, hwj⟩, hkb⟩ := id hJ
  have hkT := hkb.1
  have hkO := hkb.2.1
  refine lv_aload_n hx hb (eX11_pass (0, .aload_n 0, 1) (List.mem_of_getElem? (i := 0) rfl)) rfl (lv_at hl 0 rfl) ?_
  refine tz_get (r := 10) (k := 4) (t := (4, 0, 0)) hx hb hh hx10 rfl rfl (hcl10 38 4 (4, 0, 0) (by decide) rfl).1 fx4 (eX11_pass (1, .getfield 38, 3) (List.mem_of_getElem? (i := 1) rfl)) ?_
  refine ff_iconst hx hb (eX11_pass (4, .iconst 0, 1) (List.mem_of_getElem? (i := 2) rfl)) (by decide) (by decide) (fun v1 e1 => ?_)
  obtain ⟨tb2, nt2, zt2, fa2, ra2, fb2, hn2, hc2, hz2⟩ := id htx
  obtain ⟨tb8, nt8, zt8, fa8, ra8, fb8, hn8, hc8, hz8⟩ := id htx
  refine tz_put (r := 0) (k := 1) (t := (0, 0, 120)) hx hb hD hh rtx rfl rfl ((hcl0 242 1 (0, 0, 120) (by decide) rfl).2 (by decide)) (tz_i (by omega) (by omega)) (eX11_pass (5, .putfield 242, 3) (List.mem_of_getElem? (i := 3) rfl)) (fun H4 lo4 hh4 hf4 hk4 _ hq4 => ?_)
  have mf4_x_4 := (hk4.1 x 10 4 10 0 fsX11 hx10 rfl (by decide) (by decide)).trans fx4
  have mf4_x_5 := (hk4.1 x 10 5 10 0 fsX11 hx10 rfl (by decide) (by decide)).trans fx5
  have kp4 := kp0.trans (hk4.mono (ms' := kMc) (fun x hx => by cases List.mem_singleton.mp hx; decide))
  have hc9 := (hk4.2 tb8 12 0 2 120 _ ra8 rfl (by decide)).trans hc8
  have hf9 := (hk4.1 tx 0 0 0 0 fsX0 rtx rfl (by decide) (by decide)).trans fa8
  have jz : jTx D cA ro H4 tx [] := ⟨tb8, _, _, hf9, ra8, hf4, by show _ = (0 : Int); omega, hc9, fun i hi => absurd hi (Nat.not_lt_zero _)⟩
  have jwz := hwj.kept rwr hk4 (by decide) (by decide) (by decide)
  refine ff_iconst hx hb (eX11_pass (8, .iconst 0, 1) (List.mem_of_getElem? (i := 4) rfl)) (by decide) (by decide) (fun v5 e5 => ?_)
  refine lv_istore_n hx hb (eX11_pass (9, .istore_n 1, 1) (List.mem_of_getElem? (i := 5) rfl)) rfl hl (by decide) rfl (fun ls6 hl6 => ?_)
  have loop : ∀ (m0 i : Nat) (iv : Int32) (ls : Array Slot) (H : Heap) (lo0 : List Loc), i + m0 = O.length → iv.toInt = (i : Int) → zh_ok D cA RTg ro sz H0 H lo0 → zc_kept D RTg ro kMc s.heap H → zh_f D H x 10 4 = .ref tx → zh_f D H x 10 5 = .ref wr → jTx D cA ro H tx (O.take i) → jW D cA ro H wr O → lv_has ls 2 [(1, .int iv), (0, .ref x)] → W p l e (headSpec (gW yX11_pass cX11_pass 2 (some .int)) { frames := 1, cells := 0, slots := 0, locals := 21 }).room s m ([.ref x] : List Value).toArray below meth c H lo0 0 0 (MQ below (zk_Q D cA ro sz H0 x vI (spP T O)) ([.ref x] : List Value).toArray s 0 0 (zy_fr sz)) (F0 m 10 ls []) := by
    intro m0
    induction m0 with
    | zero =>
      intro i iv ls H lo0 hi hiv hh0 kpl g4 g5 gTx gWx hl
      obtain ⟨wb7, nw7, zw7, ga7, gr7, gb7, gn7, gc7, gz7⟩ := id gWx
      have hgn := gn7
      refine lv_iload_n hx hb (eX11_pass (10, .iload_n 1, 1) (List.mem_of_getElem? (i := 6) rfl)) rfl (lv_at hl 0 rfl) ?_
      refine lv_aload_n hx hb (eX11_pass (11, .aload_n 0, 1) (List.mem_of_getElem? (i := 7) rfl)) rfl (lv_at hl 1 rfl) ?_
      refine tz_get (r := 10) (k := 5) (t := (20, 0, 0)) hx hb hh0 hx10 rfl rfl (hcl10 45 5 (20, 0, 0) (by decide) rfl).1 g5 (eX11_pass (12, .getfield 45, 3) (List.mem_of_getElem? (i := 8) rfl)) ?_
      refine tz_get (r := 8) (k := 1) (t := (0, 0, 120)) hx hb hh0 rwr rfl rfl (hcl8 251 1 (0, 0, 120) (by decide) rfl).1 gb7 (eX11_pass (15, .getfield 251, 3) (List.mem_of_getElem? (i := 9) rfl)) ?_
      refine ff_icmp_ge hx hb (eX11_pass (18, .if_icmp .ge 37, 3) (List.mem_of_getElem? (i := 10) rfl)) (tgt := 55) rfl (fun c8 => ?_) (fun c8 => (by exfalso; omega))
      obtain ⟨tb9, nt9, zt9, fa9, ra9, fb9, hn9, hc9, hz9⟩ := id gTx
      refine lv_aload_n hx hb (eX11_pass (55, .aload_n 0, 1) (List.mem_of_getElem? (i := 27) rfl)) rfl (lv_at hl 1 rfl) ?_
      refine tz_get (r := 10) (k := 4) (t := (4, 0, 0)) hx hb hh0 hx10 rfl rfl (hcl10 38 4 (4, 0, 0) (by decide) rfl).1 g4 (eX11_pass (56, .getfield 38, 3) (List.mem_of_getElem? (i := 28) rfl)) ?_
      refine tz_get (r := 0) (k := 1) (t := (0, 0, 120)) hx hb hh0 rtx rfl rfl (hcl0 242 1 (0, 0, 120) (by decide) rfl).1 fb9 (eX11_pass (59, .getfield 242, 3) (List.mem_of_getElem? (i := 29) rfl)) ?_
      have hT8 : O.take i = O := by rw [show i = O.length by omega, List.take_length]
      have jt9 := gTx
      rw [hT8] at jt9
      have hl9 := hn9
      rw [hT8] at hl9
      exact W.zret hx hb hr rfl (fun t ht hW => ⟨_, _, O, O, rfl, ⟨_, rfl, rfl⟩, by rw [ht]; exact hh0.l0, by rw [ht]; exact kpl, by rw [ht]; exact ⟨⟨tx, g4, rtx, jt9⟩, ⟨wr, g5, rwr, gWx⟩, ⟨hkO, hkO, hkb.2.2⟩⟩, rfl, rfl, rfl, hl9⟩) hh0.2.2.1 (eX11_pass (62, .ireturn, 1) (List.mem_of_getElem? (i := 30) rfl))
    | succ m0 ih =>
      intro i iv ls H lo0 hi hiv hh0 kpl g4 g5 gTx gWx hl
      obtain ⟨wb10, nw10, zw10, ga10, gr10, gb10, gn10, gc10, gz10⟩ := id gWx
      have hgn := gn10
      refine lv_iload_n hx hb (eX11_pass (10, .iload_n 1, 1) (List.mem_of_getElem? (i := 6) rfl)) rfl (lv_at hl 0 rfl) ?_
      refine lv_aload_n hx hb (eX11_pass (11, .aload_n 0, 1) (List.mem_of_getElem? (i := 7) rfl)) rfl (lv_at hl 1 rfl) ?_
      refine tz_get (r := 10) (k := 5) (t := (20, 0, 0)) hx hb hh0 hx10 rfl rfl (hcl10 45 5 (20, 0, 0) (by decide) rfl).1 g5 (eX11_pass (12, .getfield 45, 3) (List.mem_of_getElem? (i := 8) rfl)) ?_
      refine tz_get (r := 8) (k := 1) (t := (0, 0, 120)) hx hb hh0 rwr rfl rfl (hcl8 251 1 (0, 0, 120) (by decide) rfl).1 gb10 (eX11_pass (15, .getfield 251, 3) (List.mem_of_getElem? (i := 9) rfl)) ?_
      refine ff_icmp_ge hx hb (eX11_pass (18, .if_icmp .ge 37, 3) (List.mem_of_getElem? (i := 10) rfl)) (tgt := 55) rfl (fun c11 => (by exfalso; omega)) (fun c11 => ?_)
      refine lv_iload_n hx hb (eX11_pass (21, .iload_n 1, 1) (List.mem_of_getElem? (i := 11) rfl)) rfl (lv_at hl 0 rfl) ?_
      refine lv_aload_n hx hb (eX11_pass (22, .aload_n 0, 1) (List.mem_of_getElem? (i := 12) rfl)) rfl (lv_at hl 1 rfl) ?_
      refine tz_get (r := 10) (k := 5) (t := (20, 0, 0)) hx hb hh0 hx10 rfl rfl (hcl10 45 5 (20, 0, 0) (by decide) rfl).1 g5 (eX11_pass (23, .getfield 45, 3) (List.mem_of_getElem? (i := 13) rfl)) ?_
      refine tz_get (r := 8) (k := 0) (t := (36, 0, 0)) hx hb hh0 rwr rfl rfl (hcl8 252 0 (36, 0, 0) (by decide) rfl).1 ga10 (eX11_pass (26, .getfield 252, 3) (List.mem_of_getElem? (i := 14) rfl)) ?_
      refine tz_alen (ty := .byte) hx hb (zAr hKn.1 2 (by decide)) hh0 gr10 (show RTg[16]? = some (1, 2, 120, [(0, (-128), 127)]) from rfl) (by decide) (eX11_pass (29, .arraylength, 1) (List.mem_of_getElem? (i := 15) rfl)) (fun v12 e12 => ?_)
      refine ff_icmp_ge hx hb (eX11_pass (30, .if_icmp .ge 25, 3) (List.mem_of_getElem? (i := 16) rfl)) (tgt := 55) rfl (fun c13 => (by exfalso; omega)) (fun c13 => ?_)
      refine lv_aload_n hx hb (eX11_pass (33, .aload_n 0, 1) (List.mem_of_getElem? (i := 17) rfl)) rfl (lv_at hl 1 rfl) ?_
      refine tz_get (r := 10) (k := 4) (t := (4, 0, 0)) hx hb hh0 hx10 rfl rfl (hcl10 38 4 (4, 0, 0) (by decide) rfl).1 g4 (eX11_pass (34, .getfield 38, 3) (List.mem_of_getElem? (i := 18) rfl)) ?_
      refine lv_aload_n hx hb (eX11_pass (37, .aload_n 0, 1) (List.mem_of_getElem? (i := 19) rfl)) rfl (lv_at hl 1 rfl) ?_
      refine tz_get (r := 10) (k := 5) (t := (20, 0, 0)) hx hb hh0 hx10 rfl rfl (hcl10 45 5 (20, 0, 0) (by decide) rfl).1 g5 (eX11_pass (38, .getfield 45, 3) (List.mem_of_getElem? (i := 20) rfl)) ?_
      refine tz_get (r := 8) (k := 0) (t := (36, 0, 0)) hx hb hh0 rwr rfl rfl (hcl8 252 0 (36, 0, 0) (by decide) rfl).1 ga10 (eX11_pass (41, .getfield 252, 3) (List.mem_of_getElem? (i := 21) rfl)) ?_
      refine lv_iload_n hx hb (eX11_pass (44, .iload_n 1, 1) (List.mem_of_getElem? (i := 22) rfl)) rfl (lv_at hl 0 rfl) ?_
      refine tz_bald hx hb (zAr hKn.1 2 (by decide)) gc10 (by omega) (by omega) (eX11_pass (45, .baload, 1) (List.mem_of_getElem? (i := 23) rfl)) ?_
      obtain ⟨v14, hz14, hO14⟩ := gz10 i (by omega)
      have hb14 := hkb.2.2 v14.toInt (List.mem_of_getElem? hO14)
      rw [show iv.toNatClampNeg = i by show iv.toInt.toNat = i; omega, hz14]
      refine tz_rowV (As := [.int v14]) (st := []) (b := tx) (C := RX0) (Ts := gT) hx hb hml hown h2 (fun _ h => h) (hX0_append l D cA ro sz H0 tx v14 (O.take i) rtx (by omega) (by omega) (by rw [List.length_take]; omega)) ⟨rfl, rfl⟩ ⟨by decide, by decide⟩ ⟨by decide, by decide⟩ (tb_2 95 rfl rfl) (tb_1 5 rfl rfl) (tb_2 92 rfl rfl) (tb_2 93 rfl rfl) (tb_2 94 rfl rfl) (show yX0_append.cls ≠ "java/lang/invoke/MethodHandle" ∧ yX0_append.cls ≠ "java/lang/invoke/VarHandle" ∧ (parseMethodDescriptor yX0_append.desc).map (fun d => d.parameters.length) = some 1 by decide +kernel) zs_blind (zs_ob hh0 rtx (show RTg[0]? = some (0, 0, 0, fsX0) from rfl) (zCX0 hKn.1)) (fun U hU hW => ⟨rfl, by rw [hU]; exact hh0.l0, zKb s U hW.alike hKn, by rw [hU]; exact gTx⟩) hh0.2.2.1 hl.1 (Nat.le_of_ble_eq_true rfl) (eX11_pass (46, .invokevirtual 247, 3) (List.mem_of_getElem? (i := 24) rfl)) (fun r15 s15 t15 lo15 g15 f15 l15 => ?_)
      obtain ⟨q15, z15, c15, j15⟩ := f15
      cases q15
      rw [g15] at c15
      have hh15 : zh_ok D cA RTg ro sz H0 t15.heap lo15 := ⟨z15.1, z15.2.1, l15, z15.2.2.2⟩
      have kp15 := kpl.trans (c15.mono (ms' := kMc) (by decide))
      have mf15_x_4 := (c15.1 x 10 4 10 0 fsX11 hx10 rfl (by decide) (by decide)).trans g4
      have mf15_x_5 := (c15.1 x 10 5 10 0 fsX11 hx10 rfl (by decide) (by decide)).trans g5
      have mf15_wr_0 := (c15.1 wr 8 0 8 0 fsX9 rwr rfl (by decide) (by decide)).trans ga10
      have mf15_wr_1 := (c15.1 wr 8 1 8 0 fsX9 rwr rfl (by decide) (by decide)).trans gb10
      have jw15 := gWx.kept rwr c15 (by decide) (by decide) (by decide)
      refine W.eq (g2 := F0 m 49 ls []) rfl ?_
      refine ff_iinc (k := 0) hx hb (eX11_pass (49, .iinc 1 1, 3) (List.mem_of_getElem? (i := 25) rfl)) hl rfl (by decide) (by decide) (by decide) (by omega) (by omega) (fun v16 e16 ls16 hl16 => ?_)
      refine lv_goto hx hb (eX11_pass (52, .goto (-42), 3) (List.mem_of_getElem? (i := 26) rfl)) (tgt := 10) rfl ?_
      have hT9 : O.take (i + 1) = O.take i ++ [v14.toInt] := by rw [List.take_add_one, hO14]; rfl
      exact ih (i + 1) v16 ls16 _ _ (by omega) (by omega) hh15 kp15 mf15_x_4 mf15_x_5 (by rw [hT9]; exact j15) jw15 (lv_sub hl16 [0, 1] rfl)
  exact loop O.length 0 v5 ls6 _ _ (by omega) (by omega) hh4 kp4 mf4_x_4 mf4_x_5 jz jwz (lv_sub hl6 [0, 1] rfl)
