set_option maxRecDepth 100000 in
set_option maxHeartbeats 4000000 in
theorem hX11_instant (l : Launch) (hst : l.stackTraces = false) (D : va_G) (cA : Nat → ClassId) (ro : Nat → Option Nat) (sz : Nat) (H0 : Heap) (x : Nat) (m0 : Int64) (s0 : Int32) (L : List Int) (zc : Int) (hx10 : ro x = some 10) : vx_Met l yX11_instant (gW yX11_instant cX11_instant 4 (some .long)) { frames := 6, cells := 1, slots := 6, locals := 82 } (zs_PX D cA ro sz H0 (fun H => jCS D cA ro H x L zc) [.ref x, .long m0, .int s0]) (zs_Q D cA ro sz H0 x vL (spI m0.toInt s0.toInt L zc)) (zs_X D cA ro sz H0 L zc (spI m0.toInt s0.toInt L zc)) 1 6 (zy_fr sz) := by
  refine vx_ofW (cc := cX11_instant) (maxL := 4) (ret := (some .long)) (by decide +kernel) rfl ?_
  intro p e s m args below meth c s1 B hml hex hv
  obtain ⟨rfl, hh, hKa, hKp, hJ⟩ := hv
  have hx := B.exec
  have hb := B.bytes
  have hr := B.returns
  have hlk := B.notSynchronized
  have hts0 := atoms_spec (ws := gW yX11_instant cX11_instant 4 (some .long)) B.pre
  have h2 : ∀ w ∈ gT, w.before ([.ref x, .long m0, .int s0] : List Value).toArray s = true := fun w hw => hts0 w (List.mem_cons_of_mem _ hw)
  have hown : s.vm.findClass RX11 = some m.cls := findClass_of_methodNamed B.named
  have hl := lv_entry [.ref x, .long m0, .int s0] (n := 4) (Nat.le_of_ble_eq_true rfl)
  rw [lg_entry_eq]
  generalize (lg_sl [.ref x, .long m0, .int s0] ++ List.replicate (4 - (lg_sl [.ref x, .long m0, .int s0]).length) Slot.unset).toArray = ls at hl ⊢
  have b_m0 := zn_i64 m0
  have b_s0 := zn_i32 s0
  have hBM : ∀ U : State, U.heap = s.heap → s.WarmedH U.vm → zBM cA U := fun U hU hW => zBM_B.2 s U hW hU hKp
  obtain ⟨⟨lp, fx0, rlp, hlp⟩, ⟨n, fn, hn⟩, hjl⟩ := id hJ
  obtain ⟨n9, g9, n1, n2⟩ := zh_fT (k := 2) (t := (0, 0, 8)) hh hx10 (show RTg[10]? = some (0, 10, 0, fsX11) from rfl) rfl
  cases fn.symm.trans g9
  dsimp only at n1 n2
  clear g9
  have hjL := hjl.2.1
  have hD := zD_all h2 hKa.1.1.1
  have hcl10 := fun (idx k : Nat) (t : zt_T) (h : (idx, 10, k) ∈ gfX11) (hk : fsX11[k]? = some t) => zf_clause (ro := ro) (ms := []) h2 hown hKa.1.1.1 gfX11_ok (by decide +kernel) idx 10 k 10 0 fsX11 t h rfl hk
  have kp0 : zc_kept D RTg ro jMc s.heap s.heap := zc_kept.refl
  refine lv_lload_n hx hb (eX11_instant (0, .lload_n 1, 1) (List.mem_of_getElem? (i := 0) rfl)) rfl (lv_at hl 1 rfl) ?_
  refine zu_S (vs := [.long m0]) (rest := []) hx hb hml hown hts0 zu_BT (hX2_holdsMinute l m0) ⟨rfl, rfl⟩ ⟨by decide, by decide⟩ ⟨by decide, by decide⟩ (tb_3 108 rfl rfl) (tb_1 13 rfl rfl) (tb_3 106 rfl rfl) (tb_3 107 rfl rfl) (show yX2_holdsMinute.cls ≠ "java/lang/invoke/MethodHandle" ∧ yX2_holdsMinute.cls ≠ "java/lang/invoke/VarHandle" ∧ (parseMethodDescriptor yX2_holdsMinute.desc).map (fun d => d.parameters.length) = some 1 by decide +kernel) rfl (fun _ _ _ => trivial) hl.1 (Nat.le_of_ble_eq_true rfl) (eX11_instant (1, .invokestatic 165, 3) (List.mem_of_getElem? (i := 1) rfl)) (fun w1 f1 => ?_)
  obtain ⟨v1, rfl, e1⟩ := f1
  refine ff_if_eq hx hb (eX11_instant (4, .ifCond .eq 19, 3) (List.mem_of_getElem? (i := 2) rfl)) (tgt := 23) rfl (fun c2 => ?_) (fun c2 => ?_)
  · skip
    exact zx_leafG (ik := 83) (is := 171) (ic := 87) (cls := "java/lang/IllegalArgumentException") (text := "no such second of a minute") hx hb hst hown h2 hKa.1 hh hh (by rw [hl.1, hml]) hex hlk ⟨by decide, by decide, by decide, by decide⟩ (tb_2 121 rfl rfl) (tb_1 17 rfl rfl) (by decide) (gAt_in gAt_1) (by decide +kernel) (by decide) (by decide) (fun t h7 h8 => ⟨hh.grow h7 h8, kept_grow hh h8, kept_grow hh h8, Or.inl ⟨rfl, 0, rfl, rfl, Or.inl ⟨rfl, fun g => by obtain ⟨g1, g2, g3⟩ := g; (try unfold mOK at *); omega⟩⟩⟩) (eX11_instant (23, .new 83, 3) (List.mem_of_getElem? (i := 11) rfl)) (eX11_instant (26, .dup, 1) (List.mem_of_getElem? (i := 12) rfl)) (eX11_instant (27, .ldc 171, 2) (List.mem_of_getElem? (i := 13) rfl)) (eX11_instant (29, .invokespecial 87, 3) (List.mem_of_getElem? (i := 14) rfl)) (eX11_instant (32, .athrow, 1) (List.mem_of_getElem? (i := 15) rfl))
  · skip
    refine lv_iload_n hx hb (eX11_instant (7, .iload_n 3, 1) (List.mem_of_getElem? (i := 3) rfl)) rfl (lv_at hl 2 rfl) ?_
    refine ff_if_lt hx hb (eX11_instant (8, .ifCond .lt 15, 3) (List.mem_of_getElem? (i := 4) rfl)) (tgt := 23) rfl (fun c3 => ?_) (fun c3 => ?_)
    · skip
      exact zx_leafG (ik := 83) (is := 171) (ic := 87) (cls := "java/lang/IllegalArgumentException") (text := "no such second of a minute") hx hb hst hown h2 hKa.1 hh hh (by rw [hl.1, hml]) hex hlk ⟨by decide, by decide, by decide, by decide⟩ (tb_2 121 rfl rfl) (tb_1 17 rfl rfl) (by decide) (gAt_in gAt_1) (by decide +kernel) (by decide) (by decide) (fun t h7 h8 => ⟨hh.grow h7 h8, kept_grow hh h8, kept_grow hh h8, Or.inl ⟨rfl, 0, rfl, rfl, Or.inl ⟨rfl, fun g => by obtain ⟨g1, g2, g3⟩ := g; (try unfold mOK at *); omega⟩⟩⟩) (eX11_instant (23, .new 83, 3) (List.mem_of_getElem? (i := 11) rfl)) (eX11_instant (26, .dup, 1) (List.mem_of_getElem? (i := 12) rfl)) (eX11_instant (27, .ldc 171, 2) (List.mem_of_getElem? (i := 13) rfl)) (eX11_instant (29, .invokespecial 87, 3) (List.mem_of_getElem? (i := 14) rfl)) (eX11_instant (32, .athrow, 1) (List.mem_of_getElem? (i := 15) rfl))
    · skip
      refine lv_iload_n hx hb (eX11_instant (11, .iload_n 3, 1) (List.mem_of_getElem? (i := 5) rfl)) rfl (lv_at hl 2 rfl) ?_
      refine lv_aload_n hx hb (eX11_instant (12, .aload_n 0, 1) (List.mem_of_getElem? (i := 6) rfl)) rfl (lv_at hl 0 rfl) ?_
      refine tz_get (r := 10) (k := 0) (t := (12, 0, 0)) hx hb hh hx10 rfl rfl (hcl10 14 0 (12, 0, 0) (by decide) rfl).1 fx0 (eX11_instant (13, .getfield 14, 3) (List.mem_of_getElem? (i := 7) rfl)) ?_
      refine lv_lload_n hx hb (eX11_instant (16, .lload_n 1, 1) (List.mem_of_getElem? (i := 8) rfl)) rfl (lv_at hl 1 rfl) ?_
      refine tz_rowV (As := [.long m0]) (st := [.int s0]) (b := lp) (C := RX5) (Ts := gT) hx hb hml hown h2 (fun _ h => h) (hX5_lastSecondOf l D cA ro sz H0 lp m0 L rlp (by unfold mOK at *; omega) (by unfold mOK at *; omega)) ⟨rfl, rfl⟩ ⟨by decide, by decide⟩ ⟨by decide, by decide⟩ (tb_3 114 rfl rfl) (tb_1 2 rfl rfl) (tb_3 111 rfl rfl) (tb_3 112 rfl rfl) (tb_3 113 rfl rfl) (show yX5_lastSecondOf.cls ≠ "java/lang/invoke/MethodHandle" ∧ yX5_lastSecondOf.cls ≠ "java/lang/invoke/VarHandle" ∧ (parseMethodDescriptor yX5_lastSecondOf.desc).map (fun d => d.parameters.length) = some 1 by decide +kernel) zs_blind (zs_ob hh rlp (show RTg[4]? = some (0, 4, 0, fsX5) from rfl) (zCX5 hKa.1.1.1)) (fun U hU hW => ⟨rfl, by rw [hU]; exact hh.l0, zKb s U hW.alike hKa.1.1, by rw [hU]; exact hlp⟩) hh.2.2.1 hl.1 (Nat.le_of_ble_eq_true rfl) (eX11_instant (17, .invokevirtual 168, 3) (List.mem_of_getElem? (i := 9) rfl)) (fun r4 s4 t4 lo4 g4 f4 l4 => ?_)
      obtain ⟨z4, v4, q4, e4⟩ := f4
      cases q4
      rw [z4, g4]
      have hh4 : zh_ok D cA RTg ro sz H0 s.heap lo4 := ⟨hh.1, hh.2.1, l4, hh.2.2.2⟩
      refine W.eq (g2 := F0 m 20 ls [.int v4, .int s0]) rfl ?_
      refine ff_icmp_le hx hb (eX11_instant (20, .if_icmp .le 13, 3) (List.mem_of_getElem? (i := 10) rfl)) (tgt := 33) rfl (fun c5 => ?_) (fun c5 => ?_)
      · skip
        refine lv_aload_n hx hb (eX11_instant (33, .aload_n 0, 1) (List.mem_of_getElem? (i := 16) rfl)) rfl (lv_at hl 0 rfl) ?_
        refine tz_get (r := 10) (k := 0) (t := (12, 0, 0)) hx hb hh4 hx10 rfl rfl (hcl10 14 0 (12, 0, 0) (by decide) rfl).1 fx0 (eX11_instant (34, .getfield 14, 3) (List.mem_of_getElem? (i := 17) rfl)) ?_
        refine lv_lload_n hx hb (eX11_instant (37, .lload_n 1, 1) (List.mem_of_getElem? (i := 18) rfl)) rfl (lv_at hl 1 rfl) ?_
        refine lv_iload_n hx hb (eX11_instant (38, .iload_n 3, 1) (List.mem_of_getElem? (i := 19) rfl)) rfl (lv_at hl 2 rfl) ?_
        refine tz_rowV (As := [.long m0, .int s0]) (st := []) (b := lp) (C := RX5) (Ts := gT) hx hb hml hown h2 (fun _ h => h) (hX5_instantOf l D cA ro sz H0 lp m0 s0 L rlp (by unfold mOK at *; omega) (by unfold mOK at *; omega) (by omega) (by omega)) ⟨rfl, rfl⟩ ⟨by decide, by decide⟩ ⟨by decide, by decide⟩ (tb_3 123 rfl rfl) (tb_1 2 rfl rfl) (tb_3 120 rfl rfl) (tb_3 121 rfl rfl) (tb_3 122 rfl rfl) (show yX5_instantOf.cls ≠ "java/lang/invoke/MethodHandle" ∧ yX5_instantOf.cls ≠ "java/lang/invoke/VarHandle" ∧ (parseMethodDescriptor yX5_instantOf.desc).map (fun d => d.parameters.length) = some 2 by decide +kernel) zs_blind (zs_ob hh4 rlp (show RTg[4]? = some (0, 4, 0, fsX5) from rfl) (zCX5 hKa.1.1.1)) (fun U hU hW => ⟨rfl, by rw [hU]; exact hh4.l0, zKb s U hW.alike hKa.1.1, by rw [hU]; exact hlp⟩) hh4.2.2.1 hl.1 (Nat.le_of_ble_eq_true rfl) (eX11_instant (39, .invokevirtual 173, 3) (List.mem_of_getElem? (i := 20) rfl)) (fun r6 s6 t6 lo6 g6 f6 l6 => ?_)
        obtain ⟨z6, v6, q6, e6⟩ := f6
        cases q6
        rw [z6, g6]
        have hh6 : zh_ok D cA RTg ro sz H0 s.heap lo6 := ⟨hh4.1, hh4.2.1, l6, hh4.2.2.2⟩
        refine W.eq (g2 := F0 m 42 ls [.long v6]) rfl ?_
        have hmok : mOK m0.toInt := by unfold mOK at *; omega
        have hiv : iV m0.toInt s0.toInt L := ⟨hmok, by omega, by rcases e4 with ⟨h1, h2, h3⟩ | ⟨h1, h2⟩; exact (show s0.toInt ≤ 59 ∨ s0.toInt = 60 by omega).imp id (fun g => ⟨g, h2, h3⟩); exact Or.inl (by omega)⟩
        exact vx_ret (W.widen (k := 1) (n := 6) (Nat.zero_le _) (Nat.zero_le _) (W.lret hx hb hr (fun t ht hW => ⟨_, _, ro, L, zc, rfl, ⟨_, rfl, rfl⟩, fun _ _ h => h, by rw [ht]; exact hh6.l0, by rw [ht]; exact kp0, by rw [ht]; exact hJ, rfl, rfl, Or.inr ⟨rfl, hiv, by omega⟩⟩) hh6.2.2.1 (eX11_instant (42, .lreturn, 1) (List.mem_of_getElem? (i := 21) rfl))))
      · skip
        exact zx_leafG (ik := 83) (is := 171) (ic := 87) (cls := "java/lang/IllegalArgumentException") (text := "no such second of a minute") hx hb hst hown h2 hKa.1 hh hh4 (by rw [hl.1, hml]) hex hlk ⟨by decide, by decide, by decide, by decide⟩ (tb_2 121 rfl rfl) (tb_1 17 rfl rfl) (by decide) (gAt_in gAt_1) (by decide +kernel) (by decide) (by decide) (fun t h7 h8 => ⟨hh4.grow h7 h8, kept_grow hh4 h8, kept_grow hh4 h8, Or.inl ⟨rfl, 0, rfl, rfl, Or.inl ⟨rfl, fun g => by obtain ⟨g1, g2, g3⟩ := g; rcases e4 with ⟨h1, h2, h3⟩ | ⟨h1, h2⟩; omega; rcases g3 with g4 | ⟨g4, g5⟩; omega; exact h2 g5⟩⟩⟩) (eX11_instant (23, .new 83, 3) (List.mem_of_getElem? (i := 11) rfl)) (eX11_instant (26, .dup, 1) (List.mem_of_getElem? (i := 12) rfl)) (eX11_instant (27, .ldc 171, 2) (List.mem_of_getElem? (i := 13) rfl)) (eX11_instant (29, .invokespecial 87, 3) (List.mem_of_getElem? (i := 14) rfl)) (eX11_instant (32, .athrow, 1) (List.mem_of_getElem? (i := 15) rfl))
set_option maxRecDepth 100000 in
set_option maxHeartbeats 4000000 in
theorem hX11_reading (l : Launch) (hst : l.stackTraces = false) (D : va_G) (cA : Nat → ClassId) (ro : Nat → Option Nat) (sz : Nat) (H0 : Heap) (x : Nat) (t0 : Int64) (w0 : Int32) (L : List Int) (zc : Int) (hx10 : ro x = some 10) : vx_Met l yX11_reading (gW yX11_reading cX11_reading 4 (some .long)) { frames := 6, cells := 1, slots := 6, locals := 92 } (zs_PX D cA ro sz H0 (fun H => jCS D cA ro H x L zc) [.ref x, .long t0, .int w0]) (zs_Q D cA ro sz H0 x vL (spR t0.toInt w0.toInt L zc)) (zs_X D cA ro sz H0 L zc (spR t0.toInt w0.toInt L zc)) 1 6 (zy_fr sz) := by
  refine vx_ofW (cc := cX11_reading) (maxL := 4) (ret := (some .long)) (by decide +kernel) rfl ?_
  intro p e s m args below meth c s1 B hml hex hv
  obtain ⟨rfl, hh, hKa, hKp, hJ⟩ := hv
  have hx := B.exec
  have hb := B.bytes
  have hr := B.returns
  have hlk := B.notSynchronized
  have hts0 := atoms_spec (ws := gW yX11_reading cX11_reading 4 (some .long)) B.pre
  have h2 : ∀ w ∈ gT, w.before ([.ref x, .long t0, .int w0] : List Value).toArray s = true := fun w hw => hts0 w (List.mem_cons_of_mem _ hw)
  have hown : s.vm.findClass RX11 = some m.cls := findClass_of_methodNamed B.named
  have hl := lv_entry [.ref x, .long t0, .int w0] (n := 4) (Nat.le_of_ble_eq_true rfl)
  rw [lg_entry_eq]
  generalize (lg_sl [.ref x, .long t0, .int w0] ++ List.replicate (4 - (lg_sl [.ref x, .long t0, .int w0]).length) Slot.unset).toArray = ls at hl ⊢
  have b_t0 := zn_i64 t0
  have b_w0 := zn_i32 w0
  have hBM : ∀ U : State, U.heap = s.heap → s.WarmedH U.vm → zBM cA U := fun U hU hW => zBM_B.2 s U hW hU hKp
  obtain ⟨⟨lp, fx0, rlp, hlp⟩, ⟨n, fn, hn⟩, hjl⟩ := id hJ
  obtain ⟨n9, g9, n1, n2⟩ := zh_fT (k := 2) (t := (0, 0, 8)) hh hx10 (show RTg[10]? = some (0, 10, 0, fsX11) from rfl) rfl
  cases fn.symm.trans g9
  dsimp only at n1 n2
  clear g9
  have hjL := hjl.2.1
  have hD := zD_all h2 hKa.1.1.1
  have hcl10 := fun (idx k : Nat) (t : zt_T) (h : (idx, 10, k) ∈ gfX11) (hk : fsX11[k]? = some t) => zf_clause (ro := ro) (ms := []) h2 hown hKa.1.1.1 gfX11_ok (by decide +kernel) idx 10 k 10 0 fsX11 t h rfl hk
  have kp0 : zc_kept D RTg ro jMc s.heap s.heap := zc_kept.refl
  refine lv_aload_n hx hb (eX11_reading (0, .aload_n 0, 1) (List.mem_of_getElem? (i := 0) rfl)) rfl (lv_at hl 0 rfl) ?_
  refine tz_get (r := 10) (k := 0) (t := (12, 0, 0)) hx hb hh hx10 rfl rfl (hcl10 14 0 (12, 0, 0) (by decide) rfl).1 fx0 (eX11_reading (1, .getfield 14, 3) (List.mem_of_getElem? (i := 1) rfl)) ?_
  refine lv_lload_n hx hb (eX11_reading (4, .lload_n 1, 1) (List.mem_of_getElem? (i := 2) rfl)) rfl (lv_at hl 1 rfl) ?_
  refine tz_rowV (As := [.long t0]) (st := []) (b := lp) (C := RX5) (Ts := gT) hx hb hml hown h2 (fun _ h => h) (hX5_holds l D cA ro sz H0 lp t0 L rlp) ⟨rfl, rfl⟩ ⟨by decide, by decide⟩ ⟨by decide, by decide⟩ (tb_3 139 rfl rfl) (tb_1 2 rfl rfl) (tb_3 136 rfl rfl) (tb_3 137 rfl rfl) (tb_3 138 rfl rfl) (show yX5_holds.cls ≠ "java/lang/invoke/MethodHandle" ∧ yX5_holds.cls ≠ "java/lang/invoke/VarHandle" ∧ (parseMethodDescriptor yX5_holds.desc).map (fun d => d.parameters.length) = some 1 by decide +kernel) zs_blind (zs_ob hh rlp (show RTg[4]? = some (0, 4, 0, fsX5) from rfl) (zCX5 hKa.1.1.1)) (fun U hU hW => ⟨rfl, by rw [hU]; exact hh.l0, zKb s U hW.alike hKa.1.1, by rw [hU]; exact hlp⟩) hh.2.2.1 hl.1 (Nat.le_of_ble_eq_true rfl) (eX11_reading (5, .invokevirtual 176, 3) (List.mem_of_getElem? (i := 3) rfl)) (fun r1 s1 t1 lo1 g1 f1 l1 => ?_)
  obtain ⟨z1, v1, q1, e1⟩ := f1
  cases q1
  rw [z1, g1]
  have hh1 : zh_ok D cA RTg ro sz H0 s.heap lo1 := ⟨hh.1, hh.2.1, l1, hh.2.2.2⟩
  refine W.eq (g2 := F0 m 8 ls [.int v1]) rfl ?_
  refine ff_if_eq hx hb (eX11_reading (8, .ifCond .eq 12, 3) (List.mem_of_getElem? (i := 4) rfl)) (tgt := 20) rfl (fun c2 => ?_) (fun c2 => ?_)
  · skip
    exact zx_leafG (ik := 83) (is := 177) (ic := 87) (cls := "java/lang/IllegalArgumentException") (text := "no such reading of an instant") hx hb hst hown h2 hKa.1 hh hh1 (by rw [hl.1, hml]) hex hlk ⟨by decide, by decide, by decide, by decide⟩ (tb_2 121 rfl rfl) (tb_1 17 rfl rfl) (by decide) (gAt_in gAt_1) (by decide +kernel) (by decide) (by decide) (fun t h7 h8 => ⟨hh1.grow h7 h8, kept_grow hh1 h8, kept_grow hh1 h8, Or.inl ⟨rfl, 0, rfl, rfl, Or.inl ⟨rfl, fun g => by rcases e1 with h | h; omega; exact h.2 g.1⟩⟩⟩) (eX11_reading (20, .new 83, 3) (List.mem_of_getElem? (i := 10) rfl)) (eX11_reading (23, .dup, 1) (List.mem_of_getElem? (i := 11) rfl)) (eX11_reading (24, .ldc 177, 2) (List.mem_of_getElem? (i := 12) rfl)) (eX11_reading (26, .invokespecial 87, 3) (List.mem_of_getElem? (i := 13) rfl)) (eX11_reading (29, .athrow, 1) (List.mem_of_getElem? (i := 14) rfl))
  · skip
    refine lv_iload_n hx hb (eX11_reading (11, .iload_n 3, 1) (List.mem_of_getElem? (i := 5) rfl)) rfl (lv_at hl 2 rfl) ?_
    refine ff_if_lt hx hb (eX11_reading (12, .ifCond .lt 8, 3) (List.mem_of_getElem? (i := 6) rfl)) (tgt := 20) rfl (fun c3 => ?_) (fun c3 => ?_)
    · skip
      exact zx_leafG (ik := 83) (is := 177) (ic := 87) (cls := "java/lang/IllegalArgumentException") (text := "no such reading of an instant") hx hb hst hown h2 hKa.1 hh hh1 (by rw [hl.1, hml]) hex hlk ⟨by decide, by decide, by decide, by decide⟩ (tb_2 121 rfl rfl) (tb_1 17 rfl rfl) (by decide) (gAt_in gAt_1) (by decide +kernel) (by decide) (by decide) (fun t h7 h8 => ⟨hh1.grow h7 h8, kept_grow hh1 h8, kept_grow hh1 h8, Or.inl ⟨rfl, 0, rfl, rfl, Or.inl ⟨rfl, fun g => by rcases e1 with h | h; omega; exact h.2 g.1⟩⟩⟩) (eX11_reading (20, .new 83, 3) (List.mem_of_getElem? (i := 10) rfl)) (eX11_reading (23, .dup, 1) (List.mem_of_getElem? (i := 11) rfl)) (eX11_reading (24, .ldc 177, 2) (List.mem_of_getElem? (i := 12) rfl)) (eX11_reading (26, .invokespecial 87, 3) (List.mem_of_getElem? (i := 13) rfl)) (eX11_reading (29, .athrow, 1) (List.mem_of_getElem? (i := 14) rfl))
    · skip
      refine lv_iload_n hx hb (eX11_reading (15, .iload_n 3, 1) (List.mem_of_getElem? (i := 7) rfl)) rfl (lv_at hl 2 rfl) ?_
      refine ff_iconst hx hb (eX11_reading (16, .iconst 1, 1) (List.mem_of_getElem? (i := 8) rfl)) (by decide) (by decide) (fun v4 e4 => ?_)
      refine ff_icmp_le hx hb (eX11_reading (17, .if_icmp .le 13, 3) (List.mem_of_getElem? (i := 9) rfl)) (tgt := 30) rfl (fun c5 => ?_) (fun c5 => ?_)
      · skip
        refine lv_iload_n hx hb (eX11_reading (30, .iload_n 3, 1) (List.mem_of_getElem? (i := 15) rfl)) rfl (lv_at hl 2 rfl) ?_
        refine ff_if_ne hx hb (eX11_reading (31, .ifCond .ne 14, 3) (List.mem_of_getElem? (i := 16) rfl)) (tgt := 45) rfl (fun c6 => ?_) (fun c6 => ?_)
        · skip
          refine lv_aload_n hx hb (eX11_reading (45, .aload_n 0, 1) (List.mem_of_getElem? (i := 22) rfl)) rfl (lv_at hl 0 rfl) ?_
          refine tz_get (r := 10) (k := 0) (t := (12, 0, 0)) hx hb hh1 hx10 rfl rfl (hcl10 14 0 (12, 0, 0) (by decide) rfl).1 fx0 (eX11_reading (46, .getfield 14, 3) (List.mem_of_getElem? (i := 23) rfl)) ?_
          refine lv_lload_n hx hb (eX11_reading (49, .lload_n 1, 1) (List.mem_of_getElem? (i := 24) rfl)) rfl (lv_at hl 1 rfl) ?_
          refine tz_rowV (As := [.long t0]) (st := []) (b := lp) (C := RX5) (Ts := gT) hx hb hml hown h2 (fun _ h => h) (hX5_secondAt l D cA ro sz H0 lp t0 L rlp (by have h8 := lsI_b hjL (-365961662); have h9 := lsI_b hjL 364522972; unfold tOK at *; omega) (by have h8 := lsI_b hjL (-365961662); have h9 := lsI_b hjL 364522972; unfold tOK at *; omega)) ⟨rfl, rfl⟩ ⟨by decide, by decide⟩ ⟨by decide, by decide⟩ (tb_3 158 rfl rfl) (tb_1 2 rfl rfl) (tb_3 155 rfl rfl) (tb_3 156 rfl rfl) (tb_3 157 rfl rfl) (show yX5_secondAt.cls ≠ "java/lang/invoke/MethodHandle" ∧ yX5_secondAt.cls ≠ "java/lang/invoke/VarHandle" ∧ (parseMethodDescriptor yX5_secondAt.desc).map (fun d => d.parameters.length) = some 1 by decide +kernel) zs_blind (zs_ob hh1 rlp (show RTg[4]? = some (0, 4, 0, fsX5) from rfl) (zCX5 hKa.1.1.1)) (fun U hU hW => ⟨rfl, by rw [hU]; exact hh1.l0, zKb s U hW.alike hKa.1.1, by rw [hU]; exact hlp⟩) hh1.2.2.1 hl.1 (Nat.le_of_ble_eq_true rfl) (eX11_reading (50, .invokevirtual 183, 3) (List.mem_of_getElem? (i := 25) rfl)) (fun r7 s7 t7 lo7 g7 f7 l7 => ?_)
          obtain ⟨z7, v7, q7, e7⟩ := f7
          cases q7
          rw [z7, g7]
          have hh7 : zh_ok D cA RTg ro sz H0 s.heap lo7 := ⟨hh1.1, hh1.2.1, l7, hh1.2.2.2⟩
          refine W.eq (g2 := F0 m 53 ls [.int v7]) rfl ?_
          refine ff_i2l hx hb (eX11_reading (53, .i2l, 1) (List.mem_of_getElem? (i := 26) rfl)) (fun v8 e8 => ?_)
          have htok : tOK t0.toInt L := by rcases e1 with h | h; exact h.2; exfalso; omega
          obtain ⟨M9, hM9, hs9⟩ := e7
          exact vx_ret (W.widen (k := 1) (n := 6) (Nat.zero_le _) (Nat.zero_le _) (W.lret hx hb hr (fun t ht hW => ⟨_, _, ro, L, zc, rfl, ⟨_, rfl, rfl⟩, fun _ _ h => h, by rw [ht]; exact hh7.l0, by rw [ht]; exact kp0, by rw [ht]; exact hJ, rfl, rfl, Or.inr ⟨rfl, htok, by omega, by omega, M9, hM9, Or.inr ⟨by omega, by omega⟩⟩⟩) hh7.2.2.1 (eX11_reading (54, .lreturn, 1) (List.mem_of_getElem? (i := 27) rfl))))
        · skip
          refine lv_aload_n hx hb (eX11_reading (34, .aload_n 0, 1) (List.mem_of_getElem? (i := 17) rfl)) rfl (lv_at hl 0 rfl) ?_
          refine tz_get (r := 10) (k := 0) (t := (12, 0, 0)) hx hb hh1 hx10 rfl rfl (hcl10 14 0 (12, 0, 0) (by decide) rfl).1 fx0 (eX11_reading (35, .getfield 14, 3) (List.mem_of_getElem? (i := 18) rfl)) ?_
          refine lv_lload_n hx hb (eX11_reading (38, .lload_n 1, 1) (List.mem_of_getElem? (i := 19) rfl)) rfl (lv_at hl 1 rfl) ?_
          refine tz_rowV (As := [.long t0]) (st := []) (b := lp) (C := RX5) (Ts := gT) hx hb hml hown h2 (fun _ h => h) (hX5_minuteAt l D cA ro sz H0 lp t0 L rlp (by have h8 := lsI_b hjL (-365961662); have h9 := lsI_b hjL 364522972; unfold tOK at *; omega) (by have h8 := lsI_b hjL (-365961662); have h9 := lsI_b hjL 364522972; unfold tOK at *; omega)) ⟨rfl, rfl⟩ ⟨by decide, by decide⟩ ⟨by decide, by decide⟩ (tb_3 151 rfl rfl) (tb_1 2 rfl rfl) (tb_3 148 rfl rfl) (tb_3 149 rfl rfl) (tb_3 150 rfl rfl) (show yX5_minuteAt.cls ≠ "java/lang/invoke/MethodHandle" ∧ yX5_minuteAt.cls ≠ "java/lang/invoke/VarHandle" ∧ (parseMethodDescriptor yX5_minuteAt.desc).map (fun d => d.parameters.length) = some 1 by decide +kernel) zs_blind (zs_ob hh1 rlp (show RTg[4]? = some (0, 4, 0, fsX5) from rfl) (zCX5 hKa.1.1.1)) (fun U hU hW => ⟨rfl, by rw [hU]; exact hh1.l0, zKb s U hW.alike hKa.1.1, by rw [hU]; exact hlp⟩) hh1.2.2.1 hl.1 (Nat.le_of_ble_eq_true rfl) (eX11_reading (39, .invokevirtual 179, 3) (List.mem_of_getElem? (i := 20) rfl)) (fun r9 s9 t9 lo9 g9 f9 l9 => ?_)
          obtain ⟨z9, v9, q9, e9⟩ := f9
          cases q9
          rw [z9, g9]
          have hh9 : zh_ok D cA RTg ro sz H0 s.heap lo9 := ⟨hh1.1, hh1.2.1, l9, hh1.2.2.2⟩
          refine W.eq (g2 := F0 m 42 ls [.long v9]) rfl ?_
          refine lv_goto hx hb (eX11_reading (42, .goto 12, 3) (List.mem_of_getElem? (i := 21) rfl)) (tgt := 54) rfl ?_
          have htok : tOK t0.toInt L := by rcases e1 with h | h; exact h.2; exfalso; omega
          exact vx_ret (W.widen (k := 1) (n := 6) (Nat.zero_le _) (Nat.zero_le _) (W.lret hx hb hr (fun t ht hW => ⟨_, _, ro, L, zc, rfl, ⟨_, rfl, rfl⟩, fun _ _ h => h, by rw [ht]; exact hh9.l0, by rw [ht]; exact kp0, by rw [ht]; exact hJ, rfl, rfl, Or.inr ⟨rfl, htok, by omega, by omega, _, e9, Or.inl ⟨by omega, rfl⟩⟩⟩) hh9.2.2.1 (eX11_reading (54, .lreturn, 1) (List.mem_of_getElem? (i := 27) rfl))))
      · skip
        exact zx_leafG (ik := 83) (is := 177) (ic := 87) (cls := "java/lang/IllegalArgumentException") (text := "no such reading of an instant") hx hb hst hown h2 hKa.1 hh hh1 (by rw [hl.1, hml]) hex hlk ⟨by decide, by decide, by decide, by decide⟩ (tb_2 121 rfl rfl) (tb_1 17 rfl rfl) (by decide) (gAt_in gAt_1) (by decide +kernel) (by decide) (by decide) (fun t h7 h8 => ⟨hh1.grow h7 h8, kept_grow hh1 h8, kept_grow hh1 h8, Or.inl ⟨rfl, 0, rfl, rfl, Or.inl ⟨rfl, fun g => by rcases e1 with h | h; omega; exact h.2 g.1⟩⟩⟩) (eX11_reading (20, .new 83, 3) (List.mem_of_getElem? (i := 10) rfl)) (eX11_reading (23, .dup, 1) (List.mem_of_getElem? (i := 11) rfl)) (eX11_reading (24, .ldc 177, 2) (List.mem_of_getElem? (i := 12) rfl)) (eX11_reading (26, .invokespecial 87, 3) (List.mem_of_getElem? (i := 13) rfl)) (eX11_reading (29, .athrow, 1) (List.mem_of_getElem? (i := 14) rfl))
set_option maxRecDepth 100000 in
set_option maxHeartbeats 4000000 in
theorem wS_instant (l : Launch) (hst : l.stackTraces = false) (D : va_G) (cA : Nat → ClassId) (ro : Nat → Option Nat) (sz : Nat) (H0 : Heap) (x : Nat) (p1 : Int64) (p2 : Int32) (o : Nat) (L : List Int) (zc : Int) (hx10 : ro x = some 10) (ho : ro o = some 42) : Met l yL_instant (Cond.codeWith yL_instant cL_instant 6 (some .int) [(0, 10, 13, 13)] :: gT) { frames := 7, cells := 1, slots := 6, locals := 105 } (zs_PX D cA ro sz H0 (fun H => jCS D cA ro H x L zc) [.ref x, .long p1, .int p2, .ref o]) (zs_QL D cA ro sz H0 x o (spI p1.toInt p2.toInt L zc)) 1 6 (zy_fr sz) := by
  refine zw_ofW (cc := cL_instant) (maxL := 6) (ret := some .int) (by decide +kernel) rfl ?_
  intro p e s m args below meth c s1 B hml hv
  obtain ⟨rfl, hh, hKa, hBM, hJ⟩ := hv
  have hx := B.exec
  have hb := B.bytes
  have hr := B.returns
  have hlk := B.notSynchronized
  have hts0 := atoms_spec (ws := Cond.codeWith yL_instant cL_instant 6 (some .int) [(0, 10, 13, 13)] :: gT) B.pre
  have h2 : ∀ w ∈ gT, w.before ([.ref x, .long p1, .int p2, .ref o] : List Value).toArray s = true := fun w hw => hts0 w (List.mem_cons_of_mem _ hw)
  have hown : s.vm.findClass RL = some m.cls := findClass_of_methodNamed B.named
  have hl := lv_entry [.ref x, .long p1, .int p2, .ref o] (n := 6) (Nat.le_of_ble_eq_true rfl)
  rw [lg_entry_eq]
  generalize (lg_sl [.ref x, .long p1, .int p2, .ref o] ++ List.replicate (6 - (lg_sl [.ref x, .long p1, .int p2, .ref o]).length) Slot.unset).toArray = ls at hl ⊢
  refine lv_aload hx hb (eL_instant (0, .aload 4, 2) (List.mem_of_getElem? (i := 0) rfl)) (lv_at hl 3 rfl) ?_
  refine ff_iconst hx hb (eL_instant (2, .iconst 0, 1) (List.mem_of_getElem? (i := 1) rfl)) (by decide) (by decide) (fun v1 e1 => ?_)
  refine lv_aload_n hx hb (eL_instant (3, .aload_n 0, 1) (List.mem_of_getElem? (i := 2) rfl)) rfl (lv_at hl 0 rfl) ?_
  refine lv_lload_n hx hb (eL_instant (4, .lload_n 1, 1) (List.mem_of_getElem? (i := 3) rfl)) rfl (lv_at hl 1 rfl) ?_
  refine lv_iload_n hx hb (eL_instant (5, .iload_n 3, 1) (List.mem_of_getElem? (i := 4) rfl)) rfl (lv_at hl 2 rfl) ?_
  refine zx_rowG (As := [.long p1, .int p2]) (st := [.int v1, .ref o]) (b := x) (C := RX11) hx hb hml hown hts0 (hX11_instant l hst D cA ro sz H0 x p1 p2 L zc hx10) ⟨rfl, rfl⟩ ⟨by decide, by decide⟩ ⟨by decide, by decide⟩ (tb_3 105 rfl rfl) (tb_1 1 rfl rfl) (tb_3 102 rfl rfl) (tb_3 103 rfl rfl) (tb_3 104 rfl rfl) rfl (show yX11_instant.cls ≠ "java/lang/invoke/MethodHandle" ∧ yX11_instant.cls ≠ "java/lang/invoke/VarHandle" ∧ (parseMethodDescriptor yX11_instant.desc).map (fun d => d.parameters.length) = some 2 by decide +kernel) zs_blindX (zw_ob hh hKa.1.1.1 hx10) (fun U hU hW => ⟨rfl, by rw [hU]; exact hh, hKa.warm hW, zBM_B.2 s U hW hU hBM, by rw [hU]; exact hJ⟩) (fun q hq => by cases hq) hl.1 (Nat.le_of_ble_eq_true rfl) (eL_instant (6, .invokevirtual 36, 3) (List.mem_of_getElem? (i := 5) rfl)) (fun v s0 t lo1 g0 g1 g2 => ?_) (fun q s0 t lo1 E ce g0 g1 g3 g4 g5 g2 => ?_)
  · obtain ⟨v9, r9, ro9, L9, c9, q1, ⟨y9, q2, q3⟩, he9, q5, q6, q7, q8⟩ := g1
    cases q1
    cases q2
    rw [g0] at q6
    have hh1 : zh_ok D cA RTg ro9 sz H0 t.heap lo1 := ⟨q5.1, q5.2.1, g2, q5.2.2.2⟩
    have kp1 := q6
    refine W.eq (g2 := F0 m 9 ls [.long y9, .int v1, .ref o]) rfl ?_
    refine zw_out hx hb hh1 hKa.1.1.1 (he9 _ _ ho) (by omega) (eL_instant (9, .lastore, 1) (List.mem_of_getElem? (i := 6) rfl)) (fun H9 lo9 hh9 hq9 _ hz9 => ?_)
    obtain ⟨z9, hz9, hz8⟩ := hz9
    have kg9 : zc_kept D RTg ro9 [(42, 0)] t.heap H9 := zk_setA (by decide) (he9 _ _ ho) rfl hq9
    have kp9 := kp1.trans ((kept_ro he9 kg9).mono (ms' := jMc) (by decide))
    have j9 := q7.kept (he9 _ _ hx10) kg9 (by decide)
    refine lv_goto hx hb (eL_instant (10, .goto 7, 3) (List.mem_of_getElem? (i := 7) rfl)) (tgt := 17) rfl ?_
    refine ff_iconst hx hb (eL_instant (17, .iconst 0, 1) (List.mem_of_getElem? (i := 11) rfl)) (by decide) (by decide) (fun v2 e2 => ?_)
    exact W.zret hx hb hr rfl (fun t ht hW => ⟨_, ro9, L9, c9, z9, y9, rfl, he9, by rw [ht]; exact hh9.l0, by rw [ht]; exact kp9, by rw [ht]; exact j9, by rw [ht]; exact hz9, hz8, Or.inl ⟨by omega, by rw [show y9.toInt = r9 by omega]; exact q8⟩⟩) hh9.2.2.1 (eL_instant (18, .ireturn, 1) (List.mem_of_getElem? (i := 12) rfl))
  · obtain ⟨q4, k4, k5, hE⟩ := g1
    rw [g0] at k4 k5
    have hh1 : zh_ok D cA RTg ro sz H0 t.heap lo1 := ⟨q4.1, q4.2.1, g2, q4.2.2.2⟩
    have j1 := hJ.kept hx10 k5 (by decide)
    obtain ⟨-, z1, oc1, yo1⟩ := zh_arr hh1 ho (show RTg[42]? = some (1, 1, 1, [(1, (-9223372036854775808), 9223372036854775807)]) from rfl)
    obtain ⟨r1, or1, -, -⟩ := yo1 0 (by decide)
    rcases hE with ⟨rfl, sp1⟩ | ⟨rfl, sp1⟩
    · refine vx_catch (own := RL) (name := "java/lang/IllegalArgumentException") hown [] ⟨0, 10, 13, 13⟩ [] (vx_table (x := yL_instant) B (h2 _ (tb_3 101 rfl rfl))) (fun z hz => by cases hz) rfl (by decide) (h2 _ (tb_2 103 rfl rfl)) (va_Nw.use rfl (hKa.1.2.2.2.2.1 (eI, eI) (List.mem_of_getElem? (i := 0) rfl))) g3 g4 g5 ?_
      refine lv_astore hx hb (eL_instant (13, .astore 5, 2) (List.mem_of_getElem? (i := 8) rfl)) hl (by decide) rfl (fun ls3 hl3 => ?_)
      refine ff_iconst hx hb (eL_instant (15, .iconst 1, 1) (List.mem_of_getElem? (i := 9) rfl)) (by decide) (by decide) (fun v4 e4 => ?_)
      exact W.zret hx hb hr rfl (fun t ht hW => ⟨_, ro, L, zc, z1, r1, rfl, fun _ _ h => h, by rw [ht]; exact hh1.l0, by rw [ht]; exact k4, by rw [ht]; exact j1, by rw [ht]; exact oc1, or1, Or.inr ⟨by omega, by have g6 := sp1; rw [show (1 : Int) = _ from (by omega : (1 : Int) = v4.toInt)] at g6; exact g6⟩⟩) hh1.2.2.1 (eL_instant (16, .ireturn, 1) (List.mem_of_getElem? (i := 10) rfl))
    · exfalso
      obtain ⟨r8, sp1⟩ := sp1
      exact spI_no2 sp1
set_option maxRecDepth 100000 in
set_option maxHeartbeats 4000000 in
theorem wS_reading (l : Launch) (hst : l.stackTraces = false) (D : va_G) (cA : Nat → ClassId) (ro : Nat → Option Nat) (sz : Nat) (H0 : Heap) (x : Nat) (p1 : Int64) (p2 : Int32) (o : Nat) (L : List Int) (zc : Int) (hx10 : ro x = some 10) (ho : ro o = some 42) : Met l yL_reading (Cond.codeWith yL_reading cL_reading 6 (some .int) [(0, 10, 13, 13)] :: gT) { frames := 7, cells := 1, slots := 6, locals := 115 } (zs_PX D cA ro sz H0 (fun H => jCS D cA ro H x L zc) [.ref x, .long p1, .int p2, .ref o]) (zs_QL D cA ro sz H0 x o (spR p1.toInt p2.toInt L zc)) 1 6 (zy_fr sz) := by
  refine zw_ofW (cc := cL_reading) (maxL := 6) (ret := some .int) (by decide +kernel) rfl ?_
  intro p e s m args below meth c s1 B hml hv
  obtain ⟨rfl, hh, hKa, hBM, hJ⟩ := hv
  have hx := B.exec
  have hb := B.bytes
  have hr := B.returns
  have hlk := B.notSynchronized
  have hts0 := atoms_spec (ws := Cond.codeWith yL_reading cL_reading 6 (some .int) [(0, 10, 13, 13)] :: gT) B.pre
  have h2 : ∀ w ∈ gT, w.before ([.ref x, .long p1, .int p2, .ref o] : List Value).toArray s = true := fun w hw => hts0 w (List.mem_cons_of_mem _ hw)
  have hown : s.vm.findClass RL = some m.cls := findClass_of_methodNamed B.named
  have hl := lv_entry [.ref x, .long p1, .int p2, .ref o] (n := 6) (Nat.le_of_ble_eq_true rfl)
  rw [lg_entry_eq]
  generalize (lg_sl [.ref x, .long p1, .int p2, .ref o] ++ List.replicate (6 - (lg_sl [.ref x, .long p1, .int p2, .ref o]).length) Slot.unset).toArray = ls at hl ⊢
  refine lv_aload hx hb (eL_reading (0, .aload 4, 2) (List.mem_of_getElem? (i := 0) rfl)) (lv_at hl 3 rfl) ?_
  refine ff_iconst hx hb (eL_reading (2, .iconst 0, 1) (List.mem_of_getElem? (i := 1) rfl)) (by decide) (by decide) (fun v1 e1 => ?_)
  refine lv_aload_n hx hb (eL_reading (3, .aload_n 0, 1) (List.mem_of_getElem? (i := 2) rfl)) rfl (lv_at hl 0 rfl) ?_
  refine lv_lload_n hx hb (eL_reading (4, .lload_n 1, 1) (List.mem_of_getElem? (i := 3) rfl)) rfl (lv_at hl 1 rfl) ?_
  refine lv_iload_n hx hb (eL_reading (5, .iload_n 3, 1) (List.mem_of_getElem? (i := 4) rfl)) rfl (lv_at hl 2 rfl) ?_
  refine zx_rowG (As := [.long p1, .int p2]) (st := [.int v1, .ref o]) (b := x) (C := RX11) hx hb hml hown hts0 (hX11_reading l hst D cA ro sz H0 x p1 p2 L zc hx10) ⟨rfl, rfl⟩ ⟨by decide, by decide⟩ ⟨by decide, by decide⟩ (tb_3 135 rfl rfl) (tb_1 1 rfl rfl) (tb_3 132 rfl rfl) (tb_3 133 rfl rfl) (tb_3 134 rfl rfl) rfl (show yX11_reading.cls ≠ "java/lang/invoke/MethodHandle" ∧ yX11_reading.cls ≠ "java/lang/invoke/VarHandle" ∧ (parseMethodDescriptor yX11_reading.desc).map (fun d => d.parameters.length) = some 2 by decide +kernel) zs_blindX (zw_ob hh hKa.1.1.1 hx10) (fun U hU hW => ⟨rfl, by rw [hU]; exact hh, hKa.warm hW, zBM_B.2 s U hW hU hBM, by rw [hU]; exact hJ⟩) (fun q hq => by cases hq) hl.1 (Nat.le_of_ble_eq_true rfl) (eL_reading (6, .invokevirtual 39, 3) (List.mem_of_getElem? (i := 5) rfl)) (fun v s0 t lo1 g0 g1 g2 => ?_) (fun q s0 t lo1 E ce g0 g1 g3 g4 g5 g2 => ?_)
  · obtain ⟨v9, r9, ro9, L9, c9, q1, ⟨y9, q2, q3⟩, he9, q5, q6, q7, q8⟩ := g1
    cases q1
    cases q2
    rw [g0] at q6
    have hh1 : zh_ok D cA RTg ro9 sz H0 t.heap lo1 := ⟨q5.1, q5.2.1, g2, q5.2.2.2⟩
    have kp1 := q6
    refine W.eq (g2 := F0 m 9 ls [.long y9, .int v1, .ref o]) rfl ?_
    refine zw_out hx hb hh1 hKa.1.1.1 (he9 _ _ ho) (by omega) (eL_reading (9, .lastore, 1) (List.mem_of_getElem? (i := 6) rfl)) (fun H9 lo9 hh9 hq9 _ hz9 => ?_)
    obtain ⟨z9, hz9, hz8⟩ := hz9
    have kg9 : zc_kept D RTg ro9 [(42, 0)] t.heap H9 := zk_setA (by decide) (he9 _ _ ho) rfl hq9
    have kp9 := kp1.trans ((kept_ro he9 kg9).mono (ms' := jMc) (by decide))
    have j9 := q7.kept (he9 _ _ hx10) kg9 (by decide)
    refine lv_goto hx hb (eL_reading (10, .goto 7, 3) (List.mem_of_getElem? (i := 7) rfl)) (tgt := 17) rfl ?_
    refine ff_iconst hx hb (eL_reading (17, .iconst 0, 1) (List.mem_of_getElem? (i := 11) rfl)) (by decide) (by decide) (fun v2 e2 => ?_)
    exact W.zret hx hb hr rfl (fun t ht hW => ⟨_, ro9, L9, c9, z9, y9, rfl, he9, by rw [ht]; exact hh9.l0, by rw [ht]; exact kp9, by rw [ht]; exact j9, by rw [ht]; exact hz9, hz8, Or.inl ⟨by omega, by rw [show y9.toInt = r9 by omega]; exact q8⟩⟩) hh9.2.2.1 (eL_reading (18, .ireturn, 1) (List.mem_of_getElem? (i := 12) rfl))
  · obtain ⟨q4, k4, k5, hE⟩ := g1
    rw [g0] at k4 k5
    have hh1 : zh_ok D cA RTg ro sz H0 t.heap lo1 := ⟨q4.1, q4.2.1, g2, q4.2.2.2⟩
    have j1 := hJ.kept hx10 k5 (by decide)
    obtain ⟨-, z1, oc1, yo1⟩ := zh_arr hh1 ho (show RTg[42]? = some (1, 1, 1, [(1, (-9223372036854775808), 9223372036854775807)]) from rfl)
    obtain ⟨r1, or1, -, -⟩ := yo1 0 (by decide)
    rcases hE with ⟨rfl, sp1⟩ | ⟨rfl, sp1⟩
    · refine vx_catch (own := RL) (name := "java/lang/IllegalArgumentException") hown [] ⟨0, 10, 13, 13⟩ [] (vx_table (x := yL_reading) B (h2 _ (tb_3 131 rfl rfl))) (fun z hz => by cases hz) rfl (by decide) (h2 _ (tb_2 103 rfl rfl)) (va_Nw.use rfl (hKa.1.2.2.2.2.1 (eI, eI) (List.mem_of_getElem? (i := 0) rfl))) g3 g4 g5 ?_
      refine lv_astore hx hb (eL_reading (13, .astore 5, 2) (List.mem_of_getElem? (i := 8) rfl)) hl (by decide) rfl (fun ls3 hl3 => ?_)
      refine ff_iconst hx hb (eL_reading (15, .iconst 1, 1) (List.mem_of_getElem? (i := 9) rfl)) (by decide) (by decide) (fun v4 e4 => ?_)
      exact W.zret hx hb hr rfl (fun t ht hW => ⟨_, ro, L, zc, z1, r1, rfl, fun _ _ h => h, by rw [ht]; exact hh1.l0, by rw [ht]; exact k4, by rw [ht]; exact j1, by rw [ht]; exact oc1, or1, Or.inr ⟨by omega, by have g6 := sp1; rw [show (1 : Int) = _ from (by omega : (1 : Int) = v4.toInt)] at g6; exact g6⟩⟩) hh1.2.2.1 (eL_reading (16, .ireturn, 1) (List.mem_of_getElem? (i := 10) rfl))
    · exfalso
      obtain ⟨r8, sp1⟩ := sp1
      exact spR_no2 sp1
