set_option maxRecDepth 100000 in
set_option maxHeartbeats 4000000 in
theorem hX11_plusY (l : Launch) (hst : l.stackTraces = false) (D : va_G) (cA : Nat → ClassId) (ro : Nat → Option Nat) (sz : Nat) (H0 : Heap) (x : Nat) (zi : Int32) (t0 : Int64) (mo : Int32) (dy : Int32) (L : List Int) (Z : List zE) (R : List rU) (hx10 : ro x = some 10) (hzp : zP Z) : vx_Met l yX11_plus (gW yX11_plus cX11_plus 9 (some .long)) { frames := 6, cells := 1, slots := 6, locals := 176 } (zs_PY D cA ro sz H0 (fun H => jCY D cA ro H x L (Z, R)) [.ref x, .int zi, .long t0, .int mo, .int dy]) (yy_Q D cA ro sz H0 x vL (spPY L (Z, R))) (yy_X D cA ro sz H0 x L (Z, R) (spPY L (Z, R))) 1 6 (zy_fr sz) := by
  refine vx_ofW (cc := cX11_plus) (maxL := 9) (ret := (some .long)) (by decide +kernel) rfl ?_
  intro p e s m args below meth c s1 B hml hex hv
  obtain ⟨rfl, hh, hKa, hBQ, hJ⟩ := hv
  have hx := B.exec
  have hb := B.bytes
  have hr := B.returns
  have hlk := B.notSynchronized
  have hts0 := atoms_spec (ws := gW yX11_plus cX11_plus 9 (some .long)) B.pre
  have h2 : ∀ w ∈ gT, w.before ([.ref x, .int zi, .long t0, .int mo, .int dy] : List Value).toArray s = true := fun w hw => hts0 w (List.mem_cons_of_mem _ hw)
  have hown : s.vm.findClass RX11 = some m.cls := findClass_of_methodNamed B.named
  have hl := lv_entry [.ref x, .int zi, .long t0, .int mo, .int dy] (n := 9) (Nat.le_of_ble_eq_true rfl)
  rw [lg_entry_eq]
  generalize (lg_sl [.ref x, .int zi, .long t0, .int mo, .int dy] ++ List.replicate (9 - (lg_sl [.ref x, .int zi, .long t0, .int mo, .int dy]).length) Slot.unset).toArray = ls at hl ⊢
  have b_zi := zn_i32 zi
  have b_t0 := zn_i64 t0
  have b_mo := zn_i32 mo
  have b_dy := zn_i32 dy
  have hJC := hJ
  have hJZ : jCZ D cA ro s.heap x L Z := hJC.1
  have hRR : jRR D cA ro s.heap x R := hJC.2
  have hRl : R.length = Z.length := hRR.len hJZ
  obtain ⟨⟨lp, fx0, rlp, hlp⟩, ⟨az, z, nz, qf, Af, Bf, hza, hnz, hzi⟩, hjl, hzw⟩ := id hJZ
  obtain ⟨fz, rz, cz, fn⟩ := id hza
  obtain ⟨n9, g9, n1, n2⟩ := zh_fT (k := 2) (t := (0, 0, 8)) hh hx10 (show RTg[10]? = some (0, 10, 0, fsX11) from rfl) rfl
  cases fn.symm.trans g9
  dsimp only at n1 n2
  clear g9
  have hjL := hjl.2.1
  have hD := zD_all h2 hKa.1.1.1
  have hcl10 := fun (idx k : Nat) (t : zt_T) (h : (idx, 10, k) ∈ gfX11) (hk : fsX11[k]? = some t) => zf_clause (ro := ro) (ms := []) h2 hown hKa.1.1.1 gfX11_ok (by decide +kernel) idx 10 k 10 0 fsX11 t h rfl hk
  have kp0 : zc_kept D RTg ro yMc s.heap s.heap := zc_kept.refl
  refine lv_aload_n hx hb (eX11_plus (0, .aload_n 0, 1) (List.mem_of_getElem? (i := 0) rfl)) rfl (lv_at hl 0 rfl) ?_
  refine lv_iload_n hx hb (eX11_plus (1, .iload_n 1, 1) (List.mem_of_getElem? (i := 1) rfl)) rfl (lv_at hl 1 rfl) ?_
  refine tz_rowV (As := [.int zi]) (st := []) (b := x) (C := RX11) (Ts := gT) hx hb hml hown h2 (fun _ h => h) (hX11_zoneAt l D cA ro sz H0 x zi az z nz hx10) ⟨rfl, rfl⟩ ⟨by decide, by decide⟩ ⟨by decide, by decide⟩ (tb_3 211 rfl rfl) (tb_1 1 rfl rfl) (tb_3 208 rfl rfl) (tb_3 210 rfl rfl) (tb_0 1 rfl rfl) (show yX11_zoneAt.cls ≠ "java/lang/invoke/MethodHandle" ∧ yX11_zoneAt.cls ≠ "java/lang/invoke/VarHandle" ∧ (parseMethodDescriptor yX11_zoneAt.desc).map (fun d => d.parameters.length) = some 1 by decide +kernel) zs_blind (zs_ob hh hx10 (show RTg[10]? = some (0, 10, 0, fsX11) from rfl) (zCX11 hKa.1.1.1)) (fun U hU hW => ⟨rfl, by rw [hU]; exact hh.l0, zKb s U hW.alike hKa.1.1, by rw [hU]; exact hza⟩) hh.2.2.1 hl.1 (Nat.le_of_ble_eq_true rfl) (eX11_plus (2, .invokevirtual 196, 3) (List.mem_of_getElem? (i := 2) rfl)) (fun r1 s1 t1 lo1 g1 f1 l1 => ?_)
  obtain ⟨z1, f1⟩ := f1
  rw [z1, g1]
  have hh1 : zh_ok D cA RTg ro sz H0 s.heap lo1 := ⟨hh.1, hh.2.1, l1, hh.2.2.2⟩
  rcases f1 with ⟨q1, bz⟩ | ⟨q1, bz⟩
  · cases q1
    refine W.eq (g2 := F0 m 5 ls [.null]) rfl ?_
    refine lv_astoreN hx hb (eX11_plus (5, .astore 6, 2) (List.mem_of_getElem? (i := 3) rfl)) hl (by decide) rfl (fun ls2 hl2 => ?_)
    refine lv_aloadN hx hb (eX11_plus (7, .aload 6, 2) (List.mem_of_getElem? (i := 4) rfl)) (lv_at hl2 0 rfl) ?_
    refine lv_ifnullN hx hb (eX11_plus (9, .ifnull 14, 3) (List.mem_of_getElem? (i := 5) rfl)) (tgt := 23) rfl ?_
    exact zx_leafG (ik := 83) (is := 224) (ic := 87) (cls := "java/lang/IllegalArgumentException") (text := "no such zone or instant") hx hb hst hown h2 hKa.1 hh hh1 (by rw [hl2.1, hml]) hex hlk ⟨by decide, by decide, by decide, by decide⟩ (tb_2 121 rfl rfl) (tb_1 17 rfl rfl) (by decide) (gAt_in gAt_1) (by decide +kernel) (by decide) (by decide) (fun t h7 h8 => ⟨hh1.grow h7 h8, kp0.trans (kept_grow hh1 h8), hJC.kept hx10 (kept_grow (ms := []) hh1 h8) (by decide), Or.inl ⟨rfl, 0, rfl, rfl, Or.inr rfl, rfl⟩⟩) (eX11_plus (23, .new 83, 3) (List.mem_of_getElem? (i := 11) rfl)) (eX11_plus (26, .dup, 1) (List.mem_of_getElem? (i := 12) rfl)) (eX11_plus (27, .ldc 224, 2) (List.mem_of_getElem? (i := 13) rfl)) (eX11_plus (29, .invokespecial 87, 3) (List.mem_of_getElem? (i := 14) rfl)) (eX11_plus (32, .athrow, 1) (List.mem_of_getElem? (i := 15) rfl))
  · have hlt : zi.toInt.toNat < Z.length := by omega
    obtain ⟨ze, hze⟩ : ∃ e9, Z[zi.toInt.toNat]? = some e9 := ⟨_, List.getElem?_eq_getElem hlt⟩
    obtain ⟨rr, hrr⟩ : ∃ e9, R[zi.toInt.toNat]? = some e9 := ⟨_, List.getElem?_eq_getElem (by omega)⟩
    have hle := hzw.2 ze (List.mem_of_getElem? hze)
    obtain ⟨hz1, ho1⟩ := hzi.1 _ ze hze
    rw [hz1] at q1
    generalize hzq : qf zi.toInt.toNat = zq at q1 ho1 hz1
    generalize hzA : Af zi.toInt.toNat = zA at ho1
    generalize hzB : Bf zi.toInt.toNat = zB at ho1
    cases q1
    have rzq := ho1.1
    obtain ⟨ru, rF, rT, lp9, dr, df, dt, fx9, fzl, fzu, hro, hdr, hne, hclose⟩ := hRR.at hx10 hza hrr hz1
    cases fx0.symm.trans fx9
    have hzr : jZR D cA ro s.heap zq zA zB ze lp L ru rF rT rr := ⟨ho1, fzl, rlp, hlp, fzu, hro⟩
    have hru := hro.1
    refine W.eq (g2 := F0 m 5 ls [.ref zq]) rfl ?_
    refine lv_astore hx hb (eX11_plus (5, .astore 6, 2) (List.mem_of_getElem? (i := 3) rfl)) hl (by decide) rfl (fun ls3 hl3 => ?_)
    refine lv_aload hx hb (eX11_plus (7, .aload 6, 2) (List.mem_of_getElem? (i := 4) rfl)) (lv_at hl3 0 rfl) ?_
    refine lv_ifnull hx hb (eX11_plus (9, .ifnull 14, 3) (List.mem_of_getElem? (i := 5) rfl)) ?_
    refine lv_aload_n hx hb (eX11_plus (12, .aload_n 0, 1) (List.mem_of_getElem? (i := 6) rfl)) rfl (lv_at hl3 1 rfl) ?_
    refine tz_get (r := 10) (k := 0) (t := (12, 0, 0)) hx hb hh1 hx10 rfl rfl (hcl10 14 0 (12, 0, 0) (by decide) rfl).1 fx0 (eX11_plus (13, .getfield 14, 3) (List.mem_of_getElem? (i := 7) rfl)) ?_
    refine lv_lload_n hx hb (eX11_plus (16, .lload_n 2, 1) (List.mem_of_getElem? (i := 8) rfl)) rfl (lv_at hl3 3 rfl) ?_
    refine tz_rowV (As := [.long t0]) (st := []) (b := lp) (C := RX5) (Ts := gT) hx hb hml hown h2 (fun _ h => h) (hX5_holds l D cA ro sz H0 lp t0 L rlp) ⟨rfl, rfl⟩ ⟨by decide, by decide⟩ ⟨by decide, by decide⟩ (tb_3 139 rfl rfl) (tb_1 2 rfl rfl) (tb_3 136 rfl rfl) (tb_3 137 rfl rfl) (tb_3 138 rfl rfl) (show yX5_holds.cls ≠ "java/lang/invoke/MethodHandle" ∧ yX5_holds.cls ≠ "java/lang/invoke/VarHandle" ∧ (parseMethodDescriptor yX5_holds.desc).map (fun d => d.parameters.length) = some 1 by decide +kernel) zs_blind (zs_ob hh1 rlp (show RTg[4]? = some (0, 4, 0, fsX5) from rfl) (zCX5 hKa.1.1.1)) (fun U hU hW => ⟨rfl, by rw [hU]; exact hh1.l0, zKb s U hW.alike hKa.1.1, by rw [hU]; exact hlp⟩) hh1.2.2.1 hl3.1 (Nat.le_of_ble_eq_true rfl) (eX11_plus (17, .invokevirtual 176, 3) (List.mem_of_getElem? (i := 9) rfl)) (fun r4 s4 t4 lo4 g4 f4 l4 => ?_)
    obtain ⟨z4, v4, q4, e4⟩ := f4
    cases q4
    rw [z4, g4]
    have hh4 : zh_ok D cA RTg ro sz H0 s.heap lo4 := ⟨hh1.1, hh1.2.1, l4, hh1.2.2.2⟩
    refine W.eq (g2 := F0 m 20 ls3 [.int v4]) rfl ?_
    refine ff_if_ne hx hb (eX11_plus (20, .ifCond .ne 13, 3) (List.mem_of_getElem? (i := 10) rfl)) (tgt := 33) rfl (fun c5 => ?_) (fun c5 => ?_)
    · skip
      have htk : tOK t0.toInt L := by rcases e4 with h | h; exact h.2; exfalso; omega
      have hl1 := lsI_b hjL (-365961662)
      have hl2 := lsI_b hjL 364522972
      have htk2 := htk
      unfold tOK at htk2
      obtain ⟨fo, fxf, rfo⟩ := tz_ref (k := 8) (rr := 19) hh4 hx10 (show RTg[10]? = some (0, 10, 0, fsX11) from rfl) rfl
      obtain ⟨-, zf0, cf0, -⟩ := zh_arr hh4 rfo (show RTg[19]? = some (1, 1, 63, [(1, (-9223372036854775808), 9223372036854775807)]) from rfl)
      obtain ⟨hoA, hoB9, hoS⟩ := hzp ze (List.mem_of_getElem? hze)
      have hoB : ∀ c ∈ ze.2, oOK c.2 := fun c hc => (hoB9 c hc).1
      refine lv_aload_n hx hb (eX11_plus (33, .aload_n 0, 1) (List.mem_of_getElem? (i := 16) rfl)) rfl (lv_at hl3 1 rfl) ?_
      refine lv_aload hx hb (eX11_plus (34, .aload 6, 2) (List.mem_of_getElem? (i := 17) rfl)) (lv_at hl3 0 rfl) ?_
      refine lv_lload_n hx hb (eX11_plus (36, .lload_n 2, 1) (List.mem_of_getElem? (i := 18) rfl)) rfl (lv_at hl3 3 rfl) ?_
      refine lv_iload hx hb (eX11_plus (37, .iload 4, 2) (List.mem_of_getElem? (i := 19) rfl)) (lv_at hl3 4 rfl) ?_
      refine lv_iload hx hb (eX11_plus (39, .iload 5, 2) (List.mem_of_getElem? (i := 20) rfl)) (lv_at hl3 5 rfl) ?_
      refine tz_rowV (As := [.ref zq, .long t0, .int mo, .int dy]) (st := []) (b := x) (C := RX11) (Ts := gT) hx hb hml hown h2 (fun _ h => h) (hX11_goOn l D cA ro sz H0 x zq t0 mo dy fo zA zB ze lp L ru rF rT rr hx10 rfo rzq hjl hoA hoB9 (by omega) (by omega)) ⟨rfl, rfl⟩ ⟨by decide, by decide⟩ ⟨by decide, by decide⟩ (tb_6 96 rfl rfl) (tb_1 1 rfl rfl) (tb_6 93 rfl rfl) (tb_6 95 rfl rfl) (tb_0 2 rfl rfl) (show yX11_goOn.cls ≠ "java/lang/invoke/MethodHandle" ∧ yX11_goOn.cls ≠ "java/lang/invoke/VarHandle" ∧ (parseMethodDescriptor yX11_goOn.desc).map (fun d => d.parameters.length) = some 4 by decide +kernel) zs_blindB (zs_ob hh4 hx10 (show RTg[10]? = some (0, 10, 0, fsX11) from rfl) (zCX11 hKa.1.1.1)) (fun U hU hW => ⟨rfl, by rw [hU]; exact hh4.l0, ⟨zKb s U hW.alike hKa.1.1, hBQ.alike hW.alike⟩, by rw [hU]; exact ⟨fx0, fxf, hzr, zf0, cf0⟩⟩) hh4.2.2.1 hl3.1 (Nat.le_of_ble_eq_true rfl) (eX11_plus (41, .invokevirtual 374, 3) (List.mem_of_getElem? (i := 21) rfl)) (fun r6 s6 t6 lo6 g6 f6 l6 => ?_)
      obtain ⟨⟨v6, q6⟩, z6, c6, j6, fx6⟩ := f6
      cases q6
      rw [g6] at c6 fx6
      have hh6 : zh_ok D cA RTg ro sz H0 t6.heap lo6 := ⟨z6.1, z6.2.1, l6, z6.2.2.2⟩
      have kp6 := kp0.trans (c6.mono (ms' := yMc) (by decide))
      have sf6 : sfR ro [ru, rF, rT, dr, df, dt] s.heap t6.heap := fun p9 k9 hp hk hn => fx6 p9 (by obtain ⟨n1, -⟩ := l_n6 hn; exact l_n2 n1 (ro_ne hp rfo (by omega)))
      have jrr6 := hclose t6.heap rr sf6 j6.2.2.1.2.2.2.2.2 (zh_fq (fx6 dr (l_n2 hne.1.symm (ro_ne hdr.2.1 rfo (by decide)))) hdr.2.2.1) (zh_fq (fx6 dr (l_n2 hne.1.symm (ro_ne hdr.2.1 rfo (by decide)))) hdr.2.2.2.1)
      rw [l_set hrr] at jrr6
      have jcy6 : jCY D cA ro t6.heap x L (Z, R) := ⟨hJZ.kept hx10 c6 (by decide), jrr6⟩
      refine W.eq (g2 := F0 m 44 ls3 [.long v6]) rfl ?_
      refine lv_lstore hx hb (eX11_plus (44, .lstore 7, 2) (List.mem_of_getElem? (i := 22) rfl)) hl3 (by decide) rfl (fun ls7 hl7 => ?_)
      refine lv_lload hx hb (eX11_plus (46, .lload 7, 2) (List.mem_of_getElem? (i := 23) rfl)) (lv_at hl7 0 rfl) ?_
      refine ff_ldc2 (n := (-9223372036854775808)) hx hb hown h2 (clX11_ok 62 (-9223372036854775808) (List.mem_of_getElem? (i := 0) rfl)) (eX11_plus (48, .ldc2_w 62, 3) (List.mem_of_getElem? (i := 24) rfl)) (fun v8 e8 => ?_)
      refine ff_lcmp hx hb (eX11_plus (51, .lcmp, 1) (List.mem_of_getElem? (i := 25) rfl)) (fun v9 e9 => ?_)
      refine ff_if_ne hx hb (eX11_plus (52, .ifCond .ne 14, 3) (List.mem_of_getElem? (i := 26) rfl)) (tgt := 66) rfl (fun c10 => ?_) (fun c10 => ?_)
      · skip
        refine lv_lload hx hb (eX11_plus (66, .lload 7, 2) (List.mem_of_getElem? (i := 32) rfl)) (lv_at hl7 0 rfl) ?_
        exact vx_ret (W.widen (k := 1) (n := 6) (Nat.zero_le _) (Nat.zero_le _) (W.lret hx hb hr (fun t ht hW => ⟨_, _, ro, L, (Z, R), rfl, ⟨_, rfl, rfl⟩, fun _ _ h => h, by rw [ht]; exact hh6.l0, by rw [ht]; exact kp6, by rw [ht]; exact jcy6, rfl, rfl, Or.inl rfl, rfl⟩) hh6.2.2.1 (eX11_plus (68, .lreturn, 1) (List.mem_of_getElem? (i := 33) rfl))))
      · skip
        exact zx_leafGW (ik := 83) (is := 378) (ic := 87) (cls := "java/lang/IllegalArgumentException") (text := "a time of no year") hx hb hst hown h2 hKa.1 hh hh6 (by rw [hl7.1, hml]) hex hlk ⟨by decide, by decide, by decide, by decide⟩ (tb_2 121 rfl rfl) (tb_1 17 rfl rfl) (by decide) (gAt_in gAt_1) (by decide +kernel) (by decide) (by decide) (fun t h7 h8 => ⟨hh6.grow h7 h8, kp6.trans (kept_grow hh6 h8), jcy6.kept hx10 (kept_grow (ms := []) hh6 h8) (by decide), Or.inl ⟨rfl, 0, rfl, rfl, Or.inr rfl, rfl⟩⟩) (eX11_plus (55, .new 83, 3) (List.mem_of_getElem? (i := 27) rfl)) (eX11_plus (58, .dup, 1) (List.mem_of_getElem? (i := 28) rfl)) (eX11_plus (59, .ldc_w 378, 3) (List.mem_of_getElem? (i := 29) rfl)) (eX11_plus (62, .invokespecial 87, 3) (List.mem_of_getElem? (i := 30) rfl)) (eX11_plus (65, .athrow, 1) (List.mem_of_getElem? (i := 31) rfl))
    · skip
      exact zx_leafG (ik := 83) (is := 224) (ic := 87) (cls := "java/lang/IllegalArgumentException") (text := "no such zone or instant") hx hb hst hown h2 hKa.1 hh hh4 (by rw [hl3.1, hml]) hex hlk ⟨by decide, by decide, by decide, by decide⟩ (tb_2 121 rfl rfl) (tb_1 17 rfl rfl) (by decide) (gAt_in gAt_1) (by decide +kernel) (by decide) (by decide) (fun t h7 h8 => ⟨hh4.grow h7 h8, kp0.trans (kept_grow hh4 h8), hJC.kept hx10 (kept_grow (ms := []) hh4 h8) (by decide), Or.inl ⟨rfl, 0, rfl, rfl, Or.inr rfl, rfl⟩⟩) (eX11_plus (23, .new 83, 3) (List.mem_of_getElem? (i := 11) rfl)) (eX11_plus (26, .dup, 1) (List.mem_of_getElem? (i := 12) rfl)) (eX11_plus (27, .ldc 224, 2) (List.mem_of_getElem? (i := 13) rfl)) (eX11_plus (29, .invokespecial 87, 3) (List.mem_of_getElem? (i := 14) rfl)) (eX11_plus (32, .athrow, 1) (List.mem_of_getElem? (i := 15) rfl))
