set_option maxRecDepth 100000 in
set_option maxHeartbeats 4000000 in
theorem hX11_localY (l : Launch) (hst : l.stackTraces = false) (D : va_G) (cA : Nat → ClassId) (ro : Nat → Option Nat) (sz : Nat) (H0 : Heap) (x : Nat) (zi : Int32) (m0 : Int64) (s0 : Int32) (q0 : Int32) (L : List Int) (Z : List zE) (R : List rU) (hx10 : ro x = some 10) (hzp : zP Z) : vx_Met l yX11_local (gW yX11_local cX11_local 8 (some .long)) { frames := 6, cells := 1, slots := 6, locals := 128 } (zs_PY D cA ro sz H0 (fun H => jCY D cA ro H x L (Z, R)) [.ref x, .int zi, .long m0, .int s0, .int q0]) (yy_Q D cA ro sz H0 x vL (spKY zi.toInt m0.toInt s0.toInt q0.toInt L (Z, R))) (yy_X D cA ro sz H0 x L (Z, R) (spKY zi.toInt m0.toInt s0.toInt q0.toInt L (Z, R))) 1 6 (zy_fr sz) := by
  refine vx_ofW (cc := cX11_local) (maxL := 8) (ret := (some .long)) (by decide +kernel) rfl ?_
  intro p e s m args below meth c s1 B hml hex hv
  obtain ⟨rfl, hh, hKa, hBQ, hJ⟩ := hv
  have hx := B.exec
  have hb := B.bytes
  have hr := B.returns
  have hlk := B.notSynchronized
  have hts0 := atoms_spec (ws := gW yX11_local cX11_local 8 (some .long)) B.pre
  have h2 : ∀ w ∈ gT, w.before ([.ref x, .int zi, .long m0, .int s0, .int q0] : List Value).toArray s = true := fun w hw => hts0 w (List.mem_cons_of_mem _ hw)
  have hown : s.vm.findClass RX11 = some m.cls := findClass_of_methodNamed B.named
  have hl := lv_entry [.ref x, .int zi, .long m0, .int s0, .int q0] (n := 8) (Nat.le_of_ble_eq_true rfl)
  rw [lg_entry_eq]
  generalize (lg_sl [.ref x, .int zi, .long m0, .int s0, .int q0] ++ List.replicate (8 - (lg_sl [.ref x, .int zi, .long m0, .int s0, .int q0]).length) Slot.unset).toArray = ls at hl ⊢
  have b_zi := zn_i32 zi
  have b_m0 := zn_i64 m0
  have b_s0 := zn_i32 s0
  have b_q0 := zn_i32 q0
  have hJC := hJ
  have hJZ : jCZ D cA ro s.heap x L Z := hJC.1
  have hRR : jRR D cA ro s.heap x R := hJC.2
  have hRl : R.length = Z.length := hRR.len hJZ
  obtain ⟨⟨lp, fx0, rlp, hlp⟩, ⟨az, z, nz, qf, Af, Bf, hza, hnz, hzi⟩, hjl, hzw⟩ := id hJZ
  obtain ⟨fz, rz, cz, fn⟩ := id hza
  obtain ⟨n9, g9, n1, n2⟩ := zh_fT (k := 2) (t := (0, 0, 8)) hh hx10 (show RTg[10]? = some (0, 10, 0, fsX11) from rfl) rfl
  cases fn.symm.trans g9
  dsimp only at n1 n2
  clear g9
  have hjL := hjl.2.1
  have hD := zD_all h2 hKa.1.1.1
  have hcl10 := fun (idx k : Nat) (t : zt_T) (h : (idx, 10, k) ∈ gfX11) (hk : fsX11[k]? = some t) => zf_clause (ro := ro) (ms := []) h2 hown hKa.1.1.1 gfX11_ok (by decide +kernel) idx 10 k 10 0 fsX11 t h rfl hk
  have kp0 : zc_kept D RTg ro yMc s.heap s.heap := zc_kept.refl
  refine lv_aload_n hx hb (eX11_local (0, .aload_n 0, 1) (List.mem_of_getElem? (i := 0) rfl)) rfl (lv_at hl 0 rfl) ?_
  refine lv_iload_n hx hb (eX11_local (1, .iload_n 1, 1) (List.mem_of_getElem? (i := 1) rfl)) rfl (lv_at hl 1 rfl) ?_
  refine tz_rowV (As := [.int zi]) (st := []) (b := x) (C := RX11) (Ts := gT) hx hb hml hown h2 (fun _ h => h) (hX11_zoneAt l D cA ro sz H0 x zi az z nz hx10) ⟨rfl, rfl⟩ ⟨by decide, by decide⟩ ⟨by decide, by decide⟩ (tb_3 211 rfl rfl) (tb_1 1 rfl rfl) (tb_3 208 rfl rfl) (tb_3 210 rfl rfl) (tb_0 1 rfl rfl) (show yX11_zoneAt.cls ≠ "java/lang/invoke/MethodHandle" ∧ yX11_zoneAt.cls ≠ "java/lang/invoke/VarHandle" ∧ (parseMethodDescriptor yX11_zoneAt.desc).map (fun d => d.parameters.length) = some 1 by decide +kernel) zs_blind (zs_ob hh hx10 (show RTg[10]? = some (0, 10, 0, fsX11) from rfl) (zCX11 hKa.1.1.1)) (fun U hU hW => ⟨rfl, by rw [hU]; exact hh.l0, zKb s U hW.alike hKa.1.1, by rw [hU]; exact hza⟩) hh.2.2.1 hl.1 (Nat.le_of_ble_eq_true rfl) (eX11_local (2, .invokevirtual 196, 3) (List.mem_of_getElem? (i := 2) rfl)) (fun r1 s1 t1 lo1 g1 f1 l1 => ?_)
  obtain ⟨z1, f1⟩ := f1
  rw [z1, g1]
  have hh1 : zh_ok D cA RTg ro sz H0 s.heap lo1 := ⟨hh.1, hh.2.1, l1, hh.2.2.2⟩
  rcases f1 with ⟨q1, bz⟩ | ⟨q1, bz⟩
  · cases q1
    refine W.eq (g2 := F0 m 5 ls [.null]) rfl ?_
    refine lv_astoreN hx hb (eX11_local (5, .astore 6, 2) (List.mem_of_getElem? (i := 3) rfl)) hl (by decide) rfl (fun ls2 hl2 => ?_)
    refine lv_aloadN hx hb (eX11_local (7, .aload 6, 2) (List.mem_of_getElem? (i := 4) rfl)) (lv_at hl2 0 rfl) ?_
    refine lv_ifnullN hx hb (eX11_local (9, .ifnull 28, 3) (List.mem_of_getElem? (i := 5) rfl)) (tgt := 37) rfl ?_
    exact zx_leafG (ik := 83) (is := 229) (ic := 87) (cls := "java/lang/IllegalArgumentException") (text := "no such zone or local time") hx hb hst hown h2 hKa.1 hh hh1 (by rw [hl2.1, hml]) hex hlk ⟨by decide, by decide, by decide, by decide⟩ (tb_2 121 rfl rfl) (tb_1 17 rfl rfl) (by decide) (gAt_in gAt_1) (by decide +kernel) (by decide) (by decide) (fun t h7 h8 => ⟨hh1.grow h7 h8, kp0.trans (kept_grow hh1 h8), hJC.kept hx10 (kept_grow (ms := []) hh1 h8) (by decide), Or.inl ⟨rfl, 0, rfl, rfl, Or.inl ⟨rfl, fun g => by have g1 := g.1; have g2 : zi.toInt < (Z.length : Int) := g.2.1; have g3 := g.2.2.1; have g4 := g.2.2.2.1; have g5 := g.2.2.2.2.1; have g6 := g.2.2.2.2.2; omega⟩⟩⟩) (eX11_local (37, .new 83, 3) (List.mem_of_getElem? (i := 17) rfl)) (eX11_local (40, .dup, 1) (List.mem_of_getElem? (i := 18) rfl)) (eX11_local (41, .ldc 229, 2) (List.mem_of_getElem? (i := 19) rfl)) (eX11_local (43, .invokespecial 87, 3) (List.mem_of_getElem? (i := 20) rfl)) (eX11_local (46, .athrow, 1) (List.mem_of_getElem? (i := 21) rfl))
  · have hlt : zi.toInt.toNat < Z.length := by omega
    obtain ⟨ze, hze⟩ : ∃ e9, Z[zi.toInt.toNat]? = some e9 := ⟨_, List.getElem?_eq_getElem hlt⟩
    obtain ⟨rr, hrr⟩ : ∃ e9, R[zi.toInt.toNat]? = some e9 := ⟨_, List.getElem?_eq_getElem (by omega)⟩
    have hle := hzw.2 ze (List.mem_of_getElem? hze)
    obtain ⟨hz1, ho1⟩ := hzi.1 _ ze hze
    rw [hz1] at q1
    generalize hzq : qf zi.toInt.toNat = zq at q1 ho1 hz1
    generalize hzA : Af zi.toInt.toNat = zA at ho1
    generalize hzB : Bf zi.toInt.toNat = zB at ho1
    cases q1
    have rzq := ho1.1
    obtain ⟨ru, rF, rT, lp9, dr, df, dt, fx9, fzl, fzu, hro, hdr, hne, hclose⟩ := hRR.at hx10 hza hrr hz1
    cases fx0.symm.trans fx9
    have hzr : jZR D cA ro s.heap zq zA zB ze lp L ru rF rT rr := ⟨ho1, fzl, rlp, hlp, fzu, hro⟩
    have hru := hro.1
    refine W.eq (g2 := F0 m 5 ls [.ref zq]) rfl ?_
    refine lv_astore hx hb (eX11_local (5, .astore 6, 2) (List.mem_of_getElem? (i := 3) rfl)) hl (by decide) rfl (fun ls3 hl3 => ?_)
    refine lv_aload hx hb (eX11_local (7, .aload 6, 2) (List.mem_of_getElem? (i := 4) rfl)) (lv_at hl3 0 rfl) ?_
    refine lv_ifnull hx hb (eX11_local (9, .ifnull 28, 3) (List.mem_of_getElem? (i := 5) rfl)) ?_
    refine lv_iload hx hb (eX11_local (12, .iload 4, 2) (List.mem_of_getElem? (i := 6) rfl)) (lv_at hl3 4 rfl) ?_
    refine ff_if_lt hx hb (eX11_local (14, .ifCond .lt 23, 3) (List.mem_of_getElem? (i := 7) rfl)) (tgt := 37) rfl (fun c4 => ?_) (fun c4 => ?_)
    · skip
      exact zx_leafG (ik := 83) (is := 229) (ic := 87) (cls := "java/lang/IllegalArgumentException") (text := "no such zone or local time") hx hb hst hown h2 hKa.1 hh hh1 (by rw [hl3.1, hml]) hex hlk ⟨by decide, by decide, by decide, by decide⟩ (tb_2 121 rfl rfl) (tb_1 17 rfl rfl) (by decide) (gAt_in gAt_1) (by decide +kernel) (by decide) (by decide) (fun t h7 h8 => ⟨hh1.grow h7 h8, kp0.trans (kept_grow hh1 h8), hJC.kept hx10 (kept_grow (ms := []) hh1 h8) (by decide), Or.inl ⟨rfl, 0, rfl, rfl, Or.inl ⟨rfl, fun g => by have g1 := g.1; have g2 : zi.toInt < (Z.length : Int) := g.2.1; have g3 := g.2.2.1; have g4 := g.2.2.2.1; have g5 := g.2.2.2.2.1; have g6 := g.2.2.2.2.2; omega⟩⟩⟩) (eX11_local (37, .new 83, 3) (List.mem_of_getElem? (i := 17) rfl)) (eX11_local (40, .dup, 1) (List.mem_of_getElem? (i := 18) rfl)) (eX11_local (41, .ldc 229, 2) (List.mem_of_getElem? (i := 19) rfl)) (eX11_local (43, .invokespecial 87, 3) (List.mem_of_getElem? (i := 20) rfl)) (eX11_local (46, .athrow, 1) (List.mem_of_getElem? (i := 21) rfl))
    · skip
      refine lv_iload hx hb (eX11_local (17, .iload 4, 2) (List.mem_of_getElem? (i := 8) rfl)) (lv_at hl3 4 rfl) ?_
      refine ff_bipush hx hb (eX11_local (19, .bipush 60, 2) (List.mem_of_getElem? (i := 9) rfl)) (by decide) (by decide) (fun v5 e5 => ?_)
      refine ff_icmp_gt hx hb (eX11_local (21, .if_icmp .gt 16, 3) (List.mem_of_getElem? (i := 10) rfl)) (tgt := 37) rfl (fun c6 => ?_) (fun c6 => ?_)
      · skip
        exact zx_leafG (ik := 83) (is := 229) (ic := 87) (cls := "java/lang/IllegalArgumentException") (text := "no such zone or local time") hx hb hst hown h2 hKa.1 hh hh1 (by rw [hl3.1, hml]) hex hlk ⟨by decide, by decide, by decide, by decide⟩ (tb_2 121 rfl rfl) (tb_1 17 rfl rfl) (by decide) (gAt_in gAt_1) (by decide +kernel) (by decide) (by decide) (fun t h7 h8 => ⟨hh1.grow h7 h8, kp0.trans (kept_grow hh1 h8), hJC.kept hx10 (kept_grow (ms := []) hh1 h8) (by decide), Or.inl ⟨rfl, 0, rfl, rfl, Or.inl ⟨rfl, fun g => by have g1 := g.1; have g2 : zi.toInt < (Z.length : Int) := g.2.1; have g3 := g.2.2.1; have g4 := g.2.2.2.1; have g5 := g.2.2.2.2.1; have g6 := g.2.2.2.2.2; omega⟩⟩⟩) (eX11_local (37, .new 83, 3) (List.mem_of_getElem? (i := 17) rfl)) (eX11_local (40, .dup, 1) (List.mem_of_getElem? (i := 18) rfl)) (eX11_local (41, .ldc 229, 2) (List.mem_of_getElem? (i := 19) rfl)) (eX11_local (43, .invokespecial 87, 3) (List.mem_of_getElem? (i := 20) rfl)) (eX11_local (46, .athrow, 1) (List.mem_of_getElem? (i := 21) rfl))
      · skip
        refine lv_iload hx hb (eX11_local (24, .iload 5, 2) (List.mem_of_getElem? (i := 11) rfl)) (lv_at hl3 5 rfl) ?_
        refine ff_iconst hx hb (eX11_local (26, .iconst (-1), 1) (List.mem_of_getElem? (i := 12) rfl)) (by decide) (by decide) (fun v7 e7 => ?_)
        refine ff_icmp_lt hx hb (eX11_local (27, .if_icmp .lt 10, 3) (List.mem_of_getElem? (i := 13) rfl)) (tgt := 37) rfl (fun c8 => ?_) (fun c8 => ?_)
        · skip
          exact zx_leafG (ik := 83) (is := 229) (ic := 87) (cls := "java/lang/IllegalArgumentException") (text := "no such zone or local time") hx hb hst hown h2 hKa.1 hh hh1 (by rw [hl3.1, hml]) hex hlk ⟨by decide, by decide, by decide, by decide⟩ (tb_2 121 rfl rfl) (tb_1 17 rfl rfl) (by decide) (gAt_in gAt_1) (by decide +kernel) (by decide) (by decide) (fun t h7 h8 => ⟨hh1.grow h7 h8, kp0.trans (kept_grow hh1 h8), hJC.kept hx10 (kept_grow (ms := []) hh1 h8) (by decide), Or.inl ⟨rfl, 0, rfl, rfl, Or.inl ⟨rfl, fun g => by have g1 := g.1; have g2 : zi.toInt < (Z.length : Int) := g.2.1; have g3 := g.2.2.1; have g4 := g.2.2.2.1; have g5 := g.2.2.2.2.1; have g6 := g.2.2.2.2.2; omega⟩⟩⟩) (eX11_local (37, .new 83, 3) (List.mem_of_getElem? (i := 17) rfl)) (eX11_local (40, .dup, 1) (List.mem_of_getElem? (i := 18) rfl)) (eX11_local (41, .ldc 229, 2) (List.mem_of_getElem? (i := 19) rfl)) (eX11_local (43, .invokespecial 87, 3) (List.mem_of_getElem? (i := 20) rfl)) (eX11_local (46, .athrow, 1) (List.mem_of_getElem? (i := 21) rfl))
        · skip
          refine lv_lload_n hx hb (eX11_local (30, .lload_n 2, 1) (List.mem_of_getElem? (i := 14) rfl)) rfl (lv_at hl3 3 rfl) ?_
          refine zu_S (vs := [.long m0]) (rest := []) hx hb hml hown hts0 zu_BT (hX2_holdsMinute l m0) ⟨rfl, rfl⟩ ⟨by decide, by decide⟩ ⟨by decide, by decide⟩ (tb_3 108 rfl rfl) (tb_1 13 rfl rfl) (tb_3 106 rfl rfl) (tb_3 107 rfl rfl) (show yX2_holdsMinute.cls ≠ "java/lang/invoke/MethodHandle" ∧ yX2_holdsMinute.cls ≠ "java/lang/invoke/VarHandle" ∧ (parseMethodDescriptor yX2_holdsMinute.desc).map (fun d => d.parameters.length) = some 1 by decide +kernel) rfl (fun _ _ _ => trivial) hl3.1 (Nat.le_of_ble_eq_true rfl) (eX11_local (31, .invokestatic 165, 3) (List.mem_of_getElem? (i := 15) rfl)) (fun w9 f9 => ?_)
          obtain ⟨v9, rfl, e9⟩ := f9
          refine ff_if_ne hx hb (eX11_local (34, .ifCond .ne 13, 3) (List.mem_of_getElem? (i := 16) rfl)) (tgt := 47) rfl (fun c10 => ?_) (fun c10 => ?_)
          · skip
            have hmk : mOK m0.toInt := by rcases e9 with h | h; exact h.2; exfalso; omega
            have hmk2 := hmk
            unfold mOK at hmk2
            obtain ⟨fo, fxf, rfo⟩ := tz_ref (k := 8) (rr := 19) hh1 hx10 (show RTg[10]? = some (0, 10, 0, fsX11) from rfl) rfl
            obtain ⟨-, zf0, cf0, -⟩ := zh_arr hh1 rfo (show RTg[19]? = some (1, 1, 63, [(1, (-9223372036854775808), 9223372036854775807)]) from rfl)
            obtain ⟨hoA, hoB9, hoS⟩ := hzp ze (List.mem_of_getElem? hze)
            have hoB : ∀ c ∈ ze.2, oOK c.2 := fun c hc => (hoB9 c hc).1
            refine lv_aload hx hb (eX11_local (47, .aload 6, 2) (List.mem_of_getElem? (i := 22) rfl)) (lv_at hl3 0 rfl) ?_
            refine lv_lload_n hx hb (eX11_local (49, .lload_n 2, 1) (List.mem_of_getElem? (i := 23) rfl)) rfl (lv_at hl3 3 rfl) ?_
            refine lv_iload hx hb (eX11_local (50, .iload 4, 2) (List.mem_of_getElem? (i := 24) rfl)) (lv_at hl3 4 rfl) ?_
            refine lv_aload_n hx hb (eX11_local (52, .aload_n 0, 1) (List.mem_of_getElem? (i := 25) rfl)) rfl (lv_at hl3 1 rfl) ?_
            refine tz_get (r := 10) (k := 8) (t := (42, 0, 0)) hx hb hh1 hx10 rfl rfl (hcl10 70 8 (42, 0, 0) (by decide) rfl).1 fxf (eX11_local (53, .getfield 70, 3) (List.mem_of_getElem? (i := 26) rfl)) ?_
            refine tz_rowV (As := [.long m0, .int s0, .ref fo]) (st := []) (b := zq) (C := RX10) (Ts := gT) hx hb hml hown h2 (fun _ h => h) (hX10_collect l D cA ro sz H0 zq m0 s0 fo zA zB ze lp L ru rF rT rr rzq hjL rfo (by omega) (by omega) (by omega) (by omega) hoA hoB) ⟨rfl, rfl⟩ ⟨by decide, by decide⟩ ⟨by decide, by decide⟩ (tb_4 156 rfl rfl) (tb_1 20 rfl rfl) (tb_4 153 rfl rfl) (tb_4 154 rfl rfl) (tb_4 155 rfl rfl) (show yX10_collect.cls ≠ "java/lang/invoke/MethodHandle" ∧ yX10_collect.cls ≠ "java/lang/invoke/VarHandle" ∧ (parseMethodDescriptor yX10_collect.desc).map (fun d => d.parameters.length) = some 3 by decide +kernel) zs_blindB (zs_ob hh1 rzq (show RTg[9]? = some (0, 9, 0, fsX10) from rfl) (zCX10 hKa.1.1.1)) (fun U hU hW => ⟨rfl, by rw [hU]; exact hh1.l0, ⟨zKb s U hW.alike hKa.1.1, hBQ.alike hW.alike⟩, by rw [hU]; exact ⟨hzr, zf0, cf0⟩⟩) hh1.2.2.1 hl3.1 (Nat.le_of_ble_eq_true rfl) (eX11_local (56, .invokevirtual 231, 3) (List.mem_of_getElem? (i := 27) rfl)) (fun r11 s11 t11 lo11 g11 f11 l11 => ?_)
            obtain ⟨v11, q11, e11, z11, c11, j11, ⟨zf1, cf1, jn1⟩, fx11⟩ := f11
            cases q11
            rw [g11] at c11 fx11
            have hh11 : zh_ok D cA RTg ro sz H0 t11.heap lo11 := ⟨z11.1, z11.2.1, l11, z11.2.2.2⟩
            have kp11 := kp0.trans (c11.mono (ms' := yMc) (by decide))
            have sf11 : sfR ro [ru, rF, rT, dr, df, dt] s.heap t11.heap := fun p9 k9 hp hk hn => fx11 p9 (by obtain ⟨n1, -⟩ := l_n6 hn; exact l_n2 n1 (ro_ne hp rfo (by omega)))
            have jrr11 := hclose t11.heap rr sf11 j11.2.2.2.2.2 (zh_fq (fx11 dr (l_n2 hne.1.symm (ro_ne hdr.2.1 rfo (by decide)))) hdr.2.2.1) (zh_fq (fx11 dr (l_n2 hne.1.symm (ro_ne hdr.2.1 rfo (by decide)))) hdr.2.2.2.1)
            rw [l_set hrr] at jrr11
            have jcy11 : jCY D cA ro t11.heap x L (Z, R) := ⟨hJZ.kept hx10 c11 (by decide), jrr11⟩
            have fxf1 := (c11.1 x 10 8 10 0 fsX11 hx10 rfl (by decide) (by decide)).trans fxf
            generalize hcl : clF L ze rr m0.toInt s0.toInt = A at e11 jn1
            refine W.eq (g2 := F0 m 59 ls3 [.int v11]) rfl ?_
            refine lv_istore hx hb (eX11_local (59, .istore 7, 2) (List.mem_of_getElem? (i := 28) rfl)) hl3 (by decide) rfl (fun ls12 hl12 => ?_)
            refine lv_iload hx hb (eX11_local (61, .iload 5, 2) (List.mem_of_getElem? (i := 29) rfl)) (lv_at hl12 6 rfl) ?_
            refine ff_iconst hx hb (eX11_local (63, .iconst (-1), 1) (List.mem_of_getElem? (i := 30) rfl)) (by decide) (by decide) (fun v13 e13 => ?_)
            refine ff_icmp_ne hx hb (eX11_local (64, .if_icmp .ne 7, 3) (List.mem_of_getElem? (i := 31) rfl)) (tgt := 71) rfl (fun c14 => ?_) (fun c14 => ?_)
            · skip
              refine lv_iload hx hb (eX11_local (71, .iload 5, 2) (List.mem_of_getElem? (i := 35) rfl)) (lv_at hl12 6 rfl) ?_
              refine lv_iload hx hb (eX11_local (73, .iload 7, 2) (List.mem_of_getElem? (i := 36) rfl)) (lv_at hl12 0 rfl) ?_
              refine ff_icmp_ge hx hb (eX11_local (75, .if_icmp .ge 23, 3) (List.mem_of_getElem? (i := 37) rfl)) (tgt := 98) rfl (fun c15 => ?_) (fun c15 => ?_)
              · skip
                refine ff_ldc2 (n := (-9223372036854775808)) hx hb hown h2 (clX11_ok 62 (-9223372036854775808) (List.mem_of_getElem? (i := 0) rfl)) (eX11_local (98, .ldc2_w 62, 3) (List.mem_of_getElem? (i := 48) rfl)) (fun v16 e16 => ?_)
                exact vx_ret (W.widen (k := 1) (n := 6) (Nat.zero_le _) (Nat.zero_le _) (W.lret hx hb hr (fun t ht hW => ⟨_, _, ro, L, (Z, R), rfl, ⟨_, rfl, rfl⟩, fun _ _ h => h, by rw [ht]; exact hh11.l0, by rw [ht]; exact kp11, by rw [ht]; exact jcy11, rfl, rfl, Or.inr ⟨rfl, ⟨by omega, by show _ < (Z.length : Int); omega, by omega, by omega, by omega, hmk⟩, ze, rr, hze, hrr, by rw [hcl, loR_none (by omega) (by omega) (by first | omega | (have h9 := clF_len (L := L) (e := ze) (r := rr) (m := m0.toInt) (s := s0.toInt); rw [hcl] at h9; have h8 := ofsL_len (e := ze) (r := rr) hro.2.2.2.2.2.1 hro.2.2.2.2.2.2.1; have h7 := hro.2.2.2.2.2.2.1; omega))]; unfold NONEI; omega⟩⟩) hh11.2.2.1 (eX11_local (101, .lreturn, 1) (List.mem_of_getElem? (i := 49) rfl))))
              · skip
                refine lv_iload hx hb (eX11_local (78, .iload 5, 2) (List.mem_of_getElem? (i := 38) rfl)) (lv_at hl12 6 rfl) ?_
                refine lv_aload_n hx hb (eX11_local (80, .aload_n 0, 1) (List.mem_of_getElem? (i := 39) rfl)) rfl (lv_at hl12 2 rfl) ?_
                refine tz_get (r := 10) (k := 8) (t := (42, 0, 0)) hx hb hh11 hx10 rfl rfl (hcl10 70 8 (42, 0, 0) (by decide) rfl).1 fxf1 (eX11_local (81, .getfield 70, 3) (List.mem_of_getElem? (i := 40) rfl)) ?_
                refine W.alen (n := nI 63) hx hb cf1 (zAr hKa.1.1.1 1 (by decide) 63 zf1) (by rw [arrV_size]; rfl) rfl rfl (eX11_local (84, .arraylength, 1) (List.mem_of_getElem? (i := 41) rfl)) ?_
                have e17 : (nI 63).toInt = 63 := nI_toInt (by decide)
                generalize nI 63 = v17 at e17 ⊢
                refine ff_icmp_ge hx hb (eX11_local (85, .if_icmp .ge 13, 3) (List.mem_of_getElem? (i := 42) rfl)) (tgt := 98) rfl (fun c18 => ?_) (fun c18 => ?_)
                · skip
                  refine ff_ldc2 (n := (-9223372036854775808)) hx hb hown h2 (clX11_ok 62 (-9223372036854775808) (List.mem_of_getElem? (i := 0) rfl)) (eX11_local (98, .ldc2_w 62, 3) (List.mem_of_getElem? (i := 48) rfl)) (fun v19 e19 => ?_)
                  exact vx_ret (W.widen (k := 1) (n := 6) (Nat.zero_le _) (Nat.zero_le _) (W.lret hx hb hr (fun t ht hW => ⟨_, _, ro, L, (Z, R), rfl, ⟨_, rfl, rfl⟩, fun _ _ h => h, by rw [ht]; exact hh11.l0, by rw [ht]; exact kp11, by rw [ht]; exact jcy11, rfl, rfl, Or.inr ⟨rfl, ⟨by omega, by show _ < (Z.length : Int); omega, by omega, by omega, by omega, hmk⟩, ze, rr, hze, hrr, by rw [hcl, loR_none (by omega) (by omega) (by first | omega | (have h9 := clF_len (L := L) (e := ze) (r := rr) (m := m0.toInt) (s := s0.toInt); rw [hcl] at h9; have h8 := ofsL_len (e := ze) (r := rr) hro.2.2.2.2.2.1 hro.2.2.2.2.2.2.1; have h7 := hro.2.2.2.2.2.2.1; omega))]; unfold NONEI; omega⟩⟩) hh11.2.2.1 (eX11_local (101, .lreturn, 1) (List.mem_of_getElem? (i := 49) rfl))))
                · skip
                  refine lv_aload_n hx hb (eX11_local (88, .aload_n 0, 1) (List.mem_of_getElem? (i := 43) rfl)) rfl (lv_at hl12 2 rfl) ?_
                  refine tz_get (r := 10) (k := 8) (t := (42, 0, 0)) hx hb hh11 hx10 rfl rfl (hcl10 70 8 (42, 0, 0) (by decide) rfl).1 fxf1 (eX11_local (89, .getfield 70, 3) (List.mem_of_getElem? (i := 44) rfl)) ?_
                  refine lv_iload hx hb (eX11_local (92, .iload 5, 2) (List.mem_of_getElem? (i := 45) rfl)) (lv_at hl12 6 rfl) ?_
                  obtain ⟨xv, hzx, hAx⟩ := jn1 q0.toInt.toNat (by omega)
                  refine tz_lald hx hb (zAr hKa.1.1.1 1 (by decide)) cf1 (by omega) (by omega) (eX11_local (94, .laload, 1) (List.mem_of_getElem? (i := 46) rfl)) ?_
                  rw [show q0.toNatClampNeg = q0.toInt.toNat from rfl, hzx]
                  refine lv_goto hx hb (eX11_local (95, .goto 6, 3) (List.mem_of_getElem? (i := 47) rfl)) (tgt := 101) rfl ?_
                  exact vx_ret (W.widen (k := 1) (n := 6) (Nat.zero_le _) (Nat.zero_le _) (W.lret hx hb hr (fun t ht hW => ⟨_, _, ro, L, (Z, R), rfl, ⟨_, rfl, rfl⟩, fun _ _ h => h, by rw [ht]; exact hh11.l0, by rw [ht]; exact kp11, by rw [ht]; exact jcy11, rfl, rfl, Or.inr ⟨rfl, ⟨by omega, by show _ < (Z.length : Int); omega, by omega, by omega, by omega, hmk⟩, ze, rr, hze, hrr, by rw [hcl]; exact (loR_some (by omega) hAx).symm⟩⟩) hh11.2.2.1 (eX11_local (101, .lreturn, 1) (List.mem_of_getElem? (i := 49) rfl))))
            · skip
              refine lv_iload hx hb (eX11_local (67, .iload 7, 2) (List.mem_of_getElem? (i := 32) rfl)) (lv_at hl12 0 rfl) ?_
              refine ff_i2l hx hb (eX11_local (69, .i2l, 1) (List.mem_of_getElem? (i := 33) rfl)) (fun v20 e20 => ?_)
              exact vx_ret (W.widen (k := 1) (n := 6) (Nat.zero_le _) (Nat.zero_le _) (W.lret hx hb hr (fun t ht hW => ⟨_, _, ro, L, (Z, R), rfl, ⟨_, rfl, rfl⟩, fun _ _ h => h, by rw [ht]; exact hh11.l0, by rw [ht]; exact kp11, by rw [ht]; exact jcy11, rfl, rfl, Or.inr ⟨rfl, ⟨by omega, by show _ < (Z.length : Int); omega, by omega, by omega, by omega, hmk⟩, ze, rr, hze, hrr, by rw [hcl]; unfold loR; rw [if_pos (by omega)]; omega⟩⟩) hh11.2.2.1 (eX11_local (70, .lreturn, 1) (List.mem_of_getElem? (i := 34) rfl))))
          · skip
            exact zx_leafG (ik := 83) (is := 229) (ic := 87) (cls := "java/lang/IllegalArgumentException") (text := "no such zone or local time") hx hb hst hown h2 hKa.1 hh hh1 (by rw [hl3.1, hml]) hex hlk ⟨by decide, by decide, by decide, by decide⟩ (tb_2 121 rfl rfl) (tb_1 17 rfl rfl) (by decide) (gAt_in gAt_1) (by decide +kernel) (by decide) (by decide) (fun t h7 h8 => ⟨hh1.grow h7 h8, kp0.trans (kept_grow hh1 h8), hJC.kept hx10 (kept_grow (ms := []) hh1 h8) (by decide), Or.inl ⟨rfl, 0, rfl, rfl, Or.inl ⟨rfl, fun g => by have g1 := g.1; have g2 : zi.toInt < (Z.length : Int) := g.2.1; have g3 := g.2.2.1; have g4 := g.2.2.2.1; have g5 := g.2.2.2.2.1; have g6 := g.2.2.2.2.2; rcases e9 with h | h; exfalso; omega; exact h.2 g6⟩⟩⟩) (eX11_local (37, .new 83, 3) (List.mem_of_getElem? (i := 17) rfl)) (eX11_local (40, .dup, 1) (List.mem_of_getElem? (i := 18) rfl)) (eX11_local (41, .ldc 229, 2) (List.mem_of_getElem? (i := 19) rfl)) (eX11_local (43, .invokespecial 87, 3) (List.mem_of_getElem? (i := 20) rfl)) (eX11_local (46, .athrow, 1) (List.mem_of_getElem? (i := 21) rfl))
