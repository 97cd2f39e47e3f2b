set_option maxRecDepth 100000 in
set_option maxHeartbeats 4000000 in
theorem hX11_isOffset (l : Launch) (o : Int32)  : zu_M l yX11_isOffset (gW yX11_isOffset cX11_isOffset 1 (some .boolean)) { frames := 0, cells := 0, slots := 0, locals := 0 } (fun vs => vs = [.int o]) zT (fun _ w => ∃ r : Int32, w = .int r ∧ ((r.toInt = 1 ∧ -1439 ≤ o.toInt ∧ o.toInt ≤ 1439) ∨ (r.toInt = 0 ∧ (o.toInt < -1439 ∨ 1439 < o.toInt)))) := by
  refine zy_ofW (cc := cX11_isOffset) (maxL := 1) (ret := (some .boolean)) (by decide +kernel) rfl ?_
  intro p e s m args below meth c s1 B hml hv
  obtain ⟨vs, rfl, rfl, hKp⟩ := hv
  have hx := B.exec
  have hb := B.bytes
  have hr := B.returns
  have hlk := B.notSynchronized
  have hts0 := atoms_spec (ws := gW yX11_isOffset cX11_isOffset 1 (some .boolean)) B.pre
  have h2 : ∀ w ∈ gT, w.before ([.int o] : List Value).toArray s = true := fun w hw => hts0 w (List.mem_cons_of_mem _ hw)
  have hown : s.vm.findClass RX11 = some m.cls := findClass_of_methodNamed B.named
  have hl := lv_entry [.int o] (n := 1) (Nat.le_of_ble_eq_true rfl)
  rw [lg_entry_eq]
  generalize (lg_sl [.int o] ++ List.replicate (1 - (lg_sl [.int o]).length) Slot.unset).toArray = ls at hl ⊢
  have b_o := zn_i32 o
  refine lv_iload_n hx hb (eX11_isOffset (0, .iload_n 0, 1) (List.mem_of_getElem? (i := 0) rfl)) rfl (lv_at hl 0 rfl) ?_
  refine ff_sipush hx hb (eX11_isOffset (1, .sipush (-1439), 3) (List.mem_of_getElem? (i := 1) rfl)) (by decide) (by decide) (fun v1 e1 => ?_)
  refine ff_icmp_lt hx hb (eX11_isOffset (4, .if_icmp .lt 14, 3) (List.mem_of_getElem? (i := 2) rfl)) (tgt := 18) rfl (fun c2 => ?_) (fun c2 => ?_)
  · skip
    refine ff_iconst hx hb (eX11_isOffset (18, .iconst 0, 1) (List.mem_of_getElem? (i := 8) rfl)) (by decide) (by decide) (fun v3 e3 => ?_)
    exact zu_iret (y := yX11_isOffset) (ws := []) (rm := {}) hx hb hr hlk (zn_bool (by omega) (by omega)) ⟨_, rfl, by omega⟩ (eX11_isOffset (19, .ireturn, 1) (List.mem_of_getElem? (i := 9) rfl))
  · skip
    refine lv_iload_n hx hb (eX11_isOffset (7, .iload_n 0, 1) (List.mem_of_getElem? (i := 3) rfl)) rfl (lv_at hl 0 rfl) ?_
    refine ff_sipush hx hb (eX11_isOffset (8, .sipush 1439, 3) (List.mem_of_getElem? (i := 4) rfl)) (by decide) (by decide) (fun v4 e4 => ?_)
    refine ff_icmp_gt hx hb (eX11_isOffset (11, .if_icmp .gt 7, 3) (List.mem_of_getElem? (i := 5) rfl)) (tgt := 18) rfl (fun c5 => ?_) (fun c5 => ?_)
    · skip
      refine ff_iconst hx hb (eX11_isOffset (18, .iconst 0, 1) (List.mem_of_getElem? (i := 8) rfl)) (by decide) (by decide) (fun v6 e6 => ?_)
      exact zu_iret (y := yX11_isOffset) (ws := []) (rm := {}) hx hb hr hlk (zn_bool (by omega) (by omega)) ⟨_, rfl, by omega⟩ (eX11_isOffset (19, .ireturn, 1) (List.mem_of_getElem? (i := 9) rfl))
    · skip
      refine ff_iconst hx hb (eX11_isOffset (14, .iconst 1, 1) (List.mem_of_getElem? (i := 6) rfl)) (by decide) (by decide) (fun v7 e7 => ?_)
      refine lv_goto hx hb (eX11_isOffset (15, .goto 4, 3) (List.mem_of_getElem? (i := 7) rfl)) (tgt := 19) rfl ?_
      exact zu_iret (y := yX11_isOffset) (ws := []) (rm := {}) hx hb hr hlk (zn_bool (by omega) (by omega)) ⟨_, rfl, by omega⟩ (eX11_isOffset (19, .ireturn, 1) (List.mem_of_getElem? (i := 9) rfl))
set_option maxRecDepth 100000 in
set_option maxHeartbeats 4000000 in
theorem hX11_leap (l : Launch) (hst : l.stackTraces = false) (D : va_G) (cA : Nat → ClassId) (ro : Nat → Option Nat) (sz : Nat) (H0 : Heap) (x : Nat) (d : Int64) (L : List Int) (zc : Int) (hx10 : ro x = some 10) : vx_Met l yX11_leap (gW yX11_leap cX11_leap 3 (some .int)) { frames := 6, cells := 1, slots := 6, locals := 82 } (zs_PX D cA ro sz H0 (fun H => jCS D cA ro H x L zc) [.ref x, .long d]) (zs_Q D cA ro sz H0 x vI (spL d.toInt L zc)) (zs_X D cA ro sz H0 L zc (spL d.toInt L zc)) 1 6 (zy_fr sz) := by
  refine vx_ofW (cc := cX11_leap) (maxL := 3) (ret := (some .int)) (by decide +kernel) rfl ?_
  intro p e s m args below meth c s1 B hml hex hv
  obtain ⟨rfl, hh, hKa, hKp, hJ⟩ := hv
  have hx := B.exec
  have hb := B.bytes
  have hr := B.returns
  have hlk := B.notSynchronized
  have hts0 := atoms_spec (ws := gW yX11_leap cX11_leap 3 (some .int)) B.pre
  have h2 : ∀ w ∈ gT, w.before ([.ref x, .long d] : List Value).toArray s = true := fun w hw => hts0 w (List.mem_cons_of_mem _ hw)
  have hown : s.vm.findClass RX11 = some m.cls := findClass_of_methodNamed B.named
  have hl := lv_entry [.ref x, .long d] (n := 3) (Nat.le_of_ble_eq_true rfl)
  rw [lg_entry_eq]
  generalize (lg_sl [.ref x, .long d] ++ List.replicate (3 - (lg_sl [.ref x, .long d]).length) Slot.unset).toArray = ls at hl ⊢
  have b_d := zn_i64 d
  have hBM : ∀ U : State, U.heap = s.heap → s.WarmedH U.vm → zBM cA U := fun U hU hW => zBM_B.2 s U hW hU hKp
  obtain ⟨⟨lp, fx0, rlp, hlp⟩, ⟨n, fn, hn⟩, hjl⟩ := id hJ
  obtain ⟨n9, g9, n1, n2⟩ := zh_fT (k := 2) (t := (0, 0, 8)) hh hx10 (show RTg[10]? = some (0, 10, 0, fsX11) from rfl) rfl
  cases fn.symm.trans g9
  dsimp only at n1 n2
  clear g9
  have hjL := hjl.2.1
  have hD := zD_all h2 hKa.1.1.1
  have hcl10 := fun (idx k : Nat) (t : zt_T) (h : (idx, 10, k) ∈ gfX11) (hk : fsX11[k]? = some t) => zf_clause (ro := ro) (ms := []) h2 hown hKa.1.1.1 gfX11_ok (by decide +kernel) idx 10 k 10 0 fsX11 t h rfl hk
  have kp0 : zc_kept D RTg ro jMc s.heap s.heap := zc_kept.refl
  refine lv_lload_n hx hb (eX11_leap (0, .lload_n 1, 1) (List.mem_of_getElem? (i := 0) rfl)) rfl (lv_at hl 1 rfl) ?_
  refine zu_S (vs := [.long d]) (rest := []) hx hb hml hown hts0 zu_BT (hX2_holds l d) ⟨rfl, rfl⟩ ⟨by decide, by decide⟩ ⟨by decide, by decide⟩ (tb_2 212 rfl rfl) (tb_1 13 rfl rfl) (tb_2 210 rfl rfl) (tb_2 211 rfl rfl) (show yX2_holds.cls ≠ "java/lang/invoke/MethodHandle" ∧ yX2_holds.cls ≠ "java/lang/invoke/VarHandle" ∧ (parseMethodDescriptor yX2_holds.desc).map (fun d => d.parameters.length) = some 1 by decide +kernel) rfl (fun _ _ _ => trivial) hl.1 (Nat.le_of_ble_eq_true rfl) (eX11_leap (1, .invokestatic 94, 3) (List.mem_of_getElem? (i := 1) rfl)) (fun w1 f1 => ?_)
  obtain ⟨v1, rfl, e1⟩ := f1
  refine ff_if_eq hx hb (eX11_leap (4, .ifCond .eq 14, 3) (List.mem_of_getElem? (i := 2) rfl)) (tgt := 18) rfl (fun c2 => ?_) (fun c2 => ?_)
  · skip
    exact zx_leafG (ik := 83) (is := 151) (ic := 87) (cls := "java/lang/IllegalArgumentException") (text := "no day that can become a leap day") hx hb hst hown h2 hKa.1 hh hh (by rw [hl.1, hml]) hex hlk ⟨by decide, by decide, by decide, by decide⟩ (tb_2 121 rfl rfl) (tb_1 17 rfl rfl) (by decide) (gAt_in gAt_1) (by decide +kernel) (by decide) (by decide) (fun t h7 h8 => ⟨hh.grow h7 h8, kept_grow hh h8, kept_grow hh h8, Or.inl ⟨rfl, 0, rfl, Or.inl ⟨rfl, rfl, Or.inl (by unfold dOK; omega)⟩⟩⟩) (eX11_leap (18, .new 83, 3) (List.mem_of_getElem? (i := 8) rfl)) (eX11_leap (21, .dup, 1) (List.mem_of_getElem? (i := 9) rfl)) (eX11_leap (22, .ldc 151, 2) (List.mem_of_getElem? (i := 10) rfl)) (eX11_leap (24, .invokespecial 87, 3) (List.mem_of_getElem? (i := 11) rfl)) (eX11_leap (27, .athrow, 1) (List.mem_of_getElem? (i := 12) rfl))
  · skip
    refine lv_aload_n hx hb (eX11_leap (7, .aload_n 0, 1) (List.mem_of_getElem? (i := 3) rfl)) rfl (lv_at hl 0 rfl) ?_
    refine tz_get (r := 10) (k := 0) (t := (12, 0, 0)) hx hb hh hx10 rfl rfl (hcl10 14 0 (12, 0, 0) (by decide) rfl).1 fx0 (eX11_leap (8, .getfield 14, 3) (List.mem_of_getElem? (i := 4) rfl)) ?_
    refine lv_lload_n hx hb (eX11_leap (11, .lload_n 1, 1) (List.mem_of_getElem? (i := 5) rfl)) rfl (lv_at hl 1 rfl) ?_
    refine tz_rowV (As := [.long d]) (st := []) (b := lp) (C := RX5) (Ts := gT) hx hb hml hown h2 (fun _ h => h) (hX5_has l D cA ro sz H0 lp d L rlp) ⟨rfl, rfl⟩ ⟨by decide, by decide⟩ ⟨by decide, by decide⟩ (tb_3 73 rfl rfl) (tb_1 2 rfl rfl) (tb_3 70 rfl rfl) (tb_3 71 rfl rfl) (tb_3 72 rfl rfl) (show yX5_has.cls ≠ "java/lang/invoke/MethodHandle" ∧ yX5_has.cls ≠ "java/lang/invoke/VarHandle" ∧ (parseMethodDescriptor yX5_has.desc).map (fun d => d.parameters.length) = some 1 by decide +kernel) zs_blind (zs_ob hh rlp (show RTg[4]? = some (0, 4, 0, fsX5) from rfl) (zCX5 hKa.1.1.1)) (fun U hU hW => ⟨rfl, by rw [hU]; exact hh.l0, zKb s U hW.alike hKa.1.1, by rw [hU]; exact hlp⟩) hh.2.2.1 hl.1 (Nat.le_of_ble_eq_true rfl) (eX11_leap (12, .invokevirtual 148, 3) (List.mem_of_getElem? (i := 6) rfl)) (fun r3 s3 t3 lo3 g3 f3 l3 => ?_)
    obtain ⟨z3, v3, q3, e3⟩ := f3
    cases q3
    rw [z3, g3]
    have hh3 : zh_ok D cA RTg ro sz H0 s.heap lo3 := ⟨hh.1, hh.2.1, l3, hh.2.2.2⟩
    refine W.eq (g2 := F0 m 15 ls [.int v3]) rfl ?_
    refine ff_if_eq hx hb (eX11_leap (15, .ifCond .eq 13, 3) (List.mem_of_getElem? (i := 7) rfl)) (tgt := 28) rfl (fun c4 => ?_) (fun c4 => ?_)
    · skip
      refine lv_aload_n hx hb (eX11_leap (28, .aload_n 0, 1) (List.mem_of_getElem? (i := 13) rfl)) rfl (lv_at hl 0 rfl) ?_
      refine tz_get (r := 10) (k := 0) (t := (12, 0, 0)) hx hb hh3 hx10 rfl rfl (hcl10 14 0 (12, 0, 0) (by decide) rfl).1 fx0 (eX11_leap (29, .getfield 14, 3) (List.mem_of_getElem? (i := 14) rfl)) ?_
      refine tz_rowV (As := []) (st := []) (b := lp) (C := RX5) (Ts := gT) hx hb hml hown h2 (fun _ h => h) (hX5_isFull l D cA ro sz H0 lp L rlp) ⟨rfl, rfl⟩ ⟨by decide, by decide⟩ ⟨by decide, by decide⟩ (tb_3 78 rfl rfl) (tb_1 2 rfl rfl) (tb_3 75 rfl rfl) (tb_3 76 rfl rfl) (tb_3 77 rfl rfl) (show yX5_isFull.cls ≠ "java/lang/invoke/MethodHandle" ∧ yX5_isFull.cls ≠ "java/lang/invoke/VarHandle" ∧ (parseMethodDescriptor yX5_isFull.desc).map (fun d => d.parameters.length) = some 0 by decide +kernel) zs_blind (zs_ob hh3 rlp (show RTg[4]? = some (0, 4, 0, fsX5) from rfl) (zCX5 hKa.1.1.1)) (fun U hU hW => ⟨rfl, by rw [hU]; exact hh3.l0, zKb s U hW.alike hKa.1.1, by rw [hU]; exact hlp⟩) hh3.2.2.1 hl.1 (Nat.le_of_ble_eq_true rfl) (eX11_leap (32, .invokevirtual 153, 3) (List.mem_of_getElem? (i := 15) rfl)) (fun r5 s5 t5 lo5 g5 f5 l5 => ?_)
      obtain ⟨z5, v5, q5, e5⟩ := f5
      cases q5
      rw [z5, g5]
      have hh5 : zh_ok D cA RTg ro sz H0 s.heap lo5 := ⟨hh3.1, hh3.2.1, l5, hh3.2.2.2⟩
      refine W.eq (g2 := F0 m 35 ls [.int v5]) rfl ?_
      refine ff_if_eq hx hb (eX11_leap (35, .ifCond .eq 13, 3) (List.mem_of_getElem? (i := 16) rfl)) (tgt := 48) rfl (fun c6 => ?_) (fun c6 => ?_)
      · skip
        refine lv_aload_n hx hb (eX11_leap (48, .aload_n 0, 1) (List.mem_of_getElem? (i := 22) rfl)) rfl (lv_at hl 0 rfl) ?_
        refine tz_get (r := 10) (k := 0) (t := (12, 0, 0)) hx hb hh5 hx10 rfl rfl (hcl10 14 0 (12, 0, 0) (by decide) rfl).1 fx0 (eX11_leap (49, .getfield 14, 3) (List.mem_of_getElem? (i := 23) rfl)) ?_
        refine lv_lload_n hx hb (eX11_leap (52, .lload_n 1, 1) (List.mem_of_getElem? (i := 24) rfl)) rfl (lv_at hl 1 rfl) ?_
        refine tz_rowV (As := [.long d]) (st := []) (b := lp) (C := RX5) (Ts := gT) hx hb hml hown h2 (fun _ h => h) (hX5_add l D cA ro sz H0 lp d L rlp (by omega)) ⟨rfl, rfl⟩ ⟨by decide, by decide⟩ ⟨by decide, by decide⟩ (tb_3 98 rfl rfl) (tb_1 2 rfl rfl) (tb_3 95 rfl rfl) (tb_3 96 rfl rfl) (tb_3 97 rfl rfl) (show yX5_add.cls ≠ "java/lang/invoke/MethodHandle" ∧ yX5_add.cls ≠ "java/lang/invoke/VarHandle" ∧ (parseMethodDescriptor yX5_add.desc).map (fun d => d.parameters.length) = some 1 by decide +kernel) zs_blind (zs_ob hh5 rlp (show RTg[4]? = some (0, 4, 0, fsX5) from rfl) (zCX5 hKa.1.1.1)) (fun U hU hW => ⟨rfl, by rw [hU]; exact hh5.l0, zKb s U hW.alike hKa.1.1, by rw [hU]; exact hlp⟩) hh5.2.2.1 hl.1 (Nat.le_of_ble_eq_true rfl) (eX11_leap (53, .invokevirtual 162, 3) (List.mem_of_getElem? (i := 25) rfl)) (fun r7 s7 t7 lo7 g7 f7 l7 => ?_)
        obtain ⟨v7, q7, z7, c7, e7, j7⟩ := f7
        cases q7
        rw [g7] at c7
        have hh7 : zh_ok D cA RTg ro sz H0 t7.heap lo7 := ⟨z7.1, z7.2.1, l7, z7.2.2.2⟩
        have kp7 := kp0.trans (c7.mono (ms' := jMc) (by decide))
        have mf7_0 := (c7.1 x 10 0 10 0 fsX11 hx10 rfl (by decide) (by decide)).trans fx0
        have mf7_2 := (c7.1 x 10 2 10 0 fsX11 hx10 rfl (by decide) (by decide)).trans fn
        refine W.eq (g2 := F0 m 56 ls [.int v7]) rfl ?_
        have hni : d.toInt ∉ L := by rcases e3 with g | g; exfalso; omega; exact g.2
        have hdk : dOK d.toInt := by unfold dOK; omega
        exact vx_ret (W.widen (k := 1) (n := 6) (Nat.zero_le _) (Nat.zero_le _) (W.zret hx hb hr rfl (fun t ht hW => ⟨_, _, ro, L ++ [d.toInt], zc, rfl, ⟨_, rfl, rfl⟩, fun _ _ h => h, by rw [ht]; exact hh7.l0, by rw [ht]; exact kp7, by rw [ht]; exact ⟨⟨lp, mf7_0, rlp, j7⟩, ⟨n, mf7_2, hn⟩, jL_app hjl hni (by omega) hdk⟩, rfl, Or.inr (Or.inr ⟨rfl, hdk, hni, by omega, by omega, rfl⟩)⟩) hh7.2.2.1 (eX11_leap (56, .ireturn, 1) (List.mem_of_getElem? (i := 26) rfl))))
      · skip
        exact zx_leafG (ik := 157) (is := 159) (ic := 161) (cls := "java/lang/UnsupportedOperationException") (text := "no room for more leap days") hx hb hst hown h2 hKa.1 hh hh5 (by rw [hl.1, hml]) hex hlk ⟨by decide, by decide, by decide, by decide⟩ (tb_3 79 rfl rfl) (tb_1 19 rfl rfl) (by decide) (gAt_in gAt_2) (by decide +kernel) (by decide) (by decide) (fun t h7 h8 => ⟨hh5.grow h7 h8, kept_grow hh5 h8, kept_grow hh5 h8, Or.inr ⟨rfl, 0, rfl, Or.inr (Or.inl ⟨rfl, rfl, by unfold dOK; omega, by rcases e3 with g | g; exfalso; omega; exact g.2, by omega⟩)⟩⟩) (eX11_leap (38, .new 157, 3) (List.mem_of_getElem? (i := 17) rfl)) (eX11_leap (41, .dup, 1) (List.mem_of_getElem? (i := 18) rfl)) (eX11_leap (42, .ldc 159, 2) (List.mem_of_getElem? (i := 19) rfl)) (eX11_leap (44, .invokespecial 161, 3) (List.mem_of_getElem? (i := 20) rfl)) (eX11_leap (47, .athrow, 1) (List.mem_of_getElem? (i := 21) rfl))
    · skip
      exact zx_leafG (ik := 83) (is := 151) (ic := 87) (cls := "java/lang/IllegalArgumentException") (text := "no day that can become a leap day") hx hb hst hown h2 hKa.1 hh hh3 (by rw [hl.1, hml]) hex hlk ⟨by decide, by decide, by decide, by decide⟩ (tb_2 121 rfl rfl) (tb_1 17 rfl rfl) (by decide) (gAt_in gAt_1) (by decide +kernel) (by decide) (by decide) (fun t h7 h8 => ⟨hh3.grow h7 h8, kept_grow hh3 h8, kept_grow hh3 h8, Or.inl ⟨rfl, 0, rfl, Or.inl ⟨rfl, rfl, Or.inr (by rcases e3 with g | g; exact g.2; exfalso; omega)⟩⟩⟩) (eX11_leap (18, .new 83, 3) (List.mem_of_getElem? (i := 8) rfl)) (eX11_leap (21, .dup, 1) (List.mem_of_getElem? (i := 9) rfl)) (eX11_leap (22, .ldc 151, 2) (List.mem_of_getElem? (i := 10) rfl)) (eX11_leap (24, .invokespecial 87, 3) (List.mem_of_getElem? (i := 11) rfl)) (eX11_leap (27, .athrow, 1) (List.mem_of_getElem? (i := 12) rfl))
def tX11_zone : List (Nat × Instr × Nat) := [(0, .iload_n 1, 1), (1, .invokestatic 186, 3), (4, .ifCond .ne 13, 3), (7, .new 83, 3), (10, .dup, 1), (11, .ldc 189, 2), (13, .invokespecial 87, 3), (16, .athrow, 1), (17, .aload_n 0, 1), (18, .getfield 24, 3), (21, .ifCond .lt 15, 3), (24, .aload_n 0, 1), (25, .getfield 24, 3), (28, .aload_n 0, 1), (29, .getfield 20, 3), (32, .arraylength, 1), (33, .if_icmp .lt 13, 3), (36, .new 157, 3), (39, .dup, 1), (40, .ldc 191, 2), (42, .invokespecial 161, 3), (45, .athrow, 1), (46, .aload_n 0, 1), (47, .getfield 20, 3), (50, .aload_n 0, 1), (51, .getfield 24, 3), (54, .new 18, 3), (57, .dup, 1), (58, .iload_n 1, 1), (59, .aload_n 0, 1), (60, .getfield 14, 3), (63, .invokespecial 193, 3), (66, .aastore, 1), (67, .aload_n 0, 1), (68, .dup, 1), (69, .getfield 24, 3), (72, .iconst 1, 1), (73, .iadd, 1), (74, .putfield 24, 3), (77, .aload_n 0, 1), (78, .getfield 24, 3), (81, .iconst 1, 1), (82, .isub, 1), (83, .ireturn, 1)]
set_option maxRecDepth 100000 in
theorem eX11_zone : ∀ x ∈ tX11_zone, decode cX11_zone x.1 = .ok x.2 := by decide +kernel
set_option maxRecDepth 100000 in
set_option maxHeartbeats 4000000 in
theorem hX11_zone (l : Launch) (hst : l.stackTraces = false) (D : va_G) (cA : Nat → ClassId) (ro : Nat → Option Nat) (sz : Nat) (H0 : Heap) (x : Nat) (o : Int32) (L : List Int) (zc : Int) (hx10 : ro x = some 10) : vx_Met l yX11_zone (gW yX11_zone cX11_zone 2 (some .int)) { frames := 6, cells := 6, slots := 147, locals := 82 } (zs_PX D cA ro sz H0 (fun H => jCS D cA ro H x L zc) [.ref x, .int o]) (zs_Q D cA ro sz H0 x vI (spZ o.toInt L zc)) (zs_X D cA ro sz H0 L zc (spZ o.toInt L zc)) 6 147 (zy_fr sz) := by
  refine vx_ofW (cc := cX11_zone) (maxL := 2) (ret := (some .int)) (by decide +kernel) rfl ?_
  intro p e s m args below meth c s1 B hml hex hv
  obtain ⟨rfl, hh, hKa, hKp, hJ⟩ := hv
  have hx := B.exec
  have hb := B.bytes
  have hr := B.returns
  have hlk := B.notSynchronized
  have hts0 := atoms_spec (ws := gW yX11_zone cX11_zone 2 (some .int)) B.pre
  have h2 : ∀ w ∈ gT, w.before ([.ref x, .int o] : List Value).toArray s = true := fun w hw => hts0 w (List.mem_cons_of_mem _ hw)
  have hown : s.vm.findClass RX11 = some m.cls := findClass_of_methodNamed B.named
  have hl := lv_entry [.ref x, .int o] (n := 2) (Nat.le_of_ble_eq_true rfl)
  rw [lg_entry_eq]
  generalize (lg_sl [.ref x, .int o] ++ List.replicate (2 - (lg_sl [.ref x, .int o]).length) Slot.unset).toArray = ls at hl ⊢
  have b_o := zn_i32 o
  have hBM : ∀ U : State, U.heap = s.heap → s.WarmedH U.vm → zBM cA U := fun U hU hW => zBM_B.2 s U hW hU hKp
  obtain ⟨⟨lp, fx0, rlp, hlp⟩, ⟨n, fn, hn⟩, hjl⟩ := id hJ
  obtain ⟨n9, g9, n1, n2⟩ := zh_fT (k := 2) (t := (0, 0, 8)) hh hx10 (show RTg[10]? = some (0, 10, 0, fsX11) from rfl) rfl
  cases fn.symm.trans g9
  dsimp only at n1 n2
  clear g9
  have hjL := hjl.2.1
  have hD := zD_all h2 hKa.1.1.1
  have hcl10 := fun (idx k : Nat) (t : zt_T) (h : (idx, 10, k) ∈ gfX11) (hk : fsX11[k]? = some t) => zf_clause (ro := ro) (ms := [(10, 2)]) h2 hown hKa.1.1.1 gfX11_ok (by decide +kernel) idx 10 k 10 0 fsX11 t h rfl hk
  have kp0 : zc_kept D RTg ro jMc s.heap s.heap := zc_kept.refl
  have hclz := fun (ro : Nat → Option Nat) (idx k : Nat) (t : zt_T) (h : (idx, 10, k) ∈ gfX11) (hk : fsX11[k]? = some t) => zf_clause (ro := ro) (ms := [(10, 2)]) h2 hown hKa.1.1.1 gfX11_ok (by decide +kernel) idx 10 k 10 0 fsX11 t h rfl hk
  refine lv_iload_n hx hb (eX11_zone (0, .iload_n 1, 1) (List.mem_of_getElem? (i := 0) rfl)) rfl (lv_at hl 1 rfl) ?_
  refine zu_S (vs := [.int o]) (rest := []) hx hb hml hown hts0 zu_BT (hX11_isOffset l o) ⟨rfl, rfl⟩ ⟨by decide, by decide⟩ ⟨by decide, by decide⟩ (tb_3 170 rfl rfl) (tb_1 1 rfl rfl) (tb_3 168 rfl rfl) (tb_3 169 rfl rfl) (show yX11_isOffset.cls ≠ "java/lang/invoke/MethodHandle" ∧ yX11_isOffset.cls ≠ "java/lang/invoke/VarHandle" ∧ (parseMethodDescriptor yX11_isOffset.desc).map (fun d => d.parameters.length) = some 1 by decide +kernel) rfl (fun _ _ _ => trivial) hl.1 (Nat.le_of_ble_eq_true rfl) (eX11_zone (1, .invokestatic 186, 3) (List.mem_of_getElem? (i := 1) rfl)) (fun w1 f1 => ?_)
  obtain ⟨v1, rfl, e1⟩ := f1
  refine ff_if_ne hx hb (eX11_zone (4, .ifCond .ne 13, 3) (List.mem_of_getElem? (i := 2) rfl)) (tgt := 17) rfl (fun c2 => ?_) (fun c2 => ?_)
  · skip
    obtain ⟨az, fz, rz⟩ := tz_ref (k := 1) (rr := 20) hh hx10 (show RTg[10]? = some (0, 10, 0, fsX11) from rfl) rfl
    have hlx := zh_lt hh hx10
    refine lv_aload_n hx hb (eX11_zone (17, .aload_n 0, 1) (List.mem_of_getElem? (i := 8) rfl)) rfl (lv_at hl 0 rfl) ?_
    refine tz_get (r := 10) (k := 2) (t := (0, 0, 8)) hx hb hh hx10 rfl rfl (hcl10 24 2 (0, 0, 8) (by decide) rfl).1 fn (eX11_zone (18, .getfield 24, 3) (List.mem_of_getElem? (i := 9) rfl)) ?_
    refine ff_if_lt hx hb (eX11_zone (21, .ifCond .lt 15, 3) (List.mem_of_getElem? (i := 10) rfl)) (tgt := 36) rfl (fun c3 => (by exfalso; omega)) (fun c3 => ?_)
    refine lv_aload_n hx hb (eX11_zone (24, .aload_n 0, 1) (List.mem_of_getElem? (i := 11) rfl)) rfl (lv_at hl 0 rfl) ?_
    refine tz_get (r := 10) (k := 2) (t := (0, 0, 8)) hx hb hh hx10 rfl rfl (hcl10 24 2 (0, 0, 8) (by decide) rfl).1 fn (eX11_zone (25, .getfield 24, 3) (List.mem_of_getElem? (i := 12) rfl)) ?_
    refine lv_aload_n hx hb (eX11_zone (28, .aload_n 0, 1) (List.mem_of_getElem? (i := 13) rfl)) rfl (lv_at hl 0 rfl) ?_
    refine tz_get (r := 10) (k := 1) (t := (44, 0, 0)) hx hb hh hx10 rfl rfl (hcl10 20 1 (44, 0, 0) (by decide) rfl).1 fz (eX11_zone (29, .getfield 20, 3) (List.mem_of_getElem? (i := 14) rfl)) ?_
    obtain ⟨-, zz, cz, yz⟩ := zh_arr hh rz (show RTg[20]? = some (1, 4, 8, [(23, 0, 0)]) from rfl)
    refine W.alen (n := nI 8) hx hb cz (zAr hKa.1.1.1 4 (by decide) 8 zz) (by rw [arrV_size]; rfl) rfl rfl (eX11_zone (32, .arraylength, 1) (List.mem_of_getElem? (i := 15) rfl)) ?_
    have e4 : (nI 8).toInt = 8 := nI_toInt (by decide)
    refine ff_icmp_lt hx hb (eX11_zone (33, .if_icmp .lt 13, 3) (List.mem_of_getElem? (i := 16) rfl)) (tgt := 46) rfl (fun c5 => ?_) (fun c5 => ?_)
    · skip
      refine lv_aload_n hx hb (eX11_zone (46, .aload_n 0, 1) (List.mem_of_getElem? (i := 22) rfl)) rfl (lv_at hl 0 rfl) ?_
      refine tz_get (r := 10) (k := 1) (t := (44, 0, 0)) hx hb hh hx10 rfl rfl (hcl10 20 1 (44, 0, 0) (by decide) rfl).1 fz (eX11_zone (47, .getfield 20, 3) (List.mem_of_getElem? (i := 23) rfl)) ?_
      refine lv_aload_n hx hb (eX11_zone (50, .aload_n 0, 1) (List.mem_of_getElem? (i := 24) rfl)) rfl (lv_at hl 0 rfl) ?_
      refine tz_get (r := 10) (k := 2) (t := (0, 0, 8)) hx hb hh hx10 rfl rfl (hcl10 24 2 (0, 0, 8) (by decide) rfl).1 fn (eX11_zone (51, .getfield 24, 3) (List.mem_of_getElem? (i := 25) rfl)) ?_
      refine tz_new (C := RX10) (T := TX10) (N := 6) (ci := 9) hx hb hh h2 wiX10 tyX10 tyX10_ok hown (tb_1 45 rfl rfl) (tb_3 173 rfl rfl) (tb_1 20 rfl rfl) hKa.1.1.1 rfl (by decide) (by decide) (eX11_zone (54, .new 18, 3) (List.mem_of_getElem? (i := 26) rfl)) (fun b H6 hh6 hrb hsb hbs hz6 hOb hq6 => ?_)
      have kg6 : zc_kept D RTg ro [] s.heap H6 := kept_grow hh hq6
      have mf6_0 := (kg6.1 x 10 0 10 0 fsX11 hx10 rfl (by decide) (by decide)).trans fx0
      have mf6_2 := (kg6.1 x 10 2 10 0 fsX11 hx10 rfl (by decide) (by decide)).trans fn
      have mf6_1 := (kg6.1 x 10 1 10 0 fsX11 hx10 rfl (by decide) (by decide)).trans fz
      have jl6 := hlp.kept rlp kg6 (by decide) (by decide) (by decide)
      have kp6 := kp0.trans (kg6.mono (ms' := jMc) (by decide))
      refine lv_dup hx hb (eX11_zone (57, .dup, 1) (List.mem_of_getElem? (i := 27) rfl)) rfl ?_
      refine lv_iload_n hx hb (eX11_zone (58, .iload_n 1, 1) (List.mem_of_getElem? (i := 28) rfl)) rfl (lv_at hl 1 rfl) ?_
      refine lv_aload_n hx hb (eX11_zone (59, .aload_n 0, 1) (List.mem_of_getElem? (i := 29) rfl)) rfl (lv_at hl 0 rfl) ?_
      refine tz_get (r := 10) (k := 0) (t := (12, 0, 0)) hx hb hh6 hx10 rfl rfl (hcl10 14 0 (12, 0, 0) (by decide) rfl).1 mf6_0 (eX11_zone (60, .getfield 14, 3) (List.mem_of_getElem? (i := 30) rfl)) ?_
      refine zo_call (As := [.int o, .ref lp]) (rest := [.ref b, .int n, .ref az]) (b := b) hx hb hml hown hts0 (iX10 l D cA ro sz H0 b o lp rlp) ⟨rfl, rfl⟩ ⟨by decide, by decide⟩ ⟨by decide, by decide⟩ (tb_3 176 rfl rfl) (tb_1 20 rfl rfl) (tb_3 174 rfl rfl) (tb_3 175 rfl rfl) rfl (show yX10_init.cls ≠ "java/lang/invoke/MethodHandle" ∧ yX10_init.cls ≠ "java/lang/invoke/VarHandle" ∧ (parseMethodDescriptor yX10_init.desc).map (fun d => d.parameters.length) = some 2 by decide +kernel) hh6 hrb hsb hOb hKa.2 hl.1 (Nat.le_of_ble_eq_true rfl) (eX11_zone (63, .invokespecial 193, 3) (List.mem_of_getElem? (i := 31) rfl)) (fun H3 lo3 ro3 he3 hn3 hr3 hh3 hz3 hq3 _ => ?_)
      have kg3 : zc_kept D RTg ro [] H6 H3 := kept_but hrb hh6 hq3
      have mf3_0 := (kg3.1 x 10 0 10 0 fsX11 hx10 rfl (by decide) (by decide)).trans mf6_0
      have mf3_2 := (kg3.1 x 10 2 10 0 fsX11 hx10 rfl (by decide) (by decide)).trans mf6_2
      have mf3_1 := (kg3.1 x 10 1 10 0 fsX11 hx10 rfl (by decide) (by decide)).trans mf6_1
      have jl3 := jl6.kept rlp kg3 (by decide) (by decide) (by decide)
      have kp3 := kp6.trans (kg3.mono (ms' := jMc) (by decide))
      refine tz_aast hx hb hKa.1.1.1 hh3 (he3 _ _ rz) hr3 (by omega) (by omega) (eX11_zone (66, .aastore, 1) (List.mem_of_getElem? (i := 32) rfl)) (fun H7 lo7 hh7 hq7 => ?_)
      have kg7 : zc_kept D RTg ro [(20, 0)] H3 H7 := zk_setA (by decide) rz (show RTg[20]? = some (1, 4, 8, [(23, 0, 0)]) from rfl) hq7
      have mf7_0 := (kg7.1 x 10 0 10 0 fsX11 hx10 rfl (by decide) (by decide)).trans mf3_0
      have mf7_2 := (kg7.1 x 10 2 10 0 fsX11 hx10 rfl (by decide) (by decide)).trans mf3_2
      have mf7_1 := (kg7.1 x 10 1 10 0 fsX11 hx10 rfl (by decide) (by decide)).trans mf3_1
      have jl7 := jl3.kept rlp kg7 (by decide) (by decide) (by decide)
      have kp7 := kp3.trans (kg7.mono (ms' := jMc) (by decide))
      refine lv_aload_n hx hb (eX11_zone (67, .aload_n 0, 1) (List.mem_of_getElem? (i := 33) rfl)) rfl (lv_at hl 0 rfl) ?_
      refine lv_dup hx hb (eX11_zone (68, .dup, 1) (List.mem_of_getElem? (i := 34) rfl)) rfl ?_
      refine tz_get (r := 10) (k := 2) (t := (0, 0, 8)) hx hb hh7 (he3 _ _ hx10) rfl rfl (hclz ro3 24 2 (0, 0, 8) (by decide) rfl).1 mf7_2 (eX11_zone (69, .getfield 24, 3) (List.mem_of_getElem? (i := 35) rfl)) ?_
      refine ff_iconst hx hb (eX11_zone (72, .iconst 1, 1) (List.mem_of_getElem? (i := 36) rfl)) (by decide) (by decide) (fun v8 e8 => ?_)
      refine ff_iadd hx hb (eX11_zone (73, .iadd, 1) (List.mem_of_getElem? (i := 37) rfl)) (by omega) (by omega) (fun v9 e9 => ?_)
      refine tz_put (r := 10) (k := 2) (t := (0, 0, 8)) hx hb hD hh7 (he3 _ _ hx10) rfl rfl ((hclz ro3 24 2 (0, 0, 8) (by decide) rfl).2 List.mem_cons_self) (tz_i (by omega) (by omega)) (eX11_zone (74, .putfield 24, 3) (List.mem_of_getElem? (i := 38) rfl)) (fun H10 lo10 hh10 hf10 hk10 _ _ => ?_)
      have kg10 := kept_ro he3 hk10
      have mf10_0 := (kg10.1 x 10 0 10 0 fsX11 hx10 rfl (by decide) (by decide)).trans mf7_0
      have mf10_1 := (kg10.1 x 10 1 10 0 fsX11 hx10 rfl (by decide) (by decide)).trans mf7_1
      have jl10 := jl7.kept rlp kg10 (by decide) (by decide) (by decide)
      have kp10 := kp7.trans (kg10.mono (ms' := jMc) (by decide))
      refine lv_aload_n hx hb (eX11_zone (77, .aload_n 0, 1) (List.mem_of_getElem? (i := 39) rfl)) rfl (lv_at hl 0 rfl) ?_
      refine tz_get (r := 10) (k := 2) (t := (0, 0, 8)) hx hb hh10 (he3 _ _ hx10) rfl rfl (hclz ro3 24 2 (0, 0, 8) (by decide) rfl).1 hf10 (eX11_zone (78, .getfield 24, 3) (List.mem_of_getElem? (i := 40) rfl)) ?_
      refine ff_iconst hx hb (eX11_zone (81, .iconst 1, 1) (List.mem_of_getElem? (i := 41) rfl)) (by decide) (by decide) (fun v11 e11 => ?_)
      refine ff_isub hx hb (eX11_zone (82, .isub, 1) (List.mem_of_getElem? (i := 42) rfl)) (by omega) (by omega) (fun v12 e12 => ?_)
      exact vx_ret (W.zret hx hb hr rfl (fun t ht hW => ⟨_, _, ro3, L, zc + 1, rfl, ⟨_, rfl, rfl⟩, he3, by rw [ht]; exact hh10.l0, by rw [ht]; exact kp10, by rw [ht]; exact (show jCS D cA ro _ x L (zc + 1) from ⟨⟨lp, mf10_0, rlp, jl10⟩, ⟨_, hf10, by omega⟩, hjl⟩).ext he3, rfl, Or.inr (Or.inr ⟨rfl, by omega, by omega, by omega, by omega, rfl⟩)⟩) hh10.2.2.1 (eX11_zone (83, .ireturn, 1) (List.mem_of_getElem? (i := 43) rfl)))
    · skip
      exact zx_leafG (ik := 157) (is := 191) (ic := 161) (cls := "java/lang/UnsupportedOperationException") (text := "no room for more zones") hx hb hst hown h2 hKa.1 hh hh (by rw [hl.1, hml]) hex hlk ⟨by decide, by decide, by decide, by decide⟩ (tb_3 79 rfl rfl) (tb_1 19 rfl rfl) (by decide) (gAt_in gAt_2) (by decide +kernel) (by decide) (by decide) (fun t h7 h8 => ⟨hh.grow h7 h8, kept_grow hh h8, kept_grow hh h8, Or.inr ⟨rfl, 0, rfl, Or.inr (Or.inl ⟨rfl, rfl, by omega, by omega, by omega⟩)⟩⟩) (eX11_zone (36, .new 157, 3) (List.mem_of_getElem? (i := 17) rfl)) (eX11_zone (39, .dup, 1) (List.mem_of_getElem? (i := 18) rfl)) (eX11_zone (40, .ldc 191, 2) (List.mem_of_getElem? (i := 19) rfl)) (eX11_zone (42, .invokespecial 161, 3) (List.mem_of_getElem? (i := 20) rfl)) (eX11_zone (45, .athrow, 1) (List.mem_of_getElem? (i := 21) rfl))
  · skip
    exact zx_leafG (ik := 83) (is := 189) (ic := 87) (cls := "java/lang/IllegalArgumentException") (text := "no such offset") hx hb hst hown h2 hKa.1 hh hh (by rw [hl.1, hml]) hex hlk ⟨by decide, by decide, by decide, by decide⟩ (tb_2 121 rfl rfl) (tb_1 17 rfl rfl) (by decide) (gAt_in gAt_1) (by decide +kernel) (by decide) (by decide) (fun t h7 h8 => ⟨hh.grow h7 h8, kept_grow hh h8, kept_grow hh h8, Or.inl ⟨rfl, 0, rfl, Or.inl ⟨rfl, rfl, by omega⟩⟩⟩) (eX11_zone (7, .new 83, 3) (List.mem_of_getElem? (i := 3) rfl)) (eX11_zone (10, .dup, 1) (List.mem_of_getElem? (i := 4) rfl)) (eX11_zone (11, .ldc 189, 2) (List.mem_of_getElem? (i := 5) rfl)) (eX11_zone (13, .invokespecial 87, 3) (List.mem_of_getElem? (i := 6) rfl)) (eX11_zone (16, .athrow, 1) (List.mem_of_getElem? (i := 7) rfl))
