theorem lp_nn {c tm : Int} (h : 0 ≤ lpG c tm) : 0 ≤ c := by
  unfold lpG at h
  split at h
  · (repeat' split at h) <;> omega
  · (repeat' split at h) <;> omega
theorem lp_le (c tm : Int) : lpG c tm ≤ 5 ∧ -1 ≤ lpG c tm := by
  unfold lpG
  (repeat' split) <;> decide
set_option maxRecDepth 100000 in
set_option maxHeartbeats 4000000 in
theorem hX12_letterPlace (l : Launch) (c tm : Int) (c0 : Int32) (tv : Int32) (hc : c0.toInt = c) (htv : tv.toInt = tm) (htm : tm = 0 ∨ tm = 1) : zu_M l yX12_letterPlace (gW yX12_letterPlace cX12_letterPlace 2 (some .int)) { frames := 0, cells := 0, slots := 0, locals := 0 } (fun vs => vs = [.int c0, .int tv]) zT (fun _ w => ∃ r : Int32, w = .int r ∧ r.toInt = lpG c tm) := by
  refine zy_ofW (cc := cX12_letterPlace) (maxL := 2) (ret := (some .int)) (by decide +kernel) rfl ?_
  intro p e s m args below meth c s1 B hml hv
  obtain ⟨vs, rfl, rfl, hKp⟩ := hv
  have hx := B.exec
  have hb := B.bytes
  have hr := B.returns
  have hlk := B.notSynchronized
  have hts0 := atoms_spec (ws := gW yX12_letterPlace cX12_letterPlace 2 (some .int)) B.pre
  have h2 : ∀ w ∈ gT, w.before ([.int c0, .int tv] : List Value).toArray s = true := fun w hw => hts0 w (List.mem_cons_of_mem _ hw)
  have hown : s.vm.findClass RX12 = some m.cls := findClass_of_methodNamed B.named
  have hl := lv_entry [.int c0, .int tv] (n := 2) (Nat.le_of_ble_eq_true rfl)
  rw [lg_entry_eq]
  generalize (lg_sl [.int c0, .int tv] ++ List.replicate (2 - (lg_sl [.int c0, .int tv]).length) Slot.unset).toArray = ls at hl ⊢
  have b_c0 := zn_i32 c0
  have b_tv := zn_i32 tv
  refine lv_iload_n hx hb (eX12_letterPlace (0, .iload_n 1, 1) (List.mem_of_getElem? (i := 0) rfl)) rfl (lv_at hl 1 rfl) ?_
  refine ff_if_eq hx hb (eX12_letterPlace (1, .ifCond .eq 37, 3) (List.mem_of_getElem? (i := 1) rfl)) (tgt := 38) rfl (fun c1 => ?_) (fun c1 => ?_)
  · skip
    refine lv_iload_n hx hb (eX12_letterPlace (38, .iload_n 0, 1) (List.mem_of_getElem? (i := 19) rfl)) rfl (lv_at hl 0 rfl) ?_
    refine ff_bipush hx hb (eX12_letterPlace (39, .bipush 89, 2) (List.mem_of_getElem? (i := 20) rfl)) (by decide) (by decide) (fun v2 e2 => ?_)
    refine ff_icmp_ne hx hb (eX12_letterPlace (41, .if_icmp .ne 7, 3) (List.mem_of_getElem? (i := 21) rfl)) (tgt := 48) rfl (fun c3 => ?_) (fun c3 => ?_)
    · skip
      refine lv_iload_n hx hb (eX12_letterPlace (48, .iload_n 0, 1) (List.mem_of_getElem? (i := 24) rfl)) rfl (lv_at hl 0 rfl) ?_
      refine ff_bipush hx hb (eX12_letterPlace (49, .bipush 77, 2) (List.mem_of_getElem? (i := 25) rfl)) (by decide) (by decide) (fun v4 e4 => ?_)
      refine ff_icmp_ne hx hb (eX12_letterPlace (51, .if_icmp .ne 7, 3) (List.mem_of_getElem? (i := 26) rfl)) (tgt := 58) rfl (fun c5 => ?_) (fun c5 => ?_)
      · skip
        refine lv_iload_n hx hb (eX12_letterPlace (58, .iload_n 0, 1) (List.mem_of_getElem? (i := 29) rfl)) rfl (lv_at hl 0 rfl) ?_
        refine ff_bipush hx hb (eX12_letterPlace (59, .bipush 68, 2) (List.mem_of_getElem? (i := 30) rfl)) (by decide) (by decide) (fun v6 e6 => ?_)
        refine ff_icmp_ne hx hb (eX12_letterPlace (61, .if_icmp .ne 7, 3) (List.mem_of_getElem? (i := 31) rfl)) (tgt := 68) rfl (fun c7 => ?_) (fun c7 => ?_)
        · skip
          refine ff_iconst hx hb (eX12_letterPlace (68, .iconst (-1), 1) (List.mem_of_getElem? (i := 34) rfl)) (by decide) (by decide) (fun v8 e8 => ?_)
          exact zu_iret (y := yX12_letterPlace) (ws := []) (rm := {}) hx hb hr hlk rfl ⟨_, rfl, by (unfold lpG; first | (rw [if_pos (by omega)]; (repeat' split) <;> omega) | (rw [if_neg (by omega)]; (repeat' split) <;> omega))⟩ (eX12_letterPlace (69, .ireturn, 1) (List.mem_of_getElem? (i := 35) rfl))
        · skip
          refine ff_iconst hx hb (eX12_letterPlace (64, .iconst 2, 1) (List.mem_of_getElem? (i := 32) rfl)) (by decide) (by decide) (fun v9 e9 => ?_)
          refine lv_goto hx hb (eX12_letterPlace (65, .goto 4, 3) (List.mem_of_getElem? (i := 33) rfl)) (tgt := 69) rfl ?_
          exact zu_iret (y := yX12_letterPlace) (ws := []) (rm := {}) hx hb hr hlk rfl ⟨_, rfl, by (unfold lpG; first | (rw [if_pos (by omega)]; (repeat' split) <;> omega) | (rw [if_neg (by omega)]; (repeat' split) <;> omega))⟩ (eX12_letterPlace (69, .ireturn, 1) (List.mem_of_getElem? (i := 35) rfl))
      · skip
        refine ff_iconst hx hb (eX12_letterPlace (54, .iconst 1, 1) (List.mem_of_getElem? (i := 27) rfl)) (by decide) (by decide) (fun v10 e10 => ?_)
        refine lv_goto hx hb (eX12_letterPlace (55, .goto 14, 3) (List.mem_of_getElem? (i := 28) rfl)) (tgt := 69) rfl ?_
        exact zu_iret (y := yX12_letterPlace) (ws := []) (rm := {}) hx hb hr hlk rfl ⟨_, rfl, by (unfold lpG; first | (rw [if_pos (by omega)]; (repeat' split) <;> omega) | (rw [if_neg (by omega)]; (repeat' split) <;> omega))⟩ (eX12_letterPlace (69, .ireturn, 1) (List.mem_of_getElem? (i := 35) rfl))
    · skip
      refine ff_iconst hx hb (eX12_letterPlace (44, .iconst 0, 1) (List.mem_of_getElem? (i := 22) rfl)) (by decide) (by decide) (fun v11 e11 => ?_)
      refine lv_goto hx hb (eX12_letterPlace (45, .goto 24, 3) (List.mem_of_getElem? (i := 23) rfl)) (tgt := 69) rfl ?_
      exact zu_iret (y := yX12_letterPlace) (ws := []) (rm := {}) hx hb hr hlk rfl ⟨_, rfl, by (unfold lpG; first | (rw [if_pos (by omega)]; (repeat' split) <;> omega) | (rw [if_neg (by omega)]; (repeat' split) <;> omega))⟩ (eX12_letterPlace (69, .ireturn, 1) (List.mem_of_getElem? (i := 35) rfl))
  · skip
    refine lv_iload_n hx hb (eX12_letterPlace (4, .iload_n 0, 1) (List.mem_of_getElem? (i := 2) rfl)) rfl (lv_at hl 0 rfl) ?_
    refine ff_bipush hx hb (eX12_letterPlace (5, .bipush 72, 2) (List.mem_of_getElem? (i := 3) rfl)) (by decide) (by decide) (fun v12 e12 => ?_)
    refine ff_icmp_ne hx hb (eX12_letterPlace (7, .if_icmp .ne 7, 3) (List.mem_of_getElem? (i := 4) rfl)) (tgt := 14) rfl (fun c13 => ?_) (fun c13 => ?_)
    · skip
      refine lv_iload_n hx hb (eX12_letterPlace (14, .iload_n 0, 1) (List.mem_of_getElem? (i := 7) rfl)) rfl (lv_at hl 0 rfl) ?_
      refine ff_bipush hx hb (eX12_letterPlace (15, .bipush 77, 2) (List.mem_of_getElem? (i := 8) rfl)) (by decide) (by decide) (fun v14 e14 => ?_)
      refine ff_icmp_ne hx hb (eX12_letterPlace (17, .if_icmp .ne 7, 3) (List.mem_of_getElem? (i := 9) rfl)) (tgt := 24) rfl (fun c15 => ?_) (fun c15 => ?_)
      · skip
        refine lv_iload_n hx hb (eX12_letterPlace (24, .iload_n 0, 1) (List.mem_of_getElem? (i := 12) rfl)) rfl (lv_at hl 0 rfl) ?_
        refine ff_bipush hx hb (eX12_letterPlace (25, .bipush 83, 2) (List.mem_of_getElem? (i := 13) rfl)) (by decide) (by decide) (fun v16 e16 => ?_)
        refine ff_icmp_ne hx hb (eX12_letterPlace (27, .if_icmp .ne 7, 3) (List.mem_of_getElem? (i := 14) rfl)) (tgt := 34) rfl (fun c17 => ?_) (fun c17 => ?_)
        · skip
          refine ff_iconst hx hb (eX12_letterPlace (34, .iconst (-1), 1) (List.mem_of_getElem? (i := 17) rfl)) (by decide) (by decide) (fun v18 e18 => ?_)
          refine lv_goto hx hb (eX12_letterPlace (35, .goto 34, 3) (List.mem_of_getElem? (i := 18) rfl)) (tgt := 69) rfl ?_
          exact zu_iret (y := yX12_letterPlace) (ws := []) (rm := {}) hx hb hr hlk rfl ⟨_, rfl, by (unfold lpG; first | (rw [if_pos (by omega)]; (repeat' split) <;> omega) | (rw [if_neg (by omega)]; (repeat' split) <;> omega))⟩ (eX12_letterPlace (69, .ireturn, 1) (List.mem_of_getElem? (i := 35) rfl))
        · skip
          refine ff_iconst hx hb (eX12_letterPlace (30, .iconst 5, 1) (List.mem_of_getElem? (i := 15) rfl)) (by decide) (by decide) (fun v19 e19 => ?_)
          refine lv_goto hx hb (eX12_letterPlace (31, .goto 38, 3) (List.mem_of_getElem? (i := 16) rfl)) (tgt := 69) rfl ?_
          exact zu_iret (y := yX12_letterPlace) (ws := []) (rm := {}) hx hb hr hlk rfl ⟨_, rfl, by (unfold lpG; first | (rw [if_pos (by omega)]; (repeat' split) <;> omega) | (rw [if_neg (by omega)]; (repeat' split) <;> omega))⟩ (eX12_letterPlace (69, .ireturn, 1) (List.mem_of_getElem? (i := 35) rfl))
      · skip
        refine ff_iconst hx hb (eX12_letterPlace (20, .iconst 4, 1) (List.mem_of_getElem? (i := 10) rfl)) (by decide) (by decide) (fun v20 e20 => ?_)
        refine lv_goto hx hb (eX12_letterPlace (21, .goto 48, 3) (List.mem_of_getElem? (i := 11) rfl)) (tgt := 69) rfl ?_
        exact zu_iret (y := yX12_letterPlace) (ws := []) (rm := {}) hx hb hr hlk rfl ⟨_, rfl, by (unfold lpG; first | (rw [if_pos (by omega)]; (repeat' split) <;> omega) | (rw [if_neg (by omega)]; (repeat' split) <;> omega))⟩ (eX12_letterPlace (69, .ireturn, 1) (List.mem_of_getElem? (i := 35) rfl))
    · skip
      refine ff_iconst hx hb (eX12_letterPlace (10, .iconst 3, 1) (List.mem_of_getElem? (i := 5) rfl)) (by decide) (by decide) (fun v21 e21 => ?_)
      refine lv_goto hx hb (eX12_letterPlace (11, .goto 58, 3) (List.mem_of_getElem? (i := 6) rfl)) (tgt := 69) rfl ?_
      exact zu_iret (y := yX12_letterPlace) (ws := []) (rm := {}) hx hb hr hlk rfl ⟨_, rfl, by (unfold lpG; first | (rw [if_pos (by omega)]; (repeat' split) <;> omega) | (rw [if_neg (by omega)]; (repeat' split) <;> omega))⟩ (eX12_letterPlace (69, .ireturn, 1) (List.mem_of_getElem? (i := 35) rfl))
set_option maxRecDepth 100000 in
set_option maxHeartbeats 4000000 in
theorem hX12_readDuration (l : Launch) (D : va_G) (cA : Nat → ClassId) (ro : Nat → Option Nat) (sz : Nat) (H0 : Heap) (a : Nat)  (T : List Int) (sg : uS) (n : Nat) (g h : fN) (ha : ro a = some 11) (hn1 : n ≤ 1) (hT : (T.length : Int) ≤ 120) : Met l yX12_readDuration (gW yX12_readDuration cX12_readDuration 11 none) { frames := 3, cells := 0, slots := 0, locals := 63 } (zs_P D cA ro sz H0 (fun H => jV D cA ro H a T sg ∧ jG D cA ro H a n g h) [.ref a]) (rg_V D cA ro sz H0 gM a n T h (duG T sg)) 0 0 (zy_fr sz) := by
  refine zy_ofW (cc := cX12_readDuration) (maxL := 11) (ret := none) (by decide +kernel) rfl ?_
  intro p e s m args below meth c s1 B hml hv
  obtain ⟨rfl, hh, hKn, hJ⟩ := hv
  have hx := B.exec
  have hb := B.bytes
  have hr := B.returns
  have hlk := B.notSynchronized
  have hts0 := atoms_spec (ws := gW yX12_readDuration cX12_readDuration 11 none) B.pre
  have h2 : ∀ w ∈ gT, w.before ([.ref a] : List Value).toArray s = true := fun w hw => hts0 w (List.mem_cons_of_mem _ hw)
  have hown : s.vm.findClass RX12 = some m.cls := findClass_of_methodNamed B.named
  have hl := lv_entry [.ref a] (n := 11) (Nat.le_of_ble_eq_true rfl)
  rw [lg_entry_eq]
  generalize (lg_sl [.ref a] ++ List.replicate (11 - (lg_sl [.ref a]).length) Slot.unset).toArray = ls at hl ⊢
  have hD := zD_all h2 hKn.1
  have hcl11 := fun (idx k : Nat) (t : zt_T) (h : (idx, 11, k) ∈ gfX12) (hk : fsX12[k]? = some t) => zf_clause (ro := ro) (ms := gM) h2 hown hKn.1 gfX12_ok (by decide +kernel) idx 11 k 11 0 fsX12 t h rfl hk
  have kp0 : zc_kept D RTg ro gM s.heap s.heap := zc_kept.refl
  obtain ⟨jv0, jg0⟩ := hJ
  have hu := jv0.2.2
  unfold vOK at hu
  have hbb := byI_bd T sg.1
  refine lv_aload_n hx hb (eX12_readDuration (0, .aload_n 0, 1) (List.mem_of_getElem? (i := 0) rfl)) rfl (lv_at hl 0 rfl) ?_
  refine ff_iconst hx hb (eX12_readDuration (1, .iconst 4, 1) (List.mem_of_getElem? (i := 1) rfl)) (by decide) (by decide) (fun v1 e1 => ?_)
  refine tz_rowV (As := [.int v1]) (st := []) (b := a) (C := RX12) (Ts := gT) hx hb hml hown h2 (fun _ h => h) (hX12_clearPart l D cA ro sz H0 a v1 4 T (sg) n g h ha hn1 hT (by omega)) ⟨rfl, rfl⟩ ⟨by decide, by decide⟩ ⟨by decide, by decide⟩ (tb_8 68 rfl rfl) (tb_1 12 rfl rfl) (tb_8 65 rfl rfl) (tb_8 67 rfl rfl) (tb_0 41 rfl rfl) (show yX12_clearPart.cls ≠ "java/lang/invoke/MethodHandle" ∧ yX12_clearPart.cls ≠ "java/lang/invoke/VarHandle" ∧ (parseMethodDescriptor yX12_clearPart.desc).map (fun d => d.parameters.length) = some 1 by decide +kernel) zs_blind (zs_ob hh ha (show RTg[11]? = some (0, 11, 0, fsX12) from rfl) (zCX12 hKn.1)) (fun U hU hW => ⟨rfl, by rw [hU]; exact hh.l0, zKb s U hW.alike hKn, by rw [hU]; exact ⟨jv0, jg0⟩⟩) hh.2.2.1 hl.1 (Nat.le_of_ble_eq_true rfl) (eX12_readDuration (2, .invokevirtual 384, 3) (List.mem_of_getElem? (i := 2) rfl)) (fun r2 s2 t2 lo2 g2 f2 l2 => ?_)
  obtain ⟨q2, z2, c2, jv2, jg2⟩ := f2
  cases q2
  rw [g2] at c2
  have hh2 : zh_ok D cA RTg ro sz H0 t2.heap lo2 := ⟨z2.1, z2.2.1, l2, z2.2.2.2⟩
  have kp2 := kp0.trans (c2.mono (ms' := gM) (by decide))
  generalize hx2 : ((clG 4, sg) : gsS) = x2 at jv2 jg2
  have uu2 := jv2.2.2
  unfold vOK at uu2
  have bb2 := byI_bd T x2.2.1
  refine W.eq (g2 := F0 m 5 ls []) rfl ?_
  refine lv_aload_n hx hb (eX12_readDuration (5, .aload_n 0, 1) (List.mem_of_getElem? (i := 3) rfl)) rfl (lv_at hl 0 rfl) ?_
  refine ff_bipush hx hb (eX12_readDuration (6, .bipush 80, 2) (List.mem_of_getElem? (i := 4) rfl)) (by decide) (by decide) (fun v3 e3 => ?_)
  refine tz_rowV (As := [.int v3]) (st := []) (b := a) (C := RX12) (Ts := gT) hx hb hml hown h2 (fun _ h => h) (hX12_expect l D cA ro sz H0 a v3 80 T (x2.2) ha (by omega) (by decide)) ⟨rfl, rfl⟩ ⟨by decide, by decide⟩ ⟨by decide, by decide⟩ (tb_8 35 rfl rfl) (tb_1 12 rfl rfl) (tb_8 32 rfl rfl) (tb_8 34 rfl rfl) (tb_0 34 rfl rfl) (show yX12_expect.cls ≠ "java/lang/invoke/MethodHandle" ∧ yX12_expect.cls ≠ "java/lang/invoke/VarHandle" ∧ (parseMethodDescriptor yX12_expect.desc).map (fun d => d.parameters.length) = some 1 by decide +kernel) zs_blind (zs_ob hh2 ha (show RTg[11]? = some (0, 11, 0, fsX12) from rfl) (zCX12 hKn.1)) (fun U hU hW => ⟨rfl, by rw [hU]; exact hh2.l0, zKb s U hW.alike hKn, by rw [hU]; exact jv2⟩) hh2.2.2.1 hl.1 (Nat.le_of_ble_eq_true rfl) (eX12_readDuration (8, .invokevirtual 325, 3) (List.mem_of_getElem? (i := 5) rfl)) (fun r4 s4 t4 lo4 g4 f4 l4 => ?_)
  obtain ⟨q4, z4, c4, jv4⟩ := f4
  cases q4
  rw [g4] at c4
  have hh4 : zh_ok D cA RTg ro sz H0 t4.heap lo4 := ⟨z4.1, z4.2.1, l4, z4.2.2.2⟩
  have kp4 := kp2.trans (c4.mono (ms' := gM) (by decide))
  generalize hx4 : exG T 80 x2.2 = x4 at jv4
  have uu4 := jv4.2.2
  unfold vOK at uu4
  have bb4 := byI_bd T x4.1
  have jg4 := jg2.kept ha c4 (by decide)
  refine W.eq (g2 := F0 m 11 ls []) rfl ?_
  refine ff_iconst hx hb (eX12_readDuration (11, .iconst 0, 1) (List.mem_of_getElem? (i := 6) rfl)) (by decide) (by decide) (fun v5 e5 => ?_)
  refine lv_istore_n hx hb (eX12_readDuration (12, .istore_n 1, 1) (List.mem_of_getElem? (i := 7) rfl)) rfl hl (by decide) rfl (fun ls6 hl6 => ?_)
  refine ff_iconst hx hb (eX12_readDuration (13, .iconst 0, 1) (List.mem_of_getElem? (i := 8) rfl)) (by decide) (by decide) (fun v7 e7 => ?_)
  refine lv_istore_n hx hb (eX12_readDuration (14, .istore_n 2, 1) (List.mem_of_getElem? (i := 9) rfl)) rfl hl6 (by decide) rfl (fun ls8 hl8 => ?_)
  refine ff_iconst hx hb (eX12_readDuration (15, .iconst 1, 1) (List.mem_of_getElem? (i := 10) rfl)) (by decide) (by decide) (fun v9 e9 => ?_)
  refine lv_istore_n hx hb (eX12_readDuration (16, .istore_n 3, 1) (List.mem_of_getElem? (i := 11) rfl)) rfl hl8 (by decide) rfl (fun ls10 hl10 => ?_)
  refine ff_iconst hx hb (eX12_readDuration (17, .iconst 0, 1) (List.mem_of_getElem? (i := 12) rfl)) (by decide) (by decide) (fun v11 e11 => ?_)
  refine lv_istore hx hb (eX12_readDuration (18, .istore 4, 2) (List.mem_of_getElem? (i := 13) rfl)) hl10 (by decide) rfl (fun ls12 hl12 => ?_)
  refine lv_aload_n hx hb (eX12_readDuration (20, .aload_n 0, 1) (List.mem_of_getElem? (i := 14) rfl)) rfl (lv_at hl12 4 rfl) ?_
  refine ff_bipush hx hb (eX12_readDuration (21, .bipush 15, 2) (List.mem_of_getElem? (i := 15) rfl)) (by decide) (by decide) (fun v13 e13 => ?_)
  refine ff_ldc2 (n := (-1)) hx hb hown h2 (clX12_ok 176 (-1) (List.mem_of_getElem? (i := 19) rfl)) (eX12_readDuration (23, .ldc2_w 176, 3) (List.mem_of_getElem? (i := 16) rfl)) (fun v14 e14 => ?_)
  refine tz_rowV (As := [.int v13, .long v14]) (st := []) (b := a) (C := RX12) (Ts := gT) hx hb hml hown h2 (fun _ h => h) (hX12_set l D cA ro sz H0 a v13 v14 15 n x2.1 h ha hn1 (by omega) (by decide)) ⟨rfl, rfl⟩ ⟨by decide, by decide⟩ ⟨by decide, by decide⟩ (tb_8 72 rfl rfl) (tb_1 12 rfl rfl) (tb_8 69 rfl rfl) (tb_8 71 rfl rfl) (tb_0 42 rfl rfl) (show yX12_set.cls ≠ "java/lang/invoke/MethodHandle" ∧ yX12_set.cls ≠ "java/lang/invoke/VarHandle" ∧ (parseMethodDescriptor yX12_set.desc).map (fun d => d.parameters.length) = some 2 by decide +kernel) zs_blind (zs_ob hh4 ha (show RTg[11]? = some (0, 11, 0, fsX12) from rfl) (zCX12 hKn.1)) (fun U hU hW => ⟨rfl, by rw [hU]; exact hh4.l0, zKb s U hW.alike hKn, by rw [hU]; exact jg4⟩) hh4.2.2.1 hl12.1 (Nat.le_of_ble_eq_true rfl) (eX12_readDuration (26, .invokevirtual 357, 3) (List.mem_of_getElem? (i := 17) rfl)) (fun r15 s15 t15 lo15 g15 f15 l15 => ?_)
  obtain ⟨q15, z15, c15, jg15⟩ := f15
  cases q15
  rw [g15] at c15
  have hh15 : zh_ok D cA RTg ro sz H0 t15.heap lo15 := ⟨z15.1, z15.2.1, l15, z15.2.2.2⟩
  have kp15 := kp4.trans (c15.mono (ms' := gM) (by decide))
  have jg15 : jG D cA ro t15.heap a n (upF x2.1 15 ((-1))) h := by rw [← show v14.toInt = (-1) by omega]; exact jg15
  have jv15 := jv4.kept ha c15 (by decide)
  refine W.eq (g2 := F0 m 29 ls12 []) rfl ?_
  refine lv_aload_n hx hb (eX12_readDuration (29, .aload_n 0, 1) (List.mem_of_getElem? (i := 18) rfl)) rfl (lv_at hl12 4 rfl) ?_
  refine ff_bipush hx hb (eX12_readDuration (30, .bipush 84, 2) (List.mem_of_getElem? (i := 19) rfl)) (by decide) (by decide) (fun v16 e16 => ?_)
  refine tz_rowV (As := [.int v16]) (st := []) (b := a) (C := RX12) (Ts := gT) hx hb hml hown h2 (fun _ h => h) (hX12_takes l D cA ro sz H0 a v16 84 T (x4) ha (by omega) (by decide)) ⟨rfl, rfl⟩ ⟨by decide, by decide⟩ ⟨by decide, by decide⟩ (tb_8 13 rfl rfl) (tb_1 12 rfl rfl) (tb_8 10 rfl rfl) (tb_8 12 rfl rfl) (tb_0 30 rfl rfl) (show yX12_takes.cls ≠ "java/lang/invoke/MethodHandle" ∧ yX12_takes.cls ≠ "java/lang/invoke/VarHandle" ∧ (parseMethodDescriptor yX12_takes.desc).map (fun d => d.parameters.length) = some 1 by decide +kernel) zs_blind (zs_ob hh15 ha (show RTg[11]? = some (0, 11, 0, fsX12) from rfl) (zCX12 hKn.1)) (fun U hU hW => ⟨rfl, by rw [hU]; exact hh15.l0, zKb s U hW.alike hKn, by rw [hU]; exact jv15⟩) hh15.2.2.1 hl12.1 (Nat.le_of_ble_eq_true rfl) (eX12_readDuration (32, .invokevirtual 313, 3) (List.mem_of_getElem? (i := 20) rfl)) (fun r17 s17 t17 lo17 g17 f17 l17 => ?_)
  obtain ⟨v17, q17, e17, z17, c17, jv17⟩ := f17
  cases q17
  rw [g17] at c17
  have hh17 : zh_ok D cA RTg ro sz H0 t17.heap lo17 := ⟨z17.1, z17.2.1, l17, z17.2.2.2⟩
  have kp17 := kp15.trans (c17.mono (ms' := gM) (by decide))
  have kf17 := tkG_01 T 84 x4
  generalize hx17 : tkG T 84 x4 = x17 at jv17 e17 kf17
  have uu17 := jv17.2.2
  unfold vOK at uu17
  have bb17 := byI_bd T x17.2.1
  have jg17 := jg15.kept ha c17 (by decide)
  refine W.eq (g2 := F0 m 35 ls12 [.int v17]) rfl ?_
  have loop : ∀ (k : Nat) (tm nx fi : Int) (fj : fN) (gj : uS) (tv xv fv mv : Int32) (ls : Array Slot) (H : Heap) (lo0 : List Loc), zh_ok D cA RTg ro sz H0 H lo0 → zc_kept D RTg ro gM s.heap H → jV D cA ro H a T gj → jG D cA ro H a n fj h → tv.toInt = tm → xv.toInt = nx → fv.toInt = fi → mv.toInt = 1 → (tm = 0 ∨ tm = 1) → (fi = 0 ∨ fi = 1) → (tm = 0 → 0 ≤ nx ∧ nx ≤ 2 ∧ 7 - nx ≤ (k : Int)) → (tm = 1 → 3 ≤ nx ∧ nx ≤ 5 ∧ 6 - nx ≤ (k : Int)) → duLG T k tm nx fi (fj, gj) = duG T sg → lv_has ls 11 [(1, .int tv), (2, .int xv), (3, .int fv), (5, .int mv), (0, .ref a)] → W p l e (headSpec (gW yX12_readDuration cX12_readDuration 11 none) { frames := 3, cells := 0, slots := 0, locals := 63 }).room s m ([.ref a] : List Value).toArray below meth c H lo0 0 0 (MQ below (rg_V D cA ro sz H0 gM a n T h (duG T sg)) ([.ref a] : List Value).toArray s 0 0 (zy_fr sz)) (F0 m 45 ls []) := by
    intro k
    induction k with
    | zero =>
      intro tm nx fi fj gj tv xv fv mv ls H lo0 _ _ _ _ _ _ _ _ htm _ h0 h1
      exfalso
      rcases htm with e9 | e9
      · have := h0 e9; omega
      · have := h1 e9; omega
    | succ k ih =>
      intro tm nx fi fj gj tv xv fv mv ls H lo0 hh0 kpl jl jgl htv hxv hfv hmv htm hfi h0 h1 htot hl
      have hul := jl.2.2
      unfold vOK at hul
      have hbj := byI_bd T gj.1
      have hnx : 0 ≤ nx ∧ nx ≤ 5 := by rcases htm with e9 | e9; (have := h0 e9; omega); (have := h1 e9; omega)
      refine lv_iload hx hb (eX12_readDuration (45, .iload 5, 2) (List.mem_of_getElem? (i := 28) rfl)) (lv_at hl 3 rfl) ?_
      refine ff_if_eq hx hb (eX12_readDuration (47, .ifCond .eq 339, 3) (List.mem_of_getElem? (i := 29) rfl)) (tgt := 386) rfl (fun c18 => (by exfalso; omega)) (fun c18 => ?_)
      refine lv_aload_n hx hb (eX12_readDuration (50, .aload_n 0, 1) (List.mem_of_getElem? (i := 30) rfl)) rfl (lv_at hl 4 rfl) ?_
      refine tz_rowV (As := []) (st := []) (b := a) (C := RX12) (Ts := gT) hx hb hml hown h2 (fun _ h => h) (hX12_isGood l D cA ro sz H0 a T (gj) ha) ⟨rfl, rfl⟩ ⟨by decide, by decide⟩ ⟨by decide, by decide⟩ (tb_8 17 rfl rfl) (tb_1 12 rfl rfl) (tb_8 14 rfl rfl) (tb_8 16 rfl rfl) (tb_0 31 rfl rfl) (show yX12_isGood.cls ≠ "java/lang/invoke/MethodHandle" ∧ yX12_isGood.cls ≠ "java/lang/invoke/VarHandle" ∧ (parseMethodDescriptor yX12_isGood.desc).map (fun d => d.parameters.length) = some 0 by decide +kernel) zs_blind (zs_ob hh0 ha (show RTg[11]? = some (0, 11, 0, fsX12) from rfl) (zCX12 hKn.1)) (fun U hU hW => ⟨rfl, by rw [hU]; exact hh0.l0, zKb s U hW.alike hKn, by rw [hU]; exact jl⟩) hh0.2.2.1 hl.1 (Nat.le_of_ble_eq_true rfl) (eX12_readDuration (51, .invokevirtual 305, 3) (List.mem_of_getElem? (i := 31) rfl)) (fun r19 s19 t19 lo19 g19 f19 l19 => ?_)
      obtain ⟨z19, v19, q19, e19⟩ := f19
      cases q19
      rw [z19, g19]
      have hh19 : zh_ok D cA RTg ro sz H0 H lo19 := ⟨hh0.1, hh0.2.1, l19, hh0.2.2.2⟩
      refine W.eq (g2 := F0 m 54 ls [.int v19]) rfl ?_
      refine ff_if_eq hx hb (eX12_readDuration (54, .ifCond .eq 332, 3) (List.mem_of_getElem? (i := 32) rfl)) (tgt := 386) rfl (fun c20 => ?_) (fun c20 => ?_)
      · have hfn : duG T sg = (fj, gj) := by rw [← htot]; show (if gj.2.1 < 0 then _ else _ : gsS) = _; rw [if_neg (show ¬ gj.2.1 < 0 by omega)]
        exact W.vret hx hb hr (fun t ht hW => ⟨rfl, by rw [ht]; exact hh19.l0, by rw [ht]; exact kpl, by rw [ht, hfn]; exact jl, by rw [ht, hfn]; exact jgl⟩) hh19.2.2.1 (eX12_readDuration (386, .return_, 1) (List.mem_of_getElem? (i := 208) rfl))
      · have hgood : gj.2.1 < 0 := by omega
        refine ff_lconst hx hb (eX12_readDuration (57, .lconst 0, 1) (List.mem_of_getElem? (i := 33) rfl)) rfl (fun v21 e21 => ?_)
        refine lv_lstore hx hb (eX12_readDuration (58, .lstore 6, 2) (List.mem_of_getElem? (i := 34) rfl)) hl (by decide) rfl (fun ls22 hl22 => ?_)
        refine ff_iconst hx hb (eX12_readDuration (60, .iconst 0, 1) (List.mem_of_getElem? (i := 35) rfl)) (by decide) (by decide) (fun v23 e23 => ?_)
        refine lv_istore hx hb (eX12_readDuration (61, .istore 8, 2) (List.mem_of_getElem? (i := 36) rfl)) hl22 (by decide) rfl (fun ls24 hl24 => ?_)
        have jn239 : ∀ (f3 : fN) (g3 : uS) (dot : Int) (dv pv : Int32) (wv : Int64) (ls : Array Slot) (H : Heap) (lo0 : List Loc), zh_ok D cA RTg ro sz H0 H lo0 → zc_kept D RTg ro gM s.heap H → jV D cA ro H a T g3 → jG D cA ro H a n f3 h → dv.toInt = dot → pv.toInt = lpG (byI T g3.1) tm → -1 ≤ dot → g3.2.1 < 0 → ¬ (fi = 1 ∧ tm = 0 ∧ dot < 0 ∧ byI T g3.1 = 87) → dlG T tm nx fi dot (f3, g3) = dnG T tm nx fi (fj, gj) → lv_has ls 11 [(10, .int pv), (9, .int dv), (6, .long wv), (1, .int tv), (2, .int xv), (3, .int fv), (5, .int mv), (0, .ref a)] → W p l e (headSpec (gW yX12_readDuration cX12_readDuration 11 none) { frames := 3, cells := 0, slots := 0, locals := 63 }).room s m ([.ref a] : List Value).toArray below meth c H lo0 0 0 (MQ below (rg_V D cA ro sz H0 gM a n T h (duG T sg)) ([.ref a] : List Value).toArray s 0 0 (zy_fr sz)) (F0 m 239 ls []) := by
          intro f3  g3  dot  dv pv  wv  ls H lo0 hh0 kpl j3 jg3 hdv hpv hdot hg3 hcw hdl hl
          have hu3 := j3.2.2
          unfold vOK at hu3
          have hb3 := byI_bd T g3.1
          have hl5 := lp_le (byI T g3.1) tm
          refine lv_iload hx hb (eX12_readDuration (239, .iload 10, 2) (List.mem_of_getElem? (i := 127) rfl)) (lv_at hl 0 rfl) ?_
          refine lv_iload_n hx hb (eX12_readDuration (241, .iload_n 2, 1) (List.mem_of_getElem? (i := 128) rfl)) rfl (lv_at hl 4 rfl) ?_
          refine ff_icmp_ge hx hb (eX12_readDuration (242, .if_icmp .ge 8, 3) (List.mem_of_getElem? (i := 129) rfl)) (tgt := 250) rfl (fun c25 => ?_) (fun c25 => ?_)
          · have hge : ¬ lpG (byI T g3.1) tm < nx := by omega
            have hb9 : 0 ≤ byI T g3.1 := lp_nn (tm := tm) (by omega)
            refine lv_aload_n hx hb (eX12_readDuration (250, .aload_n 0, 1) (List.mem_of_getElem? (i := 133) rfl)) rfl (lv_at hl 7 rfl) ?_
            refine lv_dup hx hb (eX12_readDuration (251, .dup, 1) (List.mem_of_getElem? (i := 134) rfl)) rfl ?_
            obtain ⟨jt26, ⟨av26, fv26, bv26, f2926, f3026, f3126, hav26, hfv26, hbv26⟩, hu26⟩ := id j3
            refine tz_get (r := 11) (k := 29) (t := (0, 0, 120)) hx hb hh0 ha rfl rfl (hcl11 293 29 (0, 0, 120) (by decide) rfl).1 f2926 (eX12_readDuration (252, .getfield 293, 3) (List.mem_of_getElem? (i := 135) rfl)) ?_
            refine ff_iconst hx hb (eX12_readDuration (255, .iconst 1, 1) (List.mem_of_getElem? (i := 136) rfl)) (by decide) (by decide) (fun v27 e27 => ?_)
            have ha928 : av26.toInt + v27.toInt ≤ 121 ∧ 0 ≤ av26.toInt := by omega
            refine ff_iadd hx hb (eX12_readDuration (256, .iadd, 1) (List.mem_of_getElem? (i := 137) rfl)) (by omega) (by omega) (fun v28 e28 => ?_)
            have hlt := byI_lt (T := T) (a := g3.1) (by omega) (by omega)
            refine tz_put (r := 11) (k := 29) (t := (0, 0, 120)) hx hb hD hh0 ha rfl rfl ((hcl11 293 29 (0, 0, 120) (by decide) rfl).2 (by decide)) (tz_i (by omega) (by omega)) (eX12_readDuration (257, .putfield 293, 3) (List.mem_of_getElem? (i := 138) rfl)) (fun H29 lo29 hh29 hf29 hk29 _ hq29 => ?_)
            have mf29_a_30 := (hk29.1 a 11 30 11 0 fsX12 ha rfl (by decide) (by decide)).trans f3026
            have mf29_a_31 := (hk29.1 a 11 31 11 0 fsX12 ha rfl (by decide) (by decide)).trans f3126
            have kp29 := kpl.trans (hk29.mono (ms' := gM) (fun x hx => by cases List.mem_singleton.mp hx; decide))
            have jv29 : jV D cA ro H29 a T (g3.1 + 1, g3.2) := ⟨j3.1.kept ha hk29 (by decide) (by decide) (by decide), ⟨_, _, _, hf29, mf29_a_30, mf29_a_31, by show _ = g3.1 + 1; omega, hfv26, hbv26⟩, adG_ok j3.2.2 (by omega)⟩
            have jg29 := jg3.kept ha hk29 (by decide)
            have uv29 := jv29.2.2
            unfold vOK at uv29
            have bb29 := byI_bd T (g3.1 + 1, g3.2).1
            refine ff_iconst hx hb (eX12_readDuration (260, .iconst 0, 1) (List.mem_of_getElem? (i := 139) rfl)) (by decide) (by decide) (fun v30 e30 => ?_)
            refine lv_istore_n hx hb (eX12_readDuration (261, .istore_n 3, 1) (List.mem_of_getElem? (i := 140) rfl)) rfl hl (by decide) rfl (fun ls31 hl31 => ?_)
            refine lv_aload_n hx hb (eX12_readDuration (262, .aload_n 0, 1) (List.mem_of_getElem? (i := 141) rfl)) rfl (lv_at hl31 7 rfl) ?_
            obtain ⟨a32, fa32, ra32⟩ := tz_ref (k := 35) (rr := 37) hh29 ha (show RTg[11]? = some (0, 11, 0, fsX12) from rfl) rfl
            refine tz_get (r := 11) (k := 35) (t := (78, 0, 0)) hx hb hh29 ha rfl rfl (hcl11 62 35 (78, 0, 0) (by decide) rfl).1 fa32 (eX12_readDuration (263, .getfield 62, 3) (List.mem_of_getElem? (i := 142) rfl)) ?_
            refine ff_bipush hx hb (eX12_readDuration (266, .bipush 8, 2) (List.mem_of_getElem? (i := 143) rfl)) (by decide) (by decide) (fun v33 e33 => ?_)
            refine lv_aload_n hx hb (eX12_readDuration (268, .aload_n 0, 1) (List.mem_of_getElem? (i := 144) rfl)) rfl (lv_at hl31 7 rfl) ?_
            obtain ⟨ga34, zg34, nn34, f3434, rga34, hcg34, hzg34, f3634, hnv34⟩ := id jg29
            refine tz_get (r := 11) (k := 36) (t := (0, 0, 3)) hx hb hh29 ha rfl rfl (hcl11 354 36 (0, 0, 3) (by decide) rfl).1 f3634 (eX12_readDuration (269, .getfield 354, 3) (List.mem_of_getElem? (i := 145) rfl)) ?_
            refine ff_imulL hx hb (eX12_readDuration (272, .imul, 1) (List.mem_of_getElem? (i := 146) rfl)) (e33) (by omega) (by omega) (fun v35 e35 => ?_)
            refine lv_iload hx hb (eX12_readDuration (273, .iload 10, 2) (List.mem_of_getElem? (i := 147) rfl)) (lv_at hl31 1 rfl) ?_
            refine ff_iadd hx hb (eX12_readDuration (275, .iadd, 1) (List.mem_of_getElem? (i := 148) rfl)) (by omega) (by omega) (fun v36 e36 => ?_)
            refine lv_lload hx hb (eX12_readDuration (276, .lload 6, 2) (List.mem_of_getElem? (i := 149) rfl)) (lv_at hl31 3 rfl) ?_
            obtain ⟨-, z37, hc37, hy37⟩ := zh_arr hh29 ra32 (show RTg[37]? = some (1, 1, 16, [(1, (-9223372036854775808), 9223372036854775807)]) from rfl)
            refine tz_last hx hb (zAr hKn.1 1 (by decide)) hh29 ra32 (show RTg[37]? = some (1, 1, 16, [(1, (-9223372036854775808), 9223372036854775807)]) from rfl) hc37 hy37 (by omega) (by omega) (tz_l (zn_i64 _).1 (zn_i64 _).2) (eX12_readDuration (278, .lastore, 1) (List.mem_of_getElem? (i := 150) rfl)) (fun H38 lo38 hh38 hc38 hk38 hq38 _ => ?_)
            have mf38_a_35 := (hk38.1 a 11 35 11 0 fsX12 ha rfl (by decide) (by decide)).trans fa32
            have mf38_a_36 := (hk38.1 a 11 36 11 0 fsX12 ha rfl (by decide) (by decide)).trans f3634
            have kp38 := kp29.trans (hk38.mono (ms' := gM) (fun x hx => by cases List.mem_singleton.mp hx; decide))
            have jv38 := jv29.kept ha hk38 (by decide)
            have jg38 := jg29.kept ha hk38 (by decide)
            refine lv_iload hx hb (eX12_readDuration (279, .iload 10, 2) (List.mem_of_getElem? (i := 151) rfl)) (lv_at hl31 1 rfl) ?_
            refine ff_iconst hx hb (eX12_readDuration (281, .iconst 1, 1) (List.mem_of_getElem? (i := 152) rfl)) (by decide) (by decide) (fun v39 e39 => ?_)
            refine ff_iadd hx hb (eX12_readDuration (282, .iadd, 1) (List.mem_of_getElem? (i := 153) rfl)) (by omega) (by omega) (fun v40 e40 => ?_)
            refine lv_istore_n hx hb (eX12_readDuration (283, .istore_n 2, 1) (List.mem_of_getElem? (i := 154) rfl)) rfl hl31 (by decide) rfl (fun ls41 hl41 => ?_)
            refine lv_iload hx hb (eX12_readDuration (284, .iload 9, 2) (List.mem_of_getElem? (i := 155) rfl)) (lv_at hl41 3 rfl) ?_
            refine ff_if_lt hx hb (eX12_readDuration (286, .ifCond .lt 36, 3) (List.mem_of_getElem? (i := 156) rfl)) (tgt := 322) rfl (fun c42 => ?_) (fun c42 => ?_)
            · have hdn : dnG T tm nx fi (fj, gj) = ((0, lpG (byI T g3.1) tm), (f3, (g3.1 + 1, g3.2))) := by rw [← hdl]; unfold dlG ad1; dsimp only; rw [if_neg (show ¬ ¬ g3.2.1 < 0 by omega), if_neg hcw, if_neg hge, if_neg (by omega)]
              refine lv_iload_n hx hb (eX12_readDuration (322, .iload_n 1, 1) (List.mem_of_getElem? (i := 175) rfl)) rfl (lv_at hl41 5 rfl) ?_
              refine ff_if_ne hx hb (eX12_readDuration (323, .ifCond .ne 29, 3) (List.mem_of_getElem? (i := 176) rfl)) (tgt := 352) rfl (fun c43 => ?_) (fun c43 => ?_)
              · have hct : ¬ (tm = 0 ∧ byI T (g3.1 + 1) = 84) := by omega
                refine lv_aload_n hx hb (eX12_readDuration (352, .aload_n 0, 1) (List.mem_of_getElem? (i := 192) rfl)) rfl (lv_at hl41 7 rfl) ?_
                refine tz_rowV (As := []) (st := []) (b := a) (C := RX12) (Ts := gT) hx hb hml hown h2 (fun _ h => h) (hX12_sign l D cA ro sz H0 a T ((g3.1 + 1, g3.2)) ha) ⟨rfl, rfl⟩ ⟨by decide, by decide⟩ ⟨by decide, by decide⟩ (tb_8 21 rfl rfl) (tb_1 12 rfl rfl) (tb_8 18 rfl rfl) (tb_8 20 rfl rfl) (tb_0 32 rfl rfl) (show yX12_sign.cls ≠ "java/lang/invoke/MethodHandle" ∧ yX12_sign.cls ≠ "java/lang/invoke/VarHandle" ∧ (parseMethodDescriptor yX12_sign.desc).map (fun d => d.parameters.length) = some 0 by decide +kernel) zs_blind (zs_ob hh38 ha (show RTg[11]? = some (0, 11, 0, fsX12) from rfl) (zCX12 hKn.1)) (fun U hU hW => ⟨rfl, by rw [hU]; exact hh38.l0, zKb s U hW.alike hKn, by rw [hU]; exact jv38⟩) hh38.2.2.1 hl41.1 (Nat.le_of_ble_eq_true rfl) (eX12_readDuration (353, .invokevirtual 309, 3) (List.mem_of_getElem? (i := 193) rfl)) (fun r44 s44 t44 lo44 g44 f44 l44 => ?_)
                obtain ⟨z44, v44, q44, e44⟩ := f44
                cases q44
                try dsimp only at e44
                rw [z44, g44]
                have hh44 : zh_ok D cA RTg ro sz H0 H38 lo44 := ⟨hh38.1, hh38.2.1, l44, hh38.2.2.2⟩
                refine W.eq (g2 := F0 m 356 ls41 [.int v44]) rfl ?_
                refine zu_S (vs := [.int v44]) (rest := []) hx hb hml hown hts0 zu_BT (hX12_isDigit l v44) ⟨rfl, rfl⟩ ⟨by decide, by decide⟩ ⟨by decide, by decide⟩ (tb_8 27 rfl rfl) (tb_1 12 rfl rfl) (tb_8 25 rfl rfl) (tb_8 26 rfl rfl) (show yX12_isDigit.cls ≠ "java/lang/invoke/MethodHandle" ∧ yX12_isDigit.cls ≠ "java/lang/invoke/VarHandle" ∧ (parseMethodDescriptor yX12_isDigit.desc).map (fun d => d.parameters.length) = some 1 by decide +kernel) rfl (fun _ _ _ => trivial) hl41.1 (Nat.le_of_ble_eq_true rfl) (eX12_readDuration (356, .invokestatic 319, 3) (List.mem_of_getElem? (i := 194) rfl)) (fun w45 f45 => ?_)
                obtain ⟨v45, rfl, e45⟩ := f45
                refine ff_if_eq hx hb (eX12_readDuration (359, .ifCond .eq 21, 3) (List.mem_of_getElem? (i := 195) rfl)) (tgt := 380) rfl (fun c46 => ?_) (fun c46 => ?_)
                · have hfn : duG T sg = (f3, (g3.1 + 1, g3.2)) := by rw [← htot]; show (if _ then (if _ then _ else if _ then _ else if _ then _ else _) else _ : gsS) = _; rw [if_pos hgood, hdn]; dsimp only; rw [if_neg (show ¬ (0 : Int) = 1 by decide), if_neg hct, if_neg (fun q9 => by have q8 := q9.1; unfold isD at q8; omega)]
                  refine ff_iconst hx hb (eX12_readDuration (380, .iconst 0, 1) (List.mem_of_getElem? (i := 205) rfl)) (by decide) (by decide) (fun v47 e47 => ?_)
                  refine lv_istore hx hb (eX12_readDuration (381, .istore 5, 2) (List.mem_of_getElem? (i := 206) rfl)) hl41 (by decide) rfl (fun ls48 hl48 => ?_)
                  refine lv_goto hx hb (eX12_readDuration (383, .goto (-338), 3) (List.mem_of_getElem? (i := 207) rfl)) (tgt := 45) rfl ?_
                  refine lv_iload hx hb (eX12_readDuration (45, .iload 5, 2) (List.mem_of_getElem? (i := 28) rfl)) (lv_at hl48 0 rfl) ?_
                  refine ff_if_eq hx hb (eX12_readDuration (47, .ifCond .eq 339, 3) (List.mem_of_getElem? (i := 29) rfl)) (tgt := 386) rfl (fun c49 => ?_) (fun c49 => (by exfalso; omega))
                  exact W.vret hx hb hr (fun t ht hW => ⟨rfl, by rw [ht]; exact hh44.l0, by rw [ht]; exact kp38, by rw [ht, hfn]; exact jv38, by rw [ht, hfn]; exact jg38⟩) hh44.2.2.1 (eX12_readDuration (386, .return_, 1) (List.mem_of_getElem? (i := 208) rfl))
                · have hdg4 : isD (byI T (g3.1 + 1)) := by omega
                  refine lv_iload_n hx hb (eX12_readDuration (362, .iload_n 2, 1) (List.mem_of_getElem? (i := 196) rfl)) rfl (lv_at hl41 0 rfl) ?_
                  refine lv_iload_n hx hb (eX12_readDuration (363, .iload_n 1, 1) (List.mem_of_getElem? (i := 197) rfl)) rfl (lv_at hl41 5 rfl) ?_
                  refine ff_if_eq hx hb (eX12_readDuration (364, .ifCond .eq 8, 3) (List.mem_of_getElem? (i := 198) rfl)) (tgt := 372) rfl (fun c50 => ?_) (fun c50 => ?_)
                  · have hlim : (if tm = 1 then 6 else 3) = (3 : Int) := if_neg (by omega)
                    refine ff_iconst hx hb (eX12_readDuration (372, .iconst 3, 1) (List.mem_of_getElem? (i := 201) rfl)) (by decide) (by decide) (fun v51 e51 => ?_)
                    refine ff_icmp_ge hx hb (eX12_readDuration (373, .if_icmp .ge 7, 3) (List.mem_of_getElem? (i := 202) rfl)) (tgt := 380) rfl (fun c52 => ?_) (fun c52 => ?_)
                    · have hfn : duG T sg = (f3, (g3.1 + 1, g3.2)) := by rw [← htot]; show (if _ then (if _ then _ else if _ then _ else if _ then _ else _) else _ : gsS) = _; rw [if_pos hgood, hdn]; dsimp only; rw [if_neg (show ¬ (0 : Int) = 1 by decide), if_neg hct, hlim, if_neg (by omega)]
                      refine ff_iconst hx hb (eX12_readDuration (380, .iconst 0, 1) (List.mem_of_getElem? (i := 205) rfl)) (by decide) (by decide) (fun v53 e53 => ?_)
                      refine lv_istore hx hb (eX12_readDuration (381, .istore 5, 2) (List.mem_of_getElem? (i := 206) rfl)) hl41 (by decide) rfl (fun ls54 hl54 => ?_)
                      refine lv_goto hx hb (eX12_readDuration (383, .goto (-338), 3) (List.mem_of_getElem? (i := 207) rfl)) (tgt := 45) rfl ?_
                      refine lv_iload hx hb (eX12_readDuration (45, .iload 5, 2) (List.mem_of_getElem? (i := 28) rfl)) (lv_at hl54 0 rfl) ?_
                      refine ff_if_eq hx hb (eX12_readDuration (47, .ifCond .eq 339, 3) (List.mem_of_getElem? (i := 29) rfl)) (tgt := 386) rfl (fun c55 => ?_) (fun c55 => (by exfalso; omega))
                      exact W.vret hx hb hr (fun t ht hW => ⟨rfl, by rw [ht]; exact hh44.l0, by rw [ht]; exact kp38, by rw [ht, hfn]; exact jv38, by rw [ht, hfn]; exact jg38⟩) hh44.2.2.1 (eX12_readDuration (386, .return_, 1) (List.mem_of_getElem? (i := 208) rfl))
                    · have hnext : duLG T (k + 1) tm nx fi (fj, gj) = duLG T k tm (lpG (byI T g3.1) tm + 1) 0 (f3, (g3.1 + 1, g3.2)) := by show (if _ then (if _ then _ else if _ then _ else if _ then _ else _) else _ : gsS) = _; rw [if_pos hgood, hdn]; dsimp only; rw [if_neg (show ¬ (0 : Int) = 1 by decide), if_neg hct, hlim, if_pos ⟨hdg4, by omega⟩]
                      refine ff_iconst hx hb (eX12_readDuration (376, .iconst 1, 1) (List.mem_of_getElem? (i := 203) rfl)) (by decide) (by decide) (fun v56 e56 => ?_)
                      refine lv_goto hx hb (eX12_readDuration (377, .goto 4, 3) (List.mem_of_getElem? (i := 204) rfl)) (tgt := 381) rfl ?_
                      refine lv_istore hx hb (eX12_readDuration (381, .istore 5, 2) (List.mem_of_getElem? (i := 206) rfl)) hl41 (by decide) rfl (fun ls57 hl57 => ?_)
                      refine lv_goto hx hb (eX12_readDuration (383, .goto (-338), 3) (List.mem_of_getElem? (i := 207) rfl)) (tgt := 45) rfl ?_
                      exact ih tm (lpG (byI T g3.1) tm + 1) 0 f3 (g3.1 + 1, g3.2) tv v40 v30 v56 ls57 _ _ hh44 kp38 jv38 jg38 (by omega) (by omega) (by omega) (by omega) (by omega) (by omega) (fun e9 => by first | omega | (have := h0 e9; omega)) (fun e9 => by first | omega | (have := h1 e9; omega)) (by rw [← htot]; exact hnext.symm) (lv_sub hl57 [6, 1, 2, 0, 7] rfl)
                  · have hlim : (if tm = 1 then 6 else 3) = (6 : Int) := if_pos (by omega)
                    refine ff_bipush hx hb (eX12_readDuration (367, .bipush 6, 2) (List.mem_of_getElem? (i := 199) rfl)) (by decide) (by decide) (fun v58 e58 => ?_)
                    refine lv_goto hx hb (eX12_readDuration (369, .goto 4, 3) (List.mem_of_getElem? (i := 200) rfl)) (tgt := 373) rfl ?_
                    refine ff_icmp_ge hx hb (eX12_readDuration (373, .if_icmp .ge 7, 3) (List.mem_of_getElem? (i := 202) rfl)) (tgt := 380) rfl (fun c59 => ?_) (fun c59 => ?_)
                    · have hfn : duG T sg = (f3, (g3.1 + 1, g3.2)) := by rw [← htot]; show (if _ then (if _ then _ else if _ then _ else if _ then _ else _) else _ : gsS) = _; rw [if_pos hgood, hdn]; dsimp only; rw [if_neg (show ¬ (0 : Int) = 1 by decide), if_neg hct, hlim, if_neg (by omega)]
                      refine ff_iconst hx hb (eX12_readDuration (380, .iconst 0, 1) (List.mem_of_getElem? (i := 205) rfl)) (by decide) (by decide) (fun v60 e60 => ?_)
                      refine lv_istore hx hb (eX12_readDuration (381, .istore 5, 2) (List.mem_of_getElem? (i := 206) rfl)) hl41 (by decide) rfl (fun ls61 hl61 => ?_)
                      refine lv_goto hx hb (eX12_readDuration (383, .goto (-338), 3) (List.mem_of_getElem? (i := 207) rfl)) (tgt := 45) rfl ?_
                      refine lv_iload hx hb (eX12_readDuration (45, .iload 5, 2) (List.mem_of_getElem? (i := 28) rfl)) (lv_at hl61 0 rfl) ?_
                      refine ff_if_eq hx hb (eX12_readDuration (47, .ifCond .eq 339, 3) (List.mem_of_getElem? (i := 29) rfl)) (tgt := 386) rfl (fun c62 => ?_) (fun c62 => (by exfalso; omega))
                      exact W.vret hx hb hr (fun t ht hW => ⟨rfl, by rw [ht]; exact hh44.l0, by rw [ht]; exact kp38, by rw [ht, hfn]; exact jv38, by rw [ht, hfn]; exact jg38⟩) hh44.2.2.1 (eX12_readDuration (386, .return_, 1) (List.mem_of_getElem? (i := 208) rfl))
                    · have hnext : duLG T (k + 1) tm nx fi (fj, gj) = duLG T k tm (lpG (byI T g3.1) tm + 1) 0 (f3, (g3.1 + 1, g3.2)) := by show (if _ then (if _ then _ else if _ then _ else if _ then _ else _) else _ : gsS) = _; rw [if_pos hgood, hdn]; dsimp only; rw [if_neg (show ¬ (0 : Int) = 1 by decide), if_neg hct, hlim, if_pos ⟨hdg4, by omega⟩]
                      refine ff_iconst hx hb (eX12_readDuration (376, .iconst 1, 1) (List.mem_of_getElem? (i := 203) rfl)) (by decide) (by decide) (fun v63 e63 => ?_)
                      refine lv_goto hx hb (eX12_readDuration (377, .goto 4, 3) (List.mem_of_getElem? (i := 204) rfl)) (tgt := 381) rfl ?_
                      refine lv_istore hx hb (eX12_readDuration (381, .istore 5, 2) (List.mem_of_getElem? (i := 206) rfl)) hl41 (by decide) rfl (fun ls64 hl64 => ?_)
                      refine lv_goto hx hb (eX12_readDuration (383, .goto (-338), 3) (List.mem_of_getElem? (i := 207) rfl)) (tgt := 45) rfl ?_
                      exact ih tm (lpG (byI T g3.1) tm + 1) 0 f3 (g3.1 + 1, g3.2) tv v40 v30 v63 ls64 _ _ hh44 kp38 jv38 jg38 (by omega) (by omega) (by omega) (by omega) (by omega) (by omega) (fun e9 => by first | omega | (have := h0 e9; omega)) (fun e9 => by first | omega | (have := h1 e9; omega)) (by rw [← htot]; exact hnext.symm) (lv_sub hl64 [6, 1, 2, 0, 7] rfl)
              · skip
                refine lv_aload_n hx hb (eX12_readDuration (326, .aload_n 0, 1) (List.mem_of_getElem? (i := 177) rfl)) rfl (lv_at hl41 7 rfl) ?_
                refine tz_rowV (As := []) (st := []) (b := a) (C := RX12) (Ts := gT) hx hb hml hown h2 (fun _ h => h) (hX12_sign l D cA ro sz H0 a T ((g3.1 + 1, g3.2)) ha) ⟨rfl, rfl⟩ ⟨by decide, by decide⟩ ⟨by decide, by decide⟩ (tb_8 21 rfl rfl) (tb_1 12 rfl rfl) (tb_8 18 rfl rfl) (tb_8 20 rfl rfl) (tb_0 32 rfl rfl) (show yX12_sign.cls ≠ "java/lang/invoke/MethodHandle" ∧ yX12_sign.cls ≠ "java/lang/invoke/VarHandle" ∧ (parseMethodDescriptor yX12_sign.desc).map (fun d => d.parameters.length) = some 0 by decide +kernel) zs_blind (zs_ob hh38 ha (show RTg[11]? = some (0, 11, 0, fsX12) from rfl) (zCX12 hKn.1)) (fun U hU hW => ⟨rfl, by rw [hU]; exact hh38.l0, zKb s U hW.alike hKn, by rw [hU]; exact jv38⟩) hh38.2.2.1 hl41.1 (Nat.le_of_ble_eq_true rfl) (eX12_readDuration (327, .invokevirtual 309, 3) (List.mem_of_getElem? (i := 178) rfl)) (fun r65 s65 t65 lo65 g65 f65 l65 => ?_)
                obtain ⟨z65, v65, q65, e65⟩ := f65
                cases q65
                try dsimp only at e65
                rw [z65, g65]
                have hh65 : zh_ok D cA RTg ro sz H0 H38 lo65 := ⟨hh38.1, hh38.2.1, l65, hh38.2.2.2⟩
                refine W.eq (g2 := F0 m 330 ls41 [.int v65]) rfl ?_
                refine ff_bipush hx hb (eX12_readDuration (330, .bipush 84, 2) (List.mem_of_getElem? (i := 179) rfl)) (by decide) (by decide) (fun v66 e66 => ?_)
                refine ff_icmp_ne hx hb (eX12_readDuration (332, .if_icmp .ne 20, 3) (List.mem_of_getElem? (i := 180) rfl)) (tgt := 352) rfl (fun c67 => ?_) (fun c67 => ?_)
                · have hct : ¬ (tm = 0 ∧ byI T (g3.1 + 1) = 84) := by omega
                  refine lv_aload_n hx hb (eX12_readDuration (352, .aload_n 0, 1) (List.mem_of_getElem? (i := 192) rfl)) rfl (lv_at hl41 7 rfl) ?_
                  refine tz_rowV (As := []) (st := []) (b := a) (C := RX12) (Ts := gT) hx hb hml hown h2 (fun _ h => h) (hX12_sign l D cA ro sz H0 a T ((g3.1 + 1, g3.2)) ha) ⟨rfl, rfl⟩ ⟨by decide, by decide⟩ ⟨by decide, by decide⟩ (tb_8 21 rfl rfl) (tb_1 12 rfl rfl) (tb_8 18 rfl rfl) (tb_8 20 rfl rfl) (tb_0 32 rfl rfl) (show yX12_sign.cls ≠ "java/lang/invoke/MethodHandle" ∧ yX12_sign.cls ≠ "java/lang/invoke/VarHandle" ∧ (parseMethodDescriptor yX12_sign.desc).map (fun d => d.parameters.length) = some 0 by decide +kernel) zs_blind (zs_ob hh65 ha (show RTg[11]? = some (0, 11, 0, fsX12) from rfl) (zCX12 hKn.1)) (fun U hU hW => ⟨rfl, by rw [hU]; exact hh65.l0, zKb s U hW.alike hKn, by rw [hU]; exact jv38⟩) hh65.2.2.1 hl41.1 (Nat.le_of_ble_eq_true rfl) (eX12_readDuration (353, .invokevirtual 309, 3) (List.mem_of_getElem? (i := 193) rfl)) (fun r68 s68 t68 lo68 g68 f68 l68 => ?_)
                  obtain ⟨z68, v68, q68, e68⟩ := f68
                  cases q68
                  try dsimp only at e68
                  rw [z68, g68]
                  have hh68 : zh_ok D cA RTg ro sz H0 H38 lo68 := ⟨hh65.1, hh65.2.1, l68, hh65.2.2.2⟩
                  refine W.eq (g2 := F0 m 356 ls41 [.int v68]) rfl ?_
                  refine zu_S (vs := [.int v68]) (rest := []) hx hb hml hown hts0 zu_BT (hX12_isDigit l v68) ⟨rfl, rfl⟩ ⟨by decide, by decide⟩ ⟨by decide, by decide⟩ (tb_8 27 rfl rfl) (tb_1 12 rfl rfl) (tb_8 25 rfl rfl) (tb_8 26 rfl rfl) (show yX12_isDigit.cls ≠ "java/lang/invoke/MethodHandle" ∧ yX12_isDigit.cls ≠ "java/lang/invoke/VarHandle" ∧ (parseMethodDescriptor yX12_isDigit.desc).map (fun d => d.parameters.length) = some 1 by decide +kernel) rfl (fun _ _ _ => trivial) hl41.1 (Nat.le_of_ble_eq_true rfl) (eX12_readDuration (356, .invokestatic 319, 3) (List.mem_of_getElem? (i := 194) rfl)) (fun w69 f69 => ?_)
                  obtain ⟨v69, rfl, e69⟩ := f69
                  refine ff_if_eq hx hb (eX12_readDuration (359, .ifCond .eq 21, 3) (List.mem_of_getElem? (i := 195) rfl)) (tgt := 380) rfl (fun c70 => ?_) (fun c70 => ?_)
                  · have hfn : duG T sg = (f3, (g3.1 + 1, g3.2)) := by rw [← htot]; show (if _ then (if _ then _ else if _ then _ else if _ then _ else _) else _ : gsS) = _; rw [if_pos hgood, hdn]; dsimp only; rw [if_neg (show ¬ (0 : Int) = 1 by decide), if_neg hct, if_neg (fun q9 => by have q8 := q9.1; unfold isD at q8; omega)]
                    refine ff_iconst hx hb (eX12_readDuration (380, .iconst 0, 1) (List.mem_of_getElem? (i := 205) rfl)) (by decide) (by decide) (fun v71 e71 => ?_)
                    refine lv_istore hx hb (eX12_readDuration (381, .istore 5, 2) (List.mem_of_getElem? (i := 206) rfl)) hl41 (by decide) rfl (fun ls72 hl72 => ?_)
                    refine lv_goto hx hb (eX12_readDuration (383, .goto (-338), 3) (List.mem_of_getElem? (i := 207) rfl)) (tgt := 45) rfl ?_
                    refine lv_iload hx hb (eX12_readDuration (45, .iload 5, 2) (List.mem_of_getElem? (i := 28) rfl)) (lv_at hl72 0 rfl) ?_
                    refine ff_if_eq hx hb (eX12_readDuration (47, .ifCond .eq 339, 3) (List.mem_of_getElem? (i := 29) rfl)) (tgt := 386) rfl (fun c73 => ?_) (fun c73 => (by exfalso; omega))
                    exact W.vret hx hb hr (fun t ht hW => ⟨rfl, by rw [ht]; exact hh68.l0, by rw [ht]; exact kp38, by rw [ht, hfn]; exact jv38, by rw [ht, hfn]; exact jg38⟩) hh68.2.2.1 (eX12_readDuration (386, .return_, 1) (List.mem_of_getElem? (i := 208) rfl))
                  · have hdg4 : isD (byI T (g3.1 + 1)) := by omega
                    refine lv_iload_n hx hb (eX12_readDuration (362, .iload_n 2, 1) (List.mem_of_getElem? (i := 196) rfl)) rfl (lv_at hl41 0 rfl) ?_
                    refine lv_iload_n hx hb (eX12_readDuration (363, .iload_n 1, 1) (List.mem_of_getElem? (i := 197) rfl)) rfl (lv_at hl41 5 rfl) ?_
                    refine ff_if_eq hx hb (eX12_readDuration (364, .ifCond .eq 8, 3) (List.mem_of_getElem? (i := 198) rfl)) (tgt := 372) rfl (fun c74 => ?_) (fun c74 => ?_)
                    · have hlim : (if tm = 1 then 6 else 3) = (3 : Int) := if_neg (by omega)
                      refine ff_iconst hx hb (eX12_readDuration (372, .iconst 3, 1) (List.mem_of_getElem? (i := 201) rfl)) (by decide) (by decide) (fun v75 e75 => ?_)
                      refine ff_icmp_ge hx hb (eX12_readDuration (373, .if_icmp .ge 7, 3) (List.mem_of_getElem? (i := 202) rfl)) (tgt := 380) rfl (fun c76 => ?_) (fun c76 => ?_)
                      · have hfn : duG T sg = (f3, (g3.1 + 1, g3.2)) := by rw [← htot]; show (if _ then (if _ then _ else if _ then _ else if _ then _ else _) else _ : gsS) = _; rw [if_pos hgood, hdn]; dsimp only; rw [if_neg (show ¬ (0 : Int) = 1 by decide), if_neg hct, hlim, if_neg (by omega)]
                        refine ff_iconst hx hb (eX12_readDuration (380, .iconst 0, 1) (List.mem_of_getElem? (i := 205) rfl)) (by decide) (by decide) (fun v77 e77 => ?_)
                        refine lv_istore hx hb (eX12_readDuration (381, .istore 5, 2) (List.mem_of_getElem? (i := 206) rfl)) hl41 (by decide) rfl (fun ls78 hl78 => ?_)
                        refine lv_goto hx hb (eX12_readDuration (383, .goto (-338), 3) (List.mem_of_getElem? (i := 207) rfl)) (tgt := 45) rfl ?_
                        refine lv_iload hx hb (eX12_readDuration (45, .iload 5, 2) (List.mem_of_getElem? (i := 28) rfl)) (lv_at hl78 0 rfl) ?_
                        refine ff_if_eq hx hb (eX12_readDuration (47, .ifCond .eq 339, 3) (List.mem_of_getElem? (i := 29) rfl)) (tgt := 386) rfl (fun c79 => ?_) (fun c79 => (by exfalso; omega))
                        exact W.vret hx hb hr (fun t ht hW => ⟨rfl, by rw [ht]; exact hh68.l0, by rw [ht]; exact kp38, by rw [ht, hfn]; exact jv38, by rw [ht, hfn]; exact jg38⟩) hh68.2.2.1 (eX12_readDuration (386, .return_, 1) (List.mem_of_getElem? (i := 208) rfl))
                      · have hnext : duLG T (k + 1) tm nx fi (fj, gj) = duLG T k tm (lpG (byI T g3.1) tm + 1) 0 (f3, (g3.1 + 1, g3.2)) := by show (if _ then (if _ then _ else if _ then _ else if _ then _ else _) else _ : gsS) = _; rw [if_pos hgood, hdn]; dsimp only; rw [if_neg (show ¬ (0 : Int) = 1 by decide), if_neg hct, hlim, if_pos ⟨hdg4, by omega⟩]
                        refine ff_iconst hx hb (eX12_readDuration (376, .iconst 1, 1) (List.mem_of_getElem? (i := 203) rfl)) (by decide) (by decide) (fun v80 e80 => ?_)
                        refine lv_goto hx hb (eX12_readDuration (377, .goto 4, 3) (List.mem_of_getElem? (i := 204) rfl)) (tgt := 381) rfl ?_
                        refine lv_istore hx hb (eX12_readDuration (381, .istore 5, 2) (List.mem_of_getElem? (i := 206) rfl)) hl41 (by decide) rfl (fun ls81 hl81 => ?_)
                        refine lv_goto hx hb (eX12_readDuration (383, .goto (-338), 3) (List.mem_of_getElem? (i := 207) rfl)) (tgt := 45) rfl ?_
                        exact ih tm (lpG (byI T g3.1) tm + 1) 0 f3 (g3.1 + 1, g3.2) tv v40 v30 v80 ls81 _ _ hh68 kp38 jv38 jg38 (by omega) (by omega) (by omega) (by omega) (by omega) (by omega) (fun e9 => by first | omega | (have := h0 e9; omega)) (fun e9 => by first | omega | (have := h1 e9; omega)) (by rw [← htot]; exact hnext.symm) (lv_sub hl81 [6, 1, 2, 0, 7] rfl)
                    · have hlim : (if tm = 1 then 6 else 3) = (6 : Int) := if_pos (by omega)
                      refine ff_bipush hx hb (eX12_readDuration (367, .bipush 6, 2) (List.mem_of_getElem? (i := 199) rfl)) (by decide) (by decide) (fun v82 e82 => ?_)
                      refine lv_goto hx hb (eX12_readDuration (369, .goto 4, 3) (List.mem_of_getElem? (i := 200) rfl)) (tgt := 373) rfl ?_
                      refine ff_icmp_ge hx hb (eX12_readDuration (373, .if_icmp .ge 7, 3) (List.mem_of_getElem? (i := 202) rfl)) (tgt := 380) rfl (fun c83 => ?_) (fun c83 => ?_)
                      · have hfn : duG T sg = (f3, (g3.1 + 1, g3.2)) := by rw [← htot]; show (if _ then (if _ then _ else if _ then _ else if _ then _ else _) else _ : gsS) = _; rw [if_pos hgood, hdn]; dsimp only; rw [if_neg (show ¬ (0 : Int) = 1 by decide), if_neg hct, hlim, if_neg (by omega)]
                        refine ff_iconst hx hb (eX12_readDuration (380, .iconst 0, 1) (List.mem_of_getElem? (i := 205) rfl)) (by decide) (by decide) (fun v84 e84 => ?_)
                        refine lv_istore hx hb (eX12_readDuration (381, .istore 5, 2) (List.mem_of_getElem? (i := 206) rfl)) hl41 (by decide) rfl (fun ls85 hl85 => ?_)
                        refine lv_goto hx hb (eX12_readDuration (383, .goto (-338), 3) (List.mem_of_getElem? (i := 207) rfl)) (tgt := 45) rfl ?_
                        refine lv_iload hx hb (eX12_readDuration (45, .iload 5, 2) (List.mem_of_getElem? (i := 28) rfl)) (lv_at hl85 0 rfl) ?_
                        refine ff_if_eq hx hb (eX12_readDuration (47, .ifCond .eq 339, 3) (List.mem_of_getElem? (i := 29) rfl)) (tgt := 386) rfl (fun c86 => ?_) (fun c86 => (by exfalso; omega))
                        exact W.vret hx hb hr (fun t ht hW => ⟨rfl, by rw [ht]; exact hh68.l0, by rw [ht]; exact kp38, by rw [ht, hfn]; exact jv38, by rw [ht, hfn]; exact jg38⟩) hh68.2.2.1 (eX12_readDuration (386, .return_, 1) (List.mem_of_getElem? (i := 208) rfl))
                      · have hnext : duLG T (k + 1) tm nx fi (fj, gj) = duLG T k tm (lpG (byI T g3.1) tm + 1) 0 (f3, (g3.1 + 1, g3.2)) := by show (if _ then (if _ then _ else if _ then _ else if _ then _ else _) else _ : gsS) = _; rw [if_pos hgood, hdn]; dsimp only; rw [if_neg (show ¬ (0 : Int) = 1 by decide), if_neg hct, hlim, if_pos ⟨hdg4, by omega⟩]
                        refine ff_iconst hx hb (eX12_readDuration (376, .iconst 1, 1) (List.mem_of_getElem? (i := 203) rfl)) (by decide) (by decide) (fun v87 e87 => ?_)
                        refine lv_goto hx hb (eX12_readDuration (377, .goto 4, 3) (List.mem_of_getElem? (i := 204) rfl)) (tgt := 381) rfl ?_
                        refine lv_istore hx hb (eX12_readDuration (381, .istore 5, 2) (List.mem_of_getElem? (i := 206) rfl)) hl41 (by decide) rfl (fun ls88 hl88 => ?_)
                        refine lv_goto hx hb (eX12_readDuration (383, .goto (-338), 3) (List.mem_of_getElem? (i := 207) rfl)) (tgt := 45) rfl ?_
                        exact ih tm (lpG (byI T g3.1) tm + 1) 0 f3 (g3.1 + 1, g3.2) tv v40 v30 v87 ls88 _ _ hh68 kp38 jv38 jg38 (by omega) (by omega) (by omega) (by omega) (by omega) (by omega) (fun e9 => by first | omega | (have := h0 e9; omega)) (fun e9 => by first | omega | (have := h1 e9; omega)) (by rw [← htot]; exact hnext.symm) (lv_sub hl88 [6, 1, 2, 0, 7] rfl)
                · have hnext : duLG T (k + 1) tm nx fi (fj, gj) = duLG T k 1 3 0 (f3, (g3.1 + 1 + 1, g3.2)) := by show (if _ then (if _ then _ else if _ then _ else if _ then _ else _) else _ : gsS) = _; rw [if_pos hgood, hdn]; dsimp only; rw [if_neg (show ¬ (0 : Int) = 1 by decide), if_pos (show tm = 0 ∧ byI T (g3.1 + 1) = 84 by omega)] <;> rfl
                  refine lv_aload_n hx hb (eX12_readDuration (335, .aload_n 0, 1) (List.mem_of_getElem? (i := 181) rfl)) rfl (lv_at hl41 7 rfl) ?_
                  refine lv_dup hx hb (eX12_readDuration (336, .dup, 1) (List.mem_of_getElem? (i := 182) rfl)) rfl ?_
                  obtain ⟨jt89, ⟨av89, fv89, bv89, f2989, f3089, f3189, hav89, hfv89, hbv89⟩, hu89⟩ := id jv38
                  refine tz_get (r := 11) (k := 29) (t := (0, 0, 120)) hx hb hh65 ha rfl rfl (hcl11 293 29 (0, 0, 120) (by decide) rfl).1 f2989 (eX12_readDuration (337, .getfield 293, 3) (List.mem_of_getElem? (i := 183) rfl)) ?_
                  refine ff_iconst hx hb (eX12_readDuration (340, .iconst 1, 1) (List.mem_of_getElem? (i := 184) rfl)) (by decide) (by decide) (fun v90 e90 => ?_)
                  have ha991 : av89.toInt + v90.toInt ≤ 121 ∧ 0 ≤ av89.toInt := by omega
                  refine ff_iadd hx hb (eX12_readDuration (341, .iadd, 1) (List.mem_of_getElem? (i := 185) rfl)) (by omega) (by omega) (fun v91 e91 => ?_)
                  have hlt := byI_lt (T := T) (a := g3.1 + 1) (by omega) (by omega)
                  refine tz_put (r := 11) (k := 29) (t := (0, 0, 120)) hx hb hD hh65 ha rfl rfl ((hcl11 293 29 (0, 0, 120) (by decide) rfl).2 (by decide)) (tz_i (by omega) (by omega)) (eX12_readDuration (342, .putfield 293, 3) (List.mem_of_getElem? (i := 186) rfl)) (fun H92 lo92 hh92 hf92 hk92 _ hq92 => ?_)
                  have mf92_a_30 := (hk92.1 a 11 30 11 0 fsX12 ha rfl (by decide) (by decide)).trans f3089
                  have mf92_a_31 := (hk92.1 a 11 31 11 0 fsX12 ha rfl (by decide) (by decide)).trans f3189
                  have kp92 := kp38.trans (hk92.mono (ms' := gM) (fun x hx => by cases List.mem_singleton.mp hx; decide))
                  have jv92 : jV D cA ro H92 a T (g3.1 + 1 + 1, g3.2) := ⟨jv38.1.kept ha hk92 (by decide) (by decide) (by decide), ⟨_, _, _, hf92, mf92_a_30, mf92_a_31, by show _ = g3.1 + 1 + 1; omega, hfv89, hbv89⟩, adG_ok (g := (g3.1 + 1, g3.2)) jv38.2.2 (show 0 ≤ byI T (g3.1 + 1) by omega)⟩
                  have jg92 := jg38.kept ha hk92 (by decide)
                  have uv92 := jv92.2.2
                  unfold vOK at uv92
                  have bb92 := byI_bd T (g3.1 + 1 + 1, g3.2).1
                  refine ff_iconst hx hb (eX12_readDuration (345, .iconst 1, 1) (List.mem_of_getElem? (i := 187) rfl)) (by decide) (by decide) (fun v93 e93 => ?_)
                  refine lv_istore_n hx hb (eX12_readDuration (346, .istore_n 1, 1) (List.mem_of_getElem? (i := 188) rfl)) rfl hl41 (by decide) rfl (fun ls94 hl94 => ?_)
                  refine ff_iconst hx hb (eX12_readDuration (347, .iconst 3, 1) (List.mem_of_getElem? (i := 189) rfl)) (by decide) (by decide) (fun v95 e95 => ?_)
                  refine lv_istore_n hx hb (eX12_readDuration (348, .istore_n 2, 1) (List.mem_of_getElem? (i := 190) rfl)) rfl hl94 (by decide) rfl (fun ls96 hl96 => ?_)
                  refine lv_goto hx hb (eX12_readDuration (349, .goto 34, 3) (List.mem_of_getElem? (i := 191) rfl)) (tgt := 383) rfl ?_
                  refine lv_goto hx hb (eX12_readDuration (383, .goto (-338), 3) (List.mem_of_getElem? (i := 207) rfl)) (tgt := 45) rfl ?_
                  exact ih 1 3 0 f3 (g3.1 + 1 + 1, g3.2) v93 v95 v30 mv ls96 _ _ hh92 kp92 jv92 jg92 (by omega) (by omega) (by omega) (by omega) (by omega) (by omega) (fun e9 => by first | omega | (have := h0 e9; omega)) (fun e9 => by first | omega | (have := h1 e9; omega)) (by rw [← htot]; exact hnext.symm) (lv_sub hl96 [1, 0, 2, 6, 7] rfl)
            · skip
              refine lv_aload_n hx hb (eX12_readDuration (289, .aload_n 0, 1) (List.mem_of_getElem? (i := 157) rfl)) rfl (lv_at hl41 7 rfl) ?_
              refine ff_bipush hx hb (eX12_readDuration (290, .bipush 15, 2) (List.mem_of_getElem? (i := 158) rfl)) (by decide) (by decide) (fun v97 e97 => ?_)
              refine lv_iload hx hb (eX12_readDuration (292, .iload 10, 2) (List.mem_of_getElem? (i := 159) rfl)) (lv_at hl41 2 rfl) ?_
              refine ff_i2l hx hb (eX12_readDuration (294, .i2l, 1) (List.mem_of_getElem? (i := 160) rfl)) (fun v98 e98 => ?_)
              refine tz_rowV (As := [.int v97, .long v98]) (st := []) (b := a) (C := RX12) (Ts := gT) hx hb hml hown h2 (fun _ h => h) (hX12_set l D cA ro sz H0 a v97 v98 15 n f3 h ha hn1 (by omega) (by decide)) ⟨rfl, rfl⟩ ⟨by decide, by decide⟩ ⟨by decide, by decide⟩ (tb_8 72 rfl rfl) (tb_1 12 rfl rfl) (tb_8 69 rfl rfl) (tb_8 71 rfl rfl) (tb_0 42 rfl rfl) (show yX12_set.cls ≠ "java/lang/invoke/MethodHandle" ∧ yX12_set.cls ≠ "java/lang/invoke/VarHandle" ∧ (parseMethodDescriptor yX12_set.desc).map (fun d => d.parameters.length) = some 2 by decide +kernel) zs_blind (zs_ob hh38 ha (show RTg[11]? = some (0, 11, 0, fsX12) from rfl) (zCX12 hKn.1)) (fun U hU hW => ⟨rfl, by rw [hU]; exact hh38.l0, zKb s U hW.alike hKn, by rw [hU]; exact jg38⟩) hh38.2.2.1 hl41.1 (Nat.le_of_ble_eq_true rfl) (eX12_readDuration (295, .invokevirtual 357, 3) (List.mem_of_getElem? (i := 161) rfl)) (fun r99 s99 t99 lo99 g99 f99 l99 => ?_)
              obtain ⟨q99, z99, c99, jg99⟩ := f99
              cases q99
              rw [g99] at c99
              have hh99 : zh_ok D cA RTg ro sz H0 t99.heap lo99 := ⟨z99.1, z99.2.1, l99, z99.2.2.2⟩
              have kp99 := kp38.trans (c99.mono (ms' := gM) (by decide))
              have jg99 : jG D cA ro t99.heap a n (upF f3 15 (lpG (byI T g3.1) tm)) h := by rw [← show v98.toInt = lpG (byI T g3.1) tm by omega]; exact jg99
              have jv99 := jv38.kept ha c99 (by decide)
              refine W.eq (g2 := F0 m 298 ls41 []) rfl ?_
              refine lv_iload hx hb (eX12_readDuration (298, .iload 10, 2) (List.mem_of_getElem? (i := 162) rfl)) (lv_at hl41 2 rfl) ?_
              refine ff_iconst hx hb (eX12_readDuration (300, .iconst 2, 1) (List.mem_of_getElem? (i := 163) rfl)) (by decide) (by decide) (fun v100 e100 => ?_)
              refine ff_icmp_ge hx hb (eX12_readDuration (301, .if_icmp .ge 20, 3) (List.mem_of_getElem? (i := 164) rfl)) (tgt := 321) rfl (fun c101 => ?_) (fun c101 => ?_)
              · have hdn : dnG T tm nx fi (fj, gj) = ((1, 0), (upF f3 15 (lpG (byI T g3.1) tm), (g3.1 + 1, g3.2))) := by rw [← hdl]; unfold dlG ad1; dsimp only; rw [if_neg (show ¬ ¬ g3.2.1 < 0 by omega), if_neg hcw, if_neg hge, if_pos (by omega), if_neg (by omega)]
                have hfn : duG T sg = ((upF f3 15 (lpG (byI T g3.1) tm)), (g3.1 + 1, g3.2)) := by rw [← htot]; show (if _ then (if _ then _ else if _ then _ else if _ then _ else _) else _ : gsS) = _; rw [if_pos hgood, hdn]; dsimp only; rw [if_pos (show (1 : Int) = 1 from rfl)]
                exact W.vret hx hb hr (fun t ht hW => ⟨rfl, by rw [ht]; exact hh99.l0, by rw [ht]; exact kp99, by rw [ht, hfn]; exact jv99, by rw [ht, hfn]; exact jg99⟩) hh99.2.2.1 (eX12_readDuration (321, .return_, 1) (List.mem_of_getElem? (i := 174) rfl))
              · skip
                refine lv_aload_n hx hb (eX12_readDuration (304, .aload_n 0, 1) (List.mem_of_getElem? (i := 165) rfl)) rfl (lv_at hl41 7 rfl) ?_
                refine ff_bipush hx hb (eX12_readDuration (305, .bipush 16, 2) (List.mem_of_getElem? (i := 166) rfl)) (by decide) (by decide) (fun v102 e102 => ?_)
                refine tz_rowV (As := [.int v102]) (st := []) (b := a) (C := RX12) (Ts := gT) hx hb hml hown h2 (fun _ h => h) (hX12_get l D cA ro sz H0 a v102 16 n (upF f3 15 (lpG (byI T g3.1) tm)) h ha hn1 (by omega) (by decide)) ⟨rfl, rfl⟩ ⟨by decide, by decide⟩ ⟨by decide, by decide⟩ (tb_8 94 rfl rfl) (tb_1 12 rfl rfl) (tb_8 91 rfl rfl) (tb_8 93 rfl rfl) (tb_0 47 rfl rfl) (show yX12_get.cls ≠ "java/lang/invoke/MethodHandle" ∧ yX12_get.cls ≠ "java/lang/invoke/VarHandle" ∧ (parseMethodDescriptor yX12_get.desc).map (fun d => d.parameters.length) = some 1 by decide +kernel) zs_blind (zs_ob hh99 ha (show RTg[11]? = some (0, 11, 0, fsX12) from rfl) (zCX12 hKn.1)) (fun U hU hW => ⟨rfl, by rw [hU]; exact hh99.l0, zKb s U hW.alike hKn, by rw [hU]; exact jg99⟩) hh99.2.2.1 hl41.1 (Nat.le_of_ble_eq_true rfl) (eX12_readDuration (307, .invokevirtual 361, 3) (List.mem_of_getElem? (i := 167) rfl)) (fun r103 s103 t103 lo103 g103 f103 l103 => ?_)
                obtain ⟨z103, v103, q103, e103⟩ := f103
                cases q103
                rw [z103, g103]
                have hh103 : zh_ok D cA RTg ro sz H0 t99.heap lo103 := ⟨hh99.1, hh99.2.1, l103, hh99.2.2.2⟩
                rw [up_ne (show (16 : Nat) ≠ 15 by decide)] at e103
                refine W.eq (g2 := F0 m 310 ls41 [.long v103]) rfl ?_
                refine ff_lconst hx hb (eX12_readDuration (310, .lconst 0, 1) (List.mem_of_getElem? (i := 168) rfl)) rfl (fun v104 e104 => ?_)
                refine ff_lcmp hx hb (eX12_readDuration (311, .lcmp, 1) (List.mem_of_getElem? (i := 169) rfl)) (fun v105 e105 => ?_)
                refine ff_if_eq hx hb (eX12_readDuration (312, .ifCond .eq 9, 3) (List.mem_of_getElem? (i := 170) rfl)) (tgt := 321) rfl (fun c106 => ?_) (fun c106 => ?_)
                · have hdn : dnG T tm nx fi (fj, gj) = ((1, 0), (upF f3 15 (lpG (byI T g3.1) tm), (g3.1 + 1, g3.2))) := by rw [← hdl]; unfold dlG ad1; dsimp only; rw [if_neg (show ¬ ¬ g3.2.1 < 0 by omega), if_neg hcw, if_neg hge, if_pos (by omega), if_neg (by omega)]
                  have hfn : duG T sg = ((upF f3 15 (lpG (byI T g3.1) tm)), (g3.1 + 1, g3.2)) := by rw [← htot]; show (if _ then (if _ then _ else if _ then _ else if _ then _ else _) else _ : gsS) = _; rw [if_pos hgood, hdn]; dsimp only; rw [if_pos (show (1 : Int) = 1 from rfl)]
                  exact W.vret hx hb hr (fun t ht hW => ⟨rfl, by rw [ht]; exact hh103.l0, by rw [ht]; exact kp99, by rw [ht, hfn]; exact jv99, by rw [ht, hfn]; exact jg99⟩) hh103.2.2.1 (eX12_readDuration (321, .return_, 1) (List.mem_of_getElem? (i := 174) rfl))
                · have hdn : dnG T tm nx fi (fj, gj) = ((1, 0), (upF f3 15 (lpG (byI T g3.1) tm), bdG dot (g3.1 + 1, g3.2))) := by rw [← hdl]; unfold dlG ad1; dsimp only; rw [if_neg (show ¬ ¬ g3.2.1 < 0 by omega), if_neg hcw, if_neg hge, if_pos (by omega), if_pos (by omega)]
                  refine lv_aload_n hx hb (eX12_readDuration (315, .aload_n 0, 1) (List.mem_of_getElem? (i := 171) rfl)) rfl (lv_at hl41 7 rfl) ?_
                  refine lv_iload hx hb (eX12_readDuration (316, .iload 9, 2) (List.mem_of_getElem? (i := 172) rfl)) (lv_at hl41 3 rfl) ?_
                  refine tz_rowV (As := [.int dv]) (st := []) (b := a) (C := RX12) (Ts := gT) hx hb hml hown h2 (fun _ h => h) (hX12_bad l D cA ro sz H0 a dv (dot) T ((g3.1 + 1, g3.2)) ha (by omega)) ⟨rfl, rfl⟩ ⟨by decide, by decide⟩ ⟨by decide, by decide⟩ (tb_8 47 rfl rfl) (tb_1 12 rfl rfl) (tb_8 44 rfl rfl) (tb_8 46 rfl rfl) (tb_0 37 rfl rfl) (show yX12_bad.cls ≠ "java/lang/invoke/MethodHandle" ∧ yX12_bad.cls ≠ "java/lang/invoke/VarHandle" ∧ (parseMethodDescriptor yX12_bad.desc).map (fun d => d.parameters.length) = some 1 by decide +kernel) zs_blind (zs_ob hh103 ha (show RTg[11]? = some (0, 11, 0, fsX12) from rfl) (zCX12 hKn.1)) (fun U hU hW => ⟨rfl, by rw [hU]; exact hh103.l0, zKb s U hW.alike hKn, by rw [hU]; exact jv99⟩) hh103.2.2.1 hl41.1 (Nat.le_of_ble_eq_true rfl) (eX12_readDuration (318, .invokevirtual 335, 3) (List.mem_of_getElem? (i := 173) rfl)) (fun r107 s107 t107 lo107 g107 f107 l107 => ?_)
                  obtain ⟨q107, z107, c107, jv107⟩ := f107
                  cases q107
                  rw [g107] at c107
                  have hh107 : zh_ok D cA RTg ro sz H0 t107.heap lo107 := ⟨z107.1, z107.2.1, l107, z107.2.2.2⟩
                  have kp107 := kp99.trans (c107.mono (ms' := gM) (by decide))
                  generalize hx107 : bdG (dot) (g3.1 + 1, g3.2) = x107 at jv107
                  have uu107 := jv107.2.2
                  unfold vOK at uu107
                  have bb107 := byI_bd T x107.1
                  have jg107 := jg99.kept ha c107 (by decide)
                  refine W.eq (g2 := F0 m 321 ls41 []) rfl ?_
                  have hfn : duG T sg = ((upF f3 15 (lpG (byI T g3.1) tm)), x107) := by rw [← htot]; show (if _ then (if _ then _ else if _ then _ else if _ then _ else _) else _ : gsS) = _; rw [if_pos hgood, hdn]; dsimp only; rw [if_pos (show (1 : Int) = 1 from rfl), hx107]
                  exact W.vret hx hb hr (fun t ht hW => ⟨rfl, by rw [ht]; exact hh107.l0, by rw [ht]; exact kp107, by rw [ht, hfn]; exact jv107, by rw [ht, hfn]; exact jg107⟩) hh107.2.2.1 (eX12_readDuration (321, .return_, 1) (List.mem_of_getElem? (i := 174) rfl))
          · have hdn : dnG T tm nx fi (fj, gj) = ((1, 0), (f3, flG g3)) := by rw [← hdl]; unfold dlG ad1; dsimp only; rw [if_neg (show ¬ ¬ g3.2.1 < 0 by omega), if_neg hcw, if_pos (by omega)]
            refine lv_aload_n hx hb (eX12_readDuration (245, .aload_n 0, 1) (List.mem_of_getElem? (i := 130) rfl)) rfl (lv_at hl 7 rfl) ?_
            refine tz_rowV (As := []) (st := []) (b := a) (C := RX12) (Ts := gT) hx hb hml hown h2 (fun _ h => h) (hX12_fail l D cA ro sz H0 a T (g3) ha) ⟨rfl, rfl⟩ ⟨by decide, by decide⟩ ⟨by decide, by decide⟩ (tb_8 31 rfl rfl) (tb_1 12 rfl rfl) (tb_8 28 rfl rfl) (tb_8 30 rfl rfl) (tb_0 33 rfl rfl) (show yX12_fail.cls ≠ "java/lang/invoke/MethodHandle" ∧ yX12_fail.cls ≠ "java/lang/invoke/VarHandle" ∧ (parseMethodDescriptor yX12_fail.desc).map (fun d => d.parameters.length) = some 0 by decide +kernel) zs_blind (zs_ob hh0 ha (show RTg[11]? = some (0, 11, 0, fsX12) from rfl) (zCX12 hKn.1)) (fun U hU hW => ⟨rfl, by rw [hU]; exact hh0.l0, zKb s U hW.alike hKn, by rw [hU]; exact j3⟩) hh0.2.2.1 hl.1 (Nat.le_of_ble_eq_true rfl) (eX12_readDuration (246, .invokevirtual 316, 3) (List.mem_of_getElem? (i := 131) rfl)) (fun r108 s108 t108 lo108 g108 f108 l108 => ?_)
            obtain ⟨q108, z108, c108, jv108⟩ := f108
            cases q108
            rw [g108] at c108
            have hh108 : zh_ok D cA RTg ro sz H0 t108.heap lo108 := ⟨z108.1, z108.2.1, l108, z108.2.2.2⟩
            have kp108 := kpl.trans (c108.mono (ms' := gM) (by decide))
            generalize hx108 : flG g3 = x108 at jv108
            have uu108 := jv108.2.2
            unfold vOK at uu108
            have bb108 := byI_bd T x108.1
            have jg108 := jg3.kept ha c108 (by decide)
            refine W.eq (g2 := F0 m 249 ls []) rfl ?_
            have hfn : duG T sg = (f3, x108) := by rw [← htot]; show (if _ then (if _ then _ else if _ then _ else if _ then _ else _) else _ : gsS) = _; rw [if_pos hgood, hdn]; dsimp only; rw [if_pos (show (1 : Int) = 1 from rfl), hx108]
            exact W.vret hx hb hr (fun t ht hW => ⟨rfl, by rw [ht]; exact hh108.l0, by rw [ht]; exact kp108, by rw [ht, hfn]; exact jv108, by rw [ht, hfn]; exact jg108⟩) hh108.2.2.1 (eX12_readDuration (249, .return_, 1) (List.mem_of_getElem? (i := 132) rfl))
        have jn171 : ∀ (f3 : fN) (g3 : uS) (dot : Int) (dv : Int32) (wv : Int64) (ls : Array Slot) (H : Heap) (lo0 : List Loc), zh_ok D cA RTg ro sz H0 H lo0 → zc_kept D RTg ro gM s.heap H → jV D cA ro H a T g3 → jG D cA ro H a n f3 h → dv.toInt = dot → -1 ≤ dot → dlG T tm nx fi dot (f3, g3) = dnG T tm nx fi (fj, gj) → lv_has ls 11 [(9, .int dv), (6, .long wv), (1, .int tv), (2, .int xv), (3, .int fv), (5, .int mv), (0, .ref a)] → W p l e (headSpec (gW yX12_readDuration cX12_readDuration 11 none) { frames := 3, cells := 0, slots := 0, locals := 63 }).room s m ([.ref a] : List Value).toArray below meth c H lo0 0 0 (MQ below (rg_V D cA ro sz H0 gM a n T h (duG T sg)) ([.ref a] : List Value).toArray s 0 0 (zy_fr sz)) (F0 m 171 ls []) := by
          intro f3  g3  dot  dv  wv  ls H lo0 hh0 kpl j3 jg3 hdv hdot hdl hl
          have hu3 := j3.2.2
          unfold vOK at hu3
          have hb3 := byI_bd T g3.1
          refine lv_aload_n hx hb (eX12_readDuration (171, .aload_n 0, 1) (List.mem_of_getElem? (i := 91) rfl)) rfl (lv_at hl 6 rfl) ?_
          refine tz_rowV (As := []) (st := []) (b := a) (C := RX12) (Ts := gT) hx hb hml hown h2 (fun _ h => h) (hX12_isGood l D cA ro sz H0 a T (g3) ha) ⟨rfl, rfl⟩ ⟨by decide, by decide⟩ ⟨by decide, by decide⟩ (tb_8 17 rfl rfl) (tb_1 12 rfl rfl) (tb_8 14 rfl rfl) (tb_8 16 rfl rfl) (tb_0 31 rfl rfl) (show yX12_isGood.cls ≠ "java/lang/invoke/MethodHandle" ∧ yX12_isGood.cls ≠ "java/lang/invoke/VarHandle" ∧ (parseMethodDescriptor yX12_isGood.desc).map (fun d => d.parameters.length) = some 0 by decide +kernel) zs_blind (zs_ob hh0 ha (show RTg[11]? = some (0, 11, 0, fsX12) from rfl) (zCX12 hKn.1)) (fun U hU hW => ⟨rfl, by rw [hU]; exact hh0.l0, zKb s U hW.alike hKn, by rw [hU]; exact j3⟩) hh0.2.2.1 hl.1 (Nat.le_of_ble_eq_true rfl) (eX12_readDuration (172, .invokevirtual 305, 3) (List.mem_of_getElem? (i := 92) rfl)) (fun r109 s109 t109 lo109 g109 f109 l109 => ?_)
          obtain ⟨z109, v109, q109, e109⟩ := f109
          cases q109
          rw [z109, g109]
          have hh109 : zh_ok D cA RTg ro sz H0 H lo109 := ⟨hh0.1, hh0.2.1, l109, hh0.2.2.2⟩
          refine W.eq (g2 := F0 m 175 ls [.int v109]) rfl ?_
          refine ff_if_ne hx hb (eX12_readDuration (175, .ifCond .ne 4, 3) (List.mem_of_getElem? (i := 93) rfl)) (tgt := 179) rfl (fun c110 => ?_) (fun c110 => ?_)
          · have hg3 : g3.2.1 < 0 := by omega
            refine lv_aload_n hx hb (eX12_readDuration (179, .aload_n 0, 1) (List.mem_of_getElem? (i := 95) rfl)) rfl (lv_at hl 6 rfl) ?_
            refine tz_rowV (As := []) (st := []) (b := a) (C := RX12) (Ts := gT) hx hb hml hown h2 (fun _ h => h) (hX12_sign l D cA ro sz H0 a T (g3) ha) ⟨rfl, rfl⟩ ⟨by decide, by decide⟩ ⟨by decide, by decide⟩ (tb_8 21 rfl rfl) (tb_1 12 rfl rfl) (tb_8 18 rfl rfl) (tb_8 20 rfl rfl) (tb_0 32 rfl rfl) (show yX12_sign.cls ≠ "java/lang/invoke/MethodHandle" ∧ yX12_sign.cls ≠ "java/lang/invoke/VarHandle" ∧ (parseMethodDescriptor yX12_sign.desc).map (fun d => d.parameters.length) = some 0 by decide +kernel) zs_blind (zs_ob hh109 ha (show RTg[11]? = some (0, 11, 0, fsX12) from rfl) (zCX12 hKn.1)) (fun U hU hW => ⟨rfl, by rw [hU]; exact hh109.l0, zKb s U hW.alike hKn, by rw [hU]; exact j3⟩) hh109.2.2.1 hl.1 (Nat.le_of_ble_eq_true rfl) (eX12_readDuration (180, .invokevirtual 309, 3) (List.mem_of_getElem? (i := 96) rfl)) (fun r111 s111 t111 lo111 g111 f111 l111 => ?_)
            obtain ⟨z111, v111, q111, e111⟩ := f111
            cases q111
            rw [z111, g111]
            have hh111 : zh_ok D cA RTg ro sz H0 H lo111 := ⟨hh109.1, hh109.2.1, l111, hh109.2.2.2⟩
            refine W.eq (g2 := F0 m 183 ls [.int v111]) rfl ?_
            refine lv_iload_n hx hb (eX12_readDuration (183, .iload_n 1, 1) (List.mem_of_getElem? (i := 97) rfl)) rfl (lv_at hl 2 rfl) ?_
            refine zu_S (vs := [.int v111, .int tv]) (rest := []) hx hb hml hown hts0 zu_BT (hX12_letterPlace l (byI T g3.1) tm v111 tv (by omega) htv (by omega)) ⟨rfl, rfl⟩ ⟨by decide, by decide⟩ ⟨by decide, by decide⟩ (tb_8 109 rfl rfl) (tb_1 12 rfl rfl) (tb_8 107 rfl rfl) (tb_8 108 rfl rfl) (show yX12_letterPlace.cls ≠ "java/lang/invoke/MethodHandle" ∧ yX12_letterPlace.cls ≠ "java/lang/invoke/VarHandle" ∧ (parseMethodDescriptor yX12_letterPlace.desc).map (fun d => d.parameters.length) = some 2 by decide +kernel) rfl (fun _ _ _ => trivial) hl.1 (Nat.le_of_ble_eq_true rfl) (eX12_readDuration (184, .invokestatic 394, 3) (List.mem_of_getElem? (i := 98) rfl)) (fun w112 f112 => ?_)
            obtain ⟨v112, rfl, e112⟩ := f112
            have g112 := (show v112.toInt = lpG (byI T g3.1) tm ∧ lpG (byI T g3.1) tm ≤ 5 ∧ -1 ≤ lpG (byI T g3.1) tm from ⟨e112, (lp_le _ _).1, (lp_le _ _).2⟩)
            refine lv_istore hx hb (eX12_readDuration (187, .istore 10, 2) (List.mem_of_getElem? (i := 99) rfl)) hl (by decide) rfl (fun ls113 hl113 => ?_)
            refine lv_iload_n hx hb (eX12_readDuration (189, .iload_n 3, 1) (List.mem_of_getElem? (i := 100) rfl)) rfl (lv_at hl113 5 rfl) ?_
            refine ff_if_eq hx hb (eX12_readDuration (190, .ifCond .eq 49, 3) (List.mem_of_getElem? (i := 101) rfl)) (tgt := 239) rfl (fun c114 => ?_) (fun c114 => ?_)
            · skip
              exact jn239 f3 g3 dot dv v112 wv ls113 _ _ hh111 kpl j3 jg3 hdv (by omega) hdot (by omega) (by omega) hdl (lv_sub hl113 [0, 1, 2, 3, 4, 5, 6, 7] rfl)
            · skip
              refine lv_iload_n hx hb (eX12_readDuration (193, .iload_n 1, 1) (List.mem_of_getElem? (i := 102) rfl)) rfl (lv_at hl113 3 rfl) ?_
              refine ff_if_ne hx hb (eX12_readDuration (194, .ifCond .ne 45, 3) (List.mem_of_getElem? (i := 103) rfl)) (tgt := 239) rfl (fun c115 => ?_) (fun c115 => ?_)
              · skip
                exact jn239 f3 g3 dot dv v112 wv ls113 _ _ hh111 kpl j3 jg3 hdv (by omega) hdot (by omega) (by omega) hdl (lv_sub hl113 [0, 1, 2, 3, 4, 5, 6, 7] rfl)
              · skip
                refine lv_iload hx hb (eX12_readDuration (197, .iload 9, 2) (List.mem_of_getElem? (i := 104) rfl)) (lv_at hl113 1 rfl) ?_
                refine ff_if_ge hx hb (eX12_readDuration (199, .ifCond .ge 40, 3) (List.mem_of_getElem? (i := 105) rfl)) (tgt := 239) rfl (fun c116 => ?_) (fun c116 => ?_)
                · skip
                  exact jn239 f3 g3 dot dv v112 wv ls113 _ _ hh111 kpl j3 jg3 hdv (by omega) hdot (by omega) (by omega) hdl (lv_sub hl113 [0, 1, 2, 3, 4, 5, 6, 7] rfl)
                · skip
                  refine lv_aload_n hx hb (eX12_readDuration (202, .aload_n 0, 1) (List.mem_of_getElem? (i := 106) rfl)) rfl (lv_at hl113 7 rfl) ?_
                  refine tz_rowV (As := []) (st := []) (b := a) (C := RX12) (Ts := gT) hx hb hml hown h2 (fun _ h => h) (hX12_sign l D cA ro sz H0 a T (g3) ha) ⟨rfl, rfl⟩ ⟨by decide, by decide⟩ ⟨by decide, by decide⟩ (tb_8 21 rfl rfl) (tb_1 12 rfl rfl) (tb_8 18 rfl rfl) (tb_8 20 rfl rfl) (tb_0 32 rfl rfl) (show yX12_sign.cls ≠ "java/lang/invoke/MethodHandle" ∧ yX12_sign.cls ≠ "java/lang/invoke/VarHandle" ∧ (parseMethodDescriptor yX12_sign.desc).map (fun d => d.parameters.length) = some 0 by decide +kernel) zs_blind (zs_ob hh111 ha (show RTg[11]? = some (0, 11, 0, fsX12) from rfl) (zCX12 hKn.1)) (fun U hU hW => ⟨rfl, by rw [hU]; exact hh111.l0, zKb s U hW.alike hKn, by rw [hU]; exact j3⟩) hh111.2.2.1 hl113.1 (Nat.le_of_ble_eq_true rfl) (eX12_readDuration (203, .invokevirtual 309, 3) (List.mem_of_getElem? (i := 107) rfl)) (fun r117 s117 t117 lo117 g117 f117 l117 => ?_)
                  obtain ⟨z117, v117, q117, e117⟩ := f117
                  cases q117
                  rw [z117, g117]
                  have hh117 : zh_ok D cA RTg ro sz H0 H lo117 := ⟨hh111.1, hh111.2.1, l117, hh111.2.2.2⟩
                  refine W.eq (g2 := F0 m 206 ls113 [.int v117]) rfl ?_
                  refine ff_bipush hx hb (eX12_readDuration (206, .bipush 87, 2) (List.mem_of_getElem? (i := 108) rfl)) (by decide) (by decide) (fun v118 e118 => ?_)
                  refine ff_icmp_ne hx hb (eX12_readDuration (208, .if_icmp .ne 31, 3) (List.mem_of_getElem? (i := 109) rfl)) (tgt := 239) rfl (fun c119 => ?_) (fun c119 => ?_)
                  · skip
                    exact jn239 f3 g3 dot dv v112 wv ls113 _ _ hh117 kpl j3 jg3 hdv (by omega) hdot (by omega) (by omega) hdl (lv_sub hl113 [0, 1, 2, 3, 4, 5, 6, 7] rfl)
                  · have hdn : dnG T tm nx fi (fj, gj) = ((1, 0), (f3, (g3.1 + 1, g3.2))) := by rw [← hdl]; unfold dlG ad1; dsimp only; rw [if_neg (show ¬ ¬ g3.2.1 < 0 by omega), if_pos (show fi = 1 ∧ tm = 0 ∧ dot < 0 ∧ byI T g3.1 = 87 by omega)]
                    refine lv_aload_n hx hb (eX12_readDuration (211, .aload_n 0, 1) (List.mem_of_getElem? (i := 110) rfl)) rfl (lv_at hl113 7 rfl) ?_
                    refine lv_dup hx hb (eX12_readDuration (212, .dup, 1) (List.mem_of_getElem? (i := 111) rfl)) rfl ?_
                    obtain ⟨jt120, ⟨av120, fv120, bv120, f29120, f30120, f31120, hav120, hfv120, hbv120⟩, hu120⟩ := id j3
                    refine tz_get (r := 11) (k := 29) (t := (0, 0, 120)) hx hb hh117 ha rfl rfl (hcl11 293 29 (0, 0, 120) (by decide) rfl).1 f29120 (eX12_readDuration (213, .getfield 293, 3) (List.mem_of_getElem? (i := 112) rfl)) ?_
                    refine ff_iconst hx hb (eX12_readDuration (216, .iconst 1, 1) (List.mem_of_getElem? (i := 113) rfl)) (by decide) (by decide) (fun v121 e121 => ?_)
                    have ha9122 : av120.toInt + v121.toInt ≤ 121 ∧ 0 ≤ av120.toInt := by omega
                    refine ff_iadd hx hb (eX12_readDuration (217, .iadd, 1) (List.mem_of_getElem? (i := 114) rfl)) (by omega) (by omega) (fun v122 e122 => ?_)
                    have hlt := byI_lt (T := T) (a := g3.1) (by omega) (by omega)
                    refine tz_put (r := 11) (k := 29) (t := (0, 0, 120)) hx hb hD hh117 ha rfl rfl ((hcl11 293 29 (0, 0, 120) (by decide) rfl).2 (by decide)) (tz_i (by omega) (by omega)) (eX12_readDuration (218, .putfield 293, 3) (List.mem_of_getElem? (i := 115) rfl)) (fun H123 lo123 hh123 hf123 hk123 _ hq123 => ?_)
                    have mf123_a_30 := (hk123.1 a 11 30 11 0 fsX12 ha rfl (by decide) (by decide)).trans f30120
                    have mf123_a_31 := (hk123.1 a 11 31 11 0 fsX12 ha rfl (by decide) (by decide)).trans f31120
                    have kp123 := kpl.trans (hk123.mono (ms' := gM) (fun x hx => by cases List.mem_singleton.mp hx; decide))
                    have jv123 : jV D cA ro H123 a T (g3.1 + 1, g3.2) := ⟨j3.1.kept ha hk123 (by decide) (by decide) (by decide), ⟨_, _, _, hf123, mf123_a_30, mf123_a_31, by show _ = g3.1 + 1; omega, hfv120, hbv120⟩, adG_ok j3.2.2 (by omega)⟩
                    have jg123 := jg3.kept ha hk123 (by decide)
                    have uv123 := jv123.2.2
                    unfold vOK at uv123
                    have bb123 := byI_bd T (g3.1 + 1, g3.2).1
                    refine lv_aload_n hx hb (eX12_readDuration (221, .aload_n 0, 1) (List.mem_of_getElem? (i := 116) rfl)) rfl (lv_at hl113 7 rfl) ?_
                    obtain ⟨a124, fa124, ra124⟩ := tz_ref (k := 35) (rr := 37) hh123 ha (show RTg[11]? = some (0, 11, 0, fsX12) from rfl) rfl
                    refine tz_get (r := 11) (k := 35) (t := (78, 0, 0)) hx hb hh123 ha rfl rfl (hcl11 62 35 (78, 0, 0) (by decide) rfl).1 fa124 (eX12_readDuration (222, .getfield 62, 3) (List.mem_of_getElem? (i := 117) rfl)) ?_
                    refine ff_bipush hx hb (eX12_readDuration (225, .bipush 8, 2) (List.mem_of_getElem? (i := 118) rfl)) (by decide) (by decide) (fun v125 e125 => ?_)
                    refine lv_aload_n hx hb (eX12_readDuration (227, .aload_n 0, 1) (List.mem_of_getElem? (i := 119) rfl)) rfl (lv_at hl113 7 rfl) ?_
                    obtain ⟨ga126, zg126, nn126, f34126, rga126, hcg126, hzg126, f36126, hnv126⟩ := id jg123
                    refine tz_get (r := 11) (k := 36) (t := (0, 0, 3)) hx hb hh123 ha rfl rfl (hcl11 354 36 (0, 0, 3) (by decide) rfl).1 f36126 (eX12_readDuration (228, .getfield 354, 3) (List.mem_of_getElem? (i := 120) rfl)) ?_
                    refine ff_imulL hx hb (eX12_readDuration (231, .imul, 1) (List.mem_of_getElem? (i := 121) rfl)) (e125) (by omega) (by omega) (fun v127 e127 => ?_)
                    refine ff_bipush hx hb (eX12_readDuration (232, .bipush 6, 2) (List.mem_of_getElem? (i := 122) rfl)) (by decide) (by decide) (fun v128 e128 => ?_)
                    refine ff_iadd hx hb (eX12_readDuration (234, .iadd, 1) (List.mem_of_getElem? (i := 123) rfl)) (by omega) (by omega) (fun v129 e129 => ?_)
                    refine lv_lload hx hb (eX12_readDuration (235, .lload 6, 2) (List.mem_of_getElem? (i := 124) rfl)) (lv_at hl113 2 rfl) ?_
                    obtain ⟨-, z130, hc130, hy130⟩ := zh_arr hh123 ra124 (show RTg[37]? = some (1, 1, 16, [(1, (-9223372036854775808), 9223372036854775807)]) from rfl)
                    refine tz_last hx hb (zAr hKn.1 1 (by decide)) hh123 ra124 (show RTg[37]? = some (1, 1, 16, [(1, (-9223372036854775808), 9223372036854775807)]) from rfl) hc130 hy130 (by omega) (by omega) (tz_l (zn_i64 _).1 (zn_i64 _).2) (eX12_readDuration (237, .lastore, 1) (List.mem_of_getElem? (i := 125) rfl)) (fun H131 lo131 hh131 hc131 hk131 hq131 _ => ?_)
                    have mf131_a_35 := (hk131.1 a 11 35 11 0 fsX12 ha rfl (by decide) (by decide)).trans fa124
                    have mf131_a_36 := (hk131.1 a 11 36 11 0 fsX12 ha rfl (by decide) (by decide)).trans f36126
                    have kp131 := kp123.trans (hk131.mono (ms' := gM) (fun x hx => by cases List.mem_singleton.mp hx; decide))
                    have jv131 := jv123.kept ha hk131 (by decide)
                    have jg131 := jg123.kept ha hk131 (by decide)
                    have hfn : duG T sg = (f3, (g3.1 + 1, g3.2)) := by rw [← htot]; show (if _ then (if _ then _ else if _ then _ else if _ then _ else _) else _ : gsS) = _; rw [if_pos hgood, hdn]; dsimp only; rw [if_pos (show (1 : Int) = 1 from rfl)]
                    exact W.vret hx hb hr (fun t ht hW => ⟨rfl, by rw [ht]; exact hh131.l0, by rw [ht]; exact kp131, by rw [ht, hfn]; exact jv131, by rw [ht, hfn]; exact jg131⟩) hh131.2.2.1 (eX12_readDuration (238, .return_, 1) (List.mem_of_getElem? (i := 126) rfl))
          · have hdn : dnG T tm nx fi (fj, gj) = ((1, 0), (f3, g3)) := by rw [← hdl]; unfold dlG; dsimp only; rw [if_pos (show ¬ g3.2.1 < 0 by omega)]
            have hfn : duG T sg = (f3, g3) := by rw [← htot]; show (if _ then (if _ then _ else if _ then _ else if _ then _ else _) else _ : gsS) = _; rw [if_pos hgood, hdn]; dsimp only; rw [if_pos (show (1 : Int) = 1 from rfl)]
            exact W.vret hx hb hr (fun t ht hW => ⟨rfl, by rw [ht]; exact hh109.l0, by rw [ht]; exact kpl, by rw [ht, hfn]; exact j3, by rw [ht, hfn]; exact jg3⟩) hh109.2.2.1 (eX12_readDuration (178, .return_, 1) (List.mem_of_getElem? (i := 94) rfl))
        have lp63 : ∀ (m0 i : Nat) (vv : Int64) (kv : Int32) (g2 : uS) (ls : Array Slot) (H : Heap) (lo0 : List Loc), i + m0 = 9 → kv.toInt = (i : Int) → (0 ≤ vv.toInt ∧ vv.toInt ≤ nB i) → g2.2.1 < 0 → dcL T m0 vv.toInt (i : Int) g2 = dcL T 9 0 0 gj → zh_ok D cA RTg ro sz H0 H lo0 → zc_kept D RTg ro gM s.heap H → jV D cA ro H a T g2 → jG D cA ro H a n fj h → lv_has ls 11 [(6, .long vv), (8, .int kv), (1, .int tv), (2, .int xv), (3, .int fv), (5, .int mv), (0, .ref a)] → W p l e (headSpec (gW yX12_readDuration cX12_readDuration 11 none) { frames := 3, cells := 0, slots := 0, locals := 63 }).room s m ([.ref a] : List Value).toArray below meth c H lo0 0 0 (MQ below (rg_V D cA ro sz H0 gM a n T h (duG T sg)) ([.ref a] : List Value).toArray s 0 0 (zy_fr sz)) (F0 m 63 ls []) := by
          intro m0
          induction m0 with
          | zero =>
            intro i vv kv g2 ls H lo0 hi hkv hvv hg2 hdc hh0 kpl j2 jg2 hl
            have hu2 := j2.2.2
            unfold vOK at hu2
            have hb2 := byI_bd T g2.1
            refine lv_iload hx hb (eX12_readDuration (63, .iload 8, 2) (List.mem_of_getElem? (i := 37) rfl)) (lv_at hl 1 rfl) ?_
            refine ff_bipush hx hb (eX12_readDuration (65, .bipush 9, 2) (List.mem_of_getElem? (i := 38) rfl)) (by decide) (by decide) (fun v132 e132 => ?_)
            refine ff_icmp_ge hx hb (eX12_readDuration (67, .if_icmp .ge 47, 3) (List.mem_of_getElem? (i := 39) rfl)) (tgt := 114) rfl (fun c133 => ?_) (fun c133 => (by exfalso; omega))
            have hdx : dcL T 9 0 0 gj = ((vv.toInt, (i : Int)), g2) := by rw [← hdc] <;> rfl
            refine lv_iload hx hb (eX12_readDuration (114, .iload 8, 2) (List.mem_of_getElem? (i := 62) rfl)) (lv_at hl 1 rfl) ?_
            refine ff_if_ne hx hb (eX12_readDuration (116, .ifCond .ne 8, 3) (List.mem_of_getElem? (i := 63) rfl)) (tgt := 124) rfl (fun c134 => ?_) (fun c134 => ?_)
            · skip
              refine ff_iconst hx hb (eX12_readDuration (124, .iconst (-1), 1) (List.mem_of_getElem? (i := 67) rfl)) (by decide) (by decide) (fun v135 e135 => ?_)
              refine lv_istore hx hb (eX12_readDuration (125, .istore 9, 2) (List.mem_of_getElem? (i := 68) rfl)) hl (by decide) rfl (fun ls136 hl136 => ?_)
              refine lv_aload_n hx hb (eX12_readDuration (127, .aload_n 0, 1) (List.mem_of_getElem? (i := 69) rfl)) rfl (lv_at hl136 7 rfl) ?_
              refine tz_rowV (As := []) (st := []) (b := a) (C := RX12) (Ts := gT) hx hb hml hown h2 (fun _ h => h) (hX12_sign l D cA ro sz H0 a T (g2) ha) ⟨rfl, rfl⟩ ⟨by decide, by decide⟩ ⟨by decide, by decide⟩ (tb_8 21 rfl rfl) (tb_1 12 rfl rfl) (tb_8 18 rfl rfl) (tb_8 20 rfl rfl) (tb_0 32 rfl rfl) (show yX12_sign.cls ≠ "java/lang/invoke/MethodHandle" ∧ yX12_sign.cls ≠ "java/lang/invoke/VarHandle" ∧ (parseMethodDescriptor yX12_sign.desc).map (fun d => d.parameters.length) = some 0 by decide +kernel) zs_blind (zs_ob hh0 ha (show RTg[11]? = some (0, 11, 0, fsX12) from rfl) (zCX12 hKn.1)) (fun U hU hW => ⟨rfl, by rw [hU]; exact hh0.l0, zKb s U hW.alike hKn, by rw [hU]; exact j2⟩) hh0.2.2.1 hl136.1 (Nat.le_of_ble_eq_true rfl) (eX12_readDuration (128, .invokevirtual 309, 3) (List.mem_of_getElem? (i := 70) rfl)) (fun r137 s137 t137 lo137 g137 f137 l137 => ?_)
              obtain ⟨z137, v137, q137, e137⟩ := f137
              cases q137
              rw [z137, g137]
              have hh137 : zh_ok D cA RTg ro sz H0 H lo137 := ⟨hh0.1, hh0.2.1, l137, hh0.2.2.2⟩
              refine W.eq (g2 := F0 m 131 ls136 [.int v137]) rfl ?_
              refine ff_bipush hx hb (eX12_readDuration (131, .bipush 46, 2) (List.mem_of_getElem? (i := 71) rfl)) (by decide) (by decide) (fun v138 e138 => ?_)
              refine ff_icmp_eq hx hb (eX12_readDuration (133, .if_icmp .eq 12, 3) (List.mem_of_getElem? (i := 72) rfl)) (tgt := 145) rfl (fun c139 => ?_) (fun c139 => ?_)
              · skip
                have d140 : byI T g2.1 = 46 ∨ byI T g2.1 = 44 := by omega
                refine lv_aload_n hx hb (eX12_readDuration (145, .aload_n 0, 1) (List.mem_of_getElem? (i := 77) rfl)) rfl (lv_at hl136 7 rfl) ?_
                obtain ⟨jt141, ⟨av141, fv141, bv141, f29141, f30141, f31141, hav141, hfv141, hbv141⟩, hu141⟩ := id j2
                refine tz_get (r := 11) (k := 29) (t := (0, 0, 120)) hx hb hh137 ha rfl rfl (hcl11 293 29 (0, 0, 120) (by decide) rfl).1 f29141 (eX12_readDuration (146, .getfield 293, 3) (List.mem_of_getElem? (i := 78) rfl)) ?_
                refine lv_istore hx hb (eX12_readDuration (149, .istore 9, 2) (List.mem_of_getElem? (i := 79) rfl)) hl136 (by decide) rfl (fun ls142 hl142 => ?_)
                refine lv_aload_n hx hb (eX12_readDuration (151, .aload_n 0, 1) (List.mem_of_getElem? (i := 80) rfl)) rfl (lv_at hl142 7 rfl) ?_
                refine lv_dup hx hb (eX12_readDuration (152, .dup, 1) (List.mem_of_getElem? (i := 81) rfl)) rfl ?_
                refine tz_get (r := 11) (k := 29) (t := (0, 0, 120)) hx hb hh137 ha rfl rfl (hcl11 293 29 (0, 0, 120) (by decide) rfl).1 f29141 (eX12_readDuration (153, .getfield 293, 3) (List.mem_of_getElem? (i := 82) rfl)) ?_
                refine ff_iconst hx hb (eX12_readDuration (156, .iconst 1, 1) (List.mem_of_getElem? (i := 83) rfl)) (by decide) (by decide) (fun v143 e143 => ?_)
                have ha9144 : av141.toInt + v143.toInt ≤ 121 ∧ 0 ≤ av141.toInt := by omega
                refine ff_iadd hx hb (eX12_readDuration (157, .iadd, 1) (List.mem_of_getElem? (i := 84) rfl)) (by omega) (by omega) (fun v144 e144 => ?_)
                have hlt := byI_lt (T := T) (a := g2.1) (by omega) (by omega)
                refine tz_put (r := 11) (k := 29) (t := (0, 0, 120)) hx hb hD hh137 ha rfl rfl ((hcl11 293 29 (0, 0, 120) (by decide) rfl).2 (by decide)) (tz_i (by omega) (by omega)) (eX12_readDuration (158, .putfield 293, 3) (List.mem_of_getElem? (i := 85) rfl)) (fun H145 lo145 hh145 hf145 hk145 _ hq145 => ?_)
                have mf145_a_30 := (hk145.1 a 11 30 11 0 fsX12 ha rfl (by decide) (by decide)).trans f30141
                have mf145_a_31 := (hk145.1 a 11 31 11 0 fsX12 ha rfl (by decide) (by decide)).trans f31141
                have kp145 := kpl.trans (hk145.mono (ms' := gM) (fun x hx => by cases List.mem_singleton.mp hx; decide))
                have jv145 : jV D cA ro H145 a T (g2.1 + 1, g2.2) := ⟨j2.1.kept ha hk145 (by decide) (by decide) (by decide), ⟨_, _, _, hf145, mf145_a_30, mf145_a_31, by show _ = g2.1 + 1; omega, hfv141, hbv141⟩, adG_ok j2.2.2 (by omega)⟩
                have jg145 := jg2.kept ha hk145 (by decide)
                have uv145 := jv145.2.2
                unfold vOK at uv145
                have bb145 := byI_bd T (g2.1 + 1, g2.2).1
                refine lv_aload_n hx hb (eX12_readDuration (161, .aload_n 0, 1) (List.mem_of_getElem? (i := 86) rfl)) rfl (lv_at hl142 7 rfl) ?_
                refine ff_bipush hx hb (eX12_readDuration (162, .bipush 16, 2) (List.mem_of_getElem? (i := 87) rfl)) (by decide) (by decide) (fun v146 e146 => ?_)
                refine lv_aload_n hx hb (eX12_readDuration (164, .aload_n 0, 1) (List.mem_of_getElem? (i := 88) rfl)) rfl (lv_at hl142 7 rfl) ?_
                refine tz_rowV (As := []) (st := [.int v146, .ref a]) (b := a) (C := RX12) (Ts := gT) hx hb hml hown h2 (fun _ h => h) (hX12_part l D cA ro sz H0 a T ((g2.1 + 1, g2.2)) ha hT) ⟨rfl, rfl⟩ ⟨by decide, by decide⟩ ⟨by decide, by decide⟩ (tb_8 84 rfl rfl) (tb_1 12 rfl rfl) (tb_8 81 rfl rfl) (tb_8 83 rfl rfl) (tb_0 45 rfl rfl) (show yX12_part.cls ≠ "java/lang/invoke/MethodHandle" ∧ yX12_part.cls ≠ "java/lang/invoke/VarHandle" ∧ (parseMethodDescriptor yX12_part.desc).map (fun d => d.parameters.length) = some 0 by decide +kernel) zs_blind (zs_ob hh145 ha (show RTg[11]? = some (0, 11, 0, fsX12) from rfl) (zCX12 hKn.1)) (fun U hU hW => ⟨rfl, by rw [hU]; exact hh145.l0, zKb s U hW.alike hKn, by rw [hU]; exact jv145⟩) hh145.2.2.1 hl142.1 (Nat.le_of_ble_eq_true rfl) (eX12_readDuration (165, .invokevirtual 380, 3) (List.mem_of_getElem? (i := 89) rfl)) (fun r147 s147 t147 lo147 g147 f147 l147 => ?_)
                obtain ⟨v147, q147, e147, z147, c147, jv147⟩ := f147
                cases q147
                rw [g147] at c147
                have hh147 : zh_ok D cA RTg ro sz H0 t147.heap lo147 := ⟨z147.1, z147.2.1, l147, z147.2.2.2⟩
                have kp147 := kp145.trans (c147.mono (ms' := gM) (by decide))
                generalize hx147 : paG T (g2.1 + 1, g2.2) = x147 at jv147 e147
                have uu147 := jv147.2.2
                unfold vOK at uu147
                have bb147 := byI_bd T x147.2.1
                have jg147 := jg145.kept ha c147 (by decide)
                refine W.eq (g2 := F0 m 168 ls142 [.long v147, .int v146, .ref a]) rfl ?_
                refine tz_rowV (As := [.int v146, .long v147]) (st := []) (b := a) (C := RX12) (Ts := gT) hx hb hml hown h2 (fun _ h => h) (hX12_set l D cA ro sz H0 a v146 v147 16 n fj h ha hn1 (by omega) (by decide)) ⟨rfl, rfl⟩ ⟨by decide, by decide⟩ ⟨by decide, by decide⟩ (tb_8 72 rfl rfl) (tb_1 12 rfl rfl) (tb_8 69 rfl rfl) (tb_8 71 rfl rfl) (tb_0 42 rfl rfl) (show yX12_set.cls ≠ "java/lang/invoke/MethodHandle" ∧ yX12_set.cls ≠ "java/lang/invoke/VarHandle" ∧ (parseMethodDescriptor yX12_set.desc).map (fun d => d.parameters.length) = some 2 by decide +kernel) zs_blind (zs_ob hh147 ha (show RTg[11]? = some (0, 11, 0, fsX12) from rfl) (zCX12 hKn.1)) (fun U hU hW => ⟨rfl, by rw [hU]; exact hh147.l0, zKb s U hW.alike hKn, by rw [hU]; exact jg147⟩) hh147.2.2.1 hl142.1 (Nat.le_of_ble_eq_true rfl) (eX12_readDuration (168, .invokevirtual 357, 3) (List.mem_of_getElem? (i := 90) rfl)) (fun r148 s148 t148 lo148 g148 f148 l148 => ?_)
                obtain ⟨q148, z148, c148, jg148⟩ := f148
                cases q148
                rw [g148] at c148
                have hh148 : zh_ok D cA RTg ro sz H0 t148.heap lo148 := ⟨z148.1, z148.2.1, l148, z148.2.2.2⟩
                have kp148 := kp147.trans (c148.mono (ms' := gM) (by decide))
                have jg148 : jG D cA ro t148.heap a n (upF fj 16 (x147.1)) h := by rw [← show v147.toInt = x147.1 by omega]; exact jg148
                have jv148 := jv147.kept ha c148 (by decide)
                refine W.eq (g2 := F0 m 171 ls142 []) rfl ?_
                exact jn171 (upF fj 16 (x147.1)) x147.2 g2.1 av141 vv ls142 _ _ hh148 kp148 jv148 jg148 (by omega) (by omega) (by unfold dnG; rw [hdx]; dsimp only; rw [if_neg (by omega)]; first | (simp only [ddG, tp1G, ad1, hx147, if_pos d140, up_eq]; done) | (simp only [ddG, tp1G, ad1, hx147, if_pos d140, up_eq] <;> rfl) | rfl) (lv_sub hl142 [0, 1, 3, 4, 5, 6, 7] rfl)
              · skip
                refine lv_aload_n hx hb (eX12_readDuration (136, .aload_n 0, 1) (List.mem_of_getElem? (i := 73) rfl)) rfl (lv_at hl136 7 rfl) ?_
                refine tz_rowV (As := []) (st := []) (b := a) (C := RX12) (Ts := gT) hx hb hml hown h2 (fun _ h => h) (hX12_sign l D cA ro sz H0 a T (g2) ha) ⟨rfl, rfl⟩ ⟨by decide, by decide⟩ ⟨by decide, by decide⟩ (tb_8 21 rfl rfl) (tb_1 12 rfl rfl) (tb_8 18 rfl rfl) (tb_8 20 rfl rfl) (tb_0 32 rfl rfl) (show yX12_sign.cls ≠ "java/lang/invoke/MethodHandle" ∧ yX12_sign.cls ≠ "java/lang/invoke/VarHandle" ∧ (parseMethodDescriptor yX12_sign.desc).map (fun d => d.parameters.length) = some 0 by decide +kernel) zs_blind (zs_ob hh137 ha (show RTg[11]? = some (0, 11, 0, fsX12) from rfl) (zCX12 hKn.1)) (fun U hU hW => ⟨rfl, by rw [hU]; exact hh137.l0, zKb s U hW.alike hKn, by rw [hU]; exact j2⟩) hh137.2.2.1 hl136.1 (Nat.le_of_ble_eq_true rfl) (eX12_readDuration (137, .invokevirtual 309, 3) (List.mem_of_getElem? (i := 74) rfl)) (fun r149 s149 t149 lo149 g149 f149 l149 => ?_)
                obtain ⟨z149, v149, q149, e149⟩ := f149
                cases q149
                rw [z149, g149]
                have hh149 : zh_ok D cA RTg ro sz H0 H lo149 := ⟨hh137.1, hh137.2.1, l149, hh137.2.2.2⟩
                refine W.eq (g2 := F0 m 140 ls136 [.int v149]) rfl ?_
                refine ff_bipush hx hb (eX12_readDuration (140, .bipush 44, 2) (List.mem_of_getElem? (i := 75) rfl)) (by decide) (by decide) (fun v150 e150 => ?_)
                refine ff_icmp_ne hx hb (eX12_readDuration (142, .if_icmp .ne 29, 3) (List.mem_of_getElem? (i := 76) rfl)) (tgt := 171) rfl (fun c151 => ?_) (fun c151 => ?_)
                · skip
                  have d152 : ¬ (byI T g2.1 = 46 ∨ byI T g2.1 = 44) := by omega
                  exact jn171 fj g2 (-1) v135 vv ls136 _ _ hh149 kpl j2 jg2 (by omega) (by omega) (by unfold dnG; rw [hdx]; dsimp only; rw [if_neg (by omega)]; first | (simp only [ddG, tp1G, ad1, if_neg d152, up_eq]; done) | (simp only [ddG, tp1G, ad1, if_neg d152, up_eq] <;> rfl) | rfl) (lv_sub hl136 [0, 1, 3, 4, 5, 6, 7] rfl)
                · skip
                  have d153 : byI T g2.1 = 46 ∨ byI T g2.1 = 44 := by omega
                  refine lv_aload_n hx hb (eX12_readDuration (145, .aload_n 0, 1) (List.mem_of_getElem? (i := 77) rfl)) rfl (lv_at hl136 7 rfl) ?_
                  obtain ⟨jt154, ⟨av154, fv154, bv154, f29154, f30154, f31154, hav154, hfv154, hbv154⟩, hu154⟩ := id j2
                  refine tz_get (r := 11) (k := 29) (t := (0, 0, 120)) hx hb hh149 ha rfl rfl (hcl11 293 29 (0, 0, 120) (by decide) rfl).1 f29154 (eX12_readDuration (146, .getfield 293, 3) (List.mem_of_getElem? (i := 78) rfl)) ?_
                  refine lv_istore hx hb (eX12_readDuration (149, .istore 9, 2) (List.mem_of_getElem? (i := 79) rfl)) hl136 (by decide) rfl (fun ls155 hl155 => ?_)
                  refine lv_aload_n hx hb (eX12_readDuration (151, .aload_n 0, 1) (List.mem_of_getElem? (i := 80) rfl)) rfl (lv_at hl155 7 rfl) ?_
                  refine lv_dup hx hb (eX12_readDuration (152, .dup, 1) (List.mem_of_getElem? (i := 81) rfl)) rfl ?_
                  refine tz_get (r := 11) (k := 29) (t := (0, 0, 120)) hx hb hh149 ha rfl rfl (hcl11 293 29 (0, 0, 120) (by decide) rfl).1 f29154 (eX12_readDuration (153, .getfield 293, 3) (List.mem_of_getElem? (i := 82) rfl)) ?_
                  refine ff_iconst hx hb (eX12_readDuration (156, .iconst 1, 1) (List.mem_of_getElem? (i := 83) rfl)) (by decide) (by decide) (fun v156 e156 => ?_)
                  have ha9157 : av154.toInt + v156.toInt ≤ 121 ∧ 0 ≤ av154.toInt := by omega
                  refine ff_iadd hx hb (eX12_readDuration (157, .iadd, 1) (List.mem_of_getElem? (i := 84) rfl)) (by omega) (by omega) (fun v157 e157 => ?_)
                  have hlt := byI_lt (T := T) (a := g2.1) (by omega) (by omega)
                  refine tz_put (r := 11) (k := 29) (t := (0, 0, 120)) hx hb hD hh149 ha rfl rfl ((hcl11 293 29 (0, 0, 120) (by decide) rfl).2 (by decide)) (tz_i (by omega) (by omega)) (eX12_readDuration (158, .putfield 293, 3) (List.mem_of_getElem? (i := 85) rfl)) (fun H158 lo158 hh158 hf158 hk158 _ hq158 => ?_)
                  have mf158_a_30 := (hk158.1 a 11 30 11 0 fsX12 ha rfl (by decide) (by decide)).trans f30154
                  have mf158_a_31 := (hk158.1 a 11 31 11 0 fsX12 ha rfl (by decide) (by decide)).trans f31154
                  have kp158 := kpl.trans (hk158.mono (ms' := gM) (fun x hx => by cases List.mem_singleton.mp hx; decide))
                  have jv158 : jV D cA ro H158 a T (g2.1 + 1, g2.2) := ⟨j2.1.kept ha hk158 (by decide) (by decide) (by decide), ⟨_, _, _, hf158, mf158_a_30, mf158_a_31, by show _ = g2.1 + 1; omega, hfv154, hbv154⟩, adG_ok j2.2.2 (by omega)⟩
                  have jg158 := jg2.kept ha hk158 (by decide)
                  have uv158 := jv158.2.2
                  unfold vOK at uv158
                  have bb158 := byI_bd T (g2.1 + 1, g2.2).1
                  refine lv_aload_n hx hb (eX12_readDuration (161, .aload_n 0, 1) (List.mem_of_getElem? (i := 86) rfl)) rfl (lv_at hl155 7 rfl) ?_
                  refine ff_bipush hx hb (eX12_readDuration (162, .bipush 16, 2) (List.mem_of_getElem? (i := 87) rfl)) (by decide) (by decide) (fun v159 e159 => ?_)
                  refine lv_aload_n hx hb (eX12_readDuration (164, .aload_n 0, 1) (List.mem_of_getElem? (i := 88) rfl)) rfl (lv_at hl155 7 rfl) ?_
                  refine tz_rowV (As := []) (st := [.int v159, .ref a]) (b := a) (C := RX12) (Ts := gT) hx hb hml hown h2 (fun _ h => h) (hX12_part l D cA ro sz H0 a T ((g2.1 + 1, g2.2)) ha hT) ⟨rfl, rfl⟩ ⟨by decide, by decide⟩ ⟨by decide, by decide⟩ (tb_8 84 rfl rfl) (tb_1 12 rfl rfl) (tb_8 81 rfl rfl) (tb_8 83 rfl rfl) (tb_0 45 rfl rfl) (show yX12_part.cls ≠ "java/lang/invoke/MethodHandle" ∧ yX12_part.cls ≠ "java/lang/invoke/VarHandle" ∧ (parseMethodDescriptor yX12_part.desc).map (fun d => d.parameters.length) = some 0 by decide +kernel) zs_blind (zs_ob hh158 ha (show RTg[11]? = some (0, 11, 0, fsX12) from rfl) (zCX12 hKn.1)) (fun U hU hW => ⟨rfl, by rw [hU]; exact hh158.l0, zKb s U hW.alike hKn, by rw [hU]; exact jv158⟩) hh158.2.2.1 hl155.1 (Nat.le_of_ble_eq_true rfl) (eX12_readDuration (165, .invokevirtual 380, 3) (List.mem_of_getElem? (i := 89) rfl)) (fun r160 s160 t160 lo160 g160 f160 l160 => ?_)
                  obtain ⟨v160, q160, e160, z160, c160, jv160⟩ := f160
                  cases q160
                  rw [g160] at c160
                  have hh160 : zh_ok D cA RTg ro sz H0 t160.heap lo160 := ⟨z160.1, z160.2.1, l160, z160.2.2.2⟩
                  have kp160 := kp158.trans (c160.mono (ms' := gM) (by decide))
                  generalize hx160 : paG T (g2.1 + 1, g2.2) = x160 at jv160 e160
                  have uu160 := jv160.2.2
                  unfold vOK at uu160
                  have bb160 := byI_bd T x160.2.1
                  have jg160 := jg158.kept ha c160 (by decide)
                  refine W.eq (g2 := F0 m 168 ls155 [.long v160, .int v159, .ref a]) rfl ?_
                  refine tz_rowV (As := [.int v159, .long v160]) (st := []) (b := a) (C := RX12) (Ts := gT) hx hb hml hown h2 (fun _ h => h) (hX12_set l D cA ro sz H0 a v159 v160 16 n fj h ha hn1 (by omega) (by decide)) ⟨rfl, rfl⟩ ⟨by decide, by decide⟩ ⟨by decide, by decide⟩ (tb_8 72 rfl rfl) (tb_1 12 rfl rfl) (tb_8 69 rfl rfl) (tb_8 71 rfl rfl) (tb_0 42 rfl rfl) (show yX12_set.cls ≠ "java/lang/invoke/MethodHandle" ∧ yX12_set.cls ≠ "java/lang/invoke/VarHandle" ∧ (parseMethodDescriptor yX12_set.desc).map (fun d => d.parameters.length) = some 2 by decide +kernel) zs_blind (zs_ob hh160 ha (show RTg[11]? = some (0, 11, 0, fsX12) from rfl) (zCX12 hKn.1)) (fun U hU hW => ⟨rfl, by rw [hU]; exact hh160.l0, zKb s U hW.alike hKn, by rw [hU]; exact jg160⟩) hh160.2.2.1 hl155.1 (Nat.le_of_ble_eq_true rfl) (eX12_readDuration (168, .invokevirtual 357, 3) (List.mem_of_getElem? (i := 90) rfl)) (fun r161 s161 t161 lo161 g161 f161 l161 => ?_)
                  obtain ⟨q161, z161, c161, jg161⟩ := f161
                  cases q161
                  rw [g161] at c161
                  have hh161 : zh_ok D cA RTg ro sz H0 t161.heap lo161 := ⟨z161.1, z161.2.1, l161, z161.2.2.2⟩
                  have kp161 := kp160.trans (c161.mono (ms' := gM) (by decide))
                  have jg161 : jG D cA ro t161.heap a n (upF fj 16 (x160.1)) h := by rw [← show v160.toInt = x160.1 by omega]; exact jg161
                  have jv161 := jv160.kept ha c161 (by decide)
                  refine W.eq (g2 := F0 m 171 ls155 []) rfl ?_
                  exact jn171 (upF fj 16 (x160.1)) x160.2 g2.1 av154 vv ls155 _ _ hh161 kp161 jv161 jg161 (by omega) (by omega) (by unfold dnG; rw [hdx]; dsimp only; rw [if_neg (by omega)]; first | (simp only [ddG, tp1G, ad1, hx160, if_pos d153, up_eq]; done) | (simp only [ddG, tp1G, ad1, hx160, if_pos d153, up_eq] <;> rfl) | rfl) (lv_sub hl155 [0, 1, 3, 4, 5, 6, 7] rfl)
            · have hdn : dnG T tm nx fi (fj, gj) = ((1, 0), (fj, flG g2)) := by unfold dnG; rw [hdx]; dsimp only; rw [if_pos (by omega)]
              refine lv_aload_n hx hb (eX12_readDuration (119, .aload_n 0, 1) (List.mem_of_getElem? (i := 64) rfl)) rfl (lv_at hl 6 rfl) ?_
              refine tz_rowV (As := []) (st := []) (b := a) (C := RX12) (Ts := gT) hx hb hml hown h2 (fun _ h => h) (hX12_fail l D cA ro sz H0 a T (g2) ha) ⟨rfl, rfl⟩ ⟨by decide, by decide⟩ ⟨by decide, by decide⟩ (tb_8 31 rfl rfl) (tb_1 12 rfl rfl) (tb_8 28 rfl rfl) (tb_8 30 rfl rfl) (tb_0 33 rfl rfl) (show yX12_fail.cls ≠ "java/lang/invoke/MethodHandle" ∧ yX12_fail.cls ≠ "java/lang/invoke/VarHandle" ∧ (parseMethodDescriptor yX12_fail.desc).map (fun d => d.parameters.length) = some 0 by decide +kernel) zs_blind (zs_ob hh0 ha (show RTg[11]? = some (0, 11, 0, fsX12) from rfl) (zCX12 hKn.1)) (fun U hU hW => ⟨rfl, by rw [hU]; exact hh0.l0, zKb s U hW.alike hKn, by rw [hU]; exact j2⟩) hh0.2.2.1 hl.1 (Nat.le_of_ble_eq_true rfl) (eX12_readDuration (120, .invokevirtual 316, 3) (List.mem_of_getElem? (i := 65) rfl)) (fun r162 s162 t162 lo162 g162 f162 l162 => ?_)
              obtain ⟨q162, z162, c162, jv162⟩ := f162
              cases q162
              rw [g162] at c162
              have hh162 : zh_ok D cA RTg ro sz H0 t162.heap lo162 := ⟨z162.1, z162.2.1, l162, z162.2.2.2⟩
              have kp162 := kpl.trans (c162.mono (ms' := gM) (by decide))
              generalize hx162 : flG g2 = x162 at jv162
              have uu162 := jv162.2.2
              unfold vOK at uu162
              have bb162 := byI_bd T x162.1
              have jg162 := jg2.kept ha c162 (by decide)
              refine W.eq (g2 := F0 m 123 ls []) rfl ?_
              have hfn : duG T sg = (fj, x162) := by rw [← htot]; show (if _ then (if _ then _ else if _ then _ else if _ then _ else _) else _ : gsS) = _; rw [if_pos hgood, hdn]; dsimp only; rw [if_pos (show (1 : Int) = 1 from rfl), hx162]
              exact W.vret hx hb hr (fun t ht hW => ⟨rfl, by rw [ht]; exact hh162.l0, by rw [ht]; exact kp162, by rw [ht, hfn]; exact jv162, by rw [ht, hfn]; exact jg162⟩) hh162.2.2.1 (eX12_readDuration (123, .return_, 1) (List.mem_of_getElem? (i := 66) rfl))
          | succ m0 ih6 =>
            intro i vv kv g2 ls H lo0 hi hkv hvv hg2 hdc hh0 kpl j2 jg2 hl
            have hu2 := j2.2.2
            unfold vOK at hu2
            have hb2 := byI_bd T g2.1
            have hB8 := nB_8 i (by omega)
            refine lv_iload hx hb (eX12_readDuration (63, .iload 8, 2) (List.mem_of_getElem? (i := 37) rfl)) (lv_at hl 1 rfl) ?_
            refine ff_bipush hx hb (eX12_readDuration (65, .bipush 9, 2) (List.mem_of_getElem? (i := 38) rfl)) (by decide) (by decide) (fun v163 e163 => ?_)
            refine ff_icmp_ge hx hb (eX12_readDuration (67, .if_icmp .ge 47, 3) (List.mem_of_getElem? (i := 39) rfl)) (tgt := 114) rfl (fun c164 => (by exfalso; omega)) (fun c164 => ?_)
            refine lv_aload_n hx hb (eX12_readDuration (70, .aload_n 0, 1) (List.mem_of_getElem? (i := 40) rfl)) rfl (lv_at hl 6 rfl) ?_
            refine tz_rowV (As := []) (st := []) (b := a) (C := RX12) (Ts := gT) hx hb hml hown h2 (fun _ h => h) (hX12_sign l D cA ro sz H0 a T (g2) ha) ⟨rfl, rfl⟩ ⟨by decide, by decide⟩ ⟨by decide, by decide⟩ (tb_8 21 rfl rfl) (tb_1 12 rfl rfl) (tb_8 18 rfl rfl) (tb_8 20 rfl rfl) (tb_0 32 rfl rfl) (show yX12_sign.cls ≠ "java/lang/invoke/MethodHandle" ∧ yX12_sign.cls ≠ "java/lang/invoke/VarHandle" ∧ (parseMethodDescriptor yX12_sign.desc).map (fun d => d.parameters.length) = some 0 by decide +kernel) zs_blind (zs_ob hh0 ha (show RTg[11]? = some (0, 11, 0, fsX12) from rfl) (zCX12 hKn.1)) (fun U hU hW => ⟨rfl, by rw [hU]; exact hh0.l0, zKb s U hW.alike hKn, by rw [hU]; exact j2⟩) hh0.2.2.1 hl.1 (Nat.le_of_ble_eq_true rfl) (eX12_readDuration (71, .invokevirtual 309, 3) (List.mem_of_getElem? (i := 41) rfl)) (fun r165 s165 t165 lo165 g165 f165 l165 => ?_)
            obtain ⟨z165, v165, q165, e165⟩ := f165
            cases q165
            rw [z165, g165]
            have hh165 : zh_ok D cA RTg ro sz H0 H lo165 := ⟨hh0.1, hh0.2.1, l165, hh0.2.2.2⟩
            refine W.eq (g2 := F0 m 74 ls [.int v165]) rfl ?_
            refine zu_S (vs := [.int v165]) (rest := []) hx hb hml hown hts0 zu_BT (hX12_isDigit l v165) ⟨rfl, rfl⟩ ⟨by decide, by decide⟩ ⟨by decide, by decide⟩ (tb_8 27 rfl rfl) (tb_1 12 rfl rfl) (tb_8 25 rfl rfl) (tb_8 26 rfl rfl) (show yX12_isDigit.cls ≠ "java/lang/invoke/MethodHandle" ∧ yX12_isDigit.cls ≠ "java/lang/invoke/VarHandle" ∧ (parseMethodDescriptor yX12_isDigit.desc).map (fun d => d.parameters.length) = some 1 by decide +kernel) rfl (fun _ _ _ => trivial) hl.1 (Nat.le_of_ble_eq_true rfl) (eX12_readDuration (74, .invokestatic 319, 3) (List.mem_of_getElem? (i := 42) rfl)) (fun w166 f166 => ?_)
            obtain ⟨v166, rfl, e166⟩ := f166
            refine ff_if_eq hx hb (eX12_readDuration (77, .ifCond .eq 37, 3) (List.mem_of_getElem? (i := 43) rfl)) (tgt := 114) rfl (fun c167 => ?_) (fun c167 => ?_)
            · have hdx : dcL T 9 0 0 gj = ((vv.toInt, (i : Int)), g2) := by rw [← hdc]; show (if _ then _ else _ : (Int × Int) × uS) = _; rw [if_neg (by omega)]
              refine lv_iload hx hb (eX12_readDuration (114, .iload 8, 2) (List.mem_of_getElem? (i := 62) rfl)) (lv_at hl 1 rfl) ?_
              refine ff_if_ne hx hb (eX12_readDuration (116, .ifCond .ne 8, 3) (List.mem_of_getElem? (i := 63) rfl)) (tgt := 124) rfl (fun c168 => ?_) (fun c168 => ?_)
              · skip
                refine ff_iconst hx hb (eX12_readDuration (124, .iconst (-1), 1) (List.mem_of_getElem? (i := 67) rfl)) (by decide) (by decide) (fun v169 e169 => ?_)
                refine lv_istore hx hb (eX12_readDuration (125, .istore 9, 2) (List.mem_of_getElem? (i := 68) rfl)) hl (by decide) rfl (fun ls170 hl170 => ?_)
                refine lv_aload_n hx hb (eX12_readDuration (127, .aload_n 0, 1) (List.mem_of_getElem? (i := 69) rfl)) rfl (lv_at hl170 7 rfl) ?_
                refine tz_rowV (As := []) (st := []) (b := a) (C := RX12) (Ts := gT) hx hb hml hown h2 (fun _ h => h) (hX12_sign l D cA ro sz H0 a T (g2) ha) ⟨rfl, rfl⟩ ⟨by decide, by decide⟩ ⟨by decide, by decide⟩ (tb_8 21 rfl rfl) (tb_1 12 rfl rfl) (tb_8 18 rfl rfl) (tb_8 20 rfl rfl) (tb_0 32 rfl rfl) (show yX12_sign.cls ≠ "java/lang/invoke/MethodHandle" ∧ yX12_sign.cls ≠ "java/lang/invoke/VarHandle" ∧ (parseMethodDescriptor yX12_sign.desc).map (fun d => d.parameters.length) = some 0 by decide +kernel) zs_blind (zs_ob hh165 ha (show RTg[11]? = some (0, 11, 0, fsX12) from rfl) (zCX12 hKn.1)) (fun U hU hW => ⟨rfl, by rw [hU]; exact hh165.l0, zKb s U hW.alike hKn, by rw [hU]; exact j2⟩) hh165.2.2.1 hl170.1 (Nat.le_of_ble_eq_true rfl) (eX12_readDuration (128, .invokevirtual 309, 3) (List.mem_of_getElem? (i := 70) rfl)) (fun r171 s171 t171 lo171 g171 f171 l171 => ?_)
                obtain ⟨z171, v171, q171, e171⟩ := f171
                cases q171
                rw [z171, g171]
                have hh171 : zh_ok D cA RTg ro sz H0 H lo171 := ⟨hh165.1, hh165.2.1, l171, hh165.2.2.2⟩
                refine W.eq (g2 := F0 m 131 ls170 [.int v171]) rfl ?_
                refine ff_bipush hx hb (eX12_readDuration (131, .bipush 46, 2) (List.mem_of_getElem? (i := 71) rfl)) (by decide) (by decide) (fun v172 e172 => ?_)
                refine ff_icmp_eq hx hb (eX12_readDuration (133, .if_icmp .eq 12, 3) (List.mem_of_getElem? (i := 72) rfl)) (tgt := 145) rfl (fun c173 => ?_) (fun c173 => ?_)
                · skip
                  have d174 : byI T g2.1 = 46 ∨ byI T g2.1 = 44 := by omega
                  refine lv_aload_n hx hb (eX12_readDuration (145, .aload_n 0, 1) (List.mem_of_getElem? (i := 77) rfl)) rfl (lv_at hl170 7 rfl) ?_
                  obtain ⟨jt175, ⟨av175, fv175, bv175, f29175, f30175, f31175, hav175, hfv175, hbv175⟩, hu175⟩ := id j2
                  refine tz_get (r := 11) (k := 29) (t := (0, 0, 120)) hx hb hh171 ha rfl rfl (hcl11 293 29 (0, 0, 120) (by decide) rfl).1 f29175 (eX12_readDuration (146, .getfield 293, 3) (List.mem_of_getElem? (i := 78) rfl)) ?_
                  refine lv_istore hx hb (eX12_readDuration (149, .istore 9, 2) (List.mem_of_getElem? (i := 79) rfl)) hl170 (by decide) rfl (fun ls176 hl176 => ?_)
                  refine lv_aload_n hx hb (eX12_readDuration (151, .aload_n 0, 1) (List.mem_of_getElem? (i := 80) rfl)) rfl (lv_at hl176 7 rfl) ?_
                  refine lv_dup hx hb (eX12_readDuration (152, .dup, 1) (List.mem_of_getElem? (i := 81) rfl)) rfl ?_
                  refine tz_get (r := 11) (k := 29) (t := (0, 0, 120)) hx hb hh171 ha rfl rfl (hcl11 293 29 (0, 0, 120) (by decide) rfl).1 f29175 (eX12_readDuration (153, .getfield 293, 3) (List.mem_of_getElem? (i := 82) rfl)) ?_
                  refine ff_iconst hx hb (eX12_readDuration (156, .iconst 1, 1) (List.mem_of_getElem? (i := 83) rfl)) (by decide) (by decide) (fun v177 e177 => ?_)
                  have ha9178 : av175.toInt + v177.toInt ≤ 121 ∧ 0 ≤ av175.toInt := by omega
                  refine ff_iadd hx hb (eX12_readDuration (157, .iadd, 1) (List.mem_of_getElem? (i := 84) rfl)) (by omega) (by omega) (fun v178 e178 => ?_)
                  have hlt := byI_lt (T := T) (a := g2.1) (by omega) (by omega)
                  refine tz_put (r := 11) (k := 29) (t := (0, 0, 120)) hx hb hD hh171 ha rfl rfl ((hcl11 293 29 (0, 0, 120) (by decide) rfl).2 (by decide)) (tz_i (by omega) (by omega)) (eX12_readDuration (158, .putfield 293, 3) (List.mem_of_getElem? (i := 85) rfl)) (fun H179 lo179 hh179 hf179 hk179 _ hq179 => ?_)
                  have mf179_a_30 := (hk179.1 a 11 30 11 0 fsX12 ha rfl (by decide) (by decide)).trans f30175
                  have mf179_a_31 := (hk179.1 a 11 31 11 0 fsX12 ha rfl (by decide) (by decide)).trans f31175
                  have kp179 := kpl.trans (hk179.mono (ms' := gM) (fun x hx => by cases List.mem_singleton.mp hx; decide))
                  have jv179 : jV D cA ro H179 a T (g2.1 + 1, g2.2) := ⟨j2.1.kept ha hk179 (by decide) (by decide) (by decide), ⟨_, _, _, hf179, mf179_a_30, mf179_a_31, by show _ = g2.1 + 1; omega, hfv175, hbv175⟩, adG_ok j2.2.2 (by omega)⟩
                  have jg179 := jg2.kept ha hk179 (by decide)
                  have uv179 := jv179.2.2
                  unfold vOK at uv179
                  have bb179 := byI_bd T (g2.1 + 1, g2.2).1
                  refine lv_aload_n hx hb (eX12_readDuration (161, .aload_n 0, 1) (List.mem_of_getElem? (i := 86) rfl)) rfl (lv_at hl176 7 rfl) ?_
                  refine ff_bipush hx hb (eX12_readDuration (162, .bipush 16, 2) (List.mem_of_getElem? (i := 87) rfl)) (by decide) (by decide) (fun v180 e180 => ?_)
                  refine lv_aload_n hx hb (eX12_readDuration (164, .aload_n 0, 1) (List.mem_of_getElem? (i := 88) rfl)) rfl (lv_at hl176 7 rfl) ?_
                  refine tz_rowV (As := []) (st := [.int v180, .ref a]) (b := a) (C := RX12) (Ts := gT) hx hb hml hown h2 (fun _ h => h) (hX12_part l D cA ro sz H0 a T ((g2.1 + 1, g2.2)) ha hT) ⟨rfl, rfl⟩ ⟨by decide, by decide⟩ ⟨by decide, by decide⟩ (tb_8 84 rfl rfl) (tb_1 12 rfl rfl) (tb_8 81 rfl rfl) (tb_8 83 rfl rfl) (tb_0 45 rfl rfl) (show yX12_part.cls ≠ "java/lang/invoke/MethodHandle" ∧ yX12_part.cls ≠ "java/lang/invoke/VarHandle" ∧ (parseMethodDescriptor yX12_part.desc).map (fun d => d.parameters.length) = some 0 by decide +kernel) zs_blind (zs_ob hh179 ha (show RTg[11]? = some (0, 11, 0, fsX12) from rfl) (zCX12 hKn.1)) (fun U hU hW => ⟨rfl, by rw [hU]; exact hh179.l0, zKb s U hW.alike hKn, by rw [hU]; exact jv179⟩) hh179.2.2.1 hl176.1 (Nat.le_of_ble_eq_true rfl) (eX12_readDuration (165, .invokevirtual 380, 3) (List.mem_of_getElem? (i := 89) rfl)) (fun r181 s181 t181 lo181 g181 f181 l181 => ?_)
                  obtain ⟨v181, q181, e181, z181, c181, jv181⟩ := f181
                  cases q181
                  rw [g181] at c181
                  have hh181 : zh_ok D cA RTg ro sz H0 t181.heap lo181 := ⟨z181.1, z181.2.1, l181, z181.2.2.2⟩
                  have kp181 := kp179.trans (c181.mono (ms' := gM) (by decide))
                  generalize hx181 : paG T (g2.1 + 1, g2.2) = x181 at jv181 e181
                  have uu181 := jv181.2.2
                  unfold vOK at uu181
                  have bb181 := byI_bd T x181.2.1
                  have jg181 := jg179.kept ha c181 (by decide)
                  refine W.eq (g2 := F0 m 168 ls176 [.long v181, .int v180, .ref a]) rfl ?_
                  refine tz_rowV (As := [.int v180, .long v181]) (st := []) (b := a) (C := RX12) (Ts := gT) hx hb hml hown h2 (fun _ h => h) (hX12_set l D cA ro sz H0 a v180 v181 16 n fj h ha hn1 (by omega) (by decide)) ⟨rfl, rfl⟩ ⟨by decide, by decide⟩ ⟨by decide, by decide⟩ (tb_8 72 rfl rfl) (tb_1 12 rfl rfl) (tb_8 69 rfl rfl) (tb_8 71 rfl rfl) (tb_0 42 rfl rfl) (show yX12_set.cls ≠ "java/lang/invoke/MethodHandle" ∧ yX12_set.cls ≠ "java/lang/invoke/VarHandle" ∧ (parseMethodDescriptor yX12_set.desc).map (fun d => d.parameters.length) = some 2 by decide +kernel) zs_blind (zs_ob hh181 ha (show RTg[11]? = some (0, 11, 0, fsX12) from rfl) (zCX12 hKn.1)) (fun U hU hW => ⟨rfl, by rw [hU]; exact hh181.l0, zKb s U hW.alike hKn, by rw [hU]; exact jg181⟩) hh181.2.2.1 hl176.1 (Nat.le_of_ble_eq_true rfl) (eX12_readDuration (168, .invokevirtual 357, 3) (List.mem_of_getElem? (i := 90) rfl)) (fun r182 s182 t182 lo182 g182 f182 l182 => ?_)
                  obtain ⟨q182, z182, c182, jg182⟩ := f182
                  cases q182
                  rw [g182] at c182
                  have hh182 : zh_ok D cA RTg ro sz H0 t182.heap lo182 := ⟨z182.1, z182.2.1, l182, z182.2.2.2⟩
                  have kp182 := kp181.trans (c182.mono (ms' := gM) (by decide))
                  have jg182 : jG D cA ro t182.heap a n (upF fj 16 (x181.1)) h := by rw [← show v181.toInt = x181.1 by omega]; exact jg182
                  have jv182 := jv181.kept ha c182 (by decide)
                  refine W.eq (g2 := F0 m 171 ls176 []) rfl ?_
                  exact jn171 (upF fj 16 (x181.1)) x181.2 g2.1 av175 vv ls176 _ _ hh182 kp182 jv182 jg182 (by omega) (by omega) (by unfold dnG; rw [hdx]; dsimp only; rw [if_neg (by omega)]; first | (simp only [ddG, tp1G, ad1, hx181, if_pos d174, up_eq]; done) | (simp only [ddG, tp1G, ad1, hx181, if_pos d174, up_eq] <;> rfl) | rfl) (lv_sub hl176 [0, 1, 3, 4, 5, 6, 7] rfl)
                · skip
                  refine lv_aload_n hx hb (eX12_readDuration (136, .aload_n 0, 1) (List.mem_of_getElem? (i := 73) rfl)) rfl (lv_at hl170 7 rfl) ?_
                  refine tz_rowV (As := []) (st := []) (b := a) (C := RX12) (Ts := gT) hx hb hml hown h2 (fun _ h => h) (hX12_sign l D cA ro sz H0 a T (g2) ha) ⟨rfl, rfl⟩ ⟨by decide, by decide⟩ ⟨by decide, by decide⟩ (tb_8 21 rfl rfl) (tb_1 12 rfl rfl) (tb_8 18 rfl rfl) (tb_8 20 rfl rfl) (tb_0 32 rfl rfl) (show yX12_sign.cls ≠ "java/lang/invoke/MethodHandle" ∧ yX12_sign.cls ≠ "java/lang/invoke/VarHandle" ∧ (parseMethodDescriptor yX12_sign.desc).map (fun d => d.parameters.length) = some 0 by decide +kernel) zs_blind (zs_ob hh171 ha (show RTg[11]? = some (0, 11, 0, fsX12) from rfl) (zCX12 hKn.1)) (fun U hU hW => ⟨rfl, by rw [hU]; exact hh171.l0, zKb s U hW.alike hKn, by rw [hU]; exact j2⟩) hh171.2.2.1 hl170.1 (Nat.le_of_ble_eq_true rfl) (eX12_readDuration (137, .invokevirtual 309, 3) (List.mem_of_getElem? (i := 74) rfl)) (fun r183 s183 t183 lo183 g183 f183 l183 => ?_)
                  obtain ⟨z183, v183, q183, e183⟩ := f183
                  cases q183
                  rw [z183, g183]
                  have hh183 : zh_ok D cA RTg ro sz H0 H lo183 := ⟨hh171.1, hh171.2.1, l183, hh171.2.2.2⟩
                  refine W.eq (g2 := F0 m 140 ls170 [.int v183]) rfl ?_
                  refine ff_bipush hx hb (eX12_readDuration (140, .bipush 44, 2) (List.mem_of_getElem? (i := 75) rfl)) (by decide) (by decide) (fun v184 e184 => ?_)
                  refine ff_icmp_ne hx hb (eX12_readDuration (142, .if_icmp .ne 29, 3) (List.mem_of_getElem? (i := 76) rfl)) (tgt := 171) rfl (fun c185 => ?_) (fun c185 => ?_)
                  · skip
                    have d186 : ¬ (byI T g2.1 = 46 ∨ byI T g2.1 = 44) := by omega
                    exact jn171 fj g2 (-1) v169 vv ls170 _ _ hh183 kpl j2 jg2 (by omega) (by omega) (by unfold dnG; rw [hdx]; dsimp only; rw [if_neg (by omega)]; first | (simp only [ddG, tp1G, ad1, if_neg d186, up_eq]; done) | (simp only [ddG, tp1G, ad1, if_neg d186, up_eq] <;> rfl) | rfl) (lv_sub hl170 [0, 1, 3, 4, 5, 6, 7] rfl)
                  · skip
                    have d187 : byI T g2.1 = 46 ∨ byI T g2.1 = 44 := by omega
                    refine lv_aload_n hx hb (eX12_readDuration (145, .aload_n 0, 1) (List.mem_of_getElem? (i := 77) rfl)) rfl (lv_at hl170 7 rfl) ?_
                    obtain ⟨jt188, ⟨av188, fv188, bv188, f29188, f30188, f31188, hav188, hfv188, hbv188⟩, hu188⟩ := id j2
                    refine tz_get (r := 11) (k := 29) (t := (0, 0, 120)) hx hb hh183 ha rfl rfl (hcl11 293 29 (0, 0, 120) (by decide) rfl).1 f29188 (eX12_readDuration (146, .getfield 293, 3) (List.mem_of_getElem? (i := 78) rfl)) ?_
                    refine lv_istore hx hb (eX12_readDuration (149, .istore 9, 2) (List.mem_of_getElem? (i := 79) rfl)) hl170 (by decide) rfl (fun ls189 hl189 => ?_)
                    refine lv_aload_n hx hb (eX12_readDuration (151, .aload_n 0, 1) (List.mem_of_getElem? (i := 80) rfl)) rfl (lv_at hl189 7 rfl) ?_
                    refine lv_dup hx hb (eX12_readDuration (152, .dup, 1) (List.mem_of_getElem? (i := 81) rfl)) rfl ?_
                    refine tz_get (r := 11) (k := 29) (t := (0, 0, 120)) hx hb hh183 ha rfl rfl (hcl11 293 29 (0, 0, 120) (by decide) rfl).1 f29188 (eX12_readDuration (153, .getfield 293, 3) (List.mem_of_getElem? (i := 82) rfl)) ?_
                    refine ff_iconst hx hb (eX12_readDuration (156, .iconst 1, 1) (List.mem_of_getElem? (i := 83) rfl)) (by decide) (by decide) (fun v190 e190 => ?_)
                    have ha9191 : av188.toInt + v190.toInt ≤ 121 ∧ 0 ≤ av188.toInt := by omega
                    refine ff_iadd hx hb (eX12_readDuration (157, .iadd, 1) (List.mem_of_getElem? (i := 84) rfl)) (by omega) (by omega) (fun v191 e191 => ?_)
                    have hlt := byI_lt (T := T) (a := g2.1) (by omega) (by omega)
                    refine tz_put (r := 11) (k := 29) (t := (0, 0, 120)) hx hb hD hh183 ha rfl rfl ((hcl11 293 29 (0, 0, 120) (by decide) rfl).2 (by decide)) (tz_i (by omega) (by omega)) (eX12_readDuration (158, .putfield 293, 3) (List.mem_of_getElem? (i := 85) rfl)) (fun H192 lo192 hh192 hf192 hk192 _ hq192 => ?_)
                    have mf192_a_30 := (hk192.1 a 11 30 11 0 fsX12 ha rfl (by decide) (by decide)).trans f30188
                    have mf192_a_31 := (hk192.1 a 11 31 11 0 fsX12 ha rfl (by decide) (by decide)).trans f31188
                    have kp192 := kpl.trans (hk192.mono (ms' := gM) (fun x hx => by cases List.mem_singleton.mp hx; decide))
                    have jv192 : jV D cA ro H192 a T (g2.1 + 1, g2.2) := ⟨j2.1.kept ha hk192 (by decide) (by decide) (by decide), ⟨_, _, _, hf192, mf192_a_30, mf192_a_31, by show _ = g2.1 + 1; omega, hfv188, hbv188⟩, adG_ok j2.2.2 (by omega)⟩
                    have jg192 := jg2.kept ha hk192 (by decide)
                    have uv192 := jv192.2.2
                    unfold vOK at uv192
                    have bb192 := byI_bd T (g2.1 + 1, g2.2).1
                    refine lv_aload_n hx hb (eX12_readDuration (161, .aload_n 0, 1) (List.mem_of_getElem? (i := 86) rfl)) rfl (lv_at hl189 7 rfl) ?_
                    refine ff_bipush hx hb (eX12_readDuration (162, .bipush 16, 2) (List.mem_of_getElem? (i := 87) rfl)) (by decide) (by decide) (fun v193 e193 => ?_)
                    refine lv_aload_n hx hb (eX12_readDuration (164, .aload_n 0, 1) (List.mem_of_getElem? (i := 88) rfl)) rfl (lv_at hl189 7 rfl) ?_
                    refine tz_rowV (As := []) (st := [.int v193, .ref a]) (b := a) (C := RX12) (Ts := gT) hx hb hml hown h2 (fun _ h => h) (hX12_part l D cA ro sz H0 a T ((g2.1 + 1, g2.2)) ha hT) ⟨rfl, rfl⟩ ⟨by decide, by decide⟩ ⟨by decide, by decide⟩ (tb_8 84 rfl rfl) (tb_1 12 rfl rfl) (tb_8 81 rfl rfl) (tb_8 83 rfl rfl) (tb_0 45 rfl rfl) (show yX12_part.cls ≠ "java/lang/invoke/MethodHandle" ∧ yX12_part.cls ≠ "java/lang/invoke/VarHandle" ∧ (parseMethodDescriptor yX12_part.desc).map (fun d => d.parameters.length) = some 0 by decide +kernel) zs_blind (zs_ob hh192 ha (show RTg[11]? = some (0, 11, 0, fsX12) from rfl) (zCX12 hKn.1)) (fun U hU hW => ⟨rfl, by rw [hU]; exact hh192.l0, zKb s U hW.alike hKn, by rw [hU]; exact jv192⟩) hh192.2.2.1 hl189.1 (Nat.le_of_ble_eq_true rfl) (eX12_readDuration (165, .invokevirtual 380, 3) (List.mem_of_getElem? (i := 89) rfl)) (fun r194 s194 t194 lo194 g194 f194 l194 => ?_)
                    obtain ⟨v194, q194, e194, z194, c194, jv194⟩ := f194
                    cases q194
                    rw [g194] at c194
                    have hh194 : zh_ok D cA RTg ro sz H0 t194.heap lo194 := ⟨z194.1, z194.2.1, l194, z194.2.2.2⟩
                    have kp194 := kp192.trans (c194.mono (ms' := gM) (by decide))
                    generalize hx194 : paG T (g2.1 + 1, g2.2) = x194 at jv194 e194
                    have uu194 := jv194.2.2
                    unfold vOK at uu194
                    have bb194 := byI_bd T x194.2.1
                    have jg194 := jg192.kept ha c194 (by decide)
                    refine W.eq (g2 := F0 m 168 ls189 [.long v194, .int v193, .ref a]) rfl ?_
                    refine tz_rowV (As := [.int v193, .long v194]) (st := []) (b := a) (C := RX12) (Ts := gT) hx hb hml hown h2 (fun _ h => h) (hX12_set l D cA ro sz H0 a v193 v194 16 n fj h ha hn1 (by omega) (by decide)) ⟨rfl, rfl⟩ ⟨by decide, by decide⟩ ⟨by decide, by decide⟩ (tb_8 72 rfl rfl) (tb_1 12 rfl rfl) (tb_8 69 rfl rfl) (tb_8 71 rfl rfl) (tb_0 42 rfl rfl) (show yX12_set.cls ≠ "java/lang/invoke/MethodHandle" ∧ yX12_set.cls ≠ "java/lang/invoke/VarHandle" ∧ (parseMethodDescriptor yX12_set.desc).map (fun d => d.parameters.length) = some 2 by decide +kernel) zs_blind (zs_ob hh194 ha (show RTg[11]? = some (0, 11, 0, fsX12) from rfl) (zCX12 hKn.1)) (fun U hU hW => ⟨rfl, by rw [hU]; exact hh194.l0, zKb s U hW.alike hKn, by rw [hU]; exact jg194⟩) hh194.2.2.1 hl189.1 (Nat.le_of_ble_eq_true rfl) (eX12_readDuration (168, .invokevirtual 357, 3) (List.mem_of_getElem? (i := 90) rfl)) (fun r195 s195 t195 lo195 g195 f195 l195 => ?_)
                    obtain ⟨q195, z195, c195, jg195⟩ := f195
                    cases q195
                    rw [g195] at c195
                    have hh195 : zh_ok D cA RTg ro sz H0 t195.heap lo195 := ⟨z195.1, z195.2.1, l195, z195.2.2.2⟩
                    have kp195 := kp194.trans (c195.mono (ms' := gM) (by decide))
                    have jg195 : jG D cA ro t195.heap a n (upF fj 16 (x194.1)) h := by rw [← show v194.toInt = x194.1 by omega]; exact jg195
                    have jv195 := jv194.kept ha c195 (by decide)
                    refine W.eq (g2 := F0 m 171 ls189 []) rfl ?_
                    exact jn171 (upF fj 16 (x194.1)) x194.2 g2.1 av188 vv ls189 _ _ hh195 kp195 jv195 jg195 (by omega) (by omega) (by unfold dnG; rw [hdx]; dsimp only; rw [if_neg (by omega)]; first | (simp only [ddG, tp1G, ad1, hx194, if_pos d187, up_eq]; done) | (simp only [ddG, tp1G, ad1, hx194, if_pos d187, up_eq] <;> rfl) | rfl) (lv_sub hl189 [0, 1, 3, 4, 5, 6, 7] rfl)
              · have hdn : dnG T tm nx fi (fj, gj) = ((1, 0), (fj, flG g2)) := by unfold dnG; rw [hdx]; dsimp only; rw [if_pos (by omega)]
                refine lv_aload_n hx hb (eX12_readDuration (119, .aload_n 0, 1) (List.mem_of_getElem? (i := 64) rfl)) rfl (lv_at hl 6 rfl) ?_
                refine tz_rowV (As := []) (st := []) (b := a) (C := RX12) (Ts := gT) hx hb hml hown h2 (fun _ h => h) (hX12_fail l D cA ro sz H0 a T (g2) ha) ⟨rfl, rfl⟩ ⟨by decide, by decide⟩ ⟨by decide, by decide⟩ (tb_8 31 rfl rfl) (tb_1 12 rfl rfl) (tb_8 28 rfl rfl) (tb_8 30 rfl rfl) (tb_0 33 rfl rfl) (show yX12_fail.cls ≠ "java/lang/invoke/MethodHandle" ∧ yX12_fail.cls ≠ "java/lang/invoke/VarHandle" ∧ (parseMethodDescriptor yX12_fail.desc).map (fun d => d.parameters.length) = some 0 by decide +kernel) zs_blind (zs_ob hh165 ha (show RTg[11]? = some (0, 11, 0, fsX12) from rfl) (zCX12 hKn.1)) (fun U hU hW => ⟨rfl, by rw [hU]; exact hh165.l0, zKb s U hW.alike hKn, by rw [hU]; exact j2⟩) hh165.2.2.1 hl.1 (Nat.le_of_ble_eq_true rfl) (eX12_readDuration (120, .invokevirtual 316, 3) (List.mem_of_getElem? (i := 65) rfl)) (fun r196 s196 t196 lo196 g196 f196 l196 => ?_)
                obtain ⟨q196, z196, c196, jv196⟩ := f196
                cases q196
                rw [g196] at c196
                have hh196 : zh_ok D cA RTg ro sz H0 t196.heap lo196 := ⟨z196.1, z196.2.1, l196, z196.2.2.2⟩
                have kp196 := kpl.trans (c196.mono (ms' := gM) (by decide))
                generalize hx196 : flG g2 = x196 at jv196
                have uu196 := jv196.2.2
                unfold vOK at uu196
                have bb196 := byI_bd T x196.1
                have jg196 := jg2.kept ha c196 (by decide)
                refine W.eq (g2 := F0 m 123 ls []) rfl ?_
                have hfn : duG T sg = (fj, x196) := by rw [← htot]; show (if _ then (if _ then _ else if _ then _ else if _ then _ else _) else _ : gsS) = _; rw [if_pos hgood, hdn]; dsimp only; rw [if_pos (show (1 : Int) = 1 from rfl), hx196]
                exact W.vret hx hb hr (fun t ht hW => ⟨rfl, by rw [ht]; exact hh196.l0, by rw [ht]; exact kp196, by rw [ht, hfn]; exact jv196, by rw [ht, hfn]; exact jg196⟩) hh196.2.2.1 (eX12_readDuration (123, .return_, 1) (List.mem_of_getElem? (i := 66) rfl))
            · have hdg : isD (byI T g2.1) := by omega
              have hd8 := hdg.1
              have hd9 := hdg.2
              refine ff_ldc2 (n := 10) hx hb hown h2 (clX12_ok 373 10 (List.mem_of_getElem? (i := 32) rfl)) (eX12_readDuration (80, .ldc2_w 373, 3) (List.mem_of_getElem? (i := 44) rfl)) (fun v197 e197 => ?_)
              refine lv_lload hx hb (eX12_readDuration (83, .lload 6, 2) (List.mem_of_getElem? (i := 45) rfl)) (lv_at hl 0 rfl) ?_
              refine ff_lmulL hx hb (eX12_readDuration (85, .lmul, 1) (List.mem_of_getElem? (i := 46) rfl)) (e197) (by omega) (by omega) (fun v198 e198 => ?_)
              refine lv_aload_n hx hb (eX12_readDuration (86, .aload_n 0, 1) (List.mem_of_getElem? (i := 47) rfl)) rfl (lv_at hl 6 rfl) ?_
              refine tz_rowV (As := []) (st := [.long v198]) (b := a) (C := RX12) (Ts := gT) hx hb hml hown h2 (fun _ h => h) (hX12_sign l D cA ro sz H0 a T (g2) ha) ⟨rfl, rfl⟩ ⟨by decide, by decide⟩ ⟨by decide, by decide⟩ (tb_8 21 rfl rfl) (tb_1 12 rfl rfl) (tb_8 18 rfl rfl) (tb_8 20 rfl rfl) (tb_0 32 rfl rfl) (show yX12_sign.cls ≠ "java/lang/invoke/MethodHandle" ∧ yX12_sign.cls ≠ "java/lang/invoke/VarHandle" ∧ (parseMethodDescriptor yX12_sign.desc).map (fun d => d.parameters.length) = some 0 by decide +kernel) zs_blind (zs_ob hh165 ha (show RTg[11]? = some (0, 11, 0, fsX12) from rfl) (zCX12 hKn.1)) (fun U hU hW => ⟨rfl, by rw [hU]; exact hh165.l0, zKb s U hW.alike hKn, by rw [hU]; exact j2⟩) hh165.2.2.1 hl.1 (Nat.le_of_ble_eq_true rfl) (eX12_readDuration (87, .invokevirtual 309, 3) (List.mem_of_getElem? (i := 48) rfl)) (fun r199 s199 t199 lo199 g199 f199 l199 => ?_)
              obtain ⟨z199, v199, q199, e199⟩ := f199
              cases q199
              rw [z199, g199]
              have hh199 : zh_ok D cA RTg ro sz H0 H lo199 := ⟨hh165.1, hh165.2.1, l199, hh165.2.2.2⟩
              refine W.eq (g2 := F0 m 90 ls [.int v199, .long v198]) rfl ?_
              refine ff_i2l hx hb (eX12_readDuration (90, .i2l, 1) (List.mem_of_getElem? (i := 49) rfl)) (fun v200 e200 => ?_)
              refine ff_ladd hx hb (eX12_readDuration (91, .ladd, 1) (List.mem_of_getElem? (i := 50) rfl)) (by omega) (by omega) (fun v201 e201 => ?_)
              refine ff_ldc2 (n := 48) hx hb hown h2 (clX12_ok 375 48 (List.mem_of_getElem? (i := 33) rfl)) (eX12_readDuration (92, .ldc2_w 375, 3) (List.mem_of_getElem? (i := 51) rfl)) (fun v202 e202 => ?_)
              refine ff_lsub hx hb (eX12_readDuration (95, .lsub, 1) (List.mem_of_getElem? (i := 52) rfl)) (by omega) (by omega) (fun v203 e203 => ?_)
              refine lv_lstore hx hb (eX12_readDuration (96, .lstore 6, 2) (List.mem_of_getElem? (i := 53) rfl)) hl (by decide) rfl (fun ls204 hl204 => ?_)
              refine lv_aload_n hx hb (eX12_readDuration (98, .aload_n 0, 1) (List.mem_of_getElem? (i := 54) rfl)) rfl (lv_at hl204 6 rfl) ?_
              refine lv_dup hx hb (eX12_readDuration (99, .dup, 1) (List.mem_of_getElem? (i := 55) rfl)) rfl ?_
              obtain ⟨jt205, ⟨av205, fv205, bv205, f29205, f30205, f31205, hav205, hfv205, hbv205⟩, hu205⟩ := id j2
              refine tz_get (r := 11) (k := 29) (t := (0, 0, 120)) hx hb hh199 ha rfl rfl (hcl11 293 29 (0, 0, 120) (by decide) rfl).1 f29205 (eX12_readDuration (100, .getfield 293, 3) (List.mem_of_getElem? (i := 56) rfl)) ?_
              refine ff_iconst hx hb (eX12_readDuration (103, .iconst 1, 1) (List.mem_of_getElem? (i := 57) rfl)) (by decide) (by decide) (fun v206 e206 => ?_)
              have ha9207 : av205.toInt + v206.toInt ≤ 121 ∧ 0 ≤ av205.toInt := by omega
              refine ff_iadd hx hb (eX12_readDuration (104, .iadd, 1) (List.mem_of_getElem? (i := 58) rfl)) (by omega) (by omega) (fun v207 e207 => ?_)
              have hlt := byI_lt (T := T) (a := g2.1) (by omega) (by omega)
              refine tz_put (r := 11) (k := 29) (t := (0, 0, 120)) hx hb hD hh199 ha rfl rfl ((hcl11 293 29 (0, 0, 120) (by decide) rfl).2 (by decide)) (tz_i (by omega) (by omega)) (eX12_readDuration (105, .putfield 293, 3) (List.mem_of_getElem? (i := 59) rfl)) (fun H208 lo208 hh208 hf208 hk208 _ hq208 => ?_)
              have mf208_a_30 := (hk208.1 a 11 30 11 0 fsX12 ha rfl (by decide) (by decide)).trans f30205
              have mf208_a_31 := (hk208.1 a 11 31 11 0 fsX12 ha rfl (by decide) (by decide)).trans f31205
              have kp208 := kpl.trans (hk208.mono (ms' := gM) (fun x hx => by cases List.mem_singleton.mp hx; decide))
              have jv208 : jV D cA ro H208 a T (g2.1 + 1, g2.2) := ⟨j2.1.kept ha hk208 (by decide) (by decide) (by decide), ⟨_, _, _, hf208, mf208_a_30, mf208_a_31, by show _ = g2.1 + 1; omega, hfv205, hbv205⟩, adG_ok j2.2.2 (by omega)⟩
              have jg208 := jg2.kept ha hk208 (by decide)
              have uv208 := jv208.2.2
              unfold vOK at uv208
              have bb208 := byI_bd T (g2.1 + 1, g2.2).1
              refine ff_iinc (k := 1) hx hb (eX12_readDuration (108, .iinc 8 1, 3) (List.mem_of_getElem? (i := 60) rfl)) hl204 rfl (by decide) (by decide) (by decide) (by omega) (by omega) (fun v209 e209 ls209 hl209 => ?_)
              refine lv_goto hx hb (eX12_readDuration (111, .goto (-48), 3) (List.mem_of_getElem? (i := 61) rfl)) (tgt := 63) rfl ?_
              exact ih6 (i + 1) v203 v209 (g2.1 + 1, g2.2) ls209 _ _ (by omega) (by omega) ⟨by omega, by show _ ≤ nB i * 10 + 9; omega⟩ hg2 (by rw [← hdc]; show _ = (if _ then _ else _ : (Int × Int) × uS); rw [if_pos hdg, ← show v203.toInt = 10 * vv.toInt + byI T g2.1 - 48 by omega] <;> rfl) hh208 kp208 jv208 jg208 (lv_sub hl209 [1, 0, 2, 3, 4, 5, 6] rfl)
        exact lp63 9 0 v21 v23 gj ls24 _ _ (by omega) (by omega) ⟨by omega, by show _ ≤ (0 : Int); omega⟩ hgood (by rw [show v21.toInt = 0 by omega] <;> rfl) hh19 kpl jl jgl (lv_sub hl24 [1, 0, 2, 3, 4, 5, 6] rfl)
  refine ff_if_eq hx hb (eX12_readDuration (35, .ifCond .eq 7, 3) (List.mem_of_getElem? (i := 21) rfl)) (tgt := 42) rfl (fun c210 => ?_) (fun c210 => ?_)
  · skip
    have d17 : ¬ x17.1 = 1 := by omega
    refine ff_iconst hx hb (eX12_readDuration (42, .iconst 1, 1) (List.mem_of_getElem? (i := 26) rfl)) (by decide) (by decide) (fun v211 e211 => ?_)
    refine lv_istore hx hb (eX12_readDuration (43, .istore 5, 2) (List.mem_of_getElem? (i := 27) rfl)) hl12 (by decide) rfl (fun ls212 hl212 => ?_)
    exact loop 7 0 0 1 (upF x2.1 15 ((-1))) x17.2 v5 v7 v9 v211 ls212 _ _ hh17 kp17 jv17 jg17 (by omega) (by omega) (by omega) (by omega) (by omega) (by omega) (by omega) (by omega) (by have y1 : x2.1 = clG 4 := (by rw [← hx2]); have y2 : x2.2 = sg := (by rw [← hx2]); rw [y2] at hx4; rw [y1]; unfold duG du0G; dsimp only; rw [hx4, hx17, if_neg d17]) (lv_sub hl212 [4, 3, 2, 0, 5] rfl)
  · skip
    have d17 : x17.1 = 1 := by omega
    refine ff_iconst hx hb (eX12_readDuration (38, .iconst 1, 1) (List.mem_of_getElem? (i := 22) rfl)) (by decide) (by decide) (fun v213 e213 => ?_)
    refine lv_istore_n hx hb (eX12_readDuration (39, .istore_n 1, 1) (List.mem_of_getElem? (i := 23) rfl)) rfl hl12 (by decide) rfl (fun ls214 hl214 => ?_)
    refine ff_iconst hx hb (eX12_readDuration (40, .iconst 3, 1) (List.mem_of_getElem? (i := 24) rfl)) (by decide) (by decide) (fun v215 e215 => ?_)
    refine lv_istore_n hx hb (eX12_readDuration (41, .istore_n 2, 1) (List.mem_of_getElem? (i := 25) rfl)) rfl hl214 (by decide) rfl (fun ls216 hl216 => ?_)
    refine ff_iconst hx hb (eX12_readDuration (42, .iconst 1, 1) (List.mem_of_getElem? (i := 26) rfl)) (by decide) (by decide) (fun v217 e217 => ?_)
    refine lv_istore hx hb (eX12_readDuration (43, .istore 5, 2) (List.mem_of_getElem? (i := 27) rfl)) hl216 (by decide) rfl (fun ls218 hl218 => ?_)
    exact loop 7 1 3 1 (upF x2.1 15 ((-1))) x17.2 v213 v215 v9 v217 ls218 _ _ hh17 kp17 jv17 jg17 (by omega) (by omega) (by omega) (by omega) (by omega) (by omega) (by omega) (by omega) (by have y1 : x2.1 = clG 4 := (by rw [← hx2]); have y2 : x2.2 = sg := (by rw [← hx2]); rw [y2] at hx4; rw [y1]; unfold duG du0G; dsimp only; rw [hx4, hx17, if_pos d17]) (lv_sub hl218 [2, 1, 4, 0, 5] rfl)
