theorem ndN_le (f : Nat) (v : Int) : ndN f v ≤ f + 1 ∧ 1 ≤ ndN f v := by
  induction f generalizing v with
  | zero => exact ⟨Nat.le_refl 1, Nat.le_refl 1⟩
  | succ f ih => unfold ndN; split; omega; have := ih (v / 10); omega
theorem nd_end {f : Nat} {u : Int} (h : u < 10) : ndN f u = 1 := by
  cases f with
  | zero => rfl
  | succ f => unfold ndN; rw [if_pos h]
theorem nd_step {f : Nat} {u : Int} (h : 10 ≤ u) (hu : u < 10 ^ f) : ∃ g, f = g + 1 ∧ ndN f u = 1 + ndN g (u / 10) ∧ u / 10 < 10 ^ g := by
  cases f with
  | zero => rw [Int.pow_zero] at hu; omega
  | succ g =>
    refine ⟨g, rfl, by rw [ndN, if_neg (by omega)], ?_⟩
    rw [Int.pow_succ] at hu
    omega
set_option maxRecDepth 100000 in
set_option maxHeartbeats 4000000 in
theorem hX9_putNumber (l : Launch) (D : va_G) (cA : Nat → ClassId) (ro : Nat → Option Nat) (sz : Nat) (H0 : Heap) (wr : Nat) (value : Int64) (O : List Int) (hwr : ro wr = some 8) (hv0 : 0 ≤ value.toInt) (hv1 : value.toInt < 10000000000000) (hlen : O.length + ndN 13 value.toInt ≤ 120) : Met l yX9_putNumber (gW yX9_putNumber cX9_putNumber 6 none) { frames := 1, cells := 0, slots := 0, locals := 26 } (zs_P D cA ro sz H0 (fun H => jW D cA ro H wr O) [.ref wr, .long value]) (zs_app D cA ro sz H0 wr (O ++ dgL (ndN 13 value.toInt) value.toInt)) 0 0 (zy_fr sz) := by
  refine zy_ofW (cc := cX9_putNumber) (maxL := 6) (ret := none) (by decide +kernel) rfl ?_
  intro p e s m args below meth c s1 B hml hv
  obtain ⟨rfl, hh, hKn, hJ⟩ := hv
  have hx := B.exec
  have hb := B.bytes
  have hr := B.returns
  have hlk := B.notSynchronized
  have hts0 := atoms_spec (ws := gW yX9_putNumber cX9_putNumber 6 none) B.pre
  have h2 : ∀ w ∈ gT, w.before ([.ref wr, .long value] : List Value).toArray s = true := fun w hw => hts0 w (List.mem_cons_of_mem _ hw)
  have hown : s.vm.findClass RX9 = some m.cls := findClass_of_methodNamed B.named
  have hl := lv_entry [.ref wr, .long value] (n := 6) (Nat.le_of_ble_eq_true rfl)
  rw [lg_entry_eq]
  generalize (lg_sl [.ref wr, .long value] ++ List.replicate (6 - (lg_sl [.ref wr, .long value]).length) Slot.unset).toArray = ls at hl ⊢
  have b_value := zn_i64 value
  have hD := zD_all h2 hKn.1
  have hcl8 := fun (idx k : Nat) (t : zt_T) (h : (idx, 8, k) ∈ gfX9) (hk : fsX9[k]? = some t) => zf_clause (ro := ro) (ms := [(8, 1), (16, 0)]) h2 hown hKn.1 gfX9_ok (by decide +kernel) idx 8 k 8 0 fsX9 t h rfl hk
  have kp0 : zc_kept D RTg ro [(8, 1), (16, 0)] s.heap s.heap := zc_kept.refl
  obtain ⟨wb, n, z, f0, r0, f1, hn, hc, hz⟩ := id hJ
  obtain ⟨n9, g9, n1, n2⟩ := zh_fT (k := 1) (t := (0, 0, 120)) hh hwr (show RTg[8]? = some (0, 8, 0, fsX9) from rfl) rfl
  cases f1.symm.trans g9
  dsimp only at n1 n2
  clear g9
  obtain ⟨-, z9, c9, hy9⟩ := zh_arr hh r0 (show RTg[16]? = some (1, 2, 120, [(0, (-128), 127)]) from rfl)
  have hy : ∀ i, i < 120 → zt_ok ro (z i) (0, (-128), 127) := zs_arr (hc.symm.trans c9) hy9
  refine ff_iconst hx hb (eX9_putNumber (0, .iconst 1, 1) (List.mem_of_getElem? (i := 0) rfl)) (by decide) (by decide) (fun v1 e1 => ?_)
  refine lv_istore_n hx hb (eX9_putNumber (1, .istore_n 3, 1) (List.mem_of_getElem? (i := 1) rfl)) rfl hl (by decide) rfl (fun ls2 hl2 => ?_)
  refine lv_lload_n hx hb (eX9_putNumber (2, .lload_n 1, 1) (List.mem_of_getElem? (i := 2) rfl)) rfl (lv_at hl2 2 rfl) ?_
  refine ff_ldc2 (n := 10) hx hb hown h2 (clX9_ok 25 10 (List.mem_of_getElem? (i := 1) rfl)) (eX9_putNumber (3, .ldc2_w 25, 3) (List.mem_of_getElem? (i := 3) rfl)) (fun v3 e3 => ?_)
  refine ff_ldivP hx hb (eX9_putNumber (6, .ldiv, 1) (List.mem_of_getElem? (i := 4) rfl)) (by omega) (e3) (by decide) (fun v4 e4 => ?_)
  refine lv_lstore hx hb (eX9_putNumber (7, .lstore 4, 2) (List.mem_of_getElem? (i := 5) rfl)) hl2 (by decide) rfl (fun ls5 hl5 => ?_)
  have loop : ∀ (f : Nat) (u : Int) (dv : Int32) (rv : Int64) (ls : Array Slot), 0 ≤ u → u < 10 ^ f → rv.toInt = u / 10 → (ndN 13 value.toInt : Int) = dv.toInt - 1 + (ndN f u : Int) → 1 ≤ dv.toInt → dv.toInt + f ≤ 18 → lv_has ls 6 [(4, .long rv), (3, .int dv), (0, .ref wr), (1, .long value)] → W p l e (headSpec (gW yX9_putNumber cX9_putNumber 6 none) { frames := 1, cells := 0, slots := 0, locals := 26 }).room s m ([.ref wr, .long value] : List Value).toArray below meth c s.heap [] 0 0 (MQ below (zs_app D cA ro sz H0 wr (O ++ dgL (ndN 13 value.toInt) value.toInt)) ([.ref wr, .long value] : List Value).toArray s 0 0 (zy_fr sz)) (F0 m 9 ls []) := by
    intro f
    induction f with
    | zero =>
      intro u dv rv ls hu0 huf hrv hnd hd1 hd2 hl
      rw [Int.pow_zero] at huf
      refine lv_lload hx hb (eX9_putNumber (9, .lload 4, 2) (List.mem_of_getElem? (i := 6) rfl)) (lv_at hl 0 rfl) ?_
      refine ff_lconst hx hb (eX9_putNumber (11, .lconst 0, 1) (List.mem_of_getElem? (i := 7) rfl)) rfl (fun v6 e6 => ?_)
      refine ff_lcmp hx hb (eX9_putNumber (12, .lcmp, 1) (List.mem_of_getElem? (i := 8) rfl)) (fun v7 e7 => ?_)
      refine ff_if_le hx hb (eX9_putNumber (13, .ifCond .le 23, 3) (List.mem_of_getElem? (i := 9) rfl)) (tgt := 36) rfl (fun c8 => ?_) (fun c8 => (by exfalso; omega))
      have hend : (ndN 13 value.toInt : Int) = dv.toInt := by rw [hnd, nd_end (by omega)]; omega
      refine lv_aload_n hx hb (eX9_putNumber (36, .aload_n 0, 1) (List.mem_of_getElem? (i := 19) rfl)) rfl (lv_at hl 2 rfl) ?_
      refine lv_lload_n hx hb (eX9_putNumber (37, .lload_n 1, 1) (List.mem_of_getElem? (i := 20) rfl)) rfl (lv_at hl 3 rfl) ?_
      refine lv_iload_n hx hb (eX9_putNumber (38, .iload_n 3, 1) (List.mem_of_getElem? (i := 21) rfl)) rfl (lv_at hl 1 rfl) ?_
      refine tz_rowV (As := [.long value, .int dv]) (st := []) (b := wr) (C := RX9) (Ts := gT) hx hb hml hown h2 (fun _ h => h) (hX9_putDigits l D cA ro sz H0 wr value dv (ndN 13 value.toInt) O hwr (by omega) (by omega) hlen) ⟨rfl, rfl⟩ ⟨by decide, by decide⟩ ⟨by decide, by decide⟩ (tb_5 221 rfl rfl) (tb_1 6 rfl rfl) (tb_5 218 rfl rfl) (tb_5 219 rfl rfl) (tb_5 220 rfl rfl) (show yX9_putDigits.cls ≠ "java/lang/invoke/MethodHandle" ∧ yX9_putDigits.cls ≠ "java/lang/invoke/VarHandle" ∧ (parseMethodDescriptor yX9_putDigits.desc).map (fun d => d.parameters.length) = some 2 by decide +kernel) zs_blind (zs_ob hh hwr (show RTg[8]? = some (0, 8, 0, fsX9) from rfl) (zCX9 hKn.1)) (fun U hU hW => ⟨rfl, by rw [hU]; exact hh.l0, zKb s U hW.alike hKn, by rw [hU]; exact hJ⟩) hh.2.2.1 hl.1 (Nat.le_of_ble_eq_true rfl) (eX9_putNumber (39, .invokevirtual 27, 3) (List.mem_of_getElem? (i := 22) rfl)) (fun r9 s9 t9 lo9 g9 f9 l9 => ?_)
      obtain ⟨q9, z9, c9, j9⟩ := f9
      cases q9
      rw [g9] at c9
      have hh9 : zh_ok D cA RTg ro sz H0 t9.heap lo9 := ⟨z9.1, z9.2.1, l9, z9.2.2.2⟩
      have kp9 := kp0.trans (c9.mono (ms' := [(8, 1), (16, 0)]) (by decide))
      refine W.eq (g2 := F0 m 42 ls []) rfl ?_
      have hJ9 : jW D cA ro t9.heap wr (O ++ dgL (ndN 13 value.toInt) value.toInt) := by
        have h9 := j9
        exact h9
      exact W.vret hx hb hr (fun t ht hW => ⟨rfl, by rw [ht]; exact hh9.l0, by rw [ht]; exact kp9, by rw [ht]; exact hJ9⟩) hh9.2.2.1 (eX9_putNumber (42, .return_, 1) (List.mem_of_getElem? (i := 23) rfl))
    | succ f ih =>
      intro u dv rv ls hu0 huf hrv hnd hd1 hd2 hl
      refine lv_lload hx hb (eX9_putNumber (9, .lload 4, 2) (List.mem_of_getElem? (i := 6) rfl)) (lv_at hl 0 rfl) ?_
      refine ff_lconst hx hb (eX9_putNumber (11, .lconst 0, 1) (List.mem_of_getElem? (i := 7) rfl)) rfl (fun v10 e10 => ?_)
      refine ff_lcmp hx hb (eX9_putNumber (12, .lcmp, 1) (List.mem_of_getElem? (i := 8) rfl)) (fun v11 e11 => ?_)
      refine ff_if_le hx hb (eX9_putNumber (13, .ifCond .le 23, 3) (List.mem_of_getElem? (i := 9) rfl)) (tgt := 36) rfl (fun c12 => ?_) (fun c12 => ?_)
      · skip
        have hend : (ndN 13 value.toInt : Int) = dv.toInt := by rw [hnd, nd_end (by omega)]; omega
        refine lv_aload_n hx hb (eX9_putNumber (36, .aload_n 0, 1) (List.mem_of_getElem? (i := 19) rfl)) rfl (lv_at hl 2 rfl) ?_
        refine lv_lload_n hx hb (eX9_putNumber (37, .lload_n 1, 1) (List.mem_of_getElem? (i := 20) rfl)) rfl (lv_at hl 3 rfl) ?_
        refine lv_iload_n hx hb (eX9_putNumber (38, .iload_n 3, 1) (List.mem_of_getElem? (i := 21) rfl)) rfl (lv_at hl 1 rfl) ?_
        refine tz_rowV (As := [.long value, .int dv]) (st := []) (b := wr) (C := RX9) (Ts := gT) hx hb hml hown h2 (fun _ h => h) (hX9_putDigits l D cA ro sz H0 wr value dv (ndN 13 value.toInt) O hwr (by omega) (by omega) hlen) ⟨rfl, rfl⟩ ⟨by decide, by decide⟩ ⟨by decide, by decide⟩ (tb_5 221 rfl rfl) (tb_1 6 rfl rfl) (tb_5 218 rfl rfl) (tb_5 219 rfl rfl) (tb_5 220 rfl rfl) (show yX9_putDigits.cls ≠ "java/lang/invoke/MethodHandle" ∧ yX9_putDigits.cls ≠ "java/lang/invoke/VarHandle" ∧ (parseMethodDescriptor yX9_putDigits.desc).map (fun d => d.parameters.length) = some 2 by decide +kernel) zs_blind (zs_ob hh hwr (show RTg[8]? = some (0, 8, 0, fsX9) from rfl) (zCX9 hKn.1)) (fun U hU hW => ⟨rfl, by rw [hU]; exact hh.l0, zKb s U hW.alike hKn, by rw [hU]; exact hJ⟩) hh.2.2.1 hl.1 (Nat.le_of_ble_eq_true rfl) (eX9_putNumber (39, .invokevirtual 27, 3) (List.mem_of_getElem? (i := 22) rfl)) (fun r13 s13 t13 lo13 g13 f13 l13 => ?_)
        obtain ⟨q13, z13, c13, j13⟩ := f13
        cases q13
        rw [g13] at c13
        have hh13 : zh_ok D cA RTg ro sz H0 t13.heap lo13 := ⟨z13.1, z13.2.1, l13, z13.2.2.2⟩
        have kp13 := kp0.trans (c13.mono (ms' := [(8, 1), (16, 0)]) (by decide))
        refine W.eq (g2 := F0 m 42 ls []) rfl ?_
        have hJ9 : jW D cA ro t13.heap wr (O ++ dgL (ndN 13 value.toInt) value.toInt) := by
          have h9 := j13
          exact h9
        exact W.vret hx hb hr (fun t ht hW => ⟨rfl, by rw [ht]; exact hh13.l0, by rw [ht]; exact kp13, by rw [ht]; exact hJ9⟩) hh13.2.2.1 (eX9_putNumber (42, .return_, 1) (List.mem_of_getElem? (i := 23) rfl))
      · skip
        refine lv_iload_n hx hb (eX9_putNumber (16, .iload_n 3, 1) (List.mem_of_getElem? (i := 10) rfl)) rfl (lv_at hl 1 rfl) ?_
        refine ff_bipush hx hb (eX9_putNumber (17, .bipush 19, 2) (List.mem_of_getElem? (i := 11) rfl)) (by decide) (by decide) (fun v14 e14 => ?_)
        refine ff_icmp_ge hx hb (eX9_putNumber (19, .if_icmp .ge 17, 3) (List.mem_of_getElem? (i := 12) rfl)) (tgt := 36) rfl (fun c15 => (by exfalso; omega)) (fun c15 => ?_)
        refine ff_iinc (k := 1) hx hb (eX9_putNumber (22, .iinc 3 1, 3) (List.mem_of_getElem? (i := 13) rfl)) hl rfl (by decide) (by decide) (by decide) (by omega) (by omega) (fun v16 e16 ls16 hl16 => ?_)
        refine lv_lload hx hb (eX9_putNumber (25, .lload 4, 2) (List.mem_of_getElem? (i := 14) rfl)) (lv_at hl16 1 rfl) ?_
        refine ff_ldc2 (n := 10) hx hb hown h2 (clX9_ok 25 10 (List.mem_of_getElem? (i := 1) rfl)) (eX9_putNumber (27, .ldc2_w 25, 3) (List.mem_of_getElem? (i := 15) rfl)) (fun v17 e17 => ?_)
        refine ff_ldivP hx hb (eX9_putNumber (30, .ldiv, 1) (List.mem_of_getElem? (i := 16) rfl)) (by omega) (e17) (by decide) (fun v18 e18 => ?_)
        refine lv_lstore hx hb (eX9_putNumber (31, .lstore 4, 2) (List.mem_of_getElem? (i := 17) rfl)) hl16 (by decide) rfl (fun ls19 hl19 => ?_)
        refine lv_goto hx hb (eX9_putNumber (33, .goto (-24), 3) (List.mem_of_getElem? (i := 18) rfl)) (tgt := 9) rfl ?_
        obtain ⟨g9, hg1, hg2, hg3⟩ := nd_step (u := u) (by omega) huf
        cases Nat.succ.inj hg1
        rw [hg2] at hnd
        have hnd2 : (ndN 13 value.toInt : Int) = dv.toInt - 1 + (1 + (ndN f (u / 10) : Int)) := by rw [hnd]; omega
        exact ih (u / 10) v16 v18 ls19 (by omega) hg3 (by omega) (by omega) (by omega) (by omega) (lv_sub hl19 [0, 1, 2, 3] rfl)
  exact loop 13 value.toInt v1 v4 ls5 (by omega) (by show value.toInt < 10 ^ 13; omega) (by omega) (by omega) (by omega) (by omega) (lv_sub hl5 [0, 1, 2, 3] rfl)
set_option maxRecDepth 100000 in
set_option maxHeartbeats 4000000 in
theorem hX9_isPlainYear (l : Launch) (y : Int32)  : zu_M l yX9_isPlainYear (gW yX9_isPlainYear cX9_isPlainYear 1 (some .boolean)) { frames := 0, cells := 0, slots := 0, locals := 0 } (fun vs => vs = [.int y]) zT (fun _ w => ∃ r : Int32, w = .int r ∧ ((r.toInt = 1 ∧ 0 ≤ y.toInt ∧ y.toInt ≤ 9999) ∨ (r.toInt = 0 ∧ (y.toInt < 0 ∨ 9999 < y.toInt)))) := by
  refine zy_ofW (cc := cX9_isPlainYear) (maxL := 1) (ret := (some .boolean)) (by decide +kernel) rfl ?_
  intro p e s m args below meth c s1 B hml hv
  obtain ⟨vs, rfl, rfl, hKp⟩ := hv
  have hx := B.exec
  have hb := B.bytes
  have hr := B.returns
  have hlk := B.notSynchronized
  have hts0 := atoms_spec (ws := gW yX9_isPlainYear cX9_isPlainYear 1 (some .boolean)) B.pre
  have h2 : ∀ w ∈ gT, w.before ([.int y] : List Value).toArray s = true := fun w hw => hts0 w (List.mem_cons_of_mem _ hw)
  have hown : s.vm.findClass RX9 = some m.cls := findClass_of_methodNamed B.named
  have hl := lv_entry [.int y] (n := 1) (Nat.le_of_ble_eq_true rfl)
  rw [lg_entry_eq]
  generalize (lg_sl [.int y] ++ List.replicate (1 - (lg_sl [.int y]).length) Slot.unset).toArray = ls at hl ⊢
  have b_y := zn_i32 y
  refine lv_iload_n hx hb (eX9_isPlainYear (0, .iload_n 0, 1) (List.mem_of_getElem? (i := 0) rfl)) rfl (lv_at hl 0 rfl) ?_
  refine ff_if_lt hx hb (eX9_isPlainYear (1, .ifCond .lt 14, 3) (List.mem_of_getElem? (i := 1) rfl)) (tgt := 15) rfl (fun c1 => ?_) (fun c1 => ?_)
  · skip
    refine ff_iconst hx hb (eX9_isPlainYear (15, .iconst 0, 1) (List.mem_of_getElem? (i := 7) rfl)) (by decide) (by decide) (fun v2 e2 => ?_)
    exact zu_iret (y := yX9_isPlainYear) (ws := []) (rm := {}) hx hb hr hlk (zn_bool (by omega) (by omega)) ⟨_, rfl, by omega⟩ (eX9_isPlainYear (16, .ireturn, 1) (List.mem_of_getElem? (i := 8) rfl))
  · skip
    refine lv_iload_n hx hb (eX9_isPlainYear (4, .iload_n 0, 1) (List.mem_of_getElem? (i := 2) rfl)) rfl (lv_at hl 0 rfl) ?_
    refine ff_sipush hx hb (eX9_isPlainYear (5, .sipush 9999, 3) (List.mem_of_getElem? (i := 3) rfl)) (by decide) (by decide) (fun v3 e3 => ?_)
    refine ff_icmp_gt hx hb (eX9_isPlainYear (8, .if_icmp .gt 7, 3) (List.mem_of_getElem? (i := 4) rfl)) (tgt := 15) rfl (fun c4 => ?_) (fun c4 => ?_)
    · skip
      refine ff_iconst hx hb (eX9_isPlainYear (15, .iconst 0, 1) (List.mem_of_getElem? (i := 7) rfl)) (by decide) (by decide) (fun v5 e5 => ?_)
      exact zu_iret (y := yX9_isPlainYear) (ws := []) (rm := {}) hx hb hr hlk (zn_bool (by omega) (by omega)) ⟨_, rfl, by omega⟩ (eX9_isPlainYear (16, .ireturn, 1) (List.mem_of_getElem? (i := 8) rfl))
    · skip
      refine ff_iconst hx hb (eX9_isPlainYear (11, .iconst 1, 1) (List.mem_of_getElem? (i := 5) rfl)) (by decide) (by decide) (fun v6 e6 => ?_)
      refine lv_goto hx hb (eX9_isPlainYear (12, .goto 4, 3) (List.mem_of_getElem? (i := 6) rfl)) (tgt := 16) rfl ?_
      exact zu_iret (y := yX9_isPlainYear) (ws := []) (rm := {}) hx hb hr hlk (zn_bool (by omega) (by omega)) ⟨_, rfl, by omega⟩ (eX9_isPlainYear (16, .ireturn, 1) (List.mem_of_getElem? (i := 8) rfl))
set_option maxRecDepth 100000 in
set_option maxHeartbeats 4000000 in
theorem hJ9_abs (l : Launch) (y : Int32) (hy1 : -2000000000 ≤ y.toInt) : zu_M l yJ9_abs_0f7a4 (gW yJ9_abs_0f7a4 cJ9_abs_0f7a4 1 (some .int)) { frames := 0, cells := 0, slots := 0, locals := 0 } (fun vs => vs = [.int y]) zT (fun _ w => ∃ r : Int32, w = .int r ∧ ((y.toInt < 0 ∧ r.toInt = -y.toInt) ∨ (0 ≤ y.toInt ∧ r.toInt = y.toInt))) := by
  refine zy_ofW (cc := cJ9_abs_0f7a4) (maxL := 1) (ret := (some .int)) (by decide +kernel) rfl ?_
  intro p e s m args below meth c s1 B hml hv
  obtain ⟨vs, rfl, rfl, hKp⟩ := hv
  have hx := B.exec
  have hb := B.bytes
  have hr := B.returns
  have hlk := B.notSynchronized
  have hts0 := atoms_spec (ws := gW yJ9_abs_0f7a4 cJ9_abs_0f7a4 1 (some .int)) B.pre
  have h2 : ∀ w ∈ gT, w.before ([.int y] : List Value).toArray s = true := fun w hw => hts0 w (List.mem_cons_of_mem _ hw)
  have hown : s.vm.findClass RJ9 = some m.cls := findClass_of_methodNamed B.named
  have hl := lv_entry [.int y] (n := 1) (Nat.le_of_ble_eq_true rfl)
  rw [lg_entry_eq]
  generalize (lg_sl [.int y] ++ List.replicate (1 - (lg_sl [.int y]).length) Slot.unset).toArray = ls at hl ⊢
  have b_y := zn_i32 y
  refine lv_iload_n hx hb (eJ9_abs_0f7a4 (0, .iload_n 0, 1) (List.mem_of_getElem? (i := 0) rfl)) rfl (lv_at hl 0 rfl) ?_
  refine ff_if_ge hx hb (eJ9_abs_0f7a4 (1, .ifCond .ge 8, 3) (List.mem_of_getElem? (i := 1) rfl)) (tgt := 9) rfl (fun c1 => ?_) (fun c1 => ?_)
  · skip
    refine lv_iload_n hx hb (eJ9_abs_0f7a4 (9, .iload_n 0, 1) (List.mem_of_getElem? (i := 5) rfl)) rfl (lv_at hl 0 rfl) ?_
    exact zu_iret (y := yJ9_abs_0f7a4) (ws := []) (rm := {}) hx hb hr hlk rfl ⟨_, rfl, by omega⟩ (eJ9_abs_0f7a4 (10, .ireturn, 1) (List.mem_of_getElem? (i := 6) rfl))
  · skip
    refine lv_iload_n hx hb (eJ9_abs_0f7a4 (4, .iload_n 0, 1) (List.mem_of_getElem? (i := 2) rfl)) rfl (lv_at hl 0 rfl) ?_
    refine ff_ineg hx hb (eJ9_abs_0f7a4 (5, .ineg, 1) (List.mem_of_getElem? (i := 3) rfl)) (by omega) (by omega) (fun v2 e2 => ?_)
    refine lv_goto hx hb (eJ9_abs_0f7a4 (6, .goto 4, 3) (List.mem_of_getElem? (i := 4) rfl)) (tgt := 10) rfl ?_
    exact zu_iret (y := yJ9_abs_0f7a4) (ws := []) (rm := {}) hx hb hr hlk rfl ⟨_, rfl, by omega⟩ (eJ9_abs_0f7a4 (10, .ireturn, 1) (List.mem_of_getElem? (i := 6) rfl))
set_option maxRecDepth 100000 in
set_option maxHeartbeats 4000000 in
theorem hX9_putYear (l : Launch) (D : va_G) (cA : Nat → ClassId) (ro : Nat → Option Nat) (sz : Nat) (H0 : Heap) (wr : Nat) (y : Int32) (O : List Int) (hwr : ro wr = some 8) (hy1 : -1000000 ≤ y.toInt) (hy2 : y.toInt ≤ 1000000) (hlen : O.length + 7 ≤ 120) : Met l yX9_putYear (gW yX9_putYear cX9_putYear 2 none) { frames := 1, cells := 0, slots := 0, locals := 26 } (zs_P D cA ro sz H0 (fun H => jW D cA ro H wr O) [.ref wr, .int y]) (zs_app D cA ro sz H0 wr (O ++ yrL y.toInt)) 0 0 (zy_fr sz) := by
  refine zy_ofW (cc := cX9_putYear) (maxL := 2) (ret := none) (by decide +kernel) rfl ?_
  intro p e s m args below meth c s1 B hml hv
  obtain ⟨rfl, hh, hKn, hJ⟩ := hv
  have hx := B.exec
  have hb := B.bytes
  have hr := B.returns
  have hlk := B.notSynchronized
  have hts0 := atoms_spec (ws := gW yX9_putYear cX9_putYear 2 none) B.pre
  have h2 : ∀ w ∈ gT, w.before ([.ref wr, .int y] : List Value).toArray s = true := fun w hw => hts0 w (List.mem_cons_of_mem _ hw)
  have hown : s.vm.findClass RX9 = some m.cls := findClass_of_methodNamed B.named
  have hl := lv_entry [.ref wr, .int y] (n := 2) (Nat.le_of_ble_eq_true rfl)
  rw [lg_entry_eq]
  generalize (lg_sl [.ref wr, .int y] ++ List.replicate (2 - (lg_sl [.ref wr, .int y]).length) Slot.unset).toArray = ls at hl ⊢
  have b_y := zn_i32 y
  have hD := zD_all h2 hKn.1
  have hcl8 := fun (idx k : Nat) (t : zt_T) (h : (idx, 8, k) ∈ gfX9) (hk : fsX9[k]? = some t) => zf_clause (ro := ro) (ms := [(8, 1), (16, 0)]) h2 hown hKn.1 gfX9_ok (by decide +kernel) idx 8 k 8 0 fsX9 t h rfl hk
  have kp0 : zc_kept D RTg ro [(8, 1), (16, 0)] s.heap s.heap := zc_kept.refl
  obtain ⟨wb, n, z, f0, r0, f1, hn, hc, hz⟩ := id hJ
  obtain ⟨n9, g9, n1, n2⟩ := zh_fT (k := 1) (t := (0, 0, 120)) hh hwr (show RTg[8]? = some (0, 8, 0, fsX9) from rfl) rfl
  cases f1.symm.trans g9
  dsimp only at n1 n2
  clear g9
  obtain ⟨-, z9, c9, hy9⟩ := zh_arr hh r0 (show RTg[16]? = some (1, 2, 120, [(0, (-128), 127)]) from rfl)
  have hy : ∀ i, i < 120 → zt_ok ro (z i) (0, (-128), 127) := zs_arr (hc.symm.trans c9) hy9
  refine lv_iload_n hx hb (eX9_putYear (0, .iload_n 1, 1) (List.mem_of_getElem? (i := 0) rfl)) rfl (lv_at hl 1 rfl) ?_
  refine zu_S (vs := [.int y]) (rest := []) hx hb hml hown hts0 zu_BT (hX9_isPlainYear l y) ⟨rfl, rfl⟩ ⟨by decide, by decide⟩ ⟨by decide, by decide⟩ (tb_5 208 rfl rfl) (tb_1 6 rfl rfl) (tb_5 217 rfl rfl) (tb_5 207 rfl rfl) (show yX9_isPlainYear.cls ≠ "java/lang/invoke/MethodHandle" ∧ yX9_isPlainYear.cls ≠ "java/lang/invoke/VarHandle" ∧ (parseMethodDescriptor yX9_isPlainYear.desc).map (fun d => d.parameters.length) = some 1 by decide +kernel) rfl (fun _ _ _ => trivial) hl.1 (Nat.le_of_ble_eq_true rfl) (eX9_putYear (1, .invokestatic 31, 3) (List.mem_of_getElem? (i := 1) rfl)) (fun w1 f1 => ?_)
  obtain ⟨v1, rfl, e1⟩ := f1
  refine ff_if_eq hx hb (eX9_putYear (4, .ifCond .eq 13, 3) (List.mem_of_getElem? (i := 2) rfl)) (tgt := 17) rfl (fun c2 => ?_) (fun c2 => ?_)
  · skip
    refine lv_aload_n hx hb (eX9_putYear (17, .aload_n 0, 1) (List.mem_of_getElem? (i := 9) rfl)) rfl (lv_at hl 0 rfl) ?_
    refine lv_iload_n hx hb (eX9_putYear (18, .iload_n 1, 1) (List.mem_of_getElem? (i := 10) rfl)) rfl (lv_at hl 1 rfl) ?_
    refine ff_if_ge hx hb (eX9_putYear (19, .ifCond .ge 8, 3) (List.mem_of_getElem? (i := 11) rfl)) (tgt := 27) rfl (fun c3 => ?_) (fun c3 => ?_)
    · skip
      refine ff_bipush hx hb (eX9_putYear (27, .bipush 43, 2) (List.mem_of_getElem? (i := 14) rfl)) (by decide) (by decide) (fun v4 e4 => ?_)
      refine tz_rowV (As := [.int v4]) (st := []) (b := wr) (C := RX9) (Ts := gT) hx hb hml hown h2 (fun _ h => h) (hX9_put l D cA ro sz H0 wr v4 (O) hwr (by omega) (by omega) (by have hlO := hlen; (try simp only [List.length_append, dgL_len, List.length_cons, List.length_nil]); omega)) ⟨rfl, rfl⟩ ⟨by decide, by decide⟩ ⟨by decide, by decide⟩ (tb_5 227 rfl rfl) (tb_1 6 rfl rfl) (tb_5 224 rfl rfl) (tb_5 225 rfl rfl) (tb_5 226 rfl rfl) (show yX9_put.cls ≠ "java/lang/invoke/MethodHandle" ∧ yX9_put.cls ≠ "java/lang/invoke/VarHandle" ∧ (parseMethodDescriptor yX9_put.desc).map (fun d => d.parameters.length) = some 1 by decide +kernel) zs_blind (zs_ob hh hwr (show RTg[8]? = some (0, 8, 0, fsX9) from rfl) (zCX9 hKn.1)) (fun U hU hW => ⟨rfl, by rw [hU]; exact hh.l0, zKb s U hW.alike hKn, by rw [hU]; exact hJ⟩) hh.2.2.1 hl.1 (Nat.le_of_ble_eq_true rfl) (eX9_putYear (29, .invokevirtual 19, 3) (List.mem_of_getElem? (i := 15) rfl)) (fun r5 s5 t5 lo5 g5 f5 l5 => ?_)
      obtain ⟨q5, z5, c5, j5⟩ := f5
      cases q5
      rw [g5] at c5
      have hh5 : zh_ok D cA RTg ro sz H0 t5.heap lo5 := ⟨z5.1, z5.2.1, l5, z5.2.2.2⟩
      have kp5 := kp0.trans (c5.mono (ms' := [(8, 1), (16, 0)]) (by decide))
      refine W.eq (g2 := F0 m 32 ls []) rfl ?_
      refine lv_aload_n hx hb (eX9_putYear (32, .aload_n 0, 1) (List.mem_of_getElem? (i := 16) rfl)) rfl (lv_at hl 0 rfl) ?_
      refine lv_iload_n hx hb (eX9_putYear (33, .iload_n 1, 1) (List.mem_of_getElem? (i := 17) rfl)) rfl (lv_at hl 1 rfl) ?_
      refine zu_S (vs := [.int y]) (rest := [.ref wr]) hx hb hml hown hts0 zu_BT (hJ9_abs l y (by omega)) ⟨rfl, rfl⟩ ⟨by decide, by decide⟩ ⟨by decide, by decide⟩ (tb_5 230 rfl rfl) (tb_1 18 rfl rfl) (tb_5 228 rfl rfl) (tb_5 229 rfl rfl) (show yJ9_abs_0f7a4.cls ≠ "java/lang/invoke/MethodHandle" ∧ yJ9_abs_0f7a4.cls ≠ "java/lang/invoke/VarHandle" ∧ (parseMethodDescriptor yJ9_abs_0f7a4.desc).map (fun d => d.parameters.length) = some 1 by decide +kernel) rfl (fun _ _ _ => trivial) hl.1 (Nat.le_of_ble_eq_true rfl) (eX9_putYear (34, .invokestatic 35, 3) (List.mem_of_getElem? (i := 18) rfl)) (fun w6 f6 => ?_)
      obtain ⟨v6, rfl, e6⟩ := f6
      refine ff_i2l hx hb (eX9_putYear (37, .i2l, 1) (List.mem_of_getElem? (i := 19) rfl)) (fun v7 e7 => ?_)
      refine ff_bipush hx hb (eX9_putYear (38, .bipush 6, 2) (List.mem_of_getElem? (i := 20) rfl)) (by decide) (by decide) (fun v8 e8 => ?_)
      refine tz_rowV (As := [.long v7, .int v8]) (st := []) (b := wr) (C := RX9) (Ts := gT) hx hb hml hown h2 (fun _ h => h) (hX9_putDigits l D cA ro sz H0 wr v7 v8 6 (O ++ [v4.toInt]) hwr (by omega) (by omega) (by have hlO := hlen; (try simp only [List.length_append, dgL_len, List.length_cons, List.length_nil]); omega)) ⟨rfl, rfl⟩ ⟨by decide, by decide⟩ ⟨by decide, by decide⟩ (tb_5 221 rfl rfl) (tb_1 6 rfl rfl) (tb_5 218 rfl rfl) (tb_5 219 rfl rfl) (tb_5 220 rfl rfl) (show yX9_putDigits.cls ≠ "java/lang/invoke/MethodHandle" ∧ yX9_putDigits.cls ≠ "java/lang/invoke/VarHandle" ∧ (parseMethodDescriptor yX9_putDigits.desc).map (fun d => d.parameters.length) = some 2 by decide +kernel) zs_blind (zs_ob hh5 hwr (show RTg[8]? = some (0, 8, 0, fsX9) from rfl) (zCX9 hKn.1)) (fun U hU hW => ⟨rfl, by rw [hU]; exact hh5.l0, zKb s U hW.alike hKn, by rw [hU]; exact j5⟩) hh5.2.2.1 hl.1 (Nat.le_of_ble_eq_true rfl) (eX9_putYear (40, .invokevirtual 27, 3) (List.mem_of_getElem? (i := 21) rfl)) (fun r9 s9 t9 lo9 g9 f9 l9 => ?_)
      obtain ⟨q9, z9, c9, j9⟩ := f9
      cases q9
      rw [g9] at c9
      have hh9 : zh_ok D cA RTg ro sz H0 t9.heap lo9 := ⟨z9.1, z9.2.1, l9, z9.2.2.2⟩
      have kp9 := kp5.trans (c9.mono (ms' := [(8, 1), (16, 0)]) (by decide))
      refine W.eq (g2 := F0 m 43 ls []) rfl ?_
      have hJ9 : jW D cA ro t9.heap wr (O ++ yrL y.toInt) := by
        have h9 := j9
        rw [show v4.toInt = 43 by omega] at h9
        rw [show v7.toInt = y.toInt by omega] at h9
        unfold yrL
        rw [if_neg (by omega)]
        simp only [show ¬ y.toInt < 0 by omega, if_false]
        simpa only [List.append_assoc] using h9
      exact W.vret hx hb hr (fun t ht hW => ⟨rfl, by rw [ht]; exact hh9.l0, by rw [ht]; exact kp9, by rw [ht]; exact hJ9⟩) hh9.2.2.1 (eX9_putYear (43, .return_, 1) (List.mem_of_getElem? (i := 22) rfl))
    · skip
      refine ff_bipush hx hb (eX9_putYear (22, .bipush 45, 2) (List.mem_of_getElem? (i := 12) rfl)) (by decide) (by decide) (fun v10 e10 => ?_)
      refine lv_goto hx hb (eX9_putYear (24, .goto 5, 3) (List.mem_of_getElem? (i := 13) rfl)) (tgt := 29) rfl ?_
      refine tz_rowV (As := [.int v10]) (st := []) (b := wr) (C := RX9) (Ts := gT) hx hb hml hown h2 (fun _ h => h) (hX9_put l D cA ro sz H0 wr v10 (O) hwr (by omega) (by omega) (by have hlO := hlen; (try simp only [List.length_append, dgL_len, List.length_cons, List.length_nil]); omega)) ⟨rfl, rfl⟩ ⟨by decide, by decide⟩ ⟨by decide, by decide⟩ (tb_5 227 rfl rfl) (tb_1 6 rfl rfl) (tb_5 224 rfl rfl) (tb_5 225 rfl rfl) (tb_5 226 rfl rfl) (show yX9_put.cls ≠ "java/lang/invoke/MethodHandle" ∧ yX9_put.cls ≠ "java/lang/invoke/VarHandle" ∧ (parseMethodDescriptor yX9_put.desc).map (fun d => d.parameters.length) = some 1 by decide +kernel) zs_blind (zs_ob hh hwr (show RTg[8]? = some (0, 8, 0, fsX9) from rfl) (zCX9 hKn.1)) (fun U hU hW => ⟨rfl, by rw [hU]; exact hh.l0, zKb s U hW.alike hKn, by rw [hU]; exact hJ⟩) hh.2.2.1 hl.1 (Nat.le_of_ble_eq_true rfl) (eX9_putYear (29, .invokevirtual 19, 3) (List.mem_of_getElem? (i := 15) rfl)) (fun r11 s11 t11 lo11 g11 f11 l11 => ?_)
      obtain ⟨q11, z11, c11, j11⟩ := f11
      cases q11
      rw [g11] at c11
      have hh11 : zh_ok D cA RTg ro sz H0 t11.heap lo11 := ⟨z11.1, z11.2.1, l11, z11.2.2.2⟩
      have kp11 := kp0.trans (c11.mono (ms' := [(8, 1), (16, 0)]) (by decide))
      refine W.eq (g2 := F0 m 32 ls []) rfl ?_
      refine lv_aload_n hx hb (eX9_putYear (32, .aload_n 0, 1) (List.mem_of_getElem? (i := 16) rfl)) rfl (lv_at hl 0 rfl) ?_
      refine lv_iload_n hx hb (eX9_putYear (33, .iload_n 1, 1) (List.mem_of_getElem? (i := 17) rfl)) rfl (lv_at hl 1 rfl) ?_
      refine zu_S (vs := [.int y]) (rest := [.ref wr]) hx hb hml hown hts0 zu_BT (hJ9_abs l y (by omega)) ⟨rfl, rfl⟩ ⟨by decide, by decide⟩ ⟨by decide, by decide⟩ (tb_5 230 rfl rfl) (tb_1 18 rfl rfl) (tb_5 228 rfl rfl) (tb_5 229 rfl rfl) (show yJ9_abs_0f7a4.cls ≠ "java/lang/invoke/MethodHandle" ∧ yJ9_abs_0f7a4.cls ≠ "java/lang/invoke/VarHandle" ∧ (parseMethodDescriptor yJ9_abs_0f7a4.desc).map (fun d => d.parameters.length) = some 1 by decide +kernel) rfl (fun _ _ _ => trivial) hl.1 (Nat.le_of_ble_eq_true rfl) (eX9_putYear (34, .invokestatic 35, 3) (List.mem_of_getElem? (i := 18) rfl)) (fun w12 f12 => ?_)
      obtain ⟨v12, rfl, e12⟩ := f12
      refine ff_i2l hx hb (eX9_putYear (37, .i2l, 1) (List.mem_of_getElem? (i := 19) rfl)) (fun v13 e13 => ?_)
      refine ff_bipush hx hb (eX9_putYear (38, .bipush 6, 2) (List.mem_of_getElem? (i := 20) rfl)) (by decide) (by decide) (fun v14 e14 => ?_)
      refine tz_rowV (As := [.long v13, .int v14]) (st := []) (b := wr) (C := RX9) (Ts := gT) hx hb hml hown h2 (fun _ h => h) (hX9_putDigits l D cA ro sz H0 wr v13 v14 6 (O ++ [v10.toInt]) hwr (by omega) (by omega) (by have hlO := hlen; (try simp only [List.length_append, dgL_len, List.length_cons, List.length_nil]); omega)) ⟨rfl, rfl⟩ ⟨by decide, by decide⟩ ⟨by decide, by decide⟩ (tb_5 221 rfl rfl) (tb_1 6 rfl rfl) (tb_5 218 rfl rfl) (tb_5 219 rfl rfl) (tb_5 220 rfl rfl) (show yX9_putDigits.cls ≠ "java/lang/invoke/MethodHandle" ∧ yX9_putDigits.cls ≠ "java/lang/invoke/VarHandle" ∧ (parseMethodDescriptor yX9_putDigits.desc).map (fun d => d.parameters.length) = some 2 by decide +kernel) zs_blind (zs_ob hh11 hwr (show RTg[8]? = some (0, 8, 0, fsX9) from rfl) (zCX9 hKn.1)) (fun U hU hW => ⟨rfl, by rw [hU]; exact hh11.l0, zKb s U hW.alike hKn, by rw [hU]; exact j11⟩) hh11.2.2.1 hl.1 (Nat.le_of_ble_eq_true rfl) (eX9_putYear (40, .invokevirtual 27, 3) (List.mem_of_getElem? (i := 21) rfl)) (fun r15 s15 t15 lo15 g15 f15 l15 => ?_)
      obtain ⟨q15, z15, c15, j15⟩ := f15
      cases q15
      rw [g15] at c15
      have hh15 : zh_ok D cA RTg ro sz H0 t15.heap lo15 := ⟨z15.1, z15.2.1, l15, z15.2.2.2⟩
      have kp15 := kp11.trans (c15.mono (ms' := [(8, 1), (16, 0)]) (by decide))
      refine W.eq (g2 := F0 m 43 ls []) rfl ?_
      have hJ9 : jW D cA ro t15.heap wr (O ++ yrL y.toInt) := by
        have h9 := j15
        rw [show v10.toInt = 45 by omega] at h9
        rw [show v13.toInt = -y.toInt by omega] at h9
        unfold yrL
        rw [if_neg (by omega)]
        simp only [show y.toInt < 0 by omega, if_true]
        simpa only [List.append_assoc] using h9
      exact W.vret hx hb hr (fun t ht hW => ⟨rfl, by rw [ht]; exact hh15.l0, by rw [ht]; exact kp15, by rw [ht]; exact hJ9⟩) hh15.2.2.1 (eX9_putYear (43, .return_, 1) (List.mem_of_getElem? (i := 22) rfl))
  · skip
    refine lv_aload_n hx hb (eX9_putYear (7, .aload_n 0, 1) (List.mem_of_getElem? (i := 3) rfl)) rfl (lv_at hl 0 rfl) ?_
    refine lv_iload_n hx hb (eX9_putYear (8, .iload_n 1, 1) (List.mem_of_getElem? (i := 4) rfl)) rfl (lv_at hl 1 rfl) ?_
    refine ff_i2l hx hb (eX9_putYear (9, .i2l, 1) (List.mem_of_getElem? (i := 5) rfl)) (fun v16 e16 => ?_)
    refine ff_iconst hx hb (eX9_putYear (10, .iconst 4, 1) (List.mem_of_getElem? (i := 6) rfl)) (by decide) (by decide) (fun v17 e17 => ?_)
    refine tz_rowV (As := [.long v16, .int v17]) (st := []) (b := wr) (C := RX9) (Ts := gT) hx hb hml hown h2 (fun _ h => h) (hX9_putDigits l D cA ro sz H0 wr v16 v17 4 (O) hwr (by omega) (by omega) (by have hlO := hlen; (try simp only [List.length_append, dgL_len, List.length_cons, List.length_nil]); omega)) ⟨rfl, rfl⟩ ⟨by decide, by decide⟩ ⟨by decide, by decide⟩ (tb_5 221 rfl rfl) (tb_1 6 rfl rfl) (tb_5 218 rfl rfl) (tb_5 219 rfl rfl) (tb_5 220 rfl rfl) (show yX9_putDigits.cls ≠ "java/lang/invoke/MethodHandle" ∧ yX9_putDigits.cls ≠ "java/lang/invoke/VarHandle" ∧ (parseMethodDescriptor yX9_putDigits.desc).map (fun d => d.parameters.length) = some 2 by decide +kernel) zs_blind (zs_ob hh hwr (show RTg[8]? = some (0, 8, 0, fsX9) from rfl) (zCX9 hKn.1)) (fun U hU hW => ⟨rfl, by rw [hU]; exact hh.l0, zKb s U hW.alike hKn, by rw [hU]; exact hJ⟩) hh.2.2.1 hl.1 (Nat.le_of_ble_eq_true rfl) (eX9_putYear (11, .invokevirtual 27, 3) (List.mem_of_getElem? (i := 7) rfl)) (fun r18 s18 t18 lo18 g18 f18 l18 => ?_)
    obtain ⟨q18, z18, c18, j18⟩ := f18
    cases q18
    rw [g18] at c18
    have hh18 : zh_ok D cA RTg ro sz H0 t18.heap lo18 := ⟨z18.1, z18.2.1, l18, z18.2.2.2⟩
    have kp18 := kp0.trans (c18.mono (ms' := [(8, 1), (16, 0)]) (by decide))
    refine W.eq (g2 := F0 m 14 ls []) rfl ?_
    refine lv_goto hx hb (eX9_putYear (14, .goto 29, 3) (List.mem_of_getElem? (i := 8) rfl)) (tgt := 43) rfl ?_
    have hJ9 : jW D cA ro t18.heap wr (O ++ yrL y.toInt) := by
      have h9 := j18
      rw [show v16.toInt = y.toInt by omega] at h9
      unfold yrL
      rw [if_pos (by omega)]
      exact h9
    exact W.vret hx hb hr (fun t ht hW => ⟨rfl, by rw [ht]; exact hh18.l0, by rw [ht]; exact kp18, by rw [ht]; exact hJ9⟩) hh18.2.2.1 (eX9_putYear (43, .return_, 1) (List.mem_of_getElem? (i := 22) rfl))
set_option maxRecDepth 100000 in
set_option maxHeartbeats 4000000 in
theorem hX9_putOrdinal (l : Launch) (D : va_G) (cA : Nat → ClassId) (ro : Nat → Option Nat) (sz : Nat) (H0 : Heap) (wr : Nat) (o : Int32) (dsh : Int32) (O : List Int) (hwr : ro wr = some 8) (ho1 : 0 ≤ o.toInt) (hlen : O.length + 4 ≤ 120) : Met l yX9_putOrdinal (gW yX9_putOrdinal cX9_putOrdinal 3 none) { frames := 2, cells := 0, slots := 0, locals := 42 } (zs_P D cA ro sz H0 (fun H => jW D cA ro H wr O) [.ref wr, .int o, .int dsh]) (zs_app D cA ro sz H0 wr (O ++ orL o.toInt dsh.toInt)) 0 0 (zy_fr sz) := by
  refine zy_ofW (cc := cX9_putOrdinal) (maxL := 3) (ret := none) (by decide +kernel) rfl ?_
  intro p e s m args below meth c s1 B hml hv
  obtain ⟨rfl, hh, hKn, hJ⟩ := hv
  have hx := B.exec
  have hb := B.bytes
  have hr := B.returns
  have hlk := B.notSynchronized
  have hts0 := atoms_spec (ws := gW yX9_putOrdinal cX9_putOrdinal 3 none) B.pre
  have h2 : ∀ w ∈ gT, w.before ([.ref wr, .int o, .int dsh] : List Value).toArray s = true := fun w hw => hts0 w (List.mem_cons_of_mem _ hw)
  have hown : s.vm.findClass RX9 = some m.cls := findClass_of_methodNamed B.named
  have hl := lv_entry [.ref wr, .int o, .int dsh] (n := 3) (Nat.le_of_ble_eq_true rfl)
  rw [lg_entry_eq]
  generalize (lg_sl [.ref wr, .int o, .int dsh] ++ List.replicate (3 - (lg_sl [.ref wr, .int o, .int dsh]).length) Slot.unset).toArray = ls at hl ⊢
  have b_o := zn_i32 o
  have b_dsh := zn_i32 dsh
  have hD := zD_all h2 hKn.1
  have hcl8 := fun (idx k : Nat) (t : zt_T) (h : (idx, 8, k) ∈ gfX9) (hk : fsX9[k]? = some t) => zf_clause (ro := ro) (ms := [(8, 1), (16, 0)]) h2 hown hKn.1 gfX9_ok (by decide +kernel) idx 8 k 8 0 fsX9 t h rfl hk
  have kp0 : zc_kept D RTg ro [(8, 1), (16, 0)] s.heap s.heap := zc_kept.refl
  obtain ⟨wb, n, z, f0, r0, f1, hn, hc, hz⟩ := id hJ
  obtain ⟨n9, g9, n1, n2⟩ := zh_fT (k := 1) (t := (0, 0, 120)) hh hwr (show RTg[8]? = some (0, 8, 0, fsX9) from rfl) rfl
  cases f1.symm.trans g9
  dsimp only at n1 n2
  clear g9
  obtain ⟨-, z9, c9, hy9⟩ := zh_arr hh r0 (show RTg[16]? = some (1, 2, 120, [(0, (-128), 127)]) from rfl)
  have hy : ∀ i, i < 120 → zt_ok ro (z i) (0, (-128), 127) := zs_arr (hc.symm.trans c9) hy9
  refine lv_aload_n hx hb (eX9_putOrdinal (0, .aload_n 0, 1) (List.mem_of_getElem? (i := 0) rfl)) rfl (lv_at hl 0 rfl) ?_
  refine lv_iload_n hx hb (eX9_putOrdinal (1, .iload_n 2, 1) (List.mem_of_getElem? (i := 1) rfl)) rfl (lv_at hl 2 rfl) ?_
  refine tz_rowV (As := [.int dsh]) (st := []) (b := wr) (C := RX9) (Ts := gT) hx hb hml hown h2 (fun _ h => h) (hX9_putDash l D cA ro sz H0 wr dsh (O) hwr (by have hlO := hlen; (try simp only [List.length_append, dgL_len, List.length_cons, List.length_nil]); have hds := dsL_len dsh.toInt; omega)) ⟨rfl, rfl⟩ ⟨by decide, by decide⟩ ⟨by decide, by decide⟩ (tb_5 238 rfl rfl) (tb_1 6 rfl rfl) (tb_5 235 rfl rfl) (tb_5 236 rfl rfl) (tb_5 237 rfl rfl) (show yX9_putDash.cls ≠ "java/lang/invoke/MethodHandle" ∧ yX9_putDash.cls ≠ "java/lang/invoke/VarHandle" ∧ (parseMethodDescriptor yX9_putDash.desc).map (fun d => d.parameters.length) = some 1 by decide +kernel) zs_blind (zs_ob hh hwr (show RTg[8]? = some (0, 8, 0, fsX9) from rfl) (zCX9 hKn.1)) (fun U hU hW => ⟨rfl, by rw [hU]; exact hh.l0, zKb s U hW.alike hKn, by rw [hU]; exact hJ⟩) hh.2.2.1 hl.1 (Nat.le_of_ble_eq_true rfl) (eX9_putOrdinal (2, .invokevirtual 41, 3) (List.mem_of_getElem? (i := 2) rfl)) (fun r1 s1 t1 lo1 g1 f1 l1 => ?_)
  obtain ⟨q1, z1, c1, j1⟩ := f1
  cases q1
  rw [g1] at c1
  have hh1 : zh_ok D cA RTg ro sz H0 t1.heap lo1 := ⟨z1.1, z1.2.1, l1, z1.2.2.2⟩
  have kp1 := kp0.trans (c1.mono (ms' := [(8, 1), (16, 0)]) (by decide))
  refine W.eq (g2 := F0 m 5 ls []) rfl ?_
  refine lv_aload_n hx hb (eX9_putOrdinal (5, .aload_n 0, 1) (List.mem_of_getElem? (i := 3) rfl)) rfl (lv_at hl 0 rfl) ?_
  refine lv_iload_n hx hb (eX9_putOrdinal (6, .iload_n 1, 1) (List.mem_of_getElem? (i := 4) rfl)) rfl (lv_at hl 1 rfl) ?_
  refine ff_i2l hx hb (eX9_putOrdinal (7, .i2l, 1) (List.mem_of_getElem? (i := 5) rfl)) (fun v3 e3 => ?_)
  refine ff_iconst hx hb (eX9_putOrdinal (8, .iconst 3, 1) (List.mem_of_getElem? (i := 6) rfl)) (by decide) (by decide) (fun v4 e4 => ?_)
  refine tz_rowV (As := [.long v3, .int v4]) (st := []) (b := wr) (C := RX9) (Ts := gT) hx hb hml hown h2 (fun _ h => h) (hX9_putDigits l D cA ro sz H0 wr v3 v4 3 (O ++ dsL dsh.toInt) hwr (by omega) (by omega) (by have hlO := hlen; (try simp only [List.length_append, dgL_len, List.length_cons, List.length_nil]); have hds := dsL_len dsh.toInt; omega)) ⟨rfl, rfl⟩ ⟨by decide, by decide⟩ ⟨by decide, by decide⟩ (tb_5 221 rfl rfl) (tb_1 6 rfl rfl) (tb_5 218 rfl rfl) (tb_5 219 rfl rfl) (tb_5 220 rfl rfl) (show yX9_putDigits.cls ≠ "java/lang/invoke/MethodHandle" ∧ yX9_putDigits.cls ≠ "java/lang/invoke/VarHandle" ∧ (parseMethodDescriptor yX9_putDigits.desc).map (fun d => d.parameters.length) = some 2 by decide +kernel) zs_blind (zs_ob hh1 hwr (show RTg[8]? = some (0, 8, 0, fsX9) from rfl) (zCX9 hKn.1)) (fun U hU hW => ⟨rfl, by rw [hU]; exact hh1.l0, zKb s U hW.alike hKn, by rw [hU]; exact j1⟩) hh1.2.2.1 hl.1 (Nat.le_of_ble_eq_true rfl) (eX9_putOrdinal (9, .invokevirtual 27, 3) (List.mem_of_getElem? (i := 7) rfl)) (fun r5 s5 t5 lo5 g5 f5 l5 => ?_)
  obtain ⟨q5, z5, c5, j5⟩ := f5
  cases q5
  rw [g5] at c5
  have hh5 : zh_ok D cA RTg ro sz H0 t5.heap lo5 := ⟨z5.1, z5.2.1, l5, z5.2.2.2⟩
  have kp5 := kp1.trans (c5.mono (ms' := [(8, 1), (16, 0)]) (by decide))
  refine W.eq (g2 := F0 m 12 ls []) rfl ?_
  have hJ9 : jW D cA ro t5.heap wr (O ++ orL o.toInt dsh.toInt) := by
    have h9 := j5
    rw [show v3.toInt = o.toInt by omega] at h9
    unfold orL
    simpa only [List.append_assoc] using h9
  exact W.vret hx hb hr (fun t ht hW => ⟨rfl, by rw [ht]; exact hh5.l0, by rw [ht]; exact kp5, by rw [ht]; exact hJ9⟩) hh5.2.2.1 (eX9_putOrdinal (12, .return_, 1) (List.mem_of_getElem? (i := 8) rfl))
set_option maxRecDepth 100000 in
set_option maxHeartbeats 4000000 in
theorem hX9_putMonthAndDay (l : Launch) (D : va_G) (cA : Nat → ClassId) (ro : Nat → Option Nat) (sz : Nat) (H0 : Heap) (wr : Nat) (n0 : Int64) (dsh : Int32) (O : List Int) (hwr : ro wr = some 8) (hn1 : -365961662 ≤ n0.toInt) (hn2 : n0.toInt ≤ 364522971) (yy0 : Int) (mm0 : Int) (dd0 : Int) (hcv : cvP n0.toInt yy0 mm0 dd0) (hlen : O.length + 6 ≤ 120) : Met l yX9_putMonthAndDay (gW yX9_putMonthAndDay cX9_putMonthAndDay 4 none) { frames := 4, cells := 0, slots := 0, locals := 90 } (zs_PB D cA ro sz H0 (fun H => jW D cA ro H wr O) [.ref wr, .long n0, .int dsh]) (zs_app D cA ro sz H0 wr (O ++ mdL mm0 dd0 dsh.toInt)) 0 0 (zy_fr sz) := by
  refine zy_ofW (cc := cX9_putMonthAndDay) (maxL := 4) (ret := none) (by decide +kernel) rfl ?_
  intro p e s m args below meth c s1 B hml hv
  obtain ⟨rfl, hh, ⟨hKn, hBQ⟩, hJ⟩ := hv
  have hx := B.exec
  have hb := B.bytes
  have hr := B.returns
  have hlk := B.notSynchronized
  have hts0 := atoms_spec (ws := gW yX9_putMonthAndDay cX9_putMonthAndDay 4 none) B.pre
  have h2 : ∀ w ∈ gT, w.before ([.ref wr, .long n0, .int dsh] : List Value).toArray s = true := fun w hw => hts0 w (List.mem_cons_of_mem _ hw)
  have hown : s.vm.findClass RX9 = some m.cls := findClass_of_methodNamed B.named
  have hl := lv_entry [.ref wr, .long n0, .int dsh] (n := 4) (Nat.le_of_ble_eq_true rfl)
  rw [lg_entry_eq]
  generalize (lg_sl [.ref wr, .long n0, .int dsh] ++ List.replicate (4 - (lg_sl [.ref wr, .long n0, .int dsh]).length) Slot.unset).toArray = ls at hl ⊢
  have b_n0 := zn_i64 n0
  have b_dsh := zn_i32 dsh
  have hD := zD_all h2 hKn.1
  have hcl8 := fun (idx k : Nat) (t : zt_T) (h : (idx, 8, k) ∈ gfX9) (hk : fsX9[k]? = some t) => zf_clause (ro := ro) (ms := [(8, 1), (16, 0)]) h2 hown hKn.1 gfX9_ok (by decide +kernel) idx 8 k 8 0 fsX9 t h rfl hk
  have kp0 : zc_kept D RTg ro [(8, 1), (16, 0)] s.heap s.heap := zc_kept.refl
  obtain ⟨wb, n, z, f0, r0, f1, hn, hc, hz⟩ := id hJ
  obtain ⟨n9, g9, n1, n2⟩ := zh_fT (k := 1) (t := (0, 0, 120)) hh hwr (show RTg[8]? = some (0, 8, 0, fsX9) from rfl) rfl
  cases f1.symm.trans g9
  dsimp only at n1 n2
  clear g9
  obtain ⟨-, z9, c9, hy9⟩ := zh_arr hh r0 (show RTg[16]? = some (1, 2, 120, [(0, (-128), 127)]) from rfl)
  have hy : ∀ i, i < 120 → zt_ok ro (z i) (0, (-128), 127) := zs_arr (hc.symm.trans c9) hy9
  refine lv_aload_n hx hb (eX9_putMonthAndDay (0, .aload_n 0, 1) (List.mem_of_getElem? (i := 0) rfl)) rfl (lv_at hl 0 rfl) ?_
  refine lv_iload_n hx hb (eX9_putMonthAndDay (1, .iload_n 3, 1) (List.mem_of_getElem? (i := 1) rfl)) rfl (lv_at hl 2 rfl) ?_
  refine tz_rowV (As := [.int dsh]) (st := []) (b := wr) (C := RX9) (Ts := gT) hx hb hml hown h2 (fun _ h => h) (hX9_putDash l D cA ro sz H0 wr dsh (O) hwr (by have hlO := hlen; (try simp only [List.length_append, dgL_len, List.length_cons, List.length_nil]); have hds := dsL_len dsh.toInt; omega)) ⟨rfl, rfl⟩ ⟨by decide, by decide⟩ ⟨by decide, by decide⟩ (tb_5 238 rfl rfl) (tb_1 6 rfl rfl) (tb_5 235 rfl rfl) (tb_5 236 rfl rfl) (tb_5 237 rfl rfl) (show yX9_putDash.cls ≠ "java/lang/invoke/MethodHandle" ∧ yX9_putDash.cls ≠ "java/lang/invoke/VarHandle" ∧ (parseMethodDescriptor yX9_putDash.desc).map (fun d => d.parameters.length) = some 1 by decide +kernel) zs_blind (zs_ob hh hwr (show RTg[8]? = some (0, 8, 0, fsX9) from rfl) (zCX9 hKn.1)) (fun U hU hW => ⟨rfl, by rw [hU]; exact hh.l0, zKb s U hW.alike hKn, by rw [hU]; exact hJ⟩) hh.2.2.1 hl.1 (Nat.le_of_ble_eq_true rfl) (eX9_putMonthAndDay (2, .invokevirtual 41, 3) (List.mem_of_getElem? (i := 2) rfl)) (fun r1 s1 t1 lo1 g1 f1 l1 => ?_)
  obtain ⟨q1, z1, c1, j1⟩ := f1
  cases q1
  rw [g1] at c1
  have hh1 : zh_ok D cA RTg ro sz H0 t1.heap lo1 := ⟨z1.1, z1.2.1, l1, z1.2.2.2⟩
  have kp1 := kp0.trans (c1.mono (ms' := [(8, 1), (16, 0)]) (by decide))
  refine W.eq (g2 := F0 m 5 ls []) rfl ?_
  refine lv_aload_n hx hb (eX9_putMonthAndDay (5, .aload_n 0, 1) (List.mem_of_getElem? (i := 3) rfl)) rfl (lv_at hl 0 rfl) ?_
  refine lv_lload_n hx hb (eX9_putMonthAndDay (6, .lload_n 1, 1) (List.mem_of_getElem? (i := 4) rfl)) rfl (lv_at hl 1 rfl) ?_
  refine zu_S (vs := [.long n0]) (rest := [.ref wr]) hx hb hml hown hts0 zBM_B (hX2_monthOf l cA n0 (by omega) (by omega)) ⟨rfl, rfl⟩ ⟨by decide, by decide⟩ ⟨by decide, by decide⟩ (tb_2 222 rfl rfl) (tb_1 13 rfl rfl) (tb_6 9 rfl rfl) (tb_2 221 rfl rfl) (show yX2_monthOf.cls ≠ "java/lang/invoke/MethodHandle" ∧ yX2_monthOf.cls ≠ "java/lang/invoke/VarHandle" ∧ (parseMethodDescriptor yX2_monthOf.desc).map (fun d => d.parameters.length) = some 1 by decide +kernel) rfl (fun U hU hW => (hBQ.alike hW.alike).bm (D := D) (ro := ro) (by rw [hU]; exact hh1.l0)) hl.1 (Nat.le_of_ble_eq_true rfl) (eX9_putMonthAndDay (7, .invokestatic 45, 3) (List.mem_of_getElem? (i := 5) rfl)) (fun w3 f3 => ?_)
  obtain ⟨v3, rfl, e3⟩ := f3
  obtain ⟨hm1, hm2, ym, hiy, hmA, hmB⟩ := e3
  have hcm := cv_days hm1 hm2 hmA hmB
  refine ff_i2l hx hb (eX9_putMonthAndDay (10, .i2l, 1) (List.mem_of_getElem? (i := 6) rfl)) (fun v4 e4 => ?_)
  refine ff_iconst hx hb (eX9_putMonthAndDay (11, .iconst 2, 1) (List.mem_of_getElem? (i := 7) rfl)) (by decide) (by decide) (fun v5 e5 => ?_)
  refine tz_rowV (As := [.long v4, .int v5]) (st := []) (b := wr) (C := RX9) (Ts := gT) hx hb hml hown h2 (fun _ h => h) (hX9_putDigits l D cA ro sz H0 wr v4 v5 2 (O ++ dsL dsh.toInt) hwr (by omega) (by omega) (by have hlO := hlen; (try simp only [List.length_append, dgL_len, List.length_cons, List.length_nil]); have hds := dsL_len dsh.toInt; omega)) ⟨rfl, rfl⟩ ⟨by decide, by decide⟩ ⟨by decide, by decide⟩ (tb_5 221 rfl rfl) (tb_1 6 rfl rfl) (tb_5 218 rfl rfl) (tb_5 219 rfl rfl) (tb_5 220 rfl rfl) (show yX9_putDigits.cls ≠ "java/lang/invoke/MethodHandle" ∧ yX9_putDigits.cls ≠ "java/lang/invoke/VarHandle" ∧ (parseMethodDescriptor yX9_putDigits.desc).map (fun d => d.parameters.length) = some 2 by decide +kernel) zs_blind (zs_ob hh1 hwr (show RTg[8]? = some (0, 8, 0, fsX9) from rfl) (zCX9 hKn.1)) (fun U hU hW => ⟨rfl, by rw [hU]; exact hh1.l0, zKb s U hW.alike hKn, by rw [hU]; exact j1⟩) hh1.2.2.1 hl.1 (Nat.le_of_ble_eq_true rfl) (eX9_putMonthAndDay (12, .invokevirtual 27, 3) (List.mem_of_getElem? (i := 8) rfl)) (fun r6 s6 t6 lo6 g6 f6 l6 => ?_)
  obtain ⟨q6, z6, c6, j6⟩ := f6
  cases q6
  rw [g6] at c6
  have hh6 : zh_ok D cA RTg ro sz H0 t6.heap lo6 := ⟨z6.1, z6.2.1, l6, z6.2.2.2⟩
  have kp6 := kp1.trans (c6.mono (ms' := [(8, 1), (16, 0)]) (by decide))
  refine W.eq (g2 := F0 m 15 ls []) rfl ?_
  refine lv_aload_n hx hb (eX9_putMonthAndDay (15, .aload_n 0, 1) (List.mem_of_getElem? (i := 9) rfl)) rfl (lv_at hl 0 rfl) ?_
  refine lv_iload_n hx hb (eX9_putMonthAndDay (16, .iload_n 3, 1) (List.mem_of_getElem? (i := 10) rfl)) rfl (lv_at hl 2 rfl) ?_
  refine tz_rowV (As := [.int dsh]) (st := []) (b := wr) (C := RX9) (Ts := gT) hx hb hml hown h2 (fun _ h => h) (hX9_putDash l D cA ro sz H0 wr dsh (O ++ dsL dsh.toInt ++ dgL 2 v4.toInt) hwr (by have hlO := hlen; (try simp only [List.length_append, dgL_len, List.length_cons, List.length_nil]); have hds := dsL_len dsh.toInt; omega)) ⟨rfl, rfl⟩ ⟨by decide, by decide⟩ ⟨by decide, by decide⟩ (tb_5 238 rfl rfl) (tb_1 6 rfl rfl) (tb_5 235 rfl rfl) (tb_5 236 rfl rfl) (tb_5 237 rfl rfl) (show yX9_putDash.cls ≠ "java/lang/invoke/MethodHandle" ∧ yX9_putDash.cls ≠ "java/lang/invoke/VarHandle" ∧ (parseMethodDescriptor yX9_putDash.desc).map (fun d => d.parameters.length) = some 1 by decide +kernel) zs_blind (zs_ob hh6 hwr (show RTg[8]? = some (0, 8, 0, fsX9) from rfl) (zCX9 hKn.1)) (fun U hU hW => ⟨rfl, by rw [hU]; exact hh6.l0, zKb s U hW.alike hKn, by rw [hU]; exact j6⟩) hh6.2.2.1 hl.1 (Nat.le_of_ble_eq_true rfl) (eX9_putMonthAndDay (17, .invokevirtual 41, 3) (List.mem_of_getElem? (i := 11) rfl)) (fun r7 s7 t7 lo7 g7 f7 l7 => ?_)
  obtain ⟨q7, z7, c7, j7⟩ := f7
  cases q7
  rw [g7] at c7
  have hh7 : zh_ok D cA RTg ro sz H0 t7.heap lo7 := ⟨z7.1, z7.2.1, l7, z7.2.2.2⟩
  have kp7 := kp6.trans (c7.mono (ms' := [(8, 1), (16, 0)]) (by decide))
  refine W.eq (g2 := F0 m 20 ls []) rfl ?_
  refine lv_aload_n hx hb (eX9_putMonthAndDay (20, .aload_n 0, 1) (List.mem_of_getElem? (i := 12) rfl)) rfl (lv_at hl 0 rfl) ?_
  refine lv_lload_n hx hb (eX9_putMonthAndDay (21, .lload_n 1, 1) (List.mem_of_getElem? (i := 13) rfl)) rfl (lv_at hl 1 rfl) ?_
  refine zu_S (vs := [.long n0]) (rest := [.ref wr]) hx hb hml hown hts0 zBM_B (hX2_dayOfMonth l cA n0 (by omega) (by omega)) ⟨rfl, rfl⟩ ⟨by decide, by decide⟩ ⟨by decide, by decide⟩ (tb_2 227 rfl rfl) (tb_1 13 rfl rfl) (tb_6 10 rfl rfl) (tb_2 226 rfl rfl) (show yX2_dayOfMonth.cls ≠ "java/lang/invoke/MethodHandle" ∧ yX2_dayOfMonth.cls ≠ "java/lang/invoke/VarHandle" ∧ (parseMethodDescriptor yX2_dayOfMonth.desc).map (fun d => d.parameters.length) = some 1 by decide +kernel) rfl (fun U hU hW => (hBQ.alike hW.alike).bm (D := D) (ro := ro) (by rw [hU]; exact hh7.l0)) hl.1 (Nat.le_of_ble_eq_true rfl) (eX9_putMonthAndDay (22, .invokestatic 51, 3) (List.mem_of_getElem? (i := 14) rfl)) (fun w9 f9 => ?_)
  obtain ⟨v9, rfl, e9⟩ := f9
  obtain ⟨yd, md, hcd⟩ := e9
  have hd1 := hcd.2.2.1
  refine ff_i2l hx hb (eX9_putMonthAndDay (25, .i2l, 1) (List.mem_of_getElem? (i := 15) rfl)) (fun v10 e10 => ?_)
  refine ff_iconst hx hb (eX9_putMonthAndDay (26, .iconst 2, 1) (List.mem_of_getElem? (i := 16) rfl)) (by decide) (by decide) (fun v11 e11 => ?_)
  refine tz_rowV (As := [.long v10, .int v11]) (st := []) (b := wr) (C := RX9) (Ts := gT) hx hb hml hown h2 (fun _ h => h) (hX9_putDigits l D cA ro sz H0 wr v10 v11 2 (O ++ dsL dsh.toInt ++ dgL 2 v4.toInt ++ dsL dsh.toInt) hwr (by omega) (by omega) (by have hlO := hlen; (try simp only [List.length_append, dgL_len, List.length_cons, List.length_nil]); have hds := dsL_len dsh.toInt; omega)) ⟨rfl, rfl⟩ ⟨by decide, by decide⟩ ⟨by decide, by decide⟩ (tb_5 221 rfl rfl) (tb_1 6 rfl rfl) (tb_5 218 rfl rfl) (tb_5 219 rfl rfl) (tb_5 220 rfl rfl) (show yX9_putDigits.cls ≠ "java/lang/invoke/MethodHandle" ∧ yX9_putDigits.cls ≠ "java/lang/invoke/VarHandle" ∧ (parseMethodDescriptor yX9_putDigits.desc).map (fun d => d.parameters.length) = some 2 by decide +kernel) zs_blind (zs_ob hh7 hwr (show RTg[8]? = some (0, 8, 0, fsX9) from rfl) (zCX9 hKn.1)) (fun U hU hW => ⟨rfl, by rw [hU]; exact hh7.l0, zKb s U hW.alike hKn, by rw [hU]; exact j7⟩) hh7.2.2.1 hl.1 (Nat.le_of_ble_eq_true rfl) (eX9_putMonthAndDay (27, .invokevirtual 27, 3) (List.mem_of_getElem? (i := 17) rfl)) (fun r12 s12 t12 lo12 g12 f12 l12 => ?_)
  obtain ⟨q12, z12, c12, j12⟩ := f12
  cases q12
  rw [g12] at c12
  have hh12 : zh_ok D cA RTg ro sz H0 t12.heap lo12 := ⟨z12.1, z12.2.1, l12, z12.2.2.2⟩
  have kp12 := kp7.trans (c12.mono (ms' := [(8, 1), (16, 0)]) (by decide))
  refine W.eq (g2 := F0 m 30 ls []) rfl ?_
  have hJ9 : jW D cA ro t12.heap wr (O ++ mdL mm0 dd0 dsh.toInt) := by
    have h9 := j12
    obtain ⟨hu1, hu2, -⟩ := cvP_one hcv hcm
    obtain ⟨-, -, hu3⟩ := cvP_one hcv hcd
    rw [show v4.toInt = mm0 by omega, show v10.toInt = dd0 by omega] at h9
    unfold mdL
    simpa only [List.append_assoc] using h9
  exact W.vret hx hb hr (fun t ht hW => ⟨rfl, by rw [ht]; exact hh12.l0, by rw [ht]; exact kp12, by rw [ht]; exact hJ9⟩) hh12.2.2.1 (eX9_putMonthAndDay (30, .return_, 1) (List.mem_of_getElem? (i := 18) rfl))
set_option maxRecDepth 100000 in
set_option maxHeartbeats 4000000 in
theorem hX9_putWeek (l : Launch) (D : va_G) (cA : Nat → ClassId) (ro : Nat → Option Nat) (sz : Nat) (H0 : Heap) (wr : Nat) (n0 : Int64) (dsh : Int32) (O : List Int) (hwr : ro wr = some 8) (hn1 : -365961662 ≤ n0.toInt) (hn2 : n0.toInt ≤ 364522971) (w0 : Int) (hiy0 : isY (thI n0.toInt) w0) (hlen : O.length + 6 ≤ 120) : Met l yX9_putWeek (gW yX9_putWeek cX9_putWeek 4 none) { frames := 3, cells := 0, slots := 0, locals := 67 } (zs_P D cA ro sz H0 (fun H => jW D cA ro H wr O) [.ref wr, .long n0, .int dsh]) (zs_app D cA ro sz H0 wr (O ++ wkL ((thI n0.toInt - ysI w0) / 7 + 1) ((n0.toInt + 3) % 7 + 1) dsh.toInt)) 0 0 (zy_fr sz) := by
  refine zy_ofW (cc := cX9_putWeek) (maxL := 4) (ret := none) (by decide +kernel) rfl ?_
  intro p e s m args below meth c s1 B hml hv
  obtain ⟨rfl, hh, hKn, hJ⟩ := hv
  have hx := B.exec
  have hb := B.bytes
  have hr := B.returns
  have hlk := B.notSynchronized
  have hts0 := atoms_spec (ws := gW yX9_putWeek cX9_putWeek 4 none) B.pre
  have h2 : ∀ w ∈ gT, w.before ([.ref wr, .long n0, .int dsh] : List Value).toArray s = true := fun w hw => hts0 w (List.mem_cons_of_mem _ hw)
  have hown : s.vm.findClass RX9 = some m.cls := findClass_of_methodNamed B.named
  have hl := lv_entry [.ref wr, .long n0, .int dsh] (n := 4) (Nat.le_of_ble_eq_true rfl)
  rw [lg_entry_eq]
  generalize (lg_sl [.ref wr, .long n0, .int dsh] ++ List.replicate (4 - (lg_sl [.ref wr, .long n0, .int dsh]).length) Slot.unset).toArray = ls at hl ⊢
  have b_n0 := zn_i64 n0
  have b_dsh := zn_i32 dsh
  have hD := zD_all h2 hKn.1
  have hcl8 := fun (idx k : Nat) (t : zt_T) (h : (idx, 8, k) ∈ gfX9) (hk : fsX9[k]? = some t) => zf_clause (ro := ro) (ms := [(8, 1), (16, 0)]) h2 hown hKn.1 gfX9_ok (by decide +kernel) idx 8 k 8 0 fsX9 t h rfl hk
  have kp0 : zc_kept D RTg ro [(8, 1), (16, 0)] s.heap s.heap := zc_kept.refl
  obtain ⟨wb, n, z, f0, r0, f1, hn, hc, hz⟩ := id hJ
  obtain ⟨n9, g9, n1, n2⟩ := zh_fT (k := 1) (t := (0, 0, 120)) hh hwr (show RTg[8]? = some (0, 8, 0, fsX9) from rfl) rfl
  cases f1.symm.trans g9
  dsimp only at n1 n2
  clear g9
  obtain ⟨-, z9, c9, hy9⟩ := zh_arr hh r0 (show RTg[16]? = some (1, 2, 120, [(0, (-128), 127)]) from rfl)
  have hy : ∀ i, i < 120 → zt_ok ro (z i) (0, (-128), 127) := zs_arr (hc.symm.trans c9) hy9
  refine lv_aload_n hx hb (eX9_putWeek (0, .aload_n 0, 1) (List.mem_of_getElem? (i := 0) rfl)) rfl (lv_at hl 0 rfl) ?_
  refine lv_iload_n hx hb (eX9_putWeek (1, .iload_n 3, 1) (List.mem_of_getElem? (i := 1) rfl)) rfl (lv_at hl 2 rfl) ?_
  refine tz_rowV (As := [.int dsh]) (st := []) (b := wr) (C := RX9) (Ts := gT) hx hb hml hown h2 (fun _ h => h) (hX9_putDash l D cA ro sz H0 wr dsh (O) hwr (by have hlO := hlen; (try simp only [List.length_append, dgL_len, List.length_cons, List.length_nil]); have hds := dsL_len dsh.toInt; omega)) ⟨rfl, rfl⟩ ⟨by decide, by decide⟩ ⟨by decide, by decide⟩ (tb_5 238 rfl rfl) (tb_1 6 rfl rfl) (tb_5 235 rfl rfl) (tb_5 236 rfl rfl) (tb_5 237 rfl rfl) (show yX9_putDash.cls ≠ "java/lang/invoke/MethodHandle" ∧ yX9_putDash.cls ≠ "java/lang/invoke/VarHandle" ∧ (parseMethodDescriptor yX9_putDash.desc).map (fun d => d.parameters.length) = some 1 by decide +kernel) zs_blind (zs_ob hh hwr (show RTg[8]? = some (0, 8, 0, fsX9) from rfl) (zCX9 hKn.1)) (fun U hU hW => ⟨rfl, by rw [hU]; exact hh.l0, zKb s U hW.alike hKn, by rw [hU]; exact hJ⟩) hh.2.2.1 hl.1 (Nat.le_of_ble_eq_true rfl) (eX9_putWeek (2, .invokevirtual 41, 3) (List.mem_of_getElem? (i := 2) rfl)) (fun r1 s1 t1 lo1 g1 f1 l1 => ?_)
  obtain ⟨q1, z1, c1, j1⟩ := f1
  cases q1
  rw [g1] at c1
  have hh1 : zh_ok D cA RTg ro sz H0 t1.heap lo1 := ⟨z1.1, z1.2.1, l1, z1.2.2.2⟩
  have kp1 := kp0.trans (c1.mono (ms' := [(8, 1), (16, 0)]) (by decide))
  refine W.eq (g2 := F0 m 5 ls []) rfl ?_
  refine lv_aload_n hx hb (eX9_putWeek (5, .aload_n 0, 1) (List.mem_of_getElem? (i := 3) rfl)) rfl (lv_at hl 0 rfl) ?_
  refine ff_bipush hx hb (eX9_putWeek (6, .bipush 87, 2) (List.mem_of_getElem? (i := 4) rfl)) (by decide) (by decide) (fun v3 e3 => ?_)
  refine tz_rowV (As := [.int v3]) (st := []) (b := wr) (C := RX9) (Ts := gT) hx hb hml hown h2 (fun _ h => h) (hX9_put l D cA ro sz H0 wr v3 (O ++ dsL dsh.toInt) hwr (by omega) (by omega) (by have hlO := hlen; (try simp only [List.length_append, dgL_len, List.length_cons, List.length_nil]); have hds := dsL_len dsh.toInt; omega)) ⟨rfl, rfl⟩ ⟨by decide, by decide⟩ ⟨by decide, by decide⟩ (tb_5 227 rfl rfl) (tb_1 6 rfl rfl) (tb_5 224 rfl rfl) (tb_5 225 rfl rfl) (tb_5 226 rfl rfl) (show yX9_put.cls ≠ "java/lang/invoke/MethodHandle" ∧ yX9_put.cls ≠ "java/lang/invoke/VarHandle" ∧ (parseMethodDescriptor yX9_put.desc).map (fun d => d.parameters.length) = some 1 by decide +kernel) zs_blind (zs_ob hh1 hwr (show RTg[8]? = some (0, 8, 0, fsX9) from rfl) (zCX9 hKn.1)) (fun U hU hW => ⟨rfl, by rw [hU]; exact hh1.l0, zKb s U hW.alike hKn, by rw [hU]; exact j1⟩) hh1.2.2.1 hl.1 (Nat.le_of_ble_eq_true rfl) (eX9_putWeek (8, .invokevirtual 19, 3) (List.mem_of_getElem? (i := 5) rfl)) (fun r4 s4 t4 lo4 g4 f4 l4 => ?_)
  obtain ⟨q4, z4, c4, j4⟩ := f4
  cases q4
  rw [g4] at c4
  have hh4 : zh_ok D cA RTg ro sz H0 t4.heap lo4 := ⟨z4.1, z4.2.1, l4, z4.2.2.2⟩
  have kp4 := kp1.trans (c4.mono (ms' := [(8, 1), (16, 0)]) (by decide))
  refine W.eq (g2 := F0 m 11 ls []) rfl ?_
  refine lv_aload_n hx hb (eX9_putWeek (11, .aload_n 0, 1) (List.mem_of_getElem? (i := 6) rfl)) rfl (lv_at hl 0 rfl) ?_
  refine lv_lload_n hx hb (eX9_putWeek (12, .lload_n 1, 1) (List.mem_of_getElem? (i := 7) rfl)) rfl (lv_at hl 1 rfl) ?_
  refine zu_S (vs := [.long n0]) (rest := [.ref wr]) hx hb hml hown hts0 zu_BT (hX2_weekOf l n0 (by omega) (by omega)) ⟨rfl, rfl⟩ ⟨by decide, by decide⟩ ⟨by decide, by decide⟩ (tb_3 4 rfl rfl) (tb_1 13 rfl rfl) (tb_5 239 rfl rfl) (tb_3 3 rfl rfl) (show yX2_weekOf.cls ≠ "java/lang/invoke/MethodHandle" ∧ yX2_weekOf.cls ≠ "java/lang/invoke/VarHandle" ∧ (parseMethodDescriptor yX2_weekOf.desc).map (fun d => d.parameters.length) = some 1 by decide +kernel) rfl (fun _ _ _ => trivial) hl.1 (Nat.le_of_ble_eq_true rfl) (eX9_putWeek (13, .invokestatic 54, 3) (List.mem_of_getElem? (i := 8) rfl)) (fun w5 f5 => ?_)
  obtain ⟨v5, rfl, e5⟩ := f5
  obtain ⟨ww, hiw, hrw⟩ := e5
  cases isY_one hiw hiy0
  have hwr9 := wk_ref hiw
  refine ff_i2l hx hb (eX9_putWeek (16, .i2l, 1) (List.mem_of_getElem? (i := 9) rfl)) (fun v6 e6 => ?_)
  refine ff_iconst hx hb (eX9_putWeek (17, .iconst 2, 1) (List.mem_of_getElem? (i := 10) rfl)) (by decide) (by decide) (fun v7 e7 => ?_)
  refine tz_rowV (As := [.long v6, .int v7]) (st := []) (b := wr) (C := RX9) (Ts := gT) hx hb hml hown h2 (fun _ h => h) (hX9_putDigits l D cA ro sz H0 wr v6 v7 2 (O ++ dsL dsh.toInt ++ [v3.toInt]) hwr (by omega) (by omega) (by have hlO := hlen; (try simp only [List.length_append, dgL_len, List.length_cons, List.length_nil]); have hds := dsL_len dsh.toInt; omega)) ⟨rfl, rfl⟩ ⟨by decide, by decide⟩ ⟨by decide, by decide⟩ (tb_5 221 rfl rfl) (tb_1 6 rfl rfl) (tb_5 218 rfl rfl) (tb_5 219 rfl rfl) (tb_5 220 rfl rfl) (show yX9_putDigits.cls ≠ "java/lang/invoke/MethodHandle" ∧ yX9_putDigits.cls ≠ "java/lang/invoke/VarHandle" ∧ (parseMethodDescriptor yX9_putDigits.desc).map (fun d => d.parameters.length) = some 2 by decide +kernel) zs_blind (zs_ob hh4 hwr (show RTg[8]? = some (0, 8, 0, fsX9) from rfl) (zCX9 hKn.1)) (fun U hU hW => ⟨rfl, by rw [hU]; exact hh4.l0, zKb s U hW.alike hKn, by rw [hU]; exact j4⟩) hh4.2.2.1 hl.1 (Nat.le_of_ble_eq_true rfl) (eX9_putWeek (18, .invokevirtual 27, 3) (List.mem_of_getElem? (i := 11) rfl)) (fun r8 s8 t8 lo8 g8 f8 l8 => ?_)
  obtain ⟨q8, z8, c8, j8⟩ := f8
  cases q8
  rw [g8] at c8
  have hh8 : zh_ok D cA RTg ro sz H0 t8.heap lo8 := ⟨z8.1, z8.2.1, l8, z8.2.2.2⟩
  have kp8 := kp4.trans (c8.mono (ms' := [(8, 1), (16, 0)]) (by decide))
  refine W.eq (g2 := F0 m 21 ls []) rfl ?_
  refine lv_aload_n hx hb (eX9_putWeek (21, .aload_n 0, 1) (List.mem_of_getElem? (i := 12) rfl)) rfl (lv_at hl 0 rfl) ?_
  refine lv_iload_n hx hb (eX9_putWeek (22, .iload_n 3, 1) (List.mem_of_getElem? (i := 13) rfl)) rfl (lv_at hl 2 rfl) ?_
  refine tz_rowV (As := [.int dsh]) (st := []) (b := wr) (C := RX9) (Ts := gT) hx hb hml hown h2 (fun _ h => h) (hX9_putDash l D cA ro sz H0 wr dsh (O ++ dsL dsh.toInt ++ [v3.toInt] ++ dgL 2 v6.toInt) hwr (by have hlO := hlen; (try simp only [List.length_append, dgL_len, List.length_cons, List.length_nil]); have hds := dsL_len dsh.toInt; omega)) ⟨rfl, rfl⟩ ⟨by decide, by decide⟩ ⟨by decide, by decide⟩ (tb_5 238 rfl rfl) (tb_1 6 rfl rfl) (tb_5 235 rfl rfl) (tb_5 236 rfl rfl) (tb_5 237 rfl rfl) (show yX9_putDash.cls ≠ "java/lang/invoke/MethodHandle" ∧ yX9_putDash.cls ≠ "java/lang/invoke/VarHandle" ∧ (parseMethodDescriptor yX9_putDash.desc).map (fun d => d.parameters.length) = some 1 by decide +kernel) zs_blind (zs_ob hh8 hwr (show RTg[8]? = some (0, 8, 0, fsX9) from rfl) (zCX9 hKn.1)) (fun U hU hW => ⟨rfl, by rw [hU]; exact hh8.l0, zKb s U hW.alike hKn, by rw [hU]; exact j8⟩) hh8.2.2.1 hl.1 (Nat.le_of_ble_eq_true rfl) (eX9_putWeek (23, .invokevirtual 41, 3) (List.mem_of_getElem? (i := 14) rfl)) (fun r9 s9 t9 lo9 g9 f9 l9 => ?_)
  obtain ⟨q9, z9, c9, j9⟩ := f9
  cases q9
  rw [g9] at c9
  have hh9 : zh_ok D cA RTg ro sz H0 t9.heap lo9 := ⟨z9.1, z9.2.1, l9, z9.2.2.2⟩
  have kp9 := kp8.trans (c9.mono (ms' := [(8, 1), (16, 0)]) (by decide))
  refine W.eq (g2 := F0 m 26 ls []) rfl ?_
  refine lv_aload_n hx hb (eX9_putWeek (26, .aload_n 0, 1) (List.mem_of_getElem? (i := 15) rfl)) rfl (lv_at hl 0 rfl) ?_
  refine lv_lload_n hx hb (eX9_putWeek (27, .lload_n 1, 1) (List.mem_of_getElem? (i := 16) rfl)) rfl (lv_at hl 1 rfl) ?_
  refine zu_S (vs := [.long n0]) (rest := [.ref wr]) hx hb hml hown hts0 zu_BT (hX2_weekdayOf l n0 (by omega) (by omega)) ⟨rfl, rfl⟩ ⟨by decide, by decide⟩ ⟨by decide, by decide⟩ (tb_2 231 rfl rfl) (tb_1 13 rfl rfl) (tb_6 0 rfl rfl) (tb_2 230 rfl rfl) (show yX2_weekdayOf.cls ≠ "java/lang/invoke/MethodHandle" ∧ yX2_weekdayOf.cls ≠ "java/lang/invoke/VarHandle" ∧ (parseMethodDescriptor yX2_weekdayOf.desc).map (fun d => d.parameters.length) = some 1 by decide +kernel) rfl (fun _ _ _ => trivial) hl.1 (Nat.le_of_ble_eq_true rfl) (eX9_putWeek (28, .invokestatic 57, 3) (List.mem_of_getElem? (i := 17) rfl)) (fun w11 f11 => ?_)
  obtain ⟨v11, rfl, e11⟩ := f11
  refine ff_i2l hx hb (eX9_putWeek (31, .i2l, 1) (List.mem_of_getElem? (i := 18) rfl)) (fun v12 e12 => ?_)
  refine ff_iconst hx hb (eX9_putWeek (32, .iconst 1, 1) (List.mem_of_getElem? (i := 19) rfl)) (by decide) (by decide) (fun v13 e13 => ?_)
  refine tz_rowV (As := [.long v12, .int v13]) (st := []) (b := wr) (C := RX9) (Ts := gT) hx hb hml hown h2 (fun _ h => h) (hX9_putDigits l D cA ro sz H0 wr v12 v13 1 (O ++ dsL dsh.toInt ++ [v3.toInt] ++ dgL 2 v6.toInt ++ dsL dsh.toInt) hwr (by omega) (by omega) (by have hlO := hlen; (try simp only [List.length_append, dgL_len, List.length_cons, List.length_nil]); have hds := dsL_len dsh.toInt; omega)) ⟨rfl, rfl⟩ ⟨by decide, by decide⟩ ⟨by decide, by decide⟩ (tb_5 221 rfl rfl) (tb_1 6 rfl rfl) (tb_5 218 rfl rfl) (tb_5 219 rfl rfl) (tb_5 220 rfl rfl) (show yX9_putDigits.cls ≠ "java/lang/invoke/MethodHandle" ∧ yX9_putDigits.cls ≠ "java/lang/invoke/VarHandle" ∧ (parseMethodDescriptor yX9_putDigits.desc).map (fun d => d.parameters.length) = some 2 by decide +kernel) zs_blind (zs_ob hh9 hwr (show RTg[8]? = some (0, 8, 0, fsX9) from rfl) (zCX9 hKn.1)) (fun U hU hW => ⟨rfl, by rw [hU]; exact hh9.l0, zKb s U hW.alike hKn, by rw [hU]; exact j9⟩) hh9.2.2.1 hl.1 (Nat.le_of_ble_eq_true rfl) (eX9_putWeek (33, .invokevirtual 27, 3) (List.mem_of_getElem? (i := 20) rfl)) (fun r14 s14 t14 lo14 g14 f14 l14 => ?_)
  obtain ⟨q14, z14, c14, j14⟩ := f14
  cases q14
  rw [g14] at c14
  have hh14 : zh_ok D cA RTg ro sz H0 t14.heap lo14 := ⟨z14.1, z14.2.1, l14, z14.2.2.2⟩
  have kp14 := kp9.trans (c14.mono (ms' := [(8, 1), (16, 0)]) (by decide))
  refine W.eq (g2 := F0 m 36 ls []) rfl ?_
  have hJ9 : jW D cA ro t14.heap wr (O ++ wkL ((thI n0.toInt - ysI w0) / 7 + 1) ((n0.toInt + 3) % 7 + 1) dsh.toInt) := by
    have h9 := j14
    rw [show v3.toInt = 87 by omega] at h9
    rw [show v6.toInt = ((thI n0.toInt - ysI w0) / 7 + 1) by omega] at h9
    rw [show v12.toInt = ((n0.toInt + 3) % 7 + 1) by omega] at h9
    unfold wkL
    simpa only [List.append_assoc] using h9
  exact W.vret hx hb hr (fun t ht hW => ⟨rfl, by rw [ht]; exact hh14.l0, by rw [ht]; exact kp14, by rw [ht]; exact hJ9⟩) hh14.2.2.1 (eX9_putWeek (36, .return_, 1) (List.mem_of_getElem? (i := 21) rfl))
