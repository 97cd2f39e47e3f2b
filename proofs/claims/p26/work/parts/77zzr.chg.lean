set_option maxRecDepth 100000 in
set_option maxHeartbeats 4000000 in
theorem hJ9_maxL (l : Launch) (x : Int64) (y : Int64)  : zu_M l yJ9_max_f86c9 (gW yJ9_max_f86c9 cJ9_max_f86c9 4 (some .long)) { frames := 0, cells := 0, slots := 0, locals := 0 } (fun vs => vs = [.long x, .long y]) zT (fun _ w => ∃ r : Int64, w = .long r ∧ ((y.toInt ≤ x.toInt ∧ r.toInt = x.toInt) ∨ (x.toInt < y.toInt ∧ r.toInt = y.toInt))) := by
  refine zy_ofW (cc := cJ9_max_f86c9) (maxL := 4) (ret := (some .long)) (by decide +kernel) rfl ?_
  intro p e s m args below meth c s1 B hml hv
  obtain ⟨vs, rfl, rfl, hKp⟩ := hv
  have hx := B.exec
  have hb := B.bytes
  have hr := B.returns
  have hlk := B.notSynchronized
  have hts0 := atoms_spec (ws := gW yJ9_max_f86c9 cJ9_max_f86c9 4 (some .long)) B.pre
  have h2 : ∀ w ∈ gT, w.before ([.long x, .long y] : List Value).toArray s = true := fun w hw => hts0 w (List.mem_cons_of_mem _ hw)
  have hown : s.vm.findClass RJ9 = some m.cls := findClass_of_methodNamed B.named
  have hl := lv_entry [.long x, .long y] (n := 4) (Nat.le_of_ble_eq_true rfl)
  rw [lg_entry_eq]
  generalize (lg_sl [.long x, .long y] ++ List.replicate (4 - (lg_sl [.long x, .long y]).length) Slot.unset).toArray = ls at hl ⊢
  have b_x := zn_i64 x
  have b_y := zn_i64 y
  refine lv_lload_n hx hb (eJ9_max_f86c9 (0, .lload_n 0, 1) (List.mem_of_getElem? (i := 0) rfl)) rfl (lv_at hl 0 rfl) ?_
  refine lv_lload_n hx hb (eJ9_max_f86c9 (1, .lload_n 2, 1) (List.mem_of_getElem? (i := 1) rfl)) rfl (lv_at hl 1 rfl) ?_
  refine ff_lcmp hx hb (eJ9_max_f86c9 (2, .lcmp, 1) (List.mem_of_getElem? (i := 2) rfl)) (fun v1 e1 => ?_)
  refine ff_if_lt hx hb (eJ9_max_f86c9 (3, .ifCond .lt 7, 3) (List.mem_of_getElem? (i := 3) rfl)) (tgt := 10) rfl (fun c2 => ?_) (fun c2 => ?_)
  · skip
    refine lv_lload_n hx hb (eJ9_max_f86c9 (10, .lload_n 2, 1) (List.mem_of_getElem? (i := 6) rfl)) rfl (lv_at hl 1 rfl) ?_
    exact zu_lret (y := yJ9_max_f86c9) (ws := []) (rm := {}) hx hb hr hlk ⟨_, rfl, by omega⟩ (eJ9_max_f86c9 (11, .lreturn, 1) (List.mem_of_getElem? (i := 7) rfl))
  · skip
    refine lv_lload_n hx hb (eJ9_max_f86c9 (6, .lload_n 0, 1) (List.mem_of_getElem? (i := 4) rfl)) rfl (lv_at hl 0 rfl) ?_
    refine lv_goto hx hb (eJ9_max_f86c9 (7, .goto 4, 3) (List.mem_of_getElem? (i := 5) rfl)) (tgt := 11) rfl ?_
    exact zu_lret (y := yJ9_max_f86c9) (ws := []) (rm := {}) hx hb hr hlk ⟨_, rfl, by omega⟩ (eJ9_max_f86c9 (11, .lreturn, 1) (List.mem_of_getElem? (i := 7) rfl))
set_option maxRecDepth 100000 in
set_option maxHeartbeats 4000000 in
theorem hX6_edgeOf (l : Launch) (D : va_G) (cA : Nat → ClassId) (ro : Nat → Option Nat) (sz : Nat) (H0 : Heap) (ru : Nat) (e0 : Int32) (rF rT : Nat) (rr : rU) (y0 : Int) (k0 : Nat) (hru : ro ru = some 5) (he0 : e0.toInt = (k0 : Int)) : Met l yX6_edgeOf (gW yX6_edgeOf cX6_edgeOf 2 (some .long)) { frames := 1, cells := 0, slots := 0, locals := 23 } (zs_P D cA ro sz H0 (fun H => jRo D ro H ru rF rT rr ∧ jAt D H ru y0) [.ref ru, .int e0]) (fun _ st oc t => t.heap = st.heap ∧ ∃ r : Int64, oc = .returned (some (.long r)) ∧ r.toInt = egF rr y0 k0) 0 0 (zy_fr sz) := by
  refine zy_ofW (cc := cX6_edgeOf) (maxL := 2) (ret := (some .long)) (by decide +kernel) rfl ?_
  intro p e s m args below meth c s1 B hml hv
  obtain ⟨rfl, hh, hKn, hJ⟩ := hv
  have hx := B.exec
  have hb := B.bytes
  have hr := B.returns
  have hlk := B.notSynchronized
  have hts0 := atoms_spec (ws := gW yX6_edgeOf cX6_edgeOf 2 (some .long)) B.pre
  have h2 : ∀ w ∈ gT, w.before ([.ref ru, .int e0] : List Value).toArray s = true := fun w hw => hts0 w (List.mem_cons_of_mem _ hw)
  have hown : s.vm.findClass RX6 = some m.cls := findClass_of_methodNamed B.named
  have hl := lv_entry [.ref ru, .int e0] (n := 2) (Nat.le_of_ble_eq_true rfl)
  rw [lg_entry_eq]
  generalize (lg_sl [.ref ru, .int e0] ++ List.replicate (2 - (lg_sl [.ref ru, .int e0]).length) Slot.unset).toArray = ls at hl ⊢
  have b_e0 := zn_i32 e0
  have hD := zD_all h2 hKn.1
  have hcl5 := fun (idx k : Nat) (t : zt_T) (h : (idx, 5, k) ∈ gfX6) (hk : fsX6[k]? = some t) => zf_clause (ro := ro) (ms := []) h2 hown hKn.1 gfX6_ok (by decide +kernel) idx 5 k 5 0 fsX6 t h rfl hk
  have kp0 : zc_kept D RTg ro [] s.heap s.heap := zc_kept.refl
  obtain ⟨⟨-, r6F, r6T, ⟨hF3, hF4, nn, a1, b1, f0, f1, f2, hnn, ha1, hb1⟩, ⟨tn, yv, ca, cb, cv, cd, f5, f6, f7, f8, f9, f10, hcc⟩, hw⟩, tn9, yv9, g5, g6, ht1, hy1⟩ := id hJ
  cases f5.symm.trans g5
  cases f6.symm.trans g6
  have hc1 : rr.1 = 2 ∧ ccR rr yv.toInt ca.toInt cb.toInt cv.toInt cd.toInt := by rcases hcc with h | h; exfalso; omega; exact h.2
  obtain ⟨hr2, hc2, hc3, hc4, hc5⟩ := hc1
  rw [hy1] at hc2 hc4 hc5
  refine lv_iload_n hx hb (eX6_edgeOf (0, .iload_n 1, 1) (List.mem_of_getElem? (i := 0) rfl)) rfl (lv_at hl 1 rfl) ?_
  refine ff_if_ne hx hb (eX6_edgeOf (1, .ifCond .ne 8, 3) (List.mem_of_getElem? (i := 1) rfl)) (tgt := 9) rfl (fun c1 => ?_) (fun c1 => ?_)
  · skip
    refine lv_iload_n hx hb (eX6_edgeOf (9, .iload_n 1, 1) (List.mem_of_getElem? (i := 5) rfl)) rfl (lv_at hl 1 rfl) ?_
    refine ff_iconst hx hb (eX6_edgeOf (10, .iconst 1, 1) (List.mem_of_getElem? (i := 6) rfl)) (by decide) (by decide) (fun v2 e2 => ?_)
    refine ff_icmp_ne hx hb (eX6_edgeOf (11, .if_icmp .ne 17, 3) (List.mem_of_getElem? (i := 7) rfl)) (tgt := 28) rfl (fun c3 => ?_) (fun c3 => ?_)
    · skip
      refine lv_aload_n hx hb (eX6_edgeOf (28, .aload_n 0, 1) (List.mem_of_getElem? (i := 14) rfl)) rfl (lv_at hl 0 rfl) ?_
      refine tz_get (r := 5) (k := 9) (t := (1, (-9223372036854775808), 9223372036854775807)) hx hb hh hru rfl rfl (hcl5 45 9 (1, (-9223372036854775808), 9223372036854775807) (by decide) rfl).1 f9 (eX6_edgeOf (29, .getfield 45, 3) (List.mem_of_getElem? (i := 15) rfl)) ?_
      refine lv_aload_n hx hb (eX6_edgeOf (32, .aload_n 0, 1) (List.mem_of_getElem? (i := 16) rfl)) rfl (lv_at hl 0 rfl) ?_
      refine tz_get (r := 5) (k := 10) (t := (1, (-9223372036854775808), 9223372036854775807)) hx hb hh hru rfl rfl (hcl5 48 10 (1, (-9223372036854775808), 9223372036854775807) (by decide) rfl).1 f10 (eX6_edgeOf (33, .getfield 48, 3) (List.mem_of_getElem? (i := 17) rfl)) ?_
      refine zu_S (vs := [.long cv, .long cd]) (rest := []) hx hb hml hown hts0 zu_BT (hJ9_maxL l cv cd) ⟨rfl, rfl⟩ ⟨by decide, by decide⟩ ⟨by decide, by decide⟩ (tb_4 182 rfl rfl) (tb_1 18 rfl rfl) (tb_4 193 rfl rfl) (tb_4 181 rfl rfl) (show yJ9_max_f86c9.cls ≠ "java/lang/invoke/MethodHandle" ∧ yJ9_max_f86c9.cls ≠ "java/lang/invoke/VarHandle" ∧ (parseMethodDescriptor yJ9_max_f86c9.desc).map (fun d => d.parameters.length) = some 2 by decide +kernel) rfl (fun _ _ _ => trivial) hl.1 (Nat.le_of_ble_eq_true rfl) (eX6_edgeOf (36, .invokestatic 161, 3) (List.mem_of_getElem? (i := 18) rfl)) (fun w4 f4 => ?_)
      obtain ⟨v4, rfl, e4⟩ := f4
      exact W.lret hx hb hr (fun t ht hW => ⟨ht, _, rfl, by unfold egF; first | (rw [if_pos (show k0 = 0 by omega)]; unfold ymF; omega) | (rw [if_neg (show ¬ k0 = 0 by omega), if_pos (show k0 = 1 by omega), ← hc4, ← hc5]; split <;> omega) | (rw [if_neg (show ¬ k0 = 0 by omega), if_neg (show ¬ k0 = 1 by omega), ← hc4, ← hc5]; split <;> omega)⟩) hh.2.2.1 (eX6_edgeOf (39, .lreturn, 1) (List.mem_of_getElem? (i := 19) rfl))
    · skip
      refine lv_aload_n hx hb (eX6_edgeOf (14, .aload_n 0, 1) (List.mem_of_getElem? (i := 8) rfl)) rfl (lv_at hl 0 rfl) ?_
      refine tz_get (r := 5) (k := 9) (t := (1, (-9223372036854775808), 9223372036854775807)) hx hb hh hru rfl rfl (hcl5 45 9 (1, (-9223372036854775808), 9223372036854775807) (by decide) rfl).1 f9 (eX6_edgeOf (15, .getfield 45, 3) (List.mem_of_getElem? (i := 9) rfl)) ?_
      refine lv_aload_n hx hb (eX6_edgeOf (18, .aload_n 0, 1) (List.mem_of_getElem? (i := 10) rfl)) rfl (lv_at hl 0 rfl) ?_
      refine tz_get (r := 5) (k := 10) (t := (1, (-9223372036854775808), 9223372036854775807)) hx hb hh hru rfl rfl (hcl5 48 10 (1, (-9223372036854775808), 9223372036854775807) (by decide) rfl).1 f10 (eX6_edgeOf (19, .getfield 48, 3) (List.mem_of_getElem? (i := 11) rfl)) ?_
      refine zu_S (vs := [.long cv, .long cd]) (rest := []) hx hb hml hown hts0 zu_BT (hJ9_minL l cv cd) ⟨rfl, rfl⟩ ⟨by decide, by decide⟩ ⟨by decide, by decide⟩ (tb_3 154 rfl rfl) (tb_1 18 rfl rfl) (tb_4 192 rfl rfl) (tb_3 153 rfl rfl) (show yJ9_min_f86c9.cls ≠ "java/lang/invoke/MethodHandle" ∧ yJ9_min_f86c9.cls ≠ "java/lang/invoke/VarHandle" ∧ (parseMethodDescriptor yJ9_min_f86c9.desc).map (fun d => d.parameters.length) = some 2 by decide +kernel) rfl (fun _ _ _ => trivial) hl.1 (Nat.le_of_ble_eq_true rfl) (eX6_edgeOf (22, .invokestatic 158, 3) (List.mem_of_getElem? (i := 12) rfl)) (fun w5 f5 => ?_)
      obtain ⟨v5, rfl, e5⟩ := f5
      refine lv_goto hx hb (eX6_edgeOf (25, .goto 14, 3) (List.mem_of_getElem? (i := 13) rfl)) (tgt := 39) rfl ?_
      exact W.lret hx hb hr (fun t ht hW => ⟨ht, _, rfl, by unfold egF; first | (rw [if_pos (show k0 = 0 by omega)]; unfold ymF; omega) | (rw [if_neg (show ¬ k0 = 0 by omega), if_pos (show k0 = 1 by omega), ← hc4, ← hc5]; split <;> omega) | (rw [if_neg (show ¬ k0 = 0 by omega), if_neg (show ¬ k0 = 1 by omega), ← hc4, ← hc5]; split <;> omega)⟩) hh.2.2.1 (eX6_edgeOf (39, .lreturn, 1) (List.mem_of_getElem? (i := 19) rfl))
  · skip
    refine lv_aload_n hx hb (eX6_edgeOf (4, .aload_n 0, 1) (List.mem_of_getElem? (i := 2) rfl)) rfl (lv_at hl 0 rfl) ?_
    refine tz_get (r := 5) (k := 7) (t := (1, (-9223372036854775808), 9223372036854775807)) hx hb hh hru rfl rfl (hcl5 38 7 (1, (-9223372036854775808), 9223372036854775807) (by decide) rfl).1 f7 (eX6_edgeOf (5, .getfield 38, 3) (List.mem_of_getElem? (i := 3) rfl)) ?_
    exact W.lret hx hb hr (fun t ht hW => ⟨ht, _, rfl, by unfold egF; first | (rw [if_pos (show k0 = 0 by omega)]; unfold ymF; omega) | (rw [if_neg (show ¬ k0 = 0 by omega), if_pos (show k0 = 1 by omega), ← hc4, ← hc5]; split <;> omega) | (rw [if_neg (show ¬ k0 = 0 by omega), if_neg (show ¬ k0 = 1 by omega), ← hc4, ← hc5]; split <;> omega)⟩) hh.2.2.1 (eX6_edgeOf (8, .lreturn, 1) (List.mem_of_getElem? (i := 4) rfl))
set_option maxRecDepth 100000 in
set_option maxHeartbeats 4000000 in
theorem hX6_changeBehind (l : Launch) (D : va_G) (cA : Nat → ClassId) (ro : Nat → Option Nat) (sz : Nat) (H0 : Heap) (ru : Nat) (m0 : Int64) (rF rT : Nat) (rr : rU) (hru : ro ru = some 5) (hm1 : -533500000000 ≤ m0.toInt) (hm2 : m0.toInt ≤ 533500000000) : Met l yX6_changeBehind (gW yX6_changeBehind cX6_changeBehind 10 (some .long)) { frames := 2, cells := 0, slots := 0, locals := 51 } (zs_PB D cA ro sz H0 (fun H => jRo D ro H ru rF rT rr) [.ref ru, .long m0]) (fun _ st oc t => ∃ r : Int64, oc = .returned (some (.long r)) ∧ r.toInt = cbF rr m0.toInt ∧ zh_ok D cA RTg ro sz H0 t.heap [] ∧ zc_kept D RTg ro kC st.heap t.heap ∧ jRo D ro t.heap ru rF rT rr ∧ ∀ p9 : Nat, p9 ∉ [ru] → t.heap[p9]? = st.heap[p9]?) 0 0 (zy_fr sz) := by
  refine zy_ofW (cc := cX6_changeBehind) (maxL := 10) (ret := (some .long)) (by decide +kernel) rfl ?_
  intro p e s m args below meth c s1 B hml hv
  obtain ⟨rfl, hh, ⟨hKn, hBQ⟩, hJ⟩ := hv
  have hx := B.exec
  have hb := B.bytes
  have hr := B.returns
  have hlk := B.notSynchronized
  have hts0 := atoms_spec (ws := gW yX6_changeBehind cX6_changeBehind 10 (some .long)) B.pre
  have h2 : ∀ w ∈ gT, w.before ([.ref ru, .long m0] : List Value).toArray s = true := fun w hw => hts0 w (List.mem_cons_of_mem _ hw)
  have hown : s.vm.findClass RX6 = some m.cls := findClass_of_methodNamed B.named
  have hl := lv_entry [.ref ru, .long m0] (n := 10) (Nat.le_of_ble_eq_true rfl)
  rw [lg_entry_eq]
  generalize (lg_sl [.ref ru, .long m0] ++ List.replicate (10 - (lg_sl [.ref ru, .long m0]).length) Slot.unset).toArray = ls at hl ⊢
  have b_m0 := zn_i64 m0
  have hD := zD_all h2 hKn.1
  have hcl5 := fun (idx k : Nat) (t : zt_T) (h : (idx, 5, k) ∈ gfX6) (hk : fsX6[k]? = some t) => zf_clause (ro := ro) (ms := kC) h2 hown hKn.1 gfX6_ok (by decide +kernel) idx 5 k 5 0 fsX6 t h rfl hk
  have kp0 : zc_kept D RTg ro kC s.heap s.heap := zc_kept.refl
  obtain ⟨-, r6F, r6T, ⟨hF3, hF4, nn, a1, b1, f0, f1, f2, hnn, ha1, hb1⟩, ⟨tn, yv, ca, cb, cv, cd, f5, f6, f7, f8, f9, f10, hcc⟩, hw⟩ := id hJ
  have hwC := hw.2.1
  have fr0 : ∀ p9 : Nat, p9 ∉ [ru] → s.heap[p9]? = s.heap[p9]? := fun _ _ => rfl
  refine lv_aload_n hx hb (eX6_changeBehind (0, .aload_n 0, 1) (List.mem_of_getElem? (i := 0) rfl)) rfl (lv_at hl 0 rfl) ?_
  refine tz_get (r := 5) (k := 0) (t := (0, (-2147483648), 2147483647)) hx hb hh hru rfl rfl (hcl5 9 0 (0, (-2147483648), 2147483647) (by decide) rfl).1 f0 (eX6_changeBehind (1, .getfield 9, 3) (List.mem_of_getElem? (i := 1) rfl)) ?_
  refine ff_iconst hx hb (eX6_changeBehind (4, .iconst 2, 1) (List.mem_of_getElem? (i := 2) rfl)) (by decide) (by decide) (fun v1 e1 => ?_)
  refine ff_icmp_ge hx hb (eX6_changeBehind (5, .if_icmp .ge 7, 3) (List.mem_of_getElem? (i := 3) rfl)) (tgt := 12) rfl (fun c2 => ?_) (fun c2 => ?_)
  · skip
    have hr2 : rr.1 = 2 := by omega
    have ha2 := ha1 (by omega)
    have hwA : -1439 ≤ rr.2.1 ∧ rr.2.1 ≤ 1439 := hw.2.2.1 (by omega)
    refine lv_lload_n hx hb (eX6_changeBehind (12, .lload_n 1, 1) (List.mem_of_getElem? (i := 6) rfl)) rfl (lv_at hl 1 rfl) ?_
    refine lv_aload_n hx hb (eX6_changeBehind (13, .aload_n 0, 1) (List.mem_of_getElem? (i := 7) rfl)) rfl (lv_at hl 0 rfl) ?_
    refine tz_get (r := 5) (k := 1) (t := (0, (-2147483648), 2147483647)) hx hb hh hru rfl rfl (hcl5 15 1 (0, (-2147483648), 2147483647) (by decide) rfl).1 f1 (eX6_changeBehind (14, .getfield 15, 3) (List.mem_of_getElem? (i := 8) rfl)) ?_
    refine ff_i2l hx hb (eX6_changeBehind (17, .i2l, 1) (List.mem_of_getElem? (i := 9) rfl)) (fun v3 e3 => ?_)
    refine ff_ladd hx hb (eX6_changeBehind (18, .ladd, 1) (List.mem_of_getElem? (i := 10) rfl)) (by omega) (by omega) (fun v4 e4 => ?_)
    refine ff_ldc2 (n := 1440) hx hb hown h2 (clX6_ok 131 1440 (List.mem_of_getElem? (i := 0) rfl)) (eX6_changeBehind (19, .ldc2_w 131, 3) (List.mem_of_getElem? (i := 11) rfl)) (fun v5 e5 => ?_)
    refine zu_S (vs := [.long v4, .long v5]) (rest := []) hx hb hml hown hts0 zu_BT (hJ9_fd1440 l v4 v5 (by omega) (by omega) (by omega)) ⟨rfl, rfl⟩ ⟨by decide, by decide⟩ ⟨by decide, by decide⟩ (tb_3 39 rfl rfl) (tb_1 18 rfl rfl) (tb_4 124 rfl rfl) (tb_3 38 rfl rfl) (show yJ9_floorDiv_f86c9.cls ≠ "java/lang/invoke/MethodHandle" ∧ yJ9_floorDiv_f86c9.cls ≠ "java/lang/invoke/VarHandle" ∧ (parseMethodDescriptor yJ9_floorDiv_f86c9.desc).map (fun d => d.parameters.length) = some 2 by decide +kernel) rfl (fun _ _ _ => trivial) hl.1 (Nat.le_of_ble_eq_true rfl) (eX6_changeBehind (22, .invokestatic 137, 3) (List.mem_of_getElem? (i := 12) rfl)) (fun w6 f6 => ?_)
    obtain ⟨v6, rfl, e6⟩ := f6
    refine zu_S (vs := [.long v6]) (rest := []) hx hb hml hown hts0 zu_BT (hX2_yearOf l v6 (by omega) (by omega)) ⟨rfl, rfl⟩ ⟨by decide, by decide⟩ ⟨by decide, by decide⟩ (tb_2 218 rfl rfl) (tb_1 13 rfl rfl) (tb_4 125 rfl rfl) (tb_2 217 rfl rfl) (show yX2_yearOf.cls ≠ "java/lang/invoke/MethodHandle" ∧ yX2_yearOf.cls ≠ "java/lang/invoke/VarHandle" ∧ (parseMethodDescriptor yX2_yearOf.desc).map (fun d => d.parameters.length) = some 1 by decide +kernel) rfl (fun _ _ _ => trivial) hl.1 (Nat.le_of_ble_eq_true rfl) (eX6_changeBehind (25, .invokestatic 143, 3) (List.mem_of_getElem? (i := 13) rfl)) (fun w7 f7 => ?_)
    obtain ⟨v7, rfl, e7⟩ := f7
    have g7 := (show yrI ((m0.toInt + rr.2.1) / 1440) = v7.toInt from yrI_eq (by rw [show (m0.toInt + rr.2.1) / 1440 = v6.toInt by omega]; exact e7.1))
    refine lv_istore_n hx hb (eX6_changeBehind (28, .istore_n 3, 1) (List.mem_of_getElem? (i := 14) rfl)) rfl hl (by decide) rfl (fun ls8 hl8 => ?_)
    refine lv_aload_n hx hb (eX6_changeBehind (29, .aload_n 0, 1) (List.mem_of_getElem? (i := 15) rfl)) rfl (lv_at hl8 1 rfl) ?_
    refine lv_iload_n hx hb (eX6_changeBehind (30, .iload_n 3, 1) (List.mem_of_getElem? (i := 16) rfl)) rfl (lv_at hl8 0 rfl) ?_
    refine tz_rowV (As := [.int v7]) (st := []) (b := ru) (C := RX6) (Ts := gT) hx hb hml hown h2 (fun _ h => h) (hX6_turnTo l D cA ro sz H0 ru v7 rF rT rr hru hr2 (by omega) (by omega)) ⟨rfl, rfl⟩ ⟨by decide, by decide⟩ ⟨by decide, by decide⟩ (tb_4 129 rfl rfl) (tb_1 3 rfl rfl) (tb_4 126 rfl rfl) (tb_4 127 rfl rfl) (tb_4 128 rfl rfl) (show yX6_turnTo.cls ≠ "java/lang/invoke/MethodHandle" ∧ yX6_turnTo.cls ≠ "java/lang/invoke/VarHandle" ∧ (parseMethodDescriptor yX6_turnTo.desc).map (fun d => d.parameters.length) = some 1 by decide +kernel) zs_blindB (zs_ob hh hru (show RTg[5]? = some (0, 5, 0, fsX6) from rfl) (zCX6 hKn.1)) (fun U hU hW => ⟨rfl, by rw [hU]; exact hh.l0, ⟨zKb s U hW.alike hKn, hBQ.alike hW.alike⟩, by rw [hU]; exact hJ⟩) hh.2.2.1 hl8.1 (Nat.le_of_ble_eq_true rfl) (eX6_changeBehind (31, .invokevirtual 147, 3) (List.mem_of_getElem? (i := 17) rfl)) (fun r9 s9 t9 lo9 g9 f9 l9 => ?_)
    obtain ⟨q9, z9, c9, j9, ja9, fx9⟩ := f9
    cases q9
    rw [g9] at c9 fx9
    have fr9 : ∀ p9 : Nat, p9 ∉ [ru] → t9.heap[p9]? = s.heap[p9]? := fun p9 h9 => (fx9 p9 (fun q => h9 (by rw [List.mem_singleton.mp q]; exact List.mem_cons_self))).trans (fr0 p9 h9)
    have hh9 : zh_ok D cA RTg ro sz H0 t9.heap lo9 := ⟨z9.1, z9.2.1, l9, z9.2.2.2⟩
    have kp9 := kp0.trans (c9.mono (ms' := kC) (by decide))
    refine W.eq (g2 := F0 m 34 ls8 []) rfl ?_
    refine lv_aload_n hx hb (eX6_changeBehind (34, .aload_n 0, 1) (List.mem_of_getElem? (i := 18) rfl)) rfl (lv_at hl8 1 rfl) ?_
    refine lv_lload_n hx hb (eX6_changeBehind (35, .lload_n 1, 1) (List.mem_of_getElem? (i := 19) rfl)) rfl (lv_at hl8 2 rfl) ?_
    refine tz_rowV (As := [.long m0]) (st := []) (b := ru) (C := RX6) (Ts := gT) hx hb hml hown h2 (fun _ h => h) (hX6_offsetInYear l D cA ro sz H0 ru m0 rF rT rr v7.toInt hru) ⟨rfl, rfl⟩ ⟨by decide, by decide⟩ ⟨by decide, by decide⟩ (tb_4 144 rfl rfl) (tb_1 3 rfl rfl) (tb_4 141 rfl rfl) (tb_4 142 rfl rfl) (tb_4 143 rfl rfl) (show yX6_offsetInYear.cls ≠ "java/lang/invoke/MethodHandle" ∧ yX6_offsetInYear.cls ≠ "java/lang/invoke/VarHandle" ∧ (parseMethodDescriptor yX6_offsetInYear.desc).map (fun d => d.parameters.length) = some 1 by decide +kernel) zs_blind (zs_ob hh9 hru (show RTg[5]? = some (0, 5, 0, fsX6) from rfl) (zCX6 hKn.1)) (fun U hU hW => ⟨rfl, by rw [hU]; exact hh9.l0, zKb s U hW.alike hKn, by rw [hU]; exact ⟨j9, ja9⟩⟩) hh9.2.2.1 hl8.1 (Nat.le_of_ble_eq_true rfl) (eX6_changeBehind (36, .invokevirtual 150, 3) (List.mem_of_getElem? (i := 20) rfl)) (fun r10 s10 t10 lo10 g10 f10 l10 => ?_)
    obtain ⟨z10, v10, q10, e10⟩ := f10
    cases q10
    rw [z10, g10]
    have hh10 : zh_ok D cA RTg ro sz H0 t9.heap lo10 := ⟨hh9.1, hh9.2.1, l10, hh9.2.2.2⟩
    refine W.eq (g2 := F0 m 39 ls8 [.int v10]) rfl ?_
    refine lv_istore hx hb (eX6_changeBehind (39, .istore 4, 2) (List.mem_of_getElem? (i := 21) rfl)) hl8 (by decide) rfl (fun ls11 hl11 => ?_)
    refine ff_iconst hx hb (eX6_changeBehind (41, .iconst 0, 1) (List.mem_of_getElem? (i := 22) rfl)) (by decide) (by decide) (fun v12 e12 => ?_)
    refine lv_istore hx hb (eX6_changeBehind (42, .istore 5, 2) (List.mem_of_getElem? (i := 23) rfl)) hl11 (by decide) rfl (fun ls13 hl13 => ?_)
    have hyb := e7.2
    have hbef : v10.toInt = oyF rr v7.toInt m0.toInt := by omega
    have loop : ∀ (n9 i : Nat) (iv : Int32) (ls : Array Slot) (H : Heap) (lo0 : List Loc), i + n9 = 8 → iv.toInt = (i : Int) → cyF rr m0.toInt v10.toInt n9 (v7.toInt + i) = cbF rr m0.toInt → zh_ok D cA RTg ro sz H0 H lo0 → zc_kept D RTg ro kC s.heap H → jRo D ro H ru rF rT rr → (∀ p9 : Nat, p9 ∉ [ru] → H[p9]? = s.heap[p9]?) → lv_has ls 10 [(5, .int iv), (0, .ref ru), (1, .long m0), (3, .int v7), (4, .int v10)] → W p l e (headSpec (gW yX6_changeBehind cX6_changeBehind 10 (some .long)) { frames := 2, cells := 0, slots := 0, locals := 51 }).room s m ([.ref ru, .long m0] : List Value).toArray below meth c H lo0 0 0 (MQ below (fun _ st oc t => ∃ r : Int64, oc = .returned (some (.long r)) ∧ r.toInt = cbF rr m0.toInt ∧ zh_ok D cA RTg ro sz H0 t.heap [] ∧ zc_kept D RTg ro kC st.heap t.heap ∧ jRo D ro t.heap ru rF rT rr ∧ ∀ p9 : Nat, p9 ∉ [ru] → t.heap[p9]? = st.heap[p9]?) ([.ref ru, .long m0] : List Value).toArray s 0 0 (zy_fr sz)) (F0 m 44 ls []) := by
      intro n9
      induction n9 with
      | zero =>
        intro i iv ls H lo0 hi hiv htot hh0 kpl jol frl hl
        refine lv_iload hx hb (eX6_changeBehind (44, .iload 5, 2) (List.mem_of_getElem? (i := 24) rfl)) (lv_at hl 0 rfl) ?_
        refine ff_bipush hx hb (eX6_changeBehind (46, .bipush 8, 2) (List.mem_of_getElem? (i := 25) rfl)) (by decide) (by decide) (fun v14 e14 => ?_)
        refine ff_icmp_ge hx hb (eX6_changeBehind (48, .if_icmp .ge 93, 3) (List.mem_of_getElem? (i := 26) rfl)) (tgt := 141) rfl (fun c15 => ?_) (fun c15 => (by exfalso; omega))
        refine ff_ldc2 (n := (-9223372036854775808)) hx hb hown h2 (clX6_ok 153 (-9223372036854775808) (List.mem_of_getElem? (i := 1) rfl)) (eX6_changeBehind (141, .ldc2_w 153, 3) (List.mem_of_getElem? (i := 72) rfl)) (fun v16 e16 => ?_)
        exact W.lret hx hb hr (fun t ht hW => ⟨_, rfl, by rw [← htot]; show _ = NONEI; unfold NONEI; omega, by rw [ht]; exact hh0.l0, by rw [ht]; exact kpl, by rw [ht]; exact jol, by rw [ht]; exact frl⟩) hh0.2.2.1 (eX6_changeBehind (144, .lreturn, 1) (List.mem_of_getElem? (i := 73) rfl))
      | succ n9 ih =>
        intro i iv ls H lo0 hi hiv htot hh0 kpl jol frl hl
        refine lv_iload hx hb (eX6_changeBehind (44, .iload 5, 2) (List.mem_of_getElem? (i := 24) rfl)) (lv_at hl 0 rfl) ?_
        refine ff_bipush hx hb (eX6_changeBehind (46, .bipush 8, 2) (List.mem_of_getElem? (i := 25) rfl)) (by decide) (by decide) (fun v17 e17 => ?_)
        refine ff_icmp_ge hx hb (eX6_changeBehind (48, .if_icmp .ge 93, 3) (List.mem_of_getElem? (i := 26) rfl)) (tgt := 141) rfl (fun c18 => (by exfalso; omega)) (fun c18 => ?_)
        refine lv_aload_n hx hb (eX6_changeBehind (51, .aload_n 0, 1) (List.mem_of_getElem? (i := 27) rfl)) rfl (lv_at hl 1 rfl) ?_
        refine lv_iload_n hx hb (eX6_changeBehind (52, .iload_n 3, 1) (List.mem_of_getElem? (i := 28) rfl)) rfl (lv_at hl 3 rfl) ?_
        refine lv_iload hx hb (eX6_changeBehind (53, .iload 5, 2) (List.mem_of_getElem? (i := 29) rfl)) (lv_at hl 0 rfl) ?_
        refine ff_iadd hx hb (eX6_changeBehind (55, .iadd, 1) (List.mem_of_getElem? (i := 30) rfl)) (by omega) (by omega) (fun v19 e19 => ?_)
        refine tz_rowV (As := [.int v19]) (st := []) (b := ru) (C := RX6) (Ts := gT) hx hb hml hown h2 (fun _ h => h) (hX6_turnTo l D cA ro sz H0 ru v19 rF rT rr hru hr2 (by omega) (by omega)) ⟨rfl, rfl⟩ ⟨by decide, by decide⟩ ⟨by decide, by decide⟩ (tb_4 129 rfl rfl) (tb_1 3 rfl rfl) (tb_4 126 rfl rfl) (tb_4 127 rfl rfl) (tb_4 128 rfl rfl) (show yX6_turnTo.cls ≠ "java/lang/invoke/MethodHandle" ∧ yX6_turnTo.cls ≠ "java/lang/invoke/VarHandle" ∧ (parseMethodDescriptor yX6_turnTo.desc).map (fun d => d.parameters.length) = some 1 by decide +kernel) zs_blindB (zs_ob hh0 hru (show RTg[5]? = some (0, 5, 0, fsX6) from rfl) (zCX6 hKn.1)) (fun U hU hW => ⟨rfl, by rw [hU]; exact hh0.l0, ⟨zKb s U hW.alike hKn, hBQ.alike hW.alike⟩, by rw [hU]; exact jol⟩) hh0.2.2.1 hl.1 (Nat.le_of_ble_eq_true rfl) (eX6_changeBehind (56, .invokevirtual 147, 3) (List.mem_of_getElem? (i := 31) rfl)) (fun r20 s20 t20 lo20 g20 f20 l20 => ?_)
        obtain ⟨q20, z20, c20, j20, ja20, fx20⟩ := f20
        cases q20
        rw [g20] at c20 fx20
        have fr20 : ∀ p9 : Nat, p9 ∉ [ru] → t20.heap[p9]? = s.heap[p9]? := fun p9 h9 => (fx20 p9 (fun q => h9 (by rw [List.mem_singleton.mp q]; exact List.mem_cons_self))).trans (frl p9 h9)
        have hh20 : zh_ok D cA RTg ro sz H0 t20.heap lo20 := ⟨z20.1, z20.2.1, l20, z20.2.2.2⟩
        have kp20 := kpl.trans (c20.mono (ms' := kC) (by decide))
        refine W.eq (g2 := F0 m 59 ls []) rfl ?_
        refine ff_iconst hx hb (eX6_changeBehind (59, .iconst 0, 1) (List.mem_of_getElem? (i := 32) rfl)) (by decide) (by decide) (fun v21 e21 => ?_)
        refine lv_istore hx hb (eX6_changeBehind (60, .istore 6, 2) (List.mem_of_getElem? (i := 33) rfl)) hl (by decide) rfl (fun ls22 hl22 => ?_)
        rw [show v19.toInt = v7.toInt + i by omega] at ja20
        have hysb := ysI_bd (y := v7.toInt + i) (by omega) (by omega)
        have loop2 : ∀ (n2 k0 : Nat) (kv : Int32) (ls : Array Slot) (lo1 : List Loc), k0 + n2 = 3 → kv.toInt = (k0 : Int) → ciF rr (v7.toInt + i) m0.toInt v10.toInt n2 = ciF rr (v7.toInt + i) m0.toInt v10.toInt 3 → zh_ok D cA RTg ro sz H0 t20.heap lo1 → lv_has ls 10 [(6, .int kv), (5, .int iv), (0, .ref ru), (1, .long m0), (3, .int v7), (4, .int v10)] → W p l e (headSpec (gW yX6_changeBehind cX6_changeBehind 10 (some .long)) { frames := 2, cells := 0, slots := 0, locals := 51 }).room s m ([.ref ru, .long m0] : List Value).toArray below meth c t20.heap lo1 0 0 (MQ below (fun _ st oc t => ∃ r : Int64, oc = .returned (some (.long r)) ∧ r.toInt = cbF rr m0.toInt ∧ zh_ok D cA RTg ro sz H0 t.heap [] ∧ zc_kept D RTg ro kC st.heap t.heap ∧ jRo D ro t.heap ru rF rT rr ∧ ∀ p9 : Nat, p9 ∉ [ru] → t.heap[p9]? = st.heap[p9]?) ([.ref ru, .long m0] : List Value).toArray s 0 0 (zy_fr sz)) (F0 m 62 ls []) := by
          intro n2
          induction n2 with
          | zero =>
            intro k0 kv ls lo1 hk hkv htot3 hh1 hl
            have htot3 : NONEI = ciF rr (v7.toInt + i) m0.toInt v10.toInt 3 := htot3
            refine lv_iload hx hb (eX6_changeBehind (62, .iload 6, 2) (List.mem_of_getElem? (i := 34) rfl)) (lv_at hl 0 rfl) ?_
            refine ff_iconst hx hb (eX6_changeBehind (64, .iconst 3, 1) (List.mem_of_getElem? (i := 35) rfl)) (by decide) (by decide) (fun v23 e23 => ?_)
            refine ff_icmp_ge hx hb (eX6_changeBehind (65, .if_icmp .ge 70, 3) (List.mem_of_getElem? (i := 36) rfl)) (tgt := 135) rfl (fun c24 => ?_) (fun c24 => (by exfalso; omega))
            refine ff_iinc (k := 1) hx hb (eX6_changeBehind (135, .iinc 5 1, 3) (List.mem_of_getElem? (i := 70) rfl)) hl rfl (by decide) (by decide) (by decide) (by omega) (by omega) (fun v25 e25 ls25 hl25 => ?_)
            refine lv_goto hx hb (eX6_changeBehind (138, .goto (-94), 3) (List.mem_of_getElem? (i := 71) rfl)) (tgt := 44) rfl ?_
            exact ih (i + 1) v25 ls25 _ _ (by omega) (by omega) (by rw [← htot]; show _ = (if _ then _ else _ : Int); rw [if_pos (by rw [← htot3]), show v7.toInt + ((i + 1 : Nat) : Int) = v7.toInt + i + 1 by omega]) hh1 kp20 j20 fr20 (lv_sub hl25 [0, 2, 3, 4, 5] rfl)
          | succ n2 ih2 =>
            intro k0 kv ls lo1 hk hkv htot3 hh1 hl
            have htot3 : (if cE rr (v7.toInt + i) m0.toInt v10.toInt (2 - n2) then egF rr (v7.toInt + i) (2 - n2) else ciF rr (v7.toInt + i) m0.toInt v10.toInt n2) = ciF rr (v7.toInt + i) m0.toInt v10.toInt 3 := htot3
            rw [show 2 - n2 = k0 by omega] at htot3
            have hegb := eg_bd (y := v7.toInt + i) (k := k0) hw hr2 hysb.1 hysb.2
            obtain ⟨-, -, -, -, ⟨tn4, yv4, ca4, cb4, cv4, cd4, h5, h6, h7, h8, -, -, hcc4⟩, -⟩ := id j20
            obtain ⟨tn5, yv5, i5, i6, it1, iy1⟩ := id ja20
            cases h5.symm.trans i5
            cases h6.symm.trans i6
            have hy7 : ca4.toInt = ymF rr (v7.toInt + i) ∧ cb4.toInt = yeF rr (v7.toInt + i) := by rcases hcc4 with h | h; (exfalso; omega); (have q1 := h.2.2.1; have q2 := h.2.2.2.1; rw [iy1] at q1 q2; unfold yeF ymF; omega)
            clear hcc4
            refine lv_iload hx hb (eX6_changeBehind (62, .iload 6, 2) (List.mem_of_getElem? (i := 34) rfl)) (lv_at hl 0 rfl) ?_
            refine ff_iconst hx hb (eX6_changeBehind (64, .iconst 3, 1) (List.mem_of_getElem? (i := 35) rfl)) (by decide) (by decide) (fun v26 e26 => ?_)
            refine ff_icmp_ge hx hb (eX6_changeBehind (65, .if_icmp .ge 70, 3) (List.mem_of_getElem? (i := 36) rfl)) (tgt := 135) rfl (fun c27 => (by exfalso; omega)) (fun c27 => ?_)
            refine lv_aload_n hx hb (eX6_changeBehind (68, .aload_n 0, 1) (List.mem_of_getElem? (i := 37) rfl)) rfl (lv_at hl 2 rfl) ?_
            refine lv_iload hx hb (eX6_changeBehind (69, .iload 6, 2) (List.mem_of_getElem? (i := 38) rfl)) (lv_at hl 0 rfl) ?_
            refine tz_rowV (As := [.int kv]) (st := []) (b := ru) (C := RX6) (Ts := gT) hx hb hml hown h2 (fun _ h => h) (hX6_edgeOf l D cA ro sz H0 ru kv rF rT rr (v7.toInt + i) k0 hru hkv) ⟨rfl, rfl⟩ ⟨by decide, by decide⟩ ⟨by decide, by decide⟩ (tb_4 191 rfl rfl) (tb_1 3 rfl rfl) (tb_4 188 rfl rfl) (tb_4 189 rfl rfl) (tb_4 190 rfl rfl) (show yX6_edgeOf.cls ≠ "java/lang/invoke/MethodHandle" ∧ yX6_edgeOf.cls ≠ "java/lang/invoke/VarHandle" ∧ (parseMethodDescriptor yX6_edgeOf.desc).map (fun d => d.parameters.length) = some 1 by decide +kernel) zs_blind (zs_ob hh1 hru (show RTg[5]? = some (0, 5, 0, fsX6) from rfl) (zCX6 hKn.1)) (fun U hU hW => ⟨rfl, by rw [hU]; exact hh1.l0, zKb s U hW.alike hKn, by rw [hU]; exact ⟨j20, ja20⟩⟩) hh1.2.2.1 hl.1 (Nat.le_of_ble_eq_true rfl) (eX6_changeBehind (71, .invokevirtual 155, 3) (List.mem_of_getElem? (i := 39) rfl)) (fun r28 s28 t28 lo28 g28 f28 l28 => ?_)
            obtain ⟨z28, v28, q28, e28⟩ := f28
            cases q28
            rw [z28, g28]
            have hh28 : zh_ok D cA RTg ro sz H0 t20.heap lo28 := ⟨hh1.1, hh1.2.1, l28, hh1.2.2.2⟩
            refine W.eq (g2 := F0 m 74 ls [.long v28]) rfl ?_
            refine lv_lstore hx hb (eX6_changeBehind (74, .lstore 7, 2) (List.mem_of_getElem? (i := 40) rfl)) hl (by decide) rfl (fun ls29 hl29 => ?_)
            refine lv_lload hx hb (eX6_changeBehind (76, .lload 7, 2) (List.mem_of_getElem? (i := 41) rfl)) (lv_at hl29 0 rfl) ?_
            refine lv_lload_n hx hb (eX6_changeBehind (78, .lload_n 1, 1) (List.mem_of_getElem? (i := 42) rfl)) rfl (lv_at hl29 4 rfl) ?_
            refine ff_lcmp hx hb (eX6_changeBehind (79, .lcmp, 1) (List.mem_of_getElem? (i := 43) rfl)) (fun v30 e30 => ?_)
            refine ff_if_le hx hb (eX6_changeBehind (80, .ifCond .le 27, 3) (List.mem_of_getElem? (i := 44) rfl)) (tgt := 107) rfl (fun c31 => ?_) (fun c31 => ?_)
            · skip
              refine ff_iconst hx hb (eX6_changeBehind (107, .iconst 0, 1) (List.mem_of_getElem? (i := 57) rfl)) (by decide) (by decide) (fun v32 e32 => ?_)
              refine lv_istore hx hb (eX6_changeBehind (108, .istore 9, 2) (List.mem_of_getElem? (i := 58) rfl)) hl29 (by decide) rfl (fun ls33 hl33 => ?_)
              refine lv_iload hx hb (eX6_changeBehind (110, .iload 9, 2) (List.mem_of_getElem? (i := 59) rfl)) (lv_at hl33 0 rfl) ?_
              refine ff_if_eq hx hb (eX6_changeBehind (112, .ifCond .eq 17, 3) (List.mem_of_getElem? (i := 60) rfl)) (tgt := 129) rfl (fun c34 => ?_) (fun c34 => (by exfalso; omega))
              have hnE : ¬ cE rr (v7.toInt + i) m0.toInt v10.toInt k0 := fun g => by have g1 := g.1; have g2 := g.2.1; have g3 := g.2.2.1; omega
              refine ff_iinc (k := 2) hx hb (eX6_changeBehind (129, .iinc 6 1, 3) (List.mem_of_getElem? (i := 68) rfl)) hl33 rfl (by decide) (by decide) (by decide) (by omega) (by omega) (fun v35 e35 ls35 hl35 => ?_)
              refine lv_goto hx hb (eX6_changeBehind (132, .goto (-70), 3) (List.mem_of_getElem? (i := 69) rfl)) (tgt := 62) rfl ?_
              exact ih2 (k0 + 1) v35 ls35 _ (by omega) (by omega) (by rw [← htot3, if_neg hnE]) hh28 (lv_sub hl35 [0, 3, 4, 5, 6, 7] rfl)
            · skip
              refine lv_lload hx hb (eX6_changeBehind (83, .lload 7, 2) (List.mem_of_getElem? (i := 45) rfl)) (lv_at hl29 0 rfl) ?_
              refine lv_aload_n hx hb (eX6_changeBehind (85, .aload_n 0, 1) (List.mem_of_getElem? (i := 46) rfl)) rfl (lv_at hl29 3 rfl) ?_
              refine tz_get (r := 5) (k := 7) (t := (1, (-9223372036854775808), 9223372036854775807)) hx hb hh28 hru rfl rfl (hcl5 38 7 (1, (-9223372036854775808), 9223372036854775807) (by decide) rfl).1 h7 (eX6_changeBehind (86, .getfield 38, 3) (List.mem_of_getElem? (i := 47) rfl)) ?_
              refine ff_lcmp hx hb (eX6_changeBehind (89, .lcmp, 1) (List.mem_of_getElem? (i := 48) rfl)) (fun v36 e36 => ?_)
              refine ff_if_lt hx hb (eX6_changeBehind (90, .ifCond .lt 17, 3) (List.mem_of_getElem? (i := 49) rfl)) (tgt := 107) rfl (fun c37 => ?_) (fun c37 => ?_)
              · skip
                refine ff_iconst hx hb (eX6_changeBehind (107, .iconst 0, 1) (List.mem_of_getElem? (i := 57) rfl)) (by decide) (by decide) (fun v38 e38 => ?_)
                refine lv_istore hx hb (eX6_changeBehind (108, .istore 9, 2) (List.mem_of_getElem? (i := 58) rfl)) hl29 (by decide) rfl (fun ls39 hl39 => ?_)
                refine lv_iload hx hb (eX6_changeBehind (110, .iload 9, 2) (List.mem_of_getElem? (i := 59) rfl)) (lv_at hl39 0 rfl) ?_
                refine ff_if_eq hx hb (eX6_changeBehind (112, .ifCond .eq 17, 3) (List.mem_of_getElem? (i := 60) rfl)) (tgt := 129) rfl (fun c40 => ?_) (fun c40 => (by exfalso; omega))
                have hnE : ¬ cE rr (v7.toInt + i) m0.toInt v10.toInt k0 := fun g => by have g1 := g.1; have g2 := g.2.1; have g3 := g.2.2.1; omega
                refine ff_iinc (k := 2) hx hb (eX6_changeBehind (129, .iinc 6 1, 3) (List.mem_of_getElem? (i := 68) rfl)) hl39 rfl (by decide) (by decide) (by decide) (by omega) (by omega) (fun v41 e41 ls41 hl41 => ?_)
                refine lv_goto hx hb (eX6_changeBehind (132, .goto (-70), 3) (List.mem_of_getElem? (i := 69) rfl)) (tgt := 62) rfl ?_
                exact ih2 (k0 + 1) v41 ls41 _ (by omega) (by omega) (by rw [← htot3, if_neg hnE]) hh28 (lv_sub hl41 [0, 3, 4, 5, 6, 7] rfl)
              · skip
                refine lv_lload hx hb (eX6_changeBehind (93, .lload 7, 2) (List.mem_of_getElem? (i := 50) rfl)) (lv_at hl29 0 rfl) ?_
                refine lv_aload_n hx hb (eX6_changeBehind (95, .aload_n 0, 1) (List.mem_of_getElem? (i := 51) rfl)) rfl (lv_at hl29 3 rfl) ?_
                refine tz_get (r := 5) (k := 8) (t := (1, (-9223372036854775808), 9223372036854775807)) hx hb hh28 hru rfl rfl (hcl5 42 8 (1, (-9223372036854775808), 9223372036854775807) (by decide) rfl).1 h8 (eX6_changeBehind (96, .getfield 42, 3) (List.mem_of_getElem? (i := 52) rfl)) ?_
                refine ff_lcmp hx hb (eX6_changeBehind (99, .lcmp, 1) (List.mem_of_getElem? (i := 53) rfl)) (fun v42 e42 => ?_)
                refine ff_if_ge hx hb (eX6_changeBehind (100, .ifCond .ge 7, 3) (List.mem_of_getElem? (i := 54) rfl)) (tgt := 107) rfl (fun c43 => ?_) (fun c43 => ?_)
                · skip
                  refine ff_iconst hx hb (eX6_changeBehind (107, .iconst 0, 1) (List.mem_of_getElem? (i := 57) rfl)) (by decide) (by decide) (fun v44 e44 => ?_)
                  refine lv_istore hx hb (eX6_changeBehind (108, .istore 9, 2) (List.mem_of_getElem? (i := 58) rfl)) hl29 (by decide) rfl (fun ls45 hl45 => ?_)
                  refine lv_iload hx hb (eX6_changeBehind (110, .iload 9, 2) (List.mem_of_getElem? (i := 59) rfl)) (lv_at hl45 0 rfl) ?_
                  refine ff_if_eq hx hb (eX6_changeBehind (112, .ifCond .eq 17, 3) (List.mem_of_getElem? (i := 60) rfl)) (tgt := 129) rfl (fun c46 => ?_) (fun c46 => (by exfalso; omega))
                  have hnE : ¬ cE rr (v7.toInt + i) m0.toInt v10.toInt k0 := fun g => by have g1 := g.1; have g2 := g.2.1; have g3 := g.2.2.1; omega
                  refine ff_iinc (k := 2) hx hb (eX6_changeBehind (129, .iinc 6 1, 3) (List.mem_of_getElem? (i := 68) rfl)) hl45 rfl (by decide) (by decide) (by decide) (by omega) (by omega) (fun v47 e47 ls47 hl47 => ?_)
                  refine lv_goto hx hb (eX6_changeBehind (132, .goto (-70), 3) (List.mem_of_getElem? (i := 69) rfl)) (tgt := 62) rfl ?_
                  exact ih2 (k0 + 1) v47 ls47 _ (by omega) (by omega) (by rw [← htot3, if_neg hnE]) hh28 (lv_sub hl47 [0, 3, 4, 5, 6, 7] rfl)
                · skip
                  refine ff_iconst hx hb (eX6_changeBehind (103, .iconst 1, 1) (List.mem_of_getElem? (i := 55) rfl)) (by decide) (by decide) (fun v48 e48 => ?_)
                  refine lv_goto hx hb (eX6_changeBehind (104, .goto 4, 3) (List.mem_of_getElem? (i := 56) rfl)) (tgt := 108) rfl ?_
                  refine lv_istore hx hb (eX6_changeBehind (108, .istore 9, 2) (List.mem_of_getElem? (i := 58) rfl)) hl29 (by decide) rfl (fun ls49 hl49 => ?_)
                  refine lv_iload hx hb (eX6_changeBehind (110, .iload 9, 2) (List.mem_of_getElem? (i := 59) rfl)) (lv_at hl49 0 rfl) ?_
                  refine ff_if_eq hx hb (eX6_changeBehind (112, .ifCond .eq 17, 3) (List.mem_of_getElem? (i := 60) rfl)) (tgt := 129) rfl (fun c50 => (by exfalso; omega)) (fun c50 => ?_)
                  refine lv_aload_n hx hb (eX6_changeBehind (115, .aload_n 0, 1) (List.mem_of_getElem? (i := 61) rfl)) rfl (lv_at hl49 4 rfl) ?_
                  refine lv_lload hx hb (eX6_changeBehind (116, .lload 7, 2) (List.mem_of_getElem? (i := 62) rfl)) (lv_at hl49 1 rfl) ?_
                  refine tz_rowV (As := [.long v28]) (st := []) (b := ru) (C := RX6) (Ts := gT) hx hb hml hown h2 (fun _ h => h) (hX6_offsetInYear l D cA ro sz H0 ru v28 rF rT rr (v7.toInt + i) hru) ⟨rfl, rfl⟩ ⟨by decide, by decide⟩ ⟨by decide, by decide⟩ (tb_4 144 rfl rfl) (tb_1 3 rfl rfl) (tb_4 141 rfl rfl) (tb_4 142 rfl rfl) (tb_4 143 rfl rfl) (show yX6_offsetInYear.cls ≠ "java/lang/invoke/MethodHandle" ∧ yX6_offsetInYear.cls ≠ "java/lang/invoke/VarHandle" ∧ (parseMethodDescriptor yX6_offsetInYear.desc).map (fun d => d.parameters.length) = some 1 by decide +kernel) zs_blind (zs_ob hh28 hru (show RTg[5]? = some (0, 5, 0, fsX6) from rfl) (zCX6 hKn.1)) (fun U hU hW => ⟨rfl, by rw [hU]; exact hh28.l0, zKb s U hW.alike hKn, by rw [hU]; exact ⟨j20, ja20⟩⟩) hh28.2.2.1 hl49.1 (Nat.le_of_ble_eq_true rfl) (eX6_changeBehind (118, .invokevirtual 150, 3) (List.mem_of_getElem? (i := 63) rfl)) (fun r51 s51 t51 lo51 g51 f51 l51 => ?_)
                  obtain ⟨z51, v51, q51, e51⟩ := f51
                  cases q51
                  rw [z51, g51]
                  have hh51 : zh_ok D cA RTg ro sz H0 t20.heap lo51 := ⟨hh28.1, hh28.2.1, l51, hh28.2.2.2⟩
                  refine W.eq (g2 := F0 m 121 ls49 [.int v51]) rfl ?_
                  refine lv_iload hx hb (eX6_changeBehind (121, .iload 4, 2) (List.mem_of_getElem? (i := 64) rfl)) (lv_at hl49 7 rfl) ?_
                  refine ff_icmp_eq hx hb (eX6_changeBehind (123, .if_icmp .eq 6, 3) (List.mem_of_getElem? (i := 65) rfl)) (tgt := 129) rfl (fun c52 => ?_) (fun c52 => ?_)
                  · skip
                    have hnE : ¬ cE rr (v7.toInt + i) m0.toInt v10.toInt k0 := fun g => g.2.2.2 (by rw [e28] at e51; omega)
                    refine ff_iinc (k := 2) hx hb (eX6_changeBehind (129, .iinc 6 1, 3) (List.mem_of_getElem? (i := 68) rfl)) hl49 rfl (by decide) (by decide) (by decide) (by omega) (by omega) (fun v53 e53 ls53 hl53 => ?_)
                    refine lv_goto hx hb (eX6_changeBehind (132, .goto (-70), 3) (List.mem_of_getElem? (i := 69) rfl)) (tgt := 62) rfl ?_
                    exact ih2 (k0 + 1) v53 ls53 _ (by omega) (by omega) (by rw [← htot3, if_neg hnE]) hh51 (lv_sub hl53 [0, 3, 4, 5, 6, 7] rfl)
                  · skip
                    refine lv_lload hx hb (eX6_changeBehind (126, .lload 7, 2) (List.mem_of_getElem? (i := 66) rfl)) (lv_at hl49 1 rfl) ?_
                    rw [e28] at e51
                    have hE : cE rr (v7.toInt + i) m0.toInt v10.toInt k0 := ⟨by omega, by omega, by omega, fun g => by omega⟩
                    rw [if_pos hE] at htot3
                    exact W.lret hx hb hr (fun t ht hW => ⟨_, rfl, by rw [← htot]; show _ = (if _ then _ else _ : Int); rw [if_neg (by rw [← htot3]; unfold NONEI; omega), ← htot3]; exact e28, by rw [ht]; exact hh51.l0, by rw [ht]; exact kp20, by rw [ht]; exact j20, by rw [ht]; exact fr20⟩) hh51.2.2.1 (eX6_changeBehind (128, .lreturn, 1) (List.mem_of_getElem? (i := 67) rfl))
        exact loop2 3 0 v21 ls22 _ (by omega) (by omega) rfl hh20 (lv_sub hl22 [0, 1, 2, 3, 4, 5] rfl)
    exact loop 8 0 v12 ls13 _ _ (by omega) (by omega) (by unfold cbF; rw [if_neg (by omega), g7, hbef]; show cyF _ _ _ 8 (v7.toInt + 0) = _; rw [Int.add_zero]) hh10 kp9 j9 fr9 (lv_sub hl13 [0, 3, 4, 2, 1] rfl)
  · skip
    refine ff_ldc2 (n := (-9223372036854775808)) hx hb hown h2 (clX6_ok 153 (-9223372036854775808) (List.mem_of_getElem? (i := 1) rfl)) (eX6_changeBehind (8, .ldc2_w 153, 3) (List.mem_of_getElem? (i := 4) rfl)) (fun v54 e54 => ?_)
    exact W.lret hx hb hr (fun t ht hW => ⟨_, rfl, by unfold cbF; rw [if_pos (by omega)]; unfold NONEI; omega, by rw [ht]; exact hh.l0, by rw [ht]; exact kp0, by rw [ht]; exact hJ, by rw [ht]; exact fr0⟩) hh.2.2.1 (eX6_changeBehind (11, .lreturn, 1) (List.mem_of_getElem? (i := 5) rfl))
