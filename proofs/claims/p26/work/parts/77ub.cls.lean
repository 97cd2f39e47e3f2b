set_option maxRecDepth 100000 in
set_option maxHeartbeats 4000000 in
theorem hX10_isFull (l : Launch) (D : va_G) (cA : Nat → ClassId) (ro : Nat → Option Nat) (sz : Nat) (H0 : Heap) (zq : Nat)  (zA zB : Nat) (ze : zE) (hq9 : ro zq = some 9)  : Met l yX10_isFull (gW yX10_isFull cX10_isFull 1 (some .boolean)) { frames := 0, cells := 0, slots := 0, locals := 0 } (zs_P D cA ro sz H0 (fun H => jZo D cA ro H zq zA zB ze) [.ref zq]) (fun _ st oc t => t.heap = st.heap ∧ ∃ r : Int32, oc = .returned (some (.int r)) ∧ ((r.toInt = 1 ∧ 60 ≤ (ze.2.length : Int)) ∨ (r.toInt = 0 ∧ (ze.2.length : Int) < 60))) 0 0 (zy_fr sz) := by
  refine zy_ofW (cc := cX10_isFull) (maxL := 1) (ret := (some .boolean)) (by decide +kernel) rfl ?_
  intro p e s m args below meth c s1 B hml hv
  obtain ⟨rfl, hh, hKn, hJ⟩ := hv
  have hx := B.exec
  have hb := B.bytes
  have hr := B.returns
  have hlk := B.notSynchronized
  have hts0 := atoms_spec (ws := gW yX10_isFull cX10_isFull 1 (some .boolean)) B.pre
  have h2 : ∀ w ∈ gT, w.before ([.ref zq] : List Value).toArray s = true := fun w hw => hts0 w (List.mem_cons_of_mem _ hw)
  have hown : s.vm.findClass RX10 = some m.cls := findClass_of_methodNamed B.named
  have hl := lv_entry [.ref zq] (n := 1) (Nat.le_of_ble_eq_true rfl)
  rw [lg_entry_eq]
  generalize (lg_sl [.ref zq] ++ List.replicate (1 - (lg_sl [.ref zq]).length) Slot.unset).toArray = ls at hl ⊢
  have hD := zD_all h2 hKn.1
  have hcl9 := fun (idx k : Nat) (t : zt_T) (h : (idx, 9, k) ∈ gfX10) (hk : fsX10[k]? = some t) => zf_clause (ro := ro) (ms := []) h2 hown hKn.1 gfX10_ok (by decide +kernel) idx 9 k 9 0 fsX10 t h rfl hk
  have kp0 : zc_kept D RTg ro [] s.heap s.heap := zc_kept.refl
  obtain ⟨-, rA, rB, f2, f3, ⟨k0, f0, hk0⟩, n, y, w, f4, hn, cA1, cB1, hc⟩ := id hJ
  obtain ⟨n9, g9, n1, n2⟩ := zh_fT (k := 4) (t := (0, 0, 60)) hh hq9 (show RTg[9]? = some (0, 9, 0, fsX10) from rfl) rfl
  cases f4.symm.trans g9
  dsimp only at n1 n2
  clear g9
  obtain ⟨-, xA, dA, hA⟩ := zh_arr hh rA (show RTg[14]? = some (1, 1, 60, [(1, (-9223372036854775808), 9223372036854775807)]) from rfl)
  have hyA : ∀ i, i < 60 → zt_ok ro (y i) (1, (-9223372036854775808), 9223372036854775807) := zs_arr (cA1.symm.trans dA) hA
  obtain ⟨-, xB, dB, hB⟩ := zh_arr hh rB (show RTg[15]? = some (1, 0, 60, [(0, (-2147483648), 2147483647)]) from rfl)
  have hyB : ∀ i, i < 60 → zt_ok ro (w i) (0, (-2147483648), 2147483647) := zs_arr (cB1.symm.trans dB) hB
  refine lv_aload_n hx hb (eX10_isFull (0, .aload_n 0, 1) (List.mem_of_getElem? (i := 0) rfl)) rfl (lv_at hl 0 rfl) ?_
  refine tz_get (r := 9) (k := 4) (t := (0, 0, 60)) hx hb hh hq9 rfl rfl (hcl9 19 4 (0, 0, 60) (by decide) rfl).1 f4 (eX10_isFull (1, .getfield 19, 3) (List.mem_of_getElem? (i := 1) rfl)) ?_
  refine ff_bipush hx hb (eX10_isFull (4, .bipush 60, 2) (List.mem_of_getElem? (i := 2) rfl)) (by decide) (by decide) (fun v1 e1 => ?_)
  refine ff_icmp_lt hx hb (eX10_isFull (6, .if_icmp .lt 7, 3) (List.mem_of_getElem? (i := 3) rfl)) (tgt := 13) rfl (fun c2 => ?_) (fun c2 => ?_)
  · skip
    refine ff_iconst hx hb (eX10_isFull (13, .iconst 0, 1) (List.mem_of_getElem? (i := 6) rfl)) (by decide) (by decide) (fun v3 e3 => ?_)
    exact W.zret hx hb hr (zn_bool (by omega) (by omega)) (fun t ht hW => ⟨ht, _, rfl, by omega⟩) (fun q hq => by cases hq) (eX10_isFull (14, .ireturn, 1) (List.mem_of_getElem? (i := 7) rfl))
  · skip
    refine ff_iconst hx hb (eX10_isFull (9, .iconst 1, 1) (List.mem_of_getElem? (i := 4) rfl)) (by decide) (by decide) (fun v4 e4 => ?_)
    refine lv_goto hx hb (eX10_isFull (10, .goto 4, 3) (List.mem_of_getElem? (i := 5) rfl)) (tgt := 14) rfl ?_
    exact W.zret hx hb hr (zn_bool (by omega) (by omega)) (fun t ht hW => ⟨ht, _, rfl, by omega⟩) (fun q hq => by cases hq) (eX10_isFull (14, .ireturn, 1) (List.mem_of_getElem? (i := 7) rfl))
set_option maxRecDepth 100000 in
set_option maxHeartbeats 4000000 in
theorem hX10_isBehindChanges (l : Launch) (D : va_G) (cA : Nat → ClassId) (ro : Nat → Option Nat) (sz : Nat) (H0 : Heap) (zq : Nat) (t0 : Int64) (zA zB : Nat) (ze : zE) (hq9 : ro zq = some 9)  : Met l yX10_isBehindChanges (gW yX10_isBehindChanges cX10_isBehindChanges 3 (some .boolean)) { frames := 0, cells := 0, slots := 0, locals := 0 } (zs_P D cA ro sz H0 (fun H => jZo D cA ro H zq zA zB ze) [.ref zq, .long t0]) (fun _ st oc t => t.heap = st.heap ∧ ∃ r : Int32, oc = .returned (some (.int r)) ∧ ((r.toInt = 1 ∧ bhC t0.toInt ze.2) ∨ (r.toInt = 0 ∧ ¬ bhC t0.toInt ze.2))) 0 0 (zy_fr sz) := by
  refine zy_ofW (cc := cX10_isBehindChanges) (maxL := 3) (ret := (some .boolean)) (by decide +kernel) rfl ?_
  intro p e s m args below meth c s1 B hml hv
  obtain ⟨rfl, hh, hKn, hJ⟩ := hv
  have hx := B.exec
  have hb := B.bytes
  have hr := B.returns
  have hlk := B.notSynchronized
  have hts0 := atoms_spec (ws := gW yX10_isBehindChanges cX10_isBehindChanges 3 (some .boolean)) B.pre
  have h2 : ∀ w ∈ gT, w.before ([.ref zq, .long t0] : List Value).toArray s = true := fun w hw => hts0 w (List.mem_cons_of_mem _ hw)
  have hown : s.vm.findClass RX10 = some m.cls := findClass_of_methodNamed B.named
  have hl := lv_entry [.ref zq, .long t0] (n := 3) (Nat.le_of_ble_eq_true rfl)
  rw [lg_entry_eq]
  generalize (lg_sl [.ref zq, .long t0] ++ List.replicate (3 - (lg_sl [.ref zq, .long t0]).length) Slot.unset).toArray = ls at hl ⊢
  have b_t0 := zn_i64 t0
  have hD := zD_all h2 hKn.1
  have hcl9 := fun (idx k : Nat) (t : zt_T) (h : (idx, 9, k) ∈ gfX10) (hk : fsX10[k]? = some t) => zf_clause (ro := ro) (ms := []) h2 hown hKn.1 gfX10_ok (by decide +kernel) idx 9 k 9 0 fsX10 t h rfl hk
  have kp0 : zc_kept D RTg ro [] s.heap s.heap := zc_kept.refl
  obtain ⟨-, rA, rB, f2, f3, ⟨k0, f0, hk0⟩, n, y, w, f4, hn, cA1, cB1, hc⟩ := id hJ
  obtain ⟨n9, g9, n1, n2⟩ := zh_fT (k := 4) (t := (0, 0, 60)) hh hq9 (show RTg[9]? = some (0, 9, 0, fsX10) from rfl) rfl
  cases f4.symm.trans g9
  dsimp only at n1 n2
  clear g9
  obtain ⟨-, xA, dA, hA⟩ := zh_arr hh rA (show RTg[14]? = some (1, 1, 60, [(1, (-9223372036854775808), 9223372036854775807)]) from rfl)
  have hyA : ∀ i, i < 60 → zt_ok ro (y i) (1, (-9223372036854775808), 9223372036854775807) := zs_arr (cA1.symm.trans dA) hA
  obtain ⟨-, xB, dB, hB⟩ := zh_arr hh rB (show RTg[15]? = some (1, 0, 60, [(0, (-2147483648), 2147483647)]) from rfl)
  have hyB : ∀ i, i < 60 → zt_ok ro (w i) (0, (-2147483648), 2147483647) := zs_arr (cB1.symm.trans dB) hB
  refine lv_aload_n hx hb (eX10_isBehindChanges (0, .aload_n 0, 1) (List.mem_of_getElem? (i := 0) rfl)) rfl (lv_at hl 0 rfl) ?_
  refine tz_get (r := 9) (k := 4) (t := (0, 0, 60)) hx hb hh hq9 rfl rfl (hcl9 19 4 (0, 0, 60) (by decide) rfl).1 f4 (eX10_isBehindChanges (1, .getfield 19, 3) (List.mem_of_getElem? (i := 1) rfl)) ?_
  refine ff_iconst hx hb (eX10_isBehindChanges (4, .iconst 1, 1) (List.mem_of_getElem? (i := 2) rfl)) (by decide) (by decide) (fun v1 e1 => ?_)
  refine ff_icmp_lt hx hb (eX10_isBehindChanges (5, .if_icmp .lt 28, 3) (List.mem_of_getElem? (i := 3) rfl)) (tgt := 33) rfl (fun c2 => ?_) (fun c2 => ?_)
  · skip
    refine ff_iconst hx hb (eX10_isBehindChanges (33, .iconst 1, 1) (List.mem_of_getElem? (i := 18) rfl)) (by decide) (by decide) (fun v3 e3 => ?_)
    refine lv_goto hx hb (eX10_isBehindChanges (34, .goto 4, 3) (List.mem_of_getElem? (i := 19) rfl)) (tgt := 38) rfl ?_
    exact W.zret hx hb hr (zn_bool (by omega) (by omega)) (fun t ht hW => ⟨ht, _, rfl, Or.inl ⟨by omega, fun c9 h9 => by rw [List.getElem?_eq_none (by omega)] at h9; cases h9⟩⟩) (fun q hq => by cases hq) (eX10_isBehindChanges (38, .ireturn, 1) (List.mem_of_getElem? (i := 21) rfl))
  · skip
    refine lv_aload_n hx hb (eX10_isBehindChanges (8, .aload_n 0, 1) (List.mem_of_getElem? (i := 4) rfl)) rfl (lv_at hl 0 rfl) ?_
    refine tz_get (r := 9) (k := 4) (t := (0, 0, 60)) hx hb hh hq9 rfl rfl (hcl9 19 4 (0, 0, 60) (by decide) rfl).1 f4 (eX10_isBehindChanges (9, .getfield 19, 3) (List.mem_of_getElem? (i := 5) rfl)) ?_
    refine ff_bipush hx hb (eX10_isBehindChanges (12, .bipush 60, 2) (List.mem_of_getElem? (i := 6) rfl)) (by decide) (by decide) (fun v4 e4 => ?_)
    refine ff_icmp_gt hx hb (eX10_isBehindChanges (14, .if_icmp .gt 19, 3) (List.mem_of_getElem? (i := 7) rfl)) (tgt := 33) rfl (fun c5 => (by exfalso; omega)) (fun c5 => ?_)
    refine lv_lload_n hx hb (eX10_isBehindChanges (17, .lload_n 1, 1) (List.mem_of_getElem? (i := 8) rfl)) rfl (lv_at hl 1 rfl) ?_
    refine lv_aload_n hx hb (eX10_isBehindChanges (18, .aload_n 0, 1) (List.mem_of_getElem? (i := 9) rfl)) rfl (lv_at hl 0 rfl) ?_
    refine tz_get (r := 9) (k := 2) (t := (32, 0, 0)) hx hb hh hq9 rfl rfl (hcl9 9 2 (32, 0, 0) (by decide) rfl).1 f2 (eX10_isBehindChanges (19, .getfield 9, 3) (List.mem_of_getElem? (i := 10) rfl)) ?_
    refine lv_aload_n hx hb (eX10_isBehindChanges (22, .aload_n 0, 1) (List.mem_of_getElem? (i := 11) rfl)) rfl (lv_at hl 0 rfl) ?_
    refine tz_get (r := 9) (k := 4) (t := (0, 0, 60)) hx hb hh hq9 rfl rfl (hcl9 19 4 (0, 0, 60) (by decide) rfl).1 f4 (eX10_isBehindChanges (23, .getfield 19, 3) (List.mem_of_getElem? (i := 12) rfl)) ?_
    refine ff_iconst hx hb (eX10_isBehindChanges (26, .iconst 1, 1) (List.mem_of_getElem? (i := 13) rfl)) (by decide) (by decide) (fun v6 e6 => ?_)
    refine ff_isub hx hb (eX10_isBehindChanges (27, .isub, 1) (List.mem_of_getElem? (i := 14) rfl)) (by omega) (by omega) (fun v7 e7 => ?_)
    refine tz_lald hx hb (zAr hKn.1 1 (by decide)) cA1 (by omega) (by omega) (eX10_isBehindChanges (28, .laload, 1) (List.mem_of_getElem? (i := 15) rfl)) ?_
    obtain ⟨tv, ov, hy1, -, hC1⟩ := hc (ze.2.length - 1) (by omega)
    rw [show v7.toNatClampNeg = ze.2.length - 1 by show v7.toInt.toNat = _; omega, hy1]
    refine ff_lcmp hx hb (eX10_isBehindChanges (29, .lcmp, 1) (List.mem_of_getElem? (i := 16) rfl)) (fun v9 e9 => ?_)
    refine ff_if_le hx hb (eX10_isBehindChanges (30, .ifCond .le 7, 3) (List.mem_of_getElem? (i := 17) rfl)) (tgt := 37) rfl (fun c10 => ?_) (fun c10 => ?_)
    · skip
      refine ff_iconst hx hb (eX10_isBehindChanges (37, .iconst 0, 1) (List.mem_of_getElem? (i := 20) rfl)) (by decide) (by decide) (fun v11 e11 => ?_)
      exact W.zret hx hb hr (zn_bool (by omega) (by omega)) (fun t ht hW => ⟨ht, _, rfl, Or.inr ⟨by omega, fun g => by have g1 : tv.toInt < t0.toInt := g _ hC1; omega⟩⟩) (fun q hq => by cases hq) (eX10_isBehindChanges (38, .ireturn, 1) (List.mem_of_getElem? (i := 21) rfl))
    · skip
      refine ff_iconst hx hb (eX10_isBehindChanges (33, .iconst 1, 1) (List.mem_of_getElem? (i := 18) rfl)) (by decide) (by decide) (fun v12 e12 => ?_)
      refine lv_goto hx hb (eX10_isBehindChanges (34, .goto 4, 3) (List.mem_of_getElem? (i := 19) rfl)) (tgt := 38) rfl ?_
      exact W.zret hx hb hr (zn_bool (by omega) (by omega)) (fun t ht hW => ⟨ht, _, rfl, Or.inl ⟨by omega, fun c9 h9 => by cases hC1.symm.trans h9; show tv.toInt < t0.toInt; omega⟩⟩) (fun q hq => by cases hq) (eX10_isBehindChanges (38, .ireturn, 1) (List.mem_of_getElem? (i := 21) rfl))
set_option maxRecDepth 100000 in
set_option maxHeartbeats 4000000 in
theorem hX10_add (l : Launch) (D : va_G) (cA : Nat → ClassId) (ro : Nat → Option Nat) (sz : Nat) (H0 : Heap) (zq : Nat) (t0 : Int64) (o0 : Int32) (zA zB : Nat) (ze : zE) (hq9 : ro zq = some 9) (hlt : (ze.2.length : Int) < 60) : Met l yX10_add (gW yX10_add cX10_add 4 (some .int)) { frames := 0, cells := 0, slots := 0, locals := 0 } (zs_P D cA ro sz H0 (fun H => jZo D cA ro H zq zA zB ze) [.ref zq, .long t0, .int o0]) (fun _ st oc t => ∃ r : Int32, oc = .returned (some (.int r)) ∧ zh_ok D cA RTg ro sz H0 t.heap [] ∧ zc_kept D RTg ro [(9, 4), (14, 0), (15, 0)] st.heap t.heap ∧ (∀ p9 : Nat, p9 ≠ zq → p9 ≠ zA → p9 ≠ zB → t.heap[p9]? = st.heap[p9]?) ∧ r.toInt = (ze.2.length : Int) + 1 ∧ jZo D cA ro t.heap zq zA zB (ze.1, ze.2 ++ [(t0.toInt, o0.toInt)])) 0 0 (zy_fr sz) := by
  refine zy_ofW (cc := cX10_add) (maxL := 4) (ret := (some .int)) (by decide +kernel) rfl ?_
  intro p e s m args below meth c s1 B hml hv
  obtain ⟨rfl, hh, hKn, hJ⟩ := hv
  have hx := B.exec
  have hb := B.bytes
  have hr := B.returns
  have hlk := B.notSynchronized
  have hts0 := atoms_spec (ws := gW yX10_add cX10_add 4 (some .int)) B.pre
  have h2 : ∀ w ∈ gT, w.before ([.ref zq, .long t0, .int o0] : List Value).toArray s = true := fun w hw => hts0 w (List.mem_cons_of_mem _ hw)
  have hown : s.vm.findClass RX10 = some m.cls := findClass_of_methodNamed B.named
  have hl := lv_entry [.ref zq, .long t0, .int o0] (n := 4) (Nat.le_of_ble_eq_true rfl)
  rw [lg_entry_eq]
  generalize (lg_sl [.ref zq, .long t0, .int o0] ++ List.replicate (4 - (lg_sl [.ref zq, .long t0, .int o0]).length) Slot.unset).toArray = ls at hl ⊢
  have b_t0 := zn_i64 t0
  have b_o0 := zn_i32 o0
  have hD := zD_all h2 hKn.1
  have hcl9 := fun (idx k : Nat) (t : zt_T) (h : (idx, 9, k) ∈ gfX10) (hk : fsX10[k]? = some t) => zf_clause (ro := ro) (ms := [(9, 4), (14, 0), (15, 0)]) h2 hown hKn.1 gfX10_ok (by decide +kernel) idx 9 k 9 0 fsX10 t h rfl hk
  have kp0 : zc_kept D RTg ro [(9, 4), (14, 0), (15, 0)] s.heap s.heap := zc_kept.refl
  obtain ⟨-, rA, rB, f2, f3, ⟨k0, f0, hk0⟩, n, y, w, f4, hn, cA1, cB1, hc⟩ := id hJ
  obtain ⟨n9, g9, n1, n2⟩ := zh_fT (k := 4) (t := (0, 0, 60)) hh hq9 (show RTg[9]? = some (0, 9, 0, fsX10) from rfl) rfl
  cases f4.symm.trans g9
  dsimp only at n1 n2
  clear g9
  obtain ⟨-, xA, dA, hA⟩ := zh_arr hh rA (show RTg[14]? = some (1, 1, 60, [(1, (-9223372036854775808), 9223372036854775807)]) from rfl)
  have hyA : ∀ i, i < 60 → zt_ok ro (y i) (1, (-9223372036854775808), 9223372036854775807) := zs_arr (cA1.symm.trans dA) hA
  obtain ⟨-, xB, dB, hB⟩ := zh_arr hh rB (show RTg[15]? = some (1, 0, 60, [(0, (-2147483648), 2147483647)]) from rfl)
  have hyB : ∀ i, i < 60 → zt_ok ro (w i) (0, (-2147483648), 2147483647) := zs_arr (cB1.symm.trans dB) hB
  refine lv_aload_n hx hb (eX10_add (0, .aload_n 0, 1) (List.mem_of_getElem? (i := 0) rfl)) rfl (lv_at hl 0 rfl) ?_
  refine tz_get (r := 9) (k := 4) (t := (0, 0, 60)) hx hb hh hq9 rfl rfl (hcl9 19 4 (0, 0, 60) (by decide) rfl).1 f4 (eX10_add (1, .getfield 19, 3) (List.mem_of_getElem? (i := 1) rfl)) ?_
  refine ff_bipush hx hb (eX10_add (4, .bipush 60, 2) (List.mem_of_getElem? (i := 2) rfl)) (by decide) (by decide) (fun v1 e1 => ?_)
  refine ff_icmp_ge hx hb (eX10_add (6, .if_icmp .ge 33, 3) (List.mem_of_getElem? (i := 3) rfl)) (tgt := 39) rfl (fun c2 => (by exfalso; omega)) (fun c2 => ?_)
  refine lv_aload_n hx hb (eX10_add (9, .aload_n 0, 1) (List.mem_of_getElem? (i := 4) rfl)) rfl (lv_at hl 0 rfl) ?_
  refine tz_get (r := 9) (k := 2) (t := (32, 0, 0)) hx hb hh hq9 rfl rfl (hcl9 9 2 (32, 0, 0) (by decide) rfl).1 f2 (eX10_add (10, .getfield 9, 3) (List.mem_of_getElem? (i := 5) rfl)) ?_
  refine lv_aload_n hx hb (eX10_add (13, .aload_n 0, 1) (List.mem_of_getElem? (i := 6) rfl)) rfl (lv_at hl 0 rfl) ?_
  refine tz_get (r := 9) (k := 4) (t := (0, 0, 60)) hx hb hh hq9 rfl rfl (hcl9 19 4 (0, 0, 60) (by decide) rfl).1 f4 (eX10_add (14, .getfield 19, 3) (List.mem_of_getElem? (i := 7) rfl)) ?_
  refine lv_lload_n hx hb (eX10_add (17, .lload_n 1, 1) (List.mem_of_getElem? (i := 8) rfl)) rfl (lv_at hl 1 rfl) ?_
  refine tz_last hx hb (zAr hKn.1 1 (by decide)) hh rA (show RTg[14]? = some (1, 1, 60, [(1, (-9223372036854775808), 9223372036854775807)]) from rfl) cA1 hyA (by omega) (by omega) (tz_l (zn_i64 _).1 (zn_i64 _).2) (eX10_add (18, .lastore, 1) (List.mem_of_getElem? (i := 9) rfl)) (fun H3 lo3 hh3 hc3 hk3 hq3 _ => ?_)
  have mf3_zq_0 := (hk3.1 zq 9 0 9 0 fsX10 hq9 rfl (by decide) (by decide)).trans f0
  have mf3_zq_2 := (hk3.1 zq 9 2 9 0 fsX10 hq9 rfl (by decide) (by decide)).trans f2
  have mf3_zq_3 := (hk3.1 zq 9 3 9 0 fsX10 hq9 rfl (by decide) (by decide)).trans f3
  have mf3_zq_4 := (hk3.1 zq 9 4 9 0 fsX10 hq9 rfl (by decide) (by decide)).trans f4
  have mc3_zB := (hk3.2 zB 15 0 0 60 _ rB rfl (by decide)).trans cB1
  have kp3 := kp0.trans (hk3.mono (ms' := [(9, 4), (14, 0), (15, 0)]) (fun x hx => by cases List.mem_singleton.mp hx; decide))
  refine lv_aload_n hx hb (eX10_add (19, .aload_n 0, 1) (List.mem_of_getElem? (i := 10) rfl)) rfl (lv_at hl 0 rfl) ?_
  refine tz_get (r := 9) (k := 3) (t := (34, 0, 0)) hx hb hh3 hq9 rfl rfl (hcl9 15 3 (34, 0, 0) (by decide) rfl).1 mf3_zq_3 (eX10_add (20, .getfield 15, 3) (List.mem_of_getElem? (i := 11) rfl)) ?_
  refine lv_aload_n hx hb (eX10_add (23, .aload_n 0, 1) (List.mem_of_getElem? (i := 12) rfl)) rfl (lv_at hl 0 rfl) ?_
  refine tz_get (r := 9) (k := 4) (t := (0, 0, 60)) hx hb hh3 hq9 rfl rfl (hcl9 19 4 (0, 0, 60) (by decide) rfl).1 mf3_zq_4 (eX10_add (24, .getfield 19, 3) (List.mem_of_getElem? (i := 13) rfl)) ?_
  refine lv_iload_n hx hb (eX10_add (27, .iload_n 3, 1) (List.mem_of_getElem? (i := 14) rfl)) rfl (lv_at hl 2 rfl) ?_
  refine tz_iast hx hb (zAr hKn.1 0 (by decide)) hh3 rB (show RTg[15]? = some (1, 0, 60, [(0, (-2147483648), 2147483647)]) from rfl) mc3_zB hyB (by omega) (by omega) (tz_i (by omega) (by omega)) (eX10_add (28, .iastore, 1) (List.mem_of_getElem? (i := 15) rfl)) (fun H4 lo4 hh4 hc4 hk4 hq4 _ => ?_)
  have mf4_zq_0 := (hk4.1 zq 9 0 9 0 fsX10 hq9 rfl (by decide) (by decide)).trans mf3_zq_0
  have mf4_zq_2 := (hk4.1 zq 9 2 9 0 fsX10 hq9 rfl (by decide) (by decide)).trans mf3_zq_2
  have mf4_zq_3 := (hk4.1 zq 9 3 9 0 fsX10 hq9 rfl (by decide) (by decide)).trans mf3_zq_3
  have mf4_zq_4 := (hk4.1 zq 9 4 9 0 fsX10 hq9 rfl (by decide) (by decide)).trans mf3_zq_4
  have mc4_zA := (hk4.2 zA 14 0 1 60 _ rA rfl (by decide)).trans hc3
  have kp4 := kp3.trans (hk4.mono (ms' := [(9, 4), (14, 0), (15, 0)]) (fun x hx => by cases List.mem_singleton.mp hx; decide))
  refine lv_aload_n hx hb (eX10_add (29, .aload_n 0, 1) (List.mem_of_getElem? (i := 16) rfl)) rfl (lv_at hl 0 rfl) ?_
  refine lv_dup hx hb (eX10_add (30, .dup, 1) (List.mem_of_getElem? (i := 17) rfl)) rfl ?_
  refine tz_get (r := 9) (k := 4) (t := (0, 0, 60)) hx hb hh4 hq9 rfl rfl (hcl9 19 4 (0, 0, 60) (by decide) rfl).1 mf4_zq_4 (eX10_add (31, .getfield 19, 3) (List.mem_of_getElem? (i := 18) rfl)) ?_
  refine ff_iconst hx hb (eX10_add (34, .iconst 1, 1) (List.mem_of_getElem? (i := 19) rfl)) (by decide) (by decide) (fun v5 e5 => ?_)
  refine ff_iadd hx hb (eX10_add (35, .iadd, 1) (List.mem_of_getElem? (i := 20) rfl)) (by omega) (by omega) (fun v6 e6 => ?_)
  refine tz_put (r := 9) (k := 4) (t := (0, 0, 60)) hx hb hD hh4 hq9 rfl rfl ((hcl9 19 4 (0, 0, 60) (by decide) rfl).2 (by decide)) (tz_i (by omega) (by omega)) (eX10_add (36, .putfield 19, 3) (List.mem_of_getElem? (i := 21) rfl)) (fun H7 lo7 hh7 hf7 hk7 _ hq7 => ?_)
  have mf7_zq_0 := (hk7.1 zq 9 0 9 0 fsX10 hq9 rfl (by decide) (by decide)).trans mf4_zq_0
  have mf7_zq_2 := (hk7.1 zq 9 2 9 0 fsX10 hq9 rfl (by decide) (by decide)).trans mf4_zq_2
  have mf7_zq_3 := (hk7.1 zq 9 3 9 0 fsX10 hq9 rfl (by decide) (by decide)).trans mf4_zq_3
  have mc7_zA := (hk7.2 zA 14 0 1 60 _ rA rfl (by decide)).trans mc4_zA
  have mc7_zB := (hk7.2 zB 15 0 0 60 _ rB rfl (by decide)).trans hc4
  have kp7 := kp4.trans (hk7.mono (ms' := [(9, 4), (14, 0), (15, 0)]) (fun x hx => by cases List.mem_singleton.mp hx; decide))
  refine lv_aload_n hx hb (eX10_add (39, .aload_n 0, 1) (List.mem_of_getElem? (i := 22) rfl)) rfl (lv_at hl 0 rfl) ?_
  refine tz_get (r := 9) (k := 4) (t := (0, 0, 60)) hx hb hh7 hq9 rfl rfl (hcl9 19 4 (0, 0, 60) (by decide) rfl).1 hf7 (eX10_add (40, .getfield 19, 3) (List.mem_of_getElem? (i := 23) rfl)) ?_
  have hcc := cN_app (t := t0) (o := o0) hc
  rw [← show n.toNatClampNeg = ze.2.length by show n.toInt.toNat = _; omega] at hcc
  exact W.zret hx hb hr rfl (fun t ht hW => ⟨_, rfl, by rw [ht]; exact hh7.l0, by rw [ht]; exact kp7, fun p9 h1 h2 h3 => by rw [ht, hq7 p9 h1, hq4 p9 h3, hq3 p9 h2], by omega, by rw [ht]; exact ⟨hq9, rA, rB, mf7_zq_2, mf7_zq_3, ⟨k0, mf7_zq_0, hk0⟩, _, _, _, hf7, by show _ = ((ze.2 ++ [(t0.toInt, o0.toInt)]).length : Int); rw [List.length_append]; show _ = ((ze.2.length + 1 : Nat) : Int); omega, mc7_zA, mc7_zB, hcc⟩⟩) hh7.2.2.1 (eX10_add (43, .ireturn, 1) (List.mem_of_getElem? (i := 24) rfl))
set_option maxRecDepth 100000 in
set_option maxHeartbeats 4000000 in
theorem hX11_zoneAt (l : Launch) (D : va_G) (cA : Nat → ClassId) (ro : Nat → Option Nat) (sz : Nat) (H0 : Heap) (x : Nat) (zi : Int32) (az : Nat) (z : Nat → Value) (nz : Int32) (hx10 : ro x = some 10)  : Met l yX11_zoneAt (gW yX11_zoneAt cX11_zoneAt 2 (some (.object "MomentTexts$Zone"))) { frames := 0, cells := 0, slots := 0, locals := 0 } (zs_P D cA ro sz H0 (fun H => jZa D cA ro H x az z nz) [.ref x, .int zi]) (fun _ st oc t => t.heap = st.heap ∧ ((oc = .returned (some .null) ∧ (zi.toInt < 0 ∨ nz.toInt ≤ zi.toInt)) ∨ (oc = .returned (some (z zi.toInt.toNat)) ∧ 0 ≤ zi.toInt ∧ zi.toInt < nz.toInt))) 0 0 (zy_fr sz) := by
  refine zy_ofW (cc := cX11_zoneAt) (maxL := 2) (ret := (some (.object "MomentTexts$Zone"))) (by decide +kernel) rfl ?_
  intro p e s m args below meth c s1 B hml hv
  obtain ⟨rfl, hh, hKn, hJ⟩ := hv
  have hx := B.exec
  have hb := B.bytes
  have hr := B.returns
  have hlk := B.notSynchronized
  have hts0 := atoms_spec (ws := gW yX11_zoneAt cX11_zoneAt 2 (some (.object "MomentTexts$Zone"))) B.pre
  have h2 : ∀ w ∈ gT, w.before ([.ref x, .int zi] : List Value).toArray s = true := fun w hw => hts0 w (List.mem_cons_of_mem _ hw)
  have hown : s.vm.findClass RX11 = some m.cls := findClass_of_methodNamed B.named
  have hl := lv_entry [.ref x, .int zi] (n := 2) (Nat.le_of_ble_eq_true rfl)
  rw [lg_entry_eq]
  generalize (lg_sl [.ref x, .int zi] ++ List.replicate (2 - (lg_sl [.ref x, .int zi]).length) Slot.unset).toArray = ls at hl ⊢
  have b_zi := zn_i32 zi
  have hD := zD_all h2 hKn.1
  have hcl10 := fun (idx k : Nat) (t : zt_T) (h : (idx, 10, k) ∈ gfX11) (hk : fsX11[k]? = some t) => zf_clause (ro := ro) (ms := []) h2 hown hKn.1 gfX11_ok (by decide +kernel) idx 10 k 10 0 fsX11 t h rfl hk
  have kp0 : zc_kept D RTg ro [] s.heap s.heap := zc_kept.refl
  obtain ⟨f1, r0, hc, f2⟩ := id hJ
  obtain ⟨n9, g9, n1, n2⟩ := zh_fT (k := 2) (t := (0, 0, 8)) hh hx10 (show RTg[10]? = some (0, 10, 0, fsX11) from rfl) rfl
  cases f2.symm.trans g9
  dsimp only at n1 n2
  clear g9
  obtain ⟨-, z9, c9, hy9⟩ := zh_arr hh r0 (show RTg[20]? = some (1, 4, 8, [(23, 0, 0)]) from rfl)
  have hy : ∀ i, i < 8 → zt_ok ro (z i) (23, 0, 0) := zs_arr (hc.symm.trans c9) hy9
  refine lv_iload_n hx hb (eX11_zoneAt (0, .iload_n 1, 1) (List.mem_of_getElem? (i := 0) rfl)) rfl (lv_at hl 1 rfl) ?_
  refine ff_if_lt hx hb (eX11_zoneAt (1, .ifCond .lt 20, 3) (List.mem_of_getElem? (i := 1) rfl)) (tgt := 21) rfl (fun c1 => ?_) (fun c1 => ?_)
  · skip
    refine lv_null hx hb (eX11_zoneAt (21, .aconst_null, 1) (List.mem_of_getElem? (i := 11) rfl)) ?_
    refine lv_goto hx hb (eX11_zoneAt (22, .goto 9, 3) (List.mem_of_getElem? (i := 12) rfl)) (tgt := 31) rfl ?_
    exact W.aret hx hb hr (Or.inl ⟨_, rfl⟩) (Or.inl rfl) (fun t ht hW => ⟨ht, Or.inl ⟨rfl, by omega⟩⟩) (fun q hq => by cases hq) (eX11_zoneAt (31, .areturn, 1) (List.mem_of_getElem? (i := 17) rfl))
  · skip
    refine lv_iload_n hx hb (eX11_zoneAt (4, .iload_n 1, 1) (List.mem_of_getElem? (i := 2) rfl)) rfl (lv_at hl 1 rfl) ?_
    refine lv_aload_n hx hb (eX11_zoneAt (5, .aload_n 0, 1) (List.mem_of_getElem? (i := 3) rfl)) rfl (lv_at hl 0 rfl) ?_
    refine tz_get (r := 10) (k := 2) (t := (0, 0, 8)) hx hb hh hx10 rfl rfl (hcl10 24 2 (0, 0, 8) (by decide) rfl).1 f2 (eX11_zoneAt (6, .getfield 24, 3) (List.mem_of_getElem? (i := 4) rfl)) ?_
    refine ff_icmp_ge hx hb (eX11_zoneAt (9, .if_icmp .ge 12, 3) (List.mem_of_getElem? (i := 5) rfl)) (tgt := 21) rfl (fun c2 => ?_) (fun c2 => ?_)
    · skip
      refine lv_null hx hb (eX11_zoneAt (21, .aconst_null, 1) (List.mem_of_getElem? (i := 11) rfl)) ?_
      refine lv_goto hx hb (eX11_zoneAt (22, .goto 9, 3) (List.mem_of_getElem? (i := 12) rfl)) (tgt := 31) rfl ?_
      exact W.aret hx hb hr (Or.inl ⟨_, rfl⟩) (Or.inl rfl) (fun t ht hW => ⟨ht, Or.inl ⟨rfl, by omega⟩⟩) (fun q hq => by cases hq) (eX11_zoneAt (31, .areturn, 1) (List.mem_of_getElem? (i := 17) rfl))
    · skip
      refine lv_iload_n hx hb (eX11_zoneAt (12, .iload_n 1, 1) (List.mem_of_getElem? (i := 6) rfl)) rfl (lv_at hl 1 rfl) ?_
      refine lv_aload_n hx hb (eX11_zoneAt (13, .aload_n 0, 1) (List.mem_of_getElem? (i := 7) rfl)) rfl (lv_at hl 0 rfl) ?_
      refine tz_get (r := 10) (k := 1) (t := (44, 0, 0)) hx hb hh hx10 rfl rfl (hcl10 20 1 (44, 0, 0) (by decide) rfl).1 f1 (eX11_zoneAt (14, .getfield 20, 3) (List.mem_of_getElem? (i := 8) rfl)) ?_
      refine W.alen (n := nI 8) hx hb hc (zAr hKn.1 4 (by decide) 8 z) (by rw [arrV_size]; rfl) rfl rfl (eX11_zoneAt (17, .arraylength, 1) (List.mem_of_getElem? (i := 9) rfl)) ?_
      have e3 : (nI 8).toInt = 8 := nI_toInt (by decide)
      generalize nI 8 = v3 at e3 ⊢
      refine ff_icmp_lt hx hb (eX11_zoneAt (18, .if_icmp .lt 7, 3) (List.mem_of_getElem? (i := 10) rfl)) (tgt := 25) rfl (fun c4 => ?_) (fun c4 => ?_)
      · skip
        refine lv_aload_n hx hb (eX11_zoneAt (25, .aload_n 0, 1) (List.mem_of_getElem? (i := 13) rfl)) rfl (lv_at hl 0 rfl) ?_
        refine tz_get (r := 10) (k := 1) (t := (44, 0, 0)) hx hb hh hx10 rfl rfl (hcl10 20 1 (44, 0, 0) (by decide) rfl).1 f1 (eX11_zoneAt (26, .getfield 20, 3) (List.mem_of_getElem? (i := 14) rfl)) ?_
        refine lv_iload_n hx hb (eX11_zoneAt (29, .iload_n 1, 1) (List.mem_of_getElem? (i := 15) rfl)) rfl (lv_at hl 1 rfl) ?_
        refine W.aald hx hb hc (zAr hKn.1 4 (by decide) 8 z) rfl (fun h => by cases h) (by rw [arrV_size]; exact tz_in (by omega) (by omega)) (arrV_read _ _ (Nat.not_le.mp fun q => tz_in (N := 8) (j := zi) (by omega) (by omega) (Or.inr q))) rfl rfl (eX11_zoneAt (30, .aaload, 1) (List.mem_of_getElem? (i := 16) rfl)) ?_
        exact W.aret hx hb hr (Or.inl ⟨_, rfl⟩) ((hy zi.toNatClampNeg (by show zi.toInt.toNat < 8; omega)).imp (fun h => h.2) (fun ⟨q, h, _⟩ => ⟨q, h⟩)) (fun t ht hW => ⟨ht, Or.inr ⟨rfl, by omega, by omega⟩⟩) (fun q hq => by cases hq) (eX11_zoneAt (31, .areturn, 1) (List.mem_of_getElem? (i := 17) rfl))
      · skip
        refine lv_null hx hb (eX11_zoneAt (21, .aconst_null, 1) (List.mem_of_getElem? (i := 11) rfl)) ?_
        refine lv_goto hx hb (eX11_zoneAt (22, .goto 9, 3) (List.mem_of_getElem? (i := 12) rfl)) (tgt := 31) rfl ?_
        exact W.aret hx hb hr (Or.inl ⟨_, rfl⟩) (Or.inl rfl) (fun t ht hW => ⟨ht, Or.inl ⟨rfl, by omega⟩⟩) (fun q hq => by cases hq) (eX11_zoneAt (31, .areturn, 1) (List.mem_of_getElem? (i := 17) rfl))
section TZNZ
variable {p : Program} {l : Launch} {e : Env} {R : Room} {s : State} {m : MethodId} {args : Array Value} {below : List Frame} {meth : Method} {c : Code} {H : Heap} {locs : List Loc} {cells slots : Nat} {Q : State → Prop} {cc : ByteArray} {pc : Nat} {ls : Array Slot} {st : List Value}
variable {D : va_G} {cA : Nat → ClassId} {ro : Nat → Option Nat} {sz : Nat} {H0 : Heap}
theorem tz_aastZ {a v : Nat} {z : Nat → Value} {j : Int32} (hx : p.tables.exec = Jvm.exec) (hb : c.code = cc) (hK : zK0 D cA s) (hh : zh_ok D cA RTg ro sz H0 H locs) (ha : ro a = some 20) (c1 : H[a]? = some (arrV (cA 4) 8 z)) (hv : ro v = some 9) (h1 : 0 ≤ j.toInt) (h2 : j.toInt < 8) (hd : decode cc pc = .ok (.aastore, 1))
    (kk : ∀ (H' : Heap) (locs' : List Loc), zh_ok D cA RTg ro sz H0 H' locs' → H'[a]? = some (arrV (cA 4) 8 (updV z j.toNatClampNeg (.ref v))) → (∀ q : Nat, q ≠ a → H'[q]? = H[q]?) → W p l e R s m args below meth c H' locs' cells slots Q (F0 m (pc + 1) ls st)) : W p l e R s m args below meth c H locs cells slots Q (F0 m pc ls (.ref v :: .int j :: .ref a :: st)) := by
  have hR20 : RTg[20]? = some (1, 4, 8, [(23, 0, 0)]) := rfl
  obtain ⟨hsa, z9, c9, y9⟩ := zh_arr hh ha hR20
  have y1 : ∀ i, i < 8 → zt_ok ro (z i) (23, 0, 0) := zs_arr (c1.symm.trans c9) y9
  obtain ⟨-, cellV, g1, g2, g3, -⟩ := zh_obj hh hv (show RTg[9]? = some (0, 9, 0, fsX10) from rfl)
  have hin := tz_in (N := 8) h1 h2
  have hlt : j.toNatClampNeg < 8 := Nat.not_le.mp fun q => hin (Or.inr q)
  have h0 : ¬ j < 0 := fun q => hin (Or.inl q)
  have hcls := (hK.1 9 _ rfl).2
  obtain ⟨kA, comp, k1, k2, k3, -⟩ := (hK.2 4 _ rfl).2
  have hcomp : comp = D.1 9 := Option.some.inj (k3.symm.trans hcls.1)
  subst hcomp
  obtain ⟨kC, hkC, -⟩ := hcls.2
  refine W.aast hx hb c1 (fun q h => by cases h) (fun h => by cases h) k1 k2 rfl hkC ⟨h0, by show _ < (arrV _ _ _).slots.size; rw [arrV_size]; exact hlt⟩ g1 (fun q h => by rw [g3] at h; cases h) (by rw [g2]; exact hkC) (by rw [g2]; exact va_assign hcls) rfl rfl hd fun H1 e2 z2 oq => ?_
  rw [arrV_store] at e2
  exact kk H1 _ (zh_setA hh ha hR20 z2 e2 oq (tz_upd y1 (Or.inr ⟨v, rfl, hv⟩)) (fun q hq => by
    rcases List.mem_append.mp hq with g | g
    · exact hh.2.2.1 q g
    · rw [List.mem_singleton.mp g]; exact hsa)) e2 oq
end TZNZ
set_option maxRecDepth 100000 in
set_option maxHeartbeats 4000000 in
theorem hX11_leapZ (l : Launch) (hst : l.stackTraces = false) (D : va_G) (cA : Nat → ClassId) (ro : Nat → Option Nat) (sz : Nat) (H0 : Heap) (x : Nat) (d : Int64) (L : List Int) (Z : List zE) (hx10 : ro x = some 10) : vx_Met l yX11_leap (gW yX11_leap cX11_leap 3 (some .int)) { frames := 6, cells := 1, slots := 6, locals := 82 } (zs_PX D cA ro sz H0 (fun H => jCZ D cA ro H x L Z) [.ref x, .long d]) (zz_Q D cA ro sz H0 x vI (spLZ d.toInt L Z)) (zz_X D cA ro sz H0 L Z (spLZ d.toInt L Z)) 1 6 (zy_fr sz) := by
  refine vx_ofW (cc := cX11_leap) (maxL := 3) (ret := (some .int)) (by decide +kernel) rfl ?_
  intro p e s m args below meth c s1 B hml hex hv
  obtain ⟨rfl, hh, hKa, hKp, hJ⟩ := hv
  have hx := B.exec
  have hb := B.bytes
  have hr := B.returns
  have hlk := B.notSynchronized
  have hts0 := atoms_spec (ws := gW yX11_leap cX11_leap 3 (some .int)) B.pre
  have h2 : ∀ w ∈ gT, w.before ([.ref x, .long d] : List Value).toArray s = true := fun w hw => hts0 w (List.mem_cons_of_mem _ hw)
  have hown : s.vm.findClass RX11 = some m.cls := findClass_of_methodNamed B.named
  have hl := lv_entry [.ref x, .long d] (n := 3) (Nat.le_of_ble_eq_true rfl)
  rw [lg_entry_eq]
  generalize (lg_sl [.ref x, .long d] ++ List.replicate (3 - (lg_sl [.ref x, .long d]).length) Slot.unset).toArray = ls at hl ⊢
  have b_d := zn_i64 d
  have hBM : ∀ U : State, U.heap = s.heap → s.WarmedH U.vm → zBM cA U := fun U hU hW => zBM_B.2 s U hW hU hKp
  obtain ⟨⟨lp, fx0, rlp, hlp⟩, ⟨az, z, nz, qf, Af, Bf, hza, hnz, hzi⟩, hjl, hzw⟩ := id hJ
  obtain ⟨fz, rz, cz, fn⟩ := id hza
  obtain ⟨n9, g9, n1, n2⟩ := zh_fT (k := 2) (t := (0, 0, 8)) hh hx10 (show RTg[10]? = some (0, 10, 0, fsX11) from rfl) rfl
  cases fn.symm.trans g9
  dsimp only at n1 n2
  clear g9
  have hjL := hjl.2.1
  have hD := zD_all h2 hKa.1.1.1
  have hcl10 := fun (idx k : Nat) (t : zt_T) (h : (idx, 10, k) ∈ gfX11) (hk : fsX11[k]? = some t) => zf_clause (ro := ro) (ms := []) h2 hown hKa.1.1.1 gfX11_ok (by decide +kernel) idx 10 k 10 0 fsX11 t h rfl hk
  have kp0 : zc_kept D RTg ro zMc s.heap s.heap := zc_kept.refl
  refine lv_lload_n hx hb (eX11_leap (0, .lload_n 1, 1) (List.mem_of_getElem? (i := 0) rfl)) rfl (lv_at hl 1 rfl) ?_
  refine zu_S (vs := [.long d]) (rest := []) hx hb hml hown hts0 zu_BT (hX2_holds l d) ⟨rfl, rfl⟩ ⟨by decide, by decide⟩ ⟨by decide, by decide⟩ (tb_2 212 rfl rfl) (tb_1 13 rfl rfl) (tb_2 210 rfl rfl) (tb_2 211 rfl rfl) (show yX2_holds.cls ≠ "java/lang/invoke/MethodHandle" ∧ yX2_holds.cls ≠ "java/lang/invoke/VarHandle" ∧ (parseMethodDescriptor yX2_holds.desc).map (fun d => d.parameters.length) = some 1 by decide +kernel) rfl (fun _ _ _ => trivial) hl.1 (Nat.le_of_ble_eq_true rfl) (eX11_leap (1, .invokestatic 94, 3) (List.mem_of_getElem? (i := 1) rfl)) (fun w1 f1 => ?_)
  obtain ⟨v1, rfl, e1⟩ := f1
  refine ff_if_eq hx hb (eX11_leap (4, .ifCond .eq 14, 3) (List.mem_of_getElem? (i := 2) rfl)) (tgt := 18) rfl (fun c2 => ?_) (fun c2 => ?_)
  · skip
    exact zx_leafG (ik := 83) (is := 151) (ic := 87) (cls := "java/lang/IllegalArgumentException") (text := "no day that can become a leap day") hx hb hst hown h2 hKa.1 hh hh (by rw [hl.1, hml]) hex hlk ⟨by decide, by decide, by decide, by decide⟩ (tb_2 121 rfl rfl) (tb_1 17 rfl rfl) (by decide) (gAt_in gAt_1) (by decide +kernel) (by decide) (by decide) (fun t h7 h8 => ⟨hh.grow h7 h8, kept_grow hh h8, kept_grow hh h8, Or.inl ⟨rfl, 0, rfl, Or.inl ⟨rfl, rfl, Or.inl (by unfold dOK; omega)⟩⟩⟩) (eX11_leap (18, .new 83, 3) (List.mem_of_getElem? (i := 8) rfl)) (eX11_leap (21, .dup, 1) (List.mem_of_getElem? (i := 9) rfl)) (eX11_leap (22, .ldc 151, 2) (List.mem_of_getElem? (i := 10) rfl)) (eX11_leap (24, .invokespecial 87, 3) (List.mem_of_getElem? (i := 11) rfl)) (eX11_leap (27, .athrow, 1) (List.mem_of_getElem? (i := 12) rfl))
  · skip
    refine lv_aload_n hx hb (eX11_leap (7, .aload_n 0, 1) (List.mem_of_getElem? (i := 3) rfl)) rfl (lv_at hl 0 rfl) ?_
    refine tz_get (r := 10) (k := 0) (t := (12, 0, 0)) hx hb hh hx10 rfl rfl (hcl10 14 0 (12, 0, 0) (by decide) rfl).1 fx0 (eX11_leap (8, .getfield 14, 3) (List.mem_of_getElem? (i := 4) rfl)) ?_
    refine lv_lload_n hx hb (eX11_leap (11, .lload_n 1, 1) (List.mem_of_getElem? (i := 5) rfl)) rfl (lv_at hl 1 rfl) ?_
    refine tz_rowV (As := [.long d]) (st := []) (b := lp) (C := RX5) (Ts := gT) hx hb hml hown h2 (fun _ h => h) (hX5_has l D cA ro sz H0 lp d L rlp) ⟨rfl, rfl⟩ ⟨by decide, by decide⟩ ⟨by decide, by decide⟩ (tb_3 73 rfl rfl) (tb_1 2 rfl rfl) (tb_3 70 rfl rfl) (tb_3 71 rfl rfl) (tb_3 72 rfl rfl) (show yX5_has.cls ≠ "java/lang/invoke/MethodHandle" ∧ yX5_has.cls ≠ "java/lang/invoke/VarHandle" ∧ (parseMethodDescriptor yX5_has.desc).map (fun d => d.parameters.length) = some 1 by decide +kernel) zs_blind (zs_ob hh rlp (show RTg[4]? = some (0, 4, 0, fsX5) from rfl) (zCX5 hKa.1.1.1)) (fun U hU hW => ⟨rfl, by rw [hU]; exact hh.l0, zKb s U hW.alike hKa.1.1, by rw [hU]; exact hlp⟩) hh.2.2.1 hl.1 (Nat.le_of_ble_eq_true rfl) (eX11_leap (12, .invokevirtual 148, 3) (List.mem_of_getElem? (i := 6) rfl)) (fun r3 s3 t3 lo3 g3 f3 l3 => ?_)
    obtain ⟨z3, v3, q3, e3⟩ := f3
    cases q3
    rw [z3, g3]
    have hh3 : zh_ok D cA RTg ro sz H0 s.heap lo3 := ⟨hh.1, hh.2.1, l3, hh.2.2.2⟩
    refine W.eq (g2 := F0 m 15 ls [.int v3]) rfl ?_
    refine ff_if_eq hx hb (eX11_leap (15, .ifCond .eq 13, 3) (List.mem_of_getElem? (i := 7) rfl)) (tgt := 28) rfl (fun c4 => ?_) (fun c4 => ?_)
    · skip
      refine lv_aload_n hx hb (eX11_leap (28, .aload_n 0, 1) (List.mem_of_getElem? (i := 13) rfl)) rfl (lv_at hl 0 rfl) ?_
      refine tz_get (r := 10) (k := 0) (t := (12, 0, 0)) hx hb hh3 hx10 rfl rfl (hcl10 14 0 (12, 0, 0) (by decide) rfl).1 fx0 (eX11_leap (29, .getfield 14, 3) (List.mem_of_getElem? (i := 14) rfl)) ?_
      refine tz_rowV (As := []) (st := []) (b := lp) (C := RX5) (Ts := gT) hx hb hml hown h2 (fun _ h => h) (hX5_isFull l D cA ro sz H0 lp L rlp) ⟨rfl, rfl⟩ ⟨by decide, by decide⟩ ⟨by decide, by decide⟩ (tb_3 78 rfl rfl) (tb_1 2 rfl rfl) (tb_3 75 rfl rfl) (tb_3 76 rfl rfl) (tb_3 77 rfl rfl) (show yX5_isFull.cls ≠ "java/lang/invoke/MethodHandle" ∧ yX5_isFull.cls ≠ "java/lang/invoke/VarHandle" ∧ (parseMethodDescriptor yX5_isFull.desc).map (fun d => d.parameters.length) = some 0 by decide +kernel) zs_blind (zs_ob hh3 rlp (show RTg[4]? = some (0, 4, 0, fsX5) from rfl) (zCX5 hKa.1.1.1)) (fun U hU hW => ⟨rfl, by rw [hU]; exact hh3.l0, zKb s U hW.alike hKa.1.1, by rw [hU]; exact hlp⟩) hh3.2.2.1 hl.1 (Nat.le_of_ble_eq_true rfl) (eX11_leap (32, .invokevirtual 153, 3) (List.mem_of_getElem? (i := 15) rfl)) (fun r5 s5 t5 lo5 g5 f5 l5 => ?_)
      obtain ⟨z5, v5, q5, e5⟩ := f5
      cases q5
      rw [z5, g5]
      have hh5 : zh_ok D cA RTg ro sz H0 s.heap lo5 := ⟨hh3.1, hh3.2.1, l5, hh3.2.2.2⟩
      refine W.eq (g2 := F0 m 35 ls [.int v5]) rfl ?_
      refine ff_if_eq hx hb (eX11_leap (35, .ifCond .eq 13, 3) (List.mem_of_getElem? (i := 16) rfl)) (tgt := 48) rfl (fun c6 => ?_) (fun c6 => ?_)
      · skip
        refine lv_aload_n hx hb (eX11_leap (48, .aload_n 0, 1) (List.mem_of_getElem? (i := 22) rfl)) rfl (lv_at hl 0 rfl) ?_
        refine tz_get (r := 10) (k := 0) (t := (12, 0, 0)) hx hb hh5 hx10 rfl rfl (hcl10 14 0 (12, 0, 0) (by decide) rfl).1 fx0 (eX11_leap (49, .getfield 14, 3) (List.mem_of_getElem? (i := 23) rfl)) ?_
        refine lv_lload_n hx hb (eX11_leap (52, .lload_n 1, 1) (List.mem_of_getElem? (i := 24) rfl)) rfl (lv_at hl 1 rfl) ?_
        refine tz_rowV (As := [.long d]) (st := []) (b := lp) (C := RX5) (Ts := gT) hx hb hml hown h2 (fun _ h => h) (hX5_add l D cA ro sz H0 lp d L rlp (by omega)) ⟨rfl, rfl⟩ ⟨by decide, by decide⟩ ⟨by decide, by decide⟩ (tb_3 98 rfl rfl) (tb_1 2 rfl rfl) (tb_3 95 rfl rfl) (tb_3 96 rfl rfl) (tb_3 97 rfl rfl) (show yX5_add.cls ≠ "java/lang/invoke/MethodHandle" ∧ yX5_add.cls ≠ "java/lang/invoke/VarHandle" ∧ (parseMethodDescriptor yX5_add.desc).map (fun d => d.parameters.length) = some 1 by decide +kernel) zs_blind (zs_ob hh5 rlp (show RTg[4]? = some (0, 4, 0, fsX5) from rfl) (zCX5 hKa.1.1.1)) (fun U hU hW => ⟨rfl, by rw [hU]; exact hh5.l0, zKb s U hW.alike hKa.1.1, by rw [hU]; exact hlp⟩) hh5.2.2.1 hl.1 (Nat.le_of_ble_eq_true rfl) (eX11_leap (53, .invokevirtual 162, 3) (List.mem_of_getElem? (i := 25) rfl)) (fun r7 s7 t7 lo7 g7 f7 l7 => ?_)
        obtain ⟨v7, q7, z7, c7, e7, j7⟩ := f7
        cases q7
        rw [g7] at c7
        have hh7 : zh_ok D cA RTg ro sz H0 t7.heap lo7 := ⟨z7.1, z7.2.1, l7, z7.2.2.2⟩
        have kp7 := kp0.trans (c7.mono (ms' := zMc) (by decide))
        have js7 := hJ.2.1.kept hx10 c7 (by decide)
        have mf7 := (c7.1 x 10 0 10 0 fsX11 hx10 rfl (by decide) (by decide)).trans fx0
        refine W.eq (g2 := F0 m 56 ls [.int v7]) rfl ?_
        have hni : d.toInt ∉ L := by rcases e3 with g | g; exfalso; omega; exact g.2
        have hdk : dOK d.toInt := by unfold dOK; omega
        exact vx_ret (W.widen (k := 1) (n := 6) (Nat.zero_le _) (Nat.zero_le _) (W.zret hx hb hr rfl (fun t ht hW => ⟨_, _, ro, L ++ [d.toInt], Z, rfl, ⟨_, rfl, rfl⟩, fun _ _ h => h, by rw [ht]; exact hh7.l0, by rw [ht]; exact kp7, by rw [ht]; exact ⟨⟨lp, mf7, rlp, j7⟩, js7, jL_app hjl hni (by omega) hdk, hzw⟩, rfl, Or.inr (Or.inr ⟨rfl, hdk, hni, by omega, by omega, rfl⟩)⟩) hh7.2.2.1 (eX11_leap (56, .ireturn, 1) (List.mem_of_getElem? (i := 26) rfl))))
      · skip
        exact zx_leafG (ik := 157) (is := 159) (ic := 161) (cls := "java/lang/UnsupportedOperationException") (text := "no room for more leap days") hx hb hst hown h2 hKa.1 hh hh5 (by rw [hl.1, hml]) hex hlk ⟨by decide, by decide, by decide, by decide⟩ (tb_3 79 rfl rfl) (tb_1 19 rfl rfl) (by decide) (gAt_in gAt_2) (by decide +kernel) (by decide) (by decide) (fun t h7 h8 => ⟨hh5.grow h7 h8, kept_grow hh5 h8, kept_grow hh5 h8, Or.inr ⟨rfl, 0, rfl, Or.inr (Or.inl ⟨rfl, rfl, by unfold dOK; omega, by rcases e3 with g | g; exfalso; omega; exact g.2, by omega⟩)⟩⟩) (eX11_leap (38, .new 157, 3) (List.mem_of_getElem? (i := 17) rfl)) (eX11_leap (41, .dup, 1) (List.mem_of_getElem? (i := 18) rfl)) (eX11_leap (42, .ldc 159, 2) (List.mem_of_getElem? (i := 19) rfl)) (eX11_leap (44, .invokespecial 161, 3) (List.mem_of_getElem? (i := 20) rfl)) (eX11_leap (47, .athrow, 1) (List.mem_of_getElem? (i := 21) rfl))
    · skip
      exact zx_leafG (ik := 83) (is := 151) (ic := 87) (cls := "java/lang/IllegalArgumentException") (text := "no day that can become a leap day") hx hb hst hown h2 hKa.1 hh hh3 (by rw [hl.1, hml]) hex hlk ⟨by decide, by decide, by decide, by decide⟩ (tb_2 121 rfl rfl) (tb_1 17 rfl rfl) (by decide) (gAt_in gAt_1) (by decide +kernel) (by decide) (by decide) (fun t h7 h8 => ⟨hh3.grow h7 h8, kept_grow hh3 h8, kept_grow hh3 h8, Or.inl ⟨rfl, 0, rfl, Or.inl ⟨rfl, rfl, Or.inr (by rcases e3 with g | g; exact g.2; exfalso; omega)⟩⟩⟩) (eX11_leap (18, .new 83, 3) (List.mem_of_getElem? (i := 8) rfl)) (eX11_leap (21, .dup, 1) (List.mem_of_getElem? (i := 9) rfl)) (eX11_leap (22, .ldc 151, 2) (List.mem_of_getElem? (i := 10) rfl)) (eX11_leap (24, .invokespecial 87, 3) (List.mem_of_getElem? (i := 11) rfl)) (eX11_leap (27, .athrow, 1) (List.mem_of_getElem? (i := 12) rfl))
set_option maxRecDepth 100000 in
set_option maxHeartbeats 4000000 in
theorem hX11_zoneZ (l : Launch) (hst : l.stackTraces = false) (D : va_G) (cA : Nat → ClassId) (ro : Nat → Option Nat) (sz : Nat) (H0 : Heap) (x : Nat) (o : Int32) (L : List Int) (Z : List zE) (hx10 : ro x = some 10) : vx_Met l yX11_zone (gW yX11_zone cX11_zone 2 (some .int)) { frames := 6, cells := 6, slots := 147, locals := 82 } (zs_PX D cA ro sz H0 (fun H => jCZ D cA ro H x L Z) [.ref x, .int o]) (zz_Q D cA ro sz H0 x vI (spZZ o.toInt L Z)) (zz_X D cA ro sz H0 L Z (spZZ o.toInt L Z)) 6 147 (zy_fr sz) := by
  refine vx_ofW (cc := cX11_zone) (maxL := 2) (ret := (some .int)) (by decide +kernel) rfl ?_
  intro p e s m args below meth c s1 B hml hex hv
  obtain ⟨rfl, hh, hKa, hKp, hJ⟩ := hv
  have hx := B.exec
  have hb := B.bytes
  have hr := B.returns
  have hlk := B.notSynchronized
  have hts0 := atoms_spec (ws := gW yX11_zone cX11_zone 2 (some .int)) B.pre
  have h2 : ∀ w ∈ gT, w.before ([.ref x, .int o] : List Value).toArray s = true := fun w hw => hts0 w (List.mem_cons_of_mem _ hw)
  have hown : s.vm.findClass RX11 = some m.cls := findClass_of_methodNamed B.named
  have hl := lv_entry [.ref x, .int o] (n := 2) (Nat.le_of_ble_eq_true rfl)
  rw [lg_entry_eq]
  generalize (lg_sl [.ref x, .int o] ++ List.replicate (2 - (lg_sl [.ref x, .int o]).length) Slot.unset).toArray = ls at hl ⊢
  have b_o := zn_i32 o
  have hBM : ∀ U : State, U.heap = s.heap → s.WarmedH U.vm → zBM cA U := fun U hU hW => zBM_B.2 s U hW hU hKp
  obtain ⟨⟨lp, fx0, rlp, hlp⟩, ⟨az, z, nz, qf, Af, Bf, hza, hnz, hzi⟩, hjl, hzw⟩ := id hJ
  obtain ⟨fz, rz, cz, fn⟩ := id hza
  obtain ⟨n9, g9, n1, n2⟩ := zh_fT (k := 2) (t := (0, 0, 8)) hh hx10 (show RTg[10]? = some (0, 10, 0, fsX11) from rfl) rfl
  cases fn.symm.trans g9
  dsimp only at n1 n2
  clear g9
  have hjL := hjl.2.1
  have hD := zD_all h2 hKa.1.1.1
  have hcl10 := fun (idx k : Nat) (t : zt_T) (h : (idx, 10, k) ∈ gfX11) (hk : fsX11[k]? = some t) => zf_clause (ro := ro) (ms := [(10, 2)]) h2 hown hKa.1.1.1 gfX11_ok (by decide +kernel) idx 10 k 10 0 fsX11 t h rfl hk
  have kp0 : zc_kept D RTg ro zMc s.heap s.heap := zc_kept.refl
  have hclz := fun (ro : Nat → Option Nat) (idx k : Nat) (t : zt_T) (h : (idx, 10, k) ∈ gfX11) (hk : fsX11[k]? = some t) => zf_clause (ro := ro) (ms := [(10, 2)]) h2 hown hKa.1.1.1 gfX11_ok (by decide +kernel) idx 10 k 10 0 fsX11 t h rfl hk
  refine lv_iload_n hx hb (eX11_zone (0, .iload_n 1, 1) (List.mem_of_getElem? (i := 0) rfl)) rfl (lv_at hl 1 rfl) ?_
  refine zu_S (vs := [.int o]) (rest := []) hx hb hml hown hts0 zu_BT (hX11_isOffset l o) ⟨rfl, rfl⟩ ⟨by decide, by decide⟩ ⟨by decide, by decide⟩ (tb_3 170 rfl rfl) (tb_1 1 rfl rfl) (tb_3 168 rfl rfl) (tb_3 169 rfl rfl) (show yX11_isOffset.cls ≠ "java/lang/invoke/MethodHandle" ∧ yX11_isOffset.cls ≠ "java/lang/invoke/VarHandle" ∧ (parseMethodDescriptor yX11_isOffset.desc).map (fun d => d.parameters.length) = some 1 by decide +kernel) rfl (fun _ _ _ => trivial) hl.1 (Nat.le_of_ble_eq_true rfl) (eX11_zone (1, .invokestatic 186, 3) (List.mem_of_getElem? (i := 1) rfl)) (fun w1 f1 => ?_)
  obtain ⟨v1, rfl, e1⟩ := f1
  refine ff_if_ne hx hb (eX11_zone (4, .ifCond .ne 13, 3) (List.mem_of_getElem? (i := 2) rfl)) (tgt := 17) rfl (fun c2 => ?_) (fun c2 => ?_)
  · skip
    have hlx := zh_lt hh hx10
    refine lv_aload_n hx hb (eX11_zone (17, .aload_n 0, 1) (List.mem_of_getElem? (i := 8) rfl)) rfl (lv_at hl 0 rfl) ?_
    refine tz_get (r := 10) (k := 2) (t := (0, 0, 8)) hx hb hh hx10 rfl rfl (hcl10 24 2 (0, 0, 8) (by decide) rfl).1 fn (eX11_zone (18, .getfield 24, 3) (List.mem_of_getElem? (i := 9) rfl)) ?_
    refine ff_if_lt hx hb (eX11_zone (21, .ifCond .lt 15, 3) (List.mem_of_getElem? (i := 10) rfl)) (tgt := 36) rfl (fun c3 => (by exfalso; omega)) (fun c3 => ?_)
    refine lv_aload_n hx hb (eX11_zone (24, .aload_n 0, 1) (List.mem_of_getElem? (i := 11) rfl)) rfl (lv_at hl 0 rfl) ?_
    refine tz_get (r := 10) (k := 2) (t := (0, 0, 8)) hx hb hh hx10 rfl rfl (hcl10 24 2 (0, 0, 8) (by decide) rfl).1 fn (eX11_zone (25, .getfield 24, 3) (List.mem_of_getElem? (i := 12) rfl)) ?_
    refine lv_aload_n hx hb (eX11_zone (28, .aload_n 0, 1) (List.mem_of_getElem? (i := 13) rfl)) rfl (lv_at hl 0 rfl) ?_
    refine tz_get (r := 10) (k := 1) (t := (44, 0, 0)) hx hb hh hx10 rfl rfl (hcl10 20 1 (44, 0, 0) (by decide) rfl).1 fz (eX11_zone (29, .getfield 20, 3) (List.mem_of_getElem? (i := 14) rfl)) ?_
    refine W.alen (n := nI 8) hx hb cz (zAr hKa.1.1.1 4 (by decide) 8 z) (by rw [arrV_size]; rfl) rfl rfl (eX11_zone (32, .arraylength, 1) (List.mem_of_getElem? (i := 15) rfl)) ?_
    have e4 : (nI 8).toInt = 8 := nI_toInt (by decide)
    refine ff_icmp_lt hx hb (eX11_zone (33, .if_icmp .lt 13, 3) (List.mem_of_getElem? (i := 16) rfl)) (tgt := 46) rfl (fun c5 => ?_) (fun c5 => ?_)
    · skip
      refine lv_aload_n hx hb (eX11_zone (46, .aload_n 0, 1) (List.mem_of_getElem? (i := 22) rfl)) rfl (lv_at hl 0 rfl) ?_
      refine tz_get (r := 10) (k := 1) (t := (44, 0, 0)) hx hb hh hx10 rfl rfl (hcl10 20 1 (44, 0, 0) (by decide) rfl).1 fz (eX11_zone (47, .getfield 20, 3) (List.mem_of_getElem? (i := 23) rfl)) ?_
      refine lv_aload_n hx hb (eX11_zone (50, .aload_n 0, 1) (List.mem_of_getElem? (i := 24) rfl)) rfl (lv_at hl 0 rfl) ?_
      refine tz_get (r := 10) (k := 2) (t := (0, 0, 8)) hx hb hh hx10 rfl rfl (hcl10 24 2 (0, 0, 8) (by decide) rfl).1 fn (eX11_zone (51, .getfield 24, 3) (List.mem_of_getElem? (i := 25) rfl)) ?_
      refine tz_new (C := RX10) (T := TX10) (N := 6) (ci := 9) hx hb hh h2 wiX10 tyX10 tyX10_ok hown (tb_1 45 rfl rfl) (tb_3 173 rfl rfl) (tb_1 20 rfl rfl) hKa.1.1.1 rfl (by decide) (by decide) (eX11_zone (54, .new 18, 3) (List.mem_of_getElem? (i := 26) rfl)) (fun b H6 hh6 hrb hsb hbs hz6 hOb hq6 => ?_)
      have kg6 : zc_kept D RTg ro [] s.heap H6 := kept_grow hh hq6
      have mf6_0 := (kg6.1 x 10 0 10 0 fsX11 hx10 rfl (by decide) (by decide)).trans fx0
      have mf6_1 := (kg6.1 x 10 1 10 0 fsX11 hx10 rfl (by decide) (by decide)).trans fz
      have mf6_2 := (kg6.1 x 10 2 10 0 fsX11 hx10 rfl (by decide) (by decide)).trans fn
      have jl6 := hlp.kept rlp kg6 (by decide) (by decide) (by decide)
      have zi6 := hzi.kept kg6 (by decide)
      have cz6 := (kg6.2 az 20 0 4 8 _ rz rfl (by decide)).trans cz
      have kp6 := kp0.trans (kg6.mono (ms' := zMc) (by decide))
      refine lv_dup hx hb (eX11_zone (57, .dup, 1) (List.mem_of_getElem? (i := 27) rfl)) rfl ?_
      refine lv_iload_n hx hb (eX11_zone (58, .iload_n 1, 1) (List.mem_of_getElem? (i := 28) rfl)) rfl (lv_at hl 1 rfl) ?_
      refine lv_aload_n hx hb (eX11_zone (59, .aload_n 0, 1) (List.mem_of_getElem? (i := 29) rfl)) rfl (lv_at hl 0 rfl) ?_
      refine tz_get (r := 10) (k := 0) (t := (12, 0, 0)) hx hb hh6 hx10 rfl rfl (hcl10 14 0 (12, 0, 0) (by decide) rfl).1 mf6_0 (eX11_zone (60, .getfield 14, 3) (List.mem_of_getElem? (i := 30) rfl)) ?_
      refine zo_call (As := [.int o, .ref lp]) (rest := [.ref b, .int nz, .ref az]) (b := b) hx hb hml hown hts0 (iX10Z l D cA ro sz H0 b o lp rlp) ⟨rfl, rfl⟩ ⟨by decide, by decide⟩ ⟨by decide, by decide⟩ (tb_3 176 rfl rfl) (tb_1 20 rfl rfl) (tb_3 174 rfl rfl) (tb_3 175 rfl rfl) rfl (show yX10_init.cls ≠ "java/lang/invoke/MethodHandle" ∧ yX10_init.cls ≠ "java/lang/invoke/VarHandle" ∧ (parseMethodDescriptor yX10_init.desc).map (fun d => d.parameters.length) = some 2 by decide +kernel) hh6 hrb hsb hOb hKa.2 hl.1 (Nat.le_of_ble_eq_true rfl) (eX11_zone (63, .invokespecial 193, 3) (List.mem_of_getElem? (i := 31) rfl)) (fun H3 lo3 ro3 he3 hn3 hr3 hh3 hz3 hq3 hE3 => ?_)
      have kg3 : zc_kept D RTg ro [] H6 H3 := kept_but hrb hh6 hq3
      obtain ⟨e0, -, e4, ⟨A1, e2, rA1, nA1⟩, ⟨B1, e3, rB1, nB1⟩, -⟩ := hE3
      obtain ⟨-, yA, cA1, -⟩ := zh_arr hh3 rA1 (show RTg[14]? = some (1, 1, 60, [(1, (-9223372036854775808), 9223372036854775807)]) from rfl)
      obtain ⟨-, yB, cB1, -⟩ := zh_arr hh3 rB1 (show RTg[15]? = some (1, 0, 60, [(0, (-2147483648), 2147483647)]) from rfl)
      have hN3 : jZo D cA ro3 H3 b A1 B1 (o.toInt, []) := ⟨hr3, rA1, rB1, e2, e3, ⟨o, e0, rfl⟩, 0, yA, yB, e4, by show (0 : Int32).toInt = 0; decide, cA1, cB1, cN_nil⟩
      clear e0 e2 e3 e4
      have mf3_0 := (kg3.1 x 10 0 10 0 fsX11 hx10 rfl (by decide) (by decide)).trans mf6_0
      have mf3_1 := (kg3.1 x 10 1 10 0 fsX11 hx10 rfl (by decide) (by decide)).trans mf6_1
      have mf3_2 := (kg3.1 x 10 2 10 0 fsX11 hx10 rfl (by decide) (by decide)).trans mf6_2
      have jl3 := jl6.kept rlp kg3 (by decide) (by decide) (by decide)
      have zi3 := zi6.kept kg3 (by decide)
      have cz3 := (kg3.2 az 20 0 4 8 _ rz rfl (by decide)).trans cz6
      have kp3 := kp6.trans (kg3.mono (ms' := zMc) (by decide))
      refine tz_aastZ hx hb hKa.1.1.1 hh3 (he3 _ _ rz) cz3 hr3 (by omega) (by omega) (eX11_zone (66, .aastore, 1) (List.mem_of_getElem? (i := 32) rfl)) (fun H7 lo7 hh7 hcz hq7 => ?_)
      rw [show nz.toNatClampNeg = Z.length by show nz.toInt.toNat = _; omega] at hcz
      have kg7 : zc_kept D RTg ro [(20, 0)] H3 H7 := zk_setA (by decide) rz (show RTg[20]? = some (1, 4, 8, [(23, 0, 0)]) from rfl) hq7
      have kr7 : zc_kept D RTg ro3 [(20, 0)] H3 H7 := zk_setA (by decide) (he3 _ _ rz) (show RTg[20]? = some (1, 4, 8, [(23, 0, 0)]) from rfl) hq7
      have hN7 := hN3.kept kr7 (by decide)
      have mf7_0 := (kg7.1 x 10 0 10 0 fsX11 hx10 rfl (by decide) (by decide)).trans mf3_0
      have mf7_1 := (kg7.1 x 10 1 10 0 fsX11 hx10 rfl (by decide) (by decide)).trans mf3_1
      have mf7_2 := (kg7.1 x 10 2 10 0 fsX11 hx10 rfl (by decide) (by decide)).trans mf3_2
      have jl7 := jl3.kept rlp kg7 (by decide) (by decide) (by decide)
      have zi7 := zi3.kept kg7 (by decide)
      have kp7 := kp3.trans (kg7.mono (ms' := zMc) (by decide))
      refine lv_aload_n hx hb (eX11_zone (67, .aload_n 0, 1) (List.mem_of_getElem? (i := 33) rfl)) rfl (lv_at hl 0 rfl) ?_
      refine lv_dup hx hb (eX11_zone (68, .dup, 1) (List.mem_of_getElem? (i := 34) rfl)) rfl ?_
      refine tz_get (r := 10) (k := 2) (t := (0, 0, 8)) hx hb hh7 (he3 _ _ hx10) rfl rfl (hclz ro3 24 2 (0, 0, 8) (by decide) rfl).1 mf7_2 (eX11_zone (69, .getfield 24, 3) (List.mem_of_getElem? (i := 35) rfl)) ?_
      refine ff_iconst hx hb (eX11_zone (72, .iconst 1, 1) (List.mem_of_getElem? (i := 36) rfl)) (by decide) (by decide) (fun v8 e8 => ?_)
      refine ff_iadd hx hb (eX11_zone (73, .iadd, 1) (List.mem_of_getElem? (i := 37) rfl)) (by omega) (by omega) (fun v9 e9 => ?_)
      refine tz_put (r := 10) (k := 2) (t := (0, 0, 8)) hx hb hD hh7 (he3 _ _ hx10) rfl rfl ((hclz ro3 24 2 (0, 0, 8) (by decide) rfl).2 List.mem_cons_self) (tz_i (by omega) (by omega)) (eX11_zone (74, .putfield 24, 3) (List.mem_of_getElem? (i := 38) rfl)) (fun H10 lo10 hh10 hf10 hk10 _ _ => ?_)
      have kg10 := kept_ro he3 hk10
      have hN10 := hN7.kept hk10 (by decide)
      have mf10_0 := (kg10.1 x 10 0 10 0 fsX11 hx10 rfl (by decide) (by decide)).trans mf7_0
      have mf10_1 := (kg10.1 x 10 1 10 0 fsX11 hx10 rfl (by decide) (by decide)).trans mf7_1
      have jl10 := jl7.kept rlp kg10 (by decide) (by decide) (by decide)
      have zi10 := zi7.kept kg10 (by decide)
      have cz10 := (kg10.2 az 20 0 4 8 _ rz rfl (by decide)).trans hcz
      have kp10 := kp7.trans (kg10.mono (ms' := zMc) (by decide))
      refine lv_aload_n hx hb (eX11_zone (77, .aload_n 0, 1) (List.mem_of_getElem? (i := 39) rfl)) rfl (lv_at hl 0 rfl) ?_
      refine tz_get (r := 10) (k := 2) (t := (0, 0, 8)) hx hb hh10 (he3 _ _ hx10) rfl rfl (hclz ro3 24 2 (0, 0, 8) (by decide) rfl).1 hf10 (eX11_zone (78, .getfield 24, 3) (List.mem_of_getElem? (i := 40) rfl)) ?_
      refine ff_iconst hx hb (eX11_zone (81, .iconst 1, 1) (List.mem_of_getElem? (i := 41) rfl)) (by decide) (by decide) (fun v11 e11 => ?_)
      refine ff_isub hx hb (eX11_zone (82, .isub, 1) (List.mem_of_getElem? (i := 42) rfl)) (by omega) (by omega) (fun v12 e12 => ?_)
      exact vx_ret (W.zret hx hb hr rfl (fun t ht hW => ⟨_, _, ro3, L, Z ++ [(o.toInt, [])], rfl, ⟨_, rfl, rfl⟩, he3, by rw [ht]; exact hh10.l0, by rw [ht]; exact kp10, by rw [ht]; exact ⟨(show jC D cA ro _ x L from ⟨lp, mf10_0, rlp, jl10⟩).ext he3, ⟨az, _, _, _, _, _, ⟨mf10_1, he3 _ _ rz, cz10, hf10⟩, by rw [List.length_append]; show _ = ((Z.length + 1 : Nat) : Int); omega, jZi_app he3 hrb nA1 nB1 zi10 hN10⟩, hjl, jZw_app hzw (by omega)⟩, rfl, Or.inr (Or.inr ⟨rfl, by unfold oOK; omega, by omega, by omega, rfl⟩)⟩) hh10.2.2.1 (eX11_zone (83, .ireturn, 1) (List.mem_of_getElem? (i := 43) rfl)))
    · skip
      exact zx_leafG (ik := 157) (is := 191) (ic := 161) (cls := "java/lang/UnsupportedOperationException") (text := "no room for more zones") hx hb hst hown h2 hKa.1 hh hh (by rw [hl.1, hml]) hex hlk ⟨by decide, by decide, by decide, by decide⟩ (tb_3 79 rfl rfl) (tb_1 19 rfl rfl) (by decide) (gAt_in gAt_2) (by decide +kernel) (by decide) (by decide) (fun t h7 h8 => ⟨hh.grow h7 h8, kept_grow hh h8, kept_grow hh h8, Or.inr ⟨rfl, 0, rfl, Or.inr (Or.inl ⟨rfl, rfl, by unfold oOK; omega, by omega⟩)⟩⟩) (eX11_zone (36, .new 157, 3) (List.mem_of_getElem? (i := 17) rfl)) (eX11_zone (39, .dup, 1) (List.mem_of_getElem? (i := 18) rfl)) (eX11_zone (40, .ldc 191, 2) (List.mem_of_getElem? (i := 19) rfl)) (eX11_zone (42, .invokespecial 161, 3) (List.mem_of_getElem? (i := 20) rfl)) (eX11_zone (45, .athrow, 1) (List.mem_of_getElem? (i := 21) rfl))
  · skip
    exact zx_leafG (ik := 83) (is := 189) (ic := 87) (cls := "java/lang/IllegalArgumentException") (text := "no such offset") hx hb hst hown h2 hKa.1 hh hh (by rw [hl.1, hml]) hex hlk ⟨by decide, by decide, by decide, by decide⟩ (tb_2 121 rfl rfl) (tb_1 17 rfl rfl) (by decide) (gAt_in gAt_1) (by decide +kernel) (by decide) (by decide) (fun t h7 h8 => ⟨hh.grow h7 h8, kept_grow hh h8, kept_grow hh h8, Or.inl ⟨rfl, 0, rfl, Or.inl ⟨rfl, rfl, by unfold oOK; omega⟩⟩⟩) (eX11_zone (7, .new 83, 3) (List.mem_of_getElem? (i := 3) rfl)) (eX11_zone (10, .dup, 1) (List.mem_of_getElem? (i := 4) rfl)) (eX11_zone (11, .ldc 189, 2) (List.mem_of_getElem? (i := 5) rfl)) (eX11_zone (13, .invokespecial 87, 3) (List.mem_of_getElem? (i := 6) rfl)) (eX11_zone (16, .athrow, 1) (List.mem_of_getElem? (i := 7) rfl))
set_option maxRecDepth 100000 in
set_option maxHeartbeats 4000000 in
theorem hX11_changeZ (l : Launch) (hst : l.stackTraces = false) (D : va_G) (cA : Nat → ClassId) (ro : Nat → Option Nat) (sz : Nat) (H0 : Heap) (x : Nat) (zi : Int32) (t0 : Int64) (o0 : Int32) (L : List Int) (Z : List zE) (hx10 : ro x = some 10) : vx_Met l yX11_change (gW yX11_change cX11_change 6 (some .int)) { frames := 6, cells := 1, slots := 6, locals := 82 } (zs_PX D cA ro sz H0 (fun H => jCZ D cA ro H x L Z) [.ref x, .int zi, .long t0, .int o0]) (zz_Q D cA ro sz H0 x vI (spH zi.toInt t0.toInt o0.toInt L Z)) (zz_X D cA ro sz H0 L Z (spH zi.toInt t0.toInt o0.toInt L Z)) 1 6 (zy_fr sz) := by
  refine vx_ofW (cc := cX11_change) (maxL := 6) (ret := (some .int)) (by decide +kernel) rfl ?_
  intro p e s m args below meth c s1 B hml hex hv
  obtain ⟨rfl, hh, hKa, hKp, hJ⟩ := hv
  have hx := B.exec
  have hb := B.bytes
  have hr := B.returns
  have hlk := B.notSynchronized
  have hts0 := atoms_spec (ws := gW yX11_change cX11_change 6 (some .int)) B.pre
  have h2 : ∀ w ∈ gT, w.before ([.ref x, .int zi, .long t0, .int o0] : List Value).toArray s = true := fun w hw => hts0 w (List.mem_cons_of_mem _ hw)
  have hown : s.vm.findClass RX11 = some m.cls := findClass_of_methodNamed B.named
  have hl := lv_entry [.ref x, .int zi, .long t0, .int o0] (n := 6) (Nat.le_of_ble_eq_true rfl)
  rw [lg_entry_eq]
  generalize (lg_sl [.ref x, .int zi, .long t0, .int o0] ++ List.replicate (6 - (lg_sl [.ref x, .int zi, .long t0, .int o0]).length) Slot.unset).toArray = ls at hl ⊢
  have b_zi := zn_i32 zi
  have b_t0 := zn_i64 t0
  have b_o0 := zn_i32 o0
  have hBM : ∀ U : State, U.heap = s.heap → s.WarmedH U.vm → zBM cA U := fun U hU hW => zBM_B.2 s U hW hU hKp
  obtain ⟨⟨lp, fx0, rlp, hlp⟩, ⟨az, z, nz, qf, Af, Bf, hza, hnz, hzi⟩, hjl, hzw⟩ := id hJ
  obtain ⟨fz, rz, cz, fn⟩ := id hza
  obtain ⟨n9, g9, n1, n2⟩ := zh_fT (k := 2) (t := (0, 0, 8)) hh hx10 (show RTg[10]? = some (0, 10, 0, fsX11) from rfl) rfl
  cases fn.symm.trans g9
  dsimp only at n1 n2
  clear g9
  have hjL := hjl.2.1
  have hD := zD_all h2 hKa.1.1.1
  have hcl10 := fun (idx k : Nat) (t : zt_T) (h : (idx, 10, k) ∈ gfX11) (hk : fsX11[k]? = some t) => zf_clause (ro := ro) (ms := []) h2 hown hKa.1.1.1 gfX11_ok (by decide +kernel) idx 10 k 10 0 fsX11 t h rfl hk
  have kp0 : zc_kept D RTg ro zMc s.heap s.heap := zc_kept.refl
  refine lv_aload_n hx hb (eX11_change (0, .aload_n 0, 1) (List.mem_of_getElem? (i := 0) rfl)) rfl (lv_at hl 0 rfl) ?_
  refine lv_iload_n hx hb (eX11_change (1, .iload_n 1, 1) (List.mem_of_getElem? (i := 1) rfl)) rfl (lv_at hl 1 rfl) ?_
  refine tz_rowV (As := [.int zi]) (st := []) (b := x) (C := RX11) (Ts := gT) hx hb hml hown h2 (fun _ h => h) (hX11_zoneAt l D cA ro sz H0 x zi az z nz hx10) ⟨rfl, rfl⟩ ⟨by decide, by decide⟩ ⟨by decide, by decide⟩ (tb_3 211 rfl rfl) (tb_1 1 rfl rfl) (tb_3 208 rfl rfl) (tb_3 210 rfl rfl) (tb_0 1 rfl rfl) (show yX11_zoneAt.cls ≠ "java/lang/invoke/MethodHandle" ∧ yX11_zoneAt.cls ≠ "java/lang/invoke/VarHandle" ∧ (parseMethodDescriptor yX11_zoneAt.desc).map (fun d => d.parameters.length) = some 1 by decide +kernel) zs_blind (zs_ob hh hx10 (show RTg[10]? = some (0, 10, 0, fsX11) from rfl) (zCX11 hKa.1.1.1)) (fun U hU hW => ⟨rfl, by rw [hU]; exact hh.l0, zKb s U hW.alike hKa.1.1, by rw [hU]; exact hza⟩) hh.2.2.1 hl.1 (Nat.le_of_ble_eq_true rfl) (eX11_change (2, .invokevirtual 196, 3) (List.mem_of_getElem? (i := 2) rfl)) (fun r1 s1 t1 lo1 g1 f1 l1 => ?_)
  obtain ⟨z1, f1⟩ := f1
  rw [z1, g1]
  have hh1 : zh_ok D cA RTg ro sz H0 s.heap lo1 := ⟨hh.1, hh.2.1, l1, hh.2.2.2⟩
  rcases f1 with ⟨q1, bz⟩ | ⟨q1, bz⟩
  · cases q1
    refine W.eq (g2 := F0 m 5 ls [.null]) rfl ?_
    refine lv_astoreN hx hb (eX11_change (5, .astore 5, 2) (List.mem_of_getElem? (i := 3) rfl)) hl (by decide) rfl (fun ls2 hl2 => ?_)
    refine lv_aloadN hx hb (eX11_change (7, .aload 5, 2) (List.mem_of_getElem? (i := 4) rfl)) (lv_at hl2 0 rfl) ?_
    refine lv_ifnullN hx hb (eX11_change (9, .ifnull 31, 3) (List.mem_of_getElem? (i := 5) rfl)) (tgt := 40) rfl ?_
    exact zx_leafG (ik := 83) (is := 203) (ic := 87) (cls := "java/lang/IllegalArgumentException") (text := "no such change") hx hb hst hown h2 hKa.1 hh hh1 (by rw [hl2.1, hml]) hex hlk ⟨by decide, by decide, by decide, by decide⟩ (tb_2 121 rfl rfl) (tb_1 17 rfl rfl) (by decide) (gAt_in gAt_1) (by decide +kernel) (by decide) (by decide) (fun t h7 h8 => ⟨hh1.grow h7 h8, kept_grow hh1 h8, kept_grow hh1 h8, Or.inl ⟨rfl, 0, rfl, Or.inl ⟨rfl, rfl, fun ⟨e9, g9⟩ => by have g8 := (List.getElem?_eq_some_iff.mp g9.2.1).1; have g7 := g9.1; omega⟩⟩⟩) (eX11_change (40, .new 83, 3) (List.mem_of_getElem? (i := 18) rfl)) (eX11_change (43, .dup, 1) (List.mem_of_getElem? (i := 19) rfl)) (eX11_change (44, .ldc 203, 2) (List.mem_of_getElem? (i := 20) rfl)) (eX11_change (46, .invokespecial 87, 3) (List.mem_of_getElem? (i := 21) rfl)) (eX11_change (49, .athrow, 1) (List.mem_of_getElem? (i := 22) rfl))
  · have hlt : zi.toInt.toNat < Z.length := by omega
    obtain ⟨ze, hze⟩ : ∃ e9, Z[zi.toInt.toNat]? = some e9 := ⟨_, List.getElem?_eq_getElem hlt⟩
    have hle := hzw.2 ze (List.mem_of_getElem? hze)
    obtain ⟨hz1, ho1⟩ := hzi.1 _ ze hze
    rw [hz1] at q1
    generalize hzq : qf zi.toInt.toNat = zq at q1 ho1
    generalize hzA : Af zi.toInt.toNat = zA at ho1
    generalize hzB : Bf zi.toInt.toNat = zB at ho1
    cases q1
    have rzq := ho1.1
    refine W.eq (g2 := F0 m 5 ls [.ref zq]) rfl ?_
    refine lv_astore hx hb (eX11_change (5, .astore 5, 2) (List.mem_of_getElem? (i := 3) rfl)) hl (by decide) rfl (fun ls3 hl3 => ?_)
    refine lv_aload hx hb (eX11_change (7, .aload 5, 2) (List.mem_of_getElem? (i := 4) rfl)) (lv_at hl3 0 rfl) ?_
    refine lv_ifnull hx hb (eX11_change (9, .ifnull 31, 3) (List.mem_of_getElem? (i := 5) rfl)) ?_
    refine lv_iload hx hb (eX11_change (12, .iload 4, 2) (List.mem_of_getElem? (i := 6) rfl)) (lv_at hl3 4 rfl) ?_
    refine zu_S (vs := [.int o0]) (rest := []) hx hb hml hown hts0 zu_BT (hX11_isOffset l o0) ⟨rfl, rfl⟩ ⟨by decide, by decide⟩ ⟨by decide, by decide⟩ (tb_3 170 rfl rfl) (tb_1 1 rfl rfl) (tb_3 168 rfl rfl) (tb_3 169 rfl rfl) (show yX11_isOffset.cls ≠ "java/lang/invoke/MethodHandle" ∧ yX11_isOffset.cls ≠ "java/lang/invoke/VarHandle" ∧ (parseMethodDescriptor yX11_isOffset.desc).map (fun d => d.parameters.length) = some 1 by decide +kernel) rfl (fun _ _ _ => trivial) hl3.1 (Nat.le_of_ble_eq_true rfl) (eX11_change (14, .invokestatic 186, 3) (List.mem_of_getElem? (i := 7) rfl)) (fun w4 f4 => ?_)
    obtain ⟨v4, rfl, e4⟩ := f4
    refine ff_if_eq hx hb (eX11_change (17, .ifCond .eq 23, 3) (List.mem_of_getElem? (i := 8) rfl)) (tgt := 40) rfl (fun c5 => ?_) (fun c5 => ?_)
    · skip
      exact zx_leafG (ik := 83) (is := 203) (ic := 87) (cls := "java/lang/IllegalArgumentException") (text := "no such change") hx hb hst hown h2 hKa.1 hh hh1 (by rw [hl3.1, hml]) hex hlk ⟨by decide, by decide, by decide, by decide⟩ (tb_2 121 rfl rfl) (tb_1 17 rfl rfl) (by decide) (gAt_in gAt_1) (by decide +kernel) (by decide) (by decide) (fun t h7 h8 => ⟨hh1.grow h7 h8, kept_grow hh1 h8, kept_grow hh1 h8, Or.inl ⟨rfl, 0, rfl, Or.inl ⟨rfl, rfl, fun ⟨e9, g9⟩ => by have g8 := g9.2.2.1; unfold oOK at g8; omega⟩⟩⟩) (eX11_change (40, .new 83, 3) (List.mem_of_getElem? (i := 18) rfl)) (eX11_change (43, .dup, 1) (List.mem_of_getElem? (i := 19) rfl)) (eX11_change (44, .ldc 203, 2) (List.mem_of_getElem? (i := 20) rfl)) (eX11_change (46, .invokespecial 87, 3) (List.mem_of_getElem? (i := 21) rfl)) (eX11_change (49, .athrow, 1) (List.mem_of_getElem? (i := 22) rfl))
    · skip
      refine lv_aload_n hx hb (eX11_change (20, .aload_n 0, 1) (List.mem_of_getElem? (i := 9) rfl)) rfl (lv_at hl3 1 rfl) ?_
      refine tz_get (r := 10) (k := 0) (t := (12, 0, 0)) hx hb hh1 hx10 rfl rfl (hcl10 14 0 (12, 0, 0) (by decide) rfl).1 fx0 (eX11_change (21, .getfield 14, 3) (List.mem_of_getElem? (i := 10) rfl)) ?_
      refine lv_lload_n hx hb (eX11_change (24, .lload_n 2, 1) (List.mem_of_getElem? (i := 11) rfl)) rfl (lv_at hl3 3 rfl) ?_
      refine tz_rowV (As := [.long t0]) (st := []) (b := lp) (C := RX5) (Ts := gT) hx hb hml hown h2 (fun _ h => h) (hX5_holds l D cA ro sz H0 lp t0 L rlp) ⟨rfl, rfl⟩ ⟨by decide, by decide⟩ ⟨by decide, by decide⟩ (tb_3 139 rfl rfl) (tb_1 2 rfl rfl) (tb_3 136 rfl rfl) (tb_3 137 rfl rfl) (tb_3 138 rfl rfl) (show yX5_holds.cls ≠ "java/lang/invoke/MethodHandle" ∧ yX5_holds.cls ≠ "java/lang/invoke/VarHandle" ∧ (parseMethodDescriptor yX5_holds.desc).map (fun d => d.parameters.length) = some 1 by decide +kernel) zs_blind (zs_ob hh1 rlp (show RTg[4]? = some (0, 4, 0, fsX5) from rfl) (zCX5 hKa.1.1.1)) (fun U hU hW => ⟨rfl, by rw [hU]; exact hh1.l0, zKb s U hW.alike hKa.1.1, by rw [hU]; exact hlp⟩) hh1.2.2.1 hl3.1 (Nat.le_of_ble_eq_true rfl) (eX11_change (25, .invokevirtual 176, 3) (List.mem_of_getElem? (i := 12) rfl)) (fun r6 s6 t6 lo6 g6 f6 l6 => ?_)
      obtain ⟨z6, v6, q6, e6⟩ := f6
      cases q6
      rw [z6, g6]
      have hh6 : zh_ok D cA RTg ro sz H0 s.heap lo6 := ⟨hh1.1, hh1.2.1, l6, hh1.2.2.2⟩
      refine W.eq (g2 := F0 m 28 ls3 [.int v6]) rfl ?_
      refine ff_if_eq hx hb (eX11_change (28, .ifCond .eq 12, 3) (List.mem_of_getElem? (i := 13) rfl)) (tgt := 40) rfl (fun c7 => ?_) (fun c7 => ?_)
      · skip
        exact zx_leafG (ik := 83) (is := 203) (ic := 87) (cls := "java/lang/IllegalArgumentException") (text := "no such change") hx hb hst hown h2 hKa.1 hh hh6 (by rw [hl3.1, hml]) hex hlk ⟨by decide, by decide, by decide, by decide⟩ (tb_2 121 rfl rfl) (tb_1 17 rfl rfl) (by decide) (gAt_in gAt_1) (by decide +kernel) (by decide) (by decide) (fun t h7 h8 => ⟨hh6.grow h7 h8, kept_grow hh6 h8, kept_grow hh6 h8, Or.inl ⟨rfl, 0, rfl, Or.inl ⟨rfl, rfl, fun ⟨e9, g9⟩ => by rcases e6 with h | h; exfalso; omega; exact h.2 g9.2.2.2.1⟩⟩⟩) (eX11_change (40, .new 83, 3) (List.mem_of_getElem? (i := 18) rfl)) (eX11_change (43, .dup, 1) (List.mem_of_getElem? (i := 19) rfl)) (eX11_change (44, .ldc 203, 2) (List.mem_of_getElem? (i := 20) rfl)) (eX11_change (46, .invokespecial 87, 3) (List.mem_of_getElem? (i := 21) rfl)) (eX11_change (49, .athrow, 1) (List.mem_of_getElem? (i := 22) rfl))
      · skip
        refine lv_aload hx hb (eX11_change (31, .aload 5, 2) (List.mem_of_getElem? (i := 14) rfl)) (lv_at hl3 0 rfl) ?_
        refine lv_lload_n hx hb (eX11_change (33, .lload_n 2, 1) (List.mem_of_getElem? (i := 15) rfl)) rfl (lv_at hl3 3 rfl) ?_
        refine tz_rowV (As := [.long t0]) (st := []) (b := zq) (C := RX10) (Ts := gT) hx hb hml hown h2 (fun _ h => h) (hX10_isBehindChanges l D cA ro sz H0 zq t0 zA zB ze rzq) ⟨rfl, rfl⟩ ⟨by decide, by decide⟩ ⟨by decide, by decide⟩ (tb_3 215 rfl rfl) (tb_1 20 rfl rfl) (tb_3 212 rfl rfl) (tb_3 213 rfl rfl) (tb_3 214 rfl rfl) (show yX10_isBehindChanges.cls ≠ "java/lang/invoke/MethodHandle" ∧ yX10_isBehindChanges.cls ≠ "java/lang/invoke/VarHandle" ∧ (parseMethodDescriptor yX10_isBehindChanges.desc).map (fun d => d.parameters.length) = some 1 by decide +kernel) zs_blind (zs_ob hh6 rzq (show RTg[9]? = some (0, 9, 0, fsX10) from rfl) (zCX10 hKa.1.1.1)) (fun U hU hW => ⟨rfl, by rw [hU]; exact hh6.l0, zKb s U hW.alike hKa.1.1, by rw [hU]; exact ho1⟩) hh6.2.2.1 hl3.1 (Nat.le_of_ble_eq_true rfl) (eX11_change (34, .invokevirtual 200, 3) (List.mem_of_getElem? (i := 16) rfl)) (fun r8 s8 t8 lo8 g8 f8 l8 => ?_)
        obtain ⟨z8, v8, q8, e8⟩ := f8
        cases q8
        rw [z8, g8]
        have hh8 : zh_ok D cA RTg ro sz H0 s.heap lo8 := ⟨hh6.1, hh6.2.1, l8, hh6.2.2.2⟩
        refine W.eq (g2 := F0 m 37 ls3 [.int v8]) rfl ?_
        refine ff_if_ne hx hb (eX11_change (37, .ifCond .ne 13, 3) (List.mem_of_getElem? (i := 17) rfl)) (tgt := 50) rfl (fun c9 => ?_) (fun c9 => ?_)
        · skip
          have hBz : hB zi.toInt t0.toInt o0.toInt L Z ze := ⟨by omega, hze, by unfold oOK; omega, by rcases e6 with h | h; exact h.2; exfalso; omega, by rcases e8 with h | h; exact h.2; exfalso; omega⟩
          refine lv_aload hx hb (eX11_change (50, .aload 5, 2) (List.mem_of_getElem? (i := 23) rfl)) (lv_at hl3 0 rfl) ?_
          refine tz_rowV (As := []) (st := []) (b := zq) (C := RX10) (Ts := gT) hx hb hml hown h2 (fun _ h => h) (hX10_isFull l D cA ro sz H0 zq zA zB ze rzq) ⟨rfl, rfl⟩ ⟨by decide, by decide⟩ ⟨by decide, by decide⟩ (tb_3 220 rfl rfl) (tb_1 20 rfl rfl) (tb_3 217 rfl rfl) (tb_3 218 rfl rfl) (tb_3 219 rfl rfl) (show yX10_isFull.cls ≠ "java/lang/invoke/MethodHandle" ∧ yX10_isFull.cls ≠ "java/lang/invoke/VarHandle" ∧ (parseMethodDescriptor yX10_isFull.desc).map (fun d => d.parameters.length) = some 0 by decide +kernel) zs_blind (zs_ob hh8 rzq (show RTg[9]? = some (0, 9, 0, fsX10) from rfl) (zCX10 hKa.1.1.1)) (fun U hU hW => ⟨rfl, by rw [hU]; exact hh8.l0, zKb s U hW.alike hKa.1.1, by rw [hU]; exact ho1⟩) hh8.2.2.1 hl3.1 (Nat.le_of_ble_eq_true rfl) (eX11_change (52, .invokevirtual 205, 3) (List.mem_of_getElem? (i := 24) rfl)) (fun r10 s10 t10 lo10 g10 f10 l10 => ?_)
          obtain ⟨z10, v10, q10, e10⟩ := f10
          cases q10
          rw [z10, g10]
          have hh10 : zh_ok D cA RTg ro sz H0 s.heap lo10 := ⟨hh8.1, hh8.2.1, l10, hh8.2.2.2⟩
          refine W.eq (g2 := F0 m 55 ls3 [.int v10]) rfl ?_
          refine ff_if_eq hx hb (eX11_change (55, .ifCond .eq 13, 3) (List.mem_of_getElem? (i := 25) rfl)) (tgt := 68) rfl (fun c11 => ?_) (fun c11 => ?_)
          · skip
            refine lv_aload hx hb (eX11_change (68, .aload 5, 2) (List.mem_of_getElem? (i := 31) rfl)) (lv_at hl3 0 rfl) ?_
            refine lv_lload_n hx hb (eX11_change (70, .lload_n 2, 1) (List.mem_of_getElem? (i := 32) rfl)) rfl (lv_at hl3 3 rfl) ?_
            refine lv_iload hx hb (eX11_change (71, .iload 4, 2) (List.mem_of_getElem? (i := 33) rfl)) (lv_at hl3 4 rfl) ?_
            refine tz_rowV (As := [.long t0, .int o0]) (st := []) (b := zq) (C := RX10) (Ts := gT) hx hb hml hown h2 (fun _ h => h) (hX10_add l D cA ro sz H0 zq t0 o0 zA zB ze rzq (by omega)) ⟨rfl, rfl⟩ ⟨by decide, by decide⟩ ⟨by decide, by decide⟩ (tb_3 225 rfl rfl) (tb_1 20 rfl rfl) (tb_3 222 rfl rfl) (tb_3 223 rfl rfl) (tb_3 224 rfl rfl) (show yX10_add.cls ≠ "java/lang/invoke/MethodHandle" ∧ yX10_add.cls ≠ "java/lang/invoke/VarHandle" ∧ (parseMethodDescriptor yX10_add.desc).map (fun d => d.parameters.length) = some 2 by decide +kernel) zs_blind (zs_ob hh10 rzq (show RTg[9]? = some (0, 9, 0, fsX10) from rfl) (zCX10 hKa.1.1.1)) (fun U hU hW => ⟨rfl, by rw [hU]; exact hh10.l0, zKb s U hW.alike hKa.1.1, by rw [hU]; exact ho1⟩) hh10.2.2.1 hl3.1 (Nat.le_of_ble_eq_true rfl) (eX11_change (73, .invokevirtual 208, 3) (List.mem_of_getElem? (i := 34) rfl)) (fun r12 s12 t12 lo12 g12 f12 l12 => ?_)
            obtain ⟨v12, q12, z12, c12, hqq12, e12, j12⟩ := f12
            cases q12
            rw [g12] at c12 hqq12
            have hh12 : zh_ok D cA RTg ro sz H0 t12.heap lo12 := ⟨z12.1, z12.2.1, l12, z12.2.2.2⟩
            have kp12 := kp0.trans (c12.mono (ms' := zMc) (by decide))
            have mf12 := (c12.1 x 10 0 10 0 fsX11 hx10 rfl (by decide) (by decide)).trans fx0
            have jl12 := hlp.kept rlp c12 (by decide) (by decide) (by decide)
            have za12 := hza.kept hx10 c12 (by decide) (by decide) (by decide)
            have zi12 := jZi_set (H' := t12.heap) (i := zi.toInt.toNat) (e' := (ze.1, ze.2 ++ [(t0.toInt, o0.toInt)])) hlt hzi (by rw [hzq, hzA, hzB]; exact hqq12) (by rw [hzq, hzA, hzB]; exact j12)
            refine W.eq (g2 := F0 m 76 ls3 [.int v12]) rfl ?_
            exact vx_ret (W.widen (k := 1) (n := 6) (Nat.zero_le _) (Nat.zero_le _) (W.zret hx hb hr rfl (fun t ht hW => ⟨_, _, ro, L, _, rfl, ⟨_, rfl, rfl⟩, fun _ _ h => h, by rw [ht]; exact hh12.l0, by rw [ht]; exact kp12, by rw [ht]; exact ⟨⟨lp, mf12, rlp, jl12⟩, ⟨az, z, nz, qf, Af, Bf, za12, by rw [List.length_set]; exact hnz, zi12⟩, hjl, jZw_set hzw (by omega)⟩, rfl, Or.inr ⟨ze, hBz, Or.inr ⟨rfl, by omega, by omega, rfl⟩⟩⟩) hh12.2.2.1 (eX11_change (76, .ireturn, 1) (List.mem_of_getElem? (i := 35) rfl))))
          · skip
            exact zx_leafG (ik := 157) (is := 206) (ic := 161) (cls := "java/lang/UnsupportedOperationException") (text := "no room for more changes") hx hb hst hown h2 hKa.1 hh hh10 (by rw [hl3.1, hml]) hex hlk ⟨by decide, by decide, by decide, by decide⟩ (tb_3 79 rfl rfl) (tb_1 19 rfl rfl) (by decide) (gAt_in gAt_2) (by decide +kernel) (by decide) (by decide) (fun t h7 h8 => ⟨hh10.grow h7 h8, kept_grow hh10 h8, kept_grow hh10 h8, Or.inr ⟨rfl, 0, rfl, Or.inr ⟨ze, hBz, Or.inl ⟨rfl, rfl, by omega⟩⟩⟩⟩) (eX11_change (58, .new 157, 3) (List.mem_of_getElem? (i := 26) rfl)) (eX11_change (61, .dup, 1) (List.mem_of_getElem? (i := 27) rfl)) (eX11_change (62, .ldc 206, 2) (List.mem_of_getElem? (i := 28) rfl)) (eX11_change (64, .invokespecial 161, 3) (List.mem_of_getElem? (i := 29) rfl)) (eX11_change (67, .athrow, 1) (List.mem_of_getElem? (i := 30) rfl))
        · skip
          exact zx_leafG (ik := 83) (is := 203) (ic := 87) (cls := "java/lang/IllegalArgumentException") (text := "no such change") hx hb hst hown h2 hKa.1 hh hh8 (by rw [hl3.1, hml]) hex hlk ⟨by decide, by decide, by decide, by decide⟩ (tb_2 121 rfl rfl) (tb_1 17 rfl rfl) (by decide) (gAt_in gAt_1) (by decide +kernel) (by decide) (by decide) (fun t h7 h8 => ⟨hh8.grow h7 h8, kept_grow hh8 h8, kept_grow hh8 h8, Or.inl ⟨rfl, 0, rfl, Or.inl ⟨rfl, rfl, fun ⟨e9, g9⟩ => by cases hze.symm.trans g9.2.1; rcases e8 with h | h; exfalso; omega; exact h.2 g9.2.2.2.2⟩⟩⟩) (eX11_change (40, .new 83, 3) (List.mem_of_getElem? (i := 18) rfl)) (eX11_change (43, .dup, 1) (List.mem_of_getElem? (i := 19) rfl)) (eX11_change (44, .ldc 203, 2) (List.mem_of_getElem? (i := 20) rfl)) (eX11_change (46, .invokespecial 87, 3) (List.mem_of_getElem? (i := 21) rfl)) (eX11_change (49, .athrow, 1) (List.mem_of_getElem? (i := 22) rfl))
