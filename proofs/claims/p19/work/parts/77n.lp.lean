theorem zs_arr {ro : Nat → Option Nat} {c : ClassId} {N : Nat} {z z' : Nat → Value} {t : zt_T} (h : some (arrV c N z) = some (arrV c N z')) (hy : ∀ i, i < N → zt_ok ro (z' i) t) : ∀ i, i < N → zt_ok ro (z i) t := by
  intro i hi
  have h1 : (arrV c N z).slots[i]? = (arrV c N z').slots[i]? := by rw [Option.some.inj h]
  rw [arrV_read _ _ hi, arrV_read _ _ hi] at h1
  rw [Option.some.inj h1]
  exact hy i hi
set_option maxRecDepth 100000 in
set_option maxHeartbeats 4000000 in
theorem hX5_has (l : Launch) (D : va_G) (cA : Nat → ClassId) (ro : Nat → Option Nat) (sz : Nat) (H0 : Heap) (lp : Nat) (d : Int64) (L : List Int) (hlp : ro lp = some 4)  : Met l yX5_has (gW yX5_has cX5_has 4 (some .boolean)) { frames := 0, cells := 0, slots := 0, locals := 0 } (zs_P D cA ro sz H0 (fun H => jLp D cA ro H lp L) [.ref lp, .long d]) (fun _ st oc t => t.heap = st.heap ∧ ∃ r : Int32, oc = .returned (some (.int r)) ∧ ((r.toInt = 1 ∧ d.toInt ∈ L) ∨ (r.toInt = 0 ∧ d.toInt ∉ L))) 0 0 (zy_fr sz) := by
  refine zy_ofW (cc := cX5_has) (maxL := 4) (ret := (some .boolean)) (by decide +kernel) rfl ?_
  intro p e s m args below meth c s1 B hml hv
  obtain ⟨rfl, hh, hKn, hJ⟩ := hv
  have hx := B.exec
  have hb := B.bytes
  have hr := B.returns
  have hlk := B.notSynchronized
  have hts0 := atoms_spec (ws := gW yX5_has cX5_has 4 (some .boolean)) B.pre
  have h2 : ∀ w ∈ gT, w.before ([.ref lp, .long d] : List Value).toArray s = true := fun w hw => hts0 w (List.mem_cons_of_mem _ hw)
  have hown : s.vm.findClass RX5 = some m.cls := findClass_of_methodNamed B.named
  have hl := lv_entry [.ref lp, .long d] (n := 4) (Nat.le_of_ble_eq_true rfl)
  rw [lg_entry_eq]
  generalize (lg_sl [.ref lp, .long d] ++ List.replicate (4 - (lg_sl [.ref lp, .long d]).length) Slot.unset).toArray = ls at hl ⊢
  have b_d := zn_i64 d
  have hD := zD_all h2 hKn.1
  have hcl4 := fun (idx k : Nat) (t : zt_T) (h : (idx, 4, k) ∈ gfX5) (hk : fsX5[k]? = some t) => zf_clause (ro := ro) (ms := []) h2 hown hKn.1 gfX5_ok (by decide +kernel) idx 4 k 4 0 fsX5 t h rfl hk
  have kp0 : zc_kept D RTg ro [] s.heap s.heap := zc_kept.refl
  obtain ⟨la, n, z, f0, r0, f1, hn, hc, hz⟩ := id hJ
  obtain ⟨n9, g9, n1, n2⟩ := zh_fT (k := 1) (t := (0, 0, 40)) hh hlp (show RTg[4]? = some (0, 4, 0, fsX5) from rfl) rfl
  cases f1.symm.trans g9
  dsimp only at n1 n2
  clear g9
  refine ff_iconst hx hb (eX5_has (0, .iconst 0, 1) (List.mem_of_getElem? (i := 0) rfl)) (by decide) (by decide) (fun v1 e1 => ?_)
  refine lv_istore_n hx hb (eX5_has (1, .istore_n 3, 1) (List.mem_of_getElem? (i := 1) rfl)) rfl hl (by decide) rfl (fun ls2 hl2 => ?_)
  have loop : ∀ (n0 i : Nat) (iv : Int32) (ls : Array Slot), i + n0 = L.length → iv.toInt = (i : Int) → (∀ j : Nat, j < i → L[j]? ≠ some d.toInt) → lv_has ls 4 [(3, .int iv), (0, .ref lp), (1, .long d)] → W p l e (headSpec (gW yX5_has cX5_has 4 (some .boolean)) { frames := 0, cells := 0, slots := 0, locals := 0 }).room s m ([.ref lp, .long d] : List Value).toArray below meth c s.heap [] 0 0 (MQ below (fun _ st oc t => t.heap = st.heap ∧ ∃ r : Int32, oc = .returned (some (.int r)) ∧ ((r.toInt = 1 ∧ d.toInt ∈ L) ∨ (r.toInt = 0 ∧ d.toInt ∉ L))) ([.ref lp, .long d] : List Value).toArray s 0 0 (zy_fr sz)) (F0 m 2 ls []) := by
    intro n0
    induction n0 with
    | zero =>
      intro i iv ls hi hiv hno hl
      refine lv_iload_n hx hb (eX5_has (2, .iload_n 3, 1) (List.mem_of_getElem? (i := 2) rfl)) rfl (lv_at hl 0 rfl) ?_
      refine lv_aload_n hx hb (eX5_has (3, .aload_n 0, 1) (List.mem_of_getElem? (i := 3) rfl)) rfl (lv_at hl 1 rfl) ?_
      refine tz_get (r := 4) (k := 1) (t := (0, 0, 40)) hx hb hh hlp rfl rfl (hcl4 15 1 (0, 0, 40) (by decide) rfl).1 f1 (eX5_has (4, .getfield 15, 3) (List.mem_of_getElem? (i := 4) rfl)) ?_
      refine ff_icmp_ge hx hb (eX5_has (7, .if_icmp .ge 22, 3) (List.mem_of_getElem? (i := 5) rfl)) (tgt := 29) rfl (fun c3 => ?_) (fun c3 => (by exfalso; omega))
      refine ff_iconst hx hb (eX5_has (29, .iconst 0, 1) (List.mem_of_getElem? (i := 17) rfl)) (by decide) (by decide) (fun v4 e4 => ?_)
      exact W.zret hx hb hr (zn_bool (by omega) (by omega)) (fun t ht hW => ⟨ht, _, rfl, Or.inr ⟨by omega, l_nmem (fun j h => hno j (by omega))⟩⟩) (fun q hq => by cases hq) (eX5_has (30, .ireturn, 1) (List.mem_of_getElem? (i := 18) rfl))
    | succ n0 ih =>
      intro i iv ls hi hiv hno hl
      refine lv_iload_n hx hb (eX5_has (2, .iload_n 3, 1) (List.mem_of_getElem? (i := 2) rfl)) rfl (lv_at hl 0 rfl) ?_
      refine lv_aload_n hx hb (eX5_has (3, .aload_n 0, 1) (List.mem_of_getElem? (i := 3) rfl)) rfl (lv_at hl 1 rfl) ?_
      refine tz_get (r := 4) (k := 1) (t := (0, 0, 40)) hx hb hh hlp rfl rfl (hcl4 15 1 (0, 0, 40) (by decide) rfl).1 f1 (eX5_has (4, .getfield 15, 3) (List.mem_of_getElem? (i := 4) rfl)) ?_
      refine ff_icmp_ge hx hb (eX5_has (7, .if_icmp .ge 22, 3) (List.mem_of_getElem? (i := 5) rfl)) (tgt := 29) rfl (fun c5 => (by exfalso; omega)) (fun c5 => ?_)
      refine lv_aload_n hx hb (eX5_has (10, .aload_n 0, 1) (List.mem_of_getElem? (i := 6) rfl)) rfl (lv_at hl 1 rfl) ?_
      refine tz_get (r := 4) (k := 0) (t := (30, 0, 0)) hx hb hh hlp rfl rfl (hcl4 11 0 (30, 0, 0) (by decide) rfl).1 f0 (eX5_has (11, .getfield 11, 3) (List.mem_of_getElem? (i := 7) rfl)) ?_
      refine lv_iload_n hx hb (eX5_has (14, .iload_n 3, 1) (List.mem_of_getElem? (i := 8) rfl)) rfl (lv_at hl 0 rfl) ?_
      refine tz_lald hx hb (zAr hKn.1 1 (by decide)) hc (by omega) (by omega) (eX5_has (15, .laload, 1) (List.mem_of_getElem? (i := 9) rfl)) ?_
      obtain ⟨v6, hz6, hL6⟩ := hz i (by omega)
      rw [show iv.toNatClampNeg = i by show iv.toInt.toNat = i; omega, hz6]
      refine lv_lload_n hx hb (eX5_has (16, .lload_n 1, 1) (List.mem_of_getElem? (i := 10) rfl)) rfl (lv_at hl 2 rfl) ?_
      refine ff_lcmp hx hb (eX5_has (17, .lcmp, 1) (List.mem_of_getElem? (i := 11) rfl)) (fun v7 e7 => ?_)
      refine ff_if_ne hx hb (eX5_has (18, .ifCond .ne 5, 3) (List.mem_of_getElem? (i := 12) rfl)) (tgt := 23) rfl (fun c8 => ?_) (fun c8 => ?_)
      · skip
        refine ff_iinc (k := 0) hx hb (eX5_has (23, .iinc 3 1, 3) (List.mem_of_getElem? (i := 15) rfl)) hl rfl (by decide) (by decide) (by decide) (by omega) (by omega) (fun v9 e9 ls9 hl9 => ?_)
        refine lv_goto hx hb (eX5_has (26, .goto (-24), 3) (List.mem_of_getElem? (i := 16) rfl)) (tgt := 2) rfl ?_
        exact ih (i + 1) v9 ls9 (by omega) (by omega) (fun j h => by rcases Nat.lt_succ_iff_lt_or_eq.mp h with g | g; exact hno j g; rw [g, hL6]; exact fun q => by have q := Option.some.inj q; omega) hl9
      · skip
        refine ff_iconst hx hb (eX5_has (21, .iconst 1, 1) (List.mem_of_getElem? (i := 13) rfl)) (by decide) (by decide) (fun v10 e10 => ?_)
        exact W.zret hx hb hr (zn_bool (by omega) (by omega)) (fun t ht hW => ⟨ht, _, rfl, Or.inl ⟨by omega, by have q := List.mem_of_getElem? hL6; rw [show d.toInt = v6.toInt by omega]; exact q⟩⟩) (fun q hq => by cases hq) (eX5_has (22, .ireturn, 1) (List.mem_of_getElem? (i := 14) rfl))
  exact loop L.length 0 v1 ls2 (by omega) (by omega) (fun j h => absurd h (Nat.not_lt_zero _)) hl2
set_option maxRecDepth 100000 in
set_option maxHeartbeats 4000000 in
theorem hX5_isFull (l : Launch) (D : va_G) (cA : Nat → ClassId) (ro : Nat → Option Nat) (sz : Nat) (H0 : Heap) (lp : Nat)  (L : List Int) (hlp : ro lp = some 4)  : Met l yX5_isFull (gW yX5_isFull cX5_isFull 1 (some .boolean)) { frames := 0, cells := 0, slots := 0, locals := 0 } (zs_P D cA ro sz H0 (fun H => jLp D cA ro H lp L) [.ref lp]) (fun _ st oc t => t.heap = st.heap ∧ ∃ r : Int32, oc = .returned (some (.int r)) ∧ ((r.toInt = 1 ∧ 40 ≤ (L.length : Int)) ∨ (r.toInt = 0 ∧ (L.length : Int) < 40))) 0 0 (zy_fr sz) := by
  refine zy_ofW (cc := cX5_isFull) (maxL := 1) (ret := (some .boolean)) (by decide +kernel) rfl ?_
  intro p e s m args below meth c s1 B hml hv
  obtain ⟨rfl, hh, hKn, hJ⟩ := hv
  have hx := B.exec
  have hb := B.bytes
  have hr := B.returns
  have hlk := B.notSynchronized
  have hts0 := atoms_spec (ws := gW yX5_isFull cX5_isFull 1 (some .boolean)) B.pre
  have h2 : ∀ w ∈ gT, w.before ([.ref lp] : List Value).toArray s = true := fun w hw => hts0 w (List.mem_cons_of_mem _ hw)
  have hown : s.vm.findClass RX5 = some m.cls := findClass_of_methodNamed B.named
  have hl := lv_entry [.ref lp] (n := 1) (Nat.le_of_ble_eq_true rfl)
  rw [lg_entry_eq]
  generalize (lg_sl [.ref lp] ++ List.replicate (1 - (lg_sl [.ref lp]).length) Slot.unset).toArray = ls at hl ⊢
  have hD := zD_all h2 hKn.1
  have hcl4 := fun (idx k : Nat) (t : zt_T) (h : (idx, 4, k) ∈ gfX5) (hk : fsX5[k]? = some t) => zf_clause (ro := ro) (ms := []) h2 hown hKn.1 gfX5_ok (by decide +kernel) idx 4 k 4 0 fsX5 t h rfl hk
  have kp0 : zc_kept D RTg ro [] s.heap s.heap := zc_kept.refl
  obtain ⟨la, n, z, f0, r0, f1, hn, hc, hz⟩ := id hJ
  obtain ⟨n9, g9, n1, n2⟩ := zh_fT (k := 1) (t := (0, 0, 40)) hh hlp (show RTg[4]? = some (0, 4, 0, fsX5) from rfl) rfl
  cases f1.symm.trans g9
  dsimp only at n1 n2
  clear g9
  refine lv_aload_n hx hb (eX5_isFull (0, .aload_n 0, 1) (List.mem_of_getElem? (i := 0) rfl)) rfl (lv_at hl 0 rfl) ?_
  refine tz_get (r := 4) (k := 1) (t := (0, 0, 40)) hx hb hh hlp rfl rfl (hcl4 15 1 (0, 0, 40) (by decide) rfl).1 f1 (eX5_isFull (1, .getfield 15, 3) (List.mem_of_getElem? (i := 1) rfl)) ?_
  refine ff_bipush hx hb (eX5_isFull (4, .bipush 40, 2) (List.mem_of_getElem? (i := 2) rfl)) (by decide) (by decide) (fun v1 e1 => ?_)
  refine ff_icmp_lt hx hb (eX5_isFull (6, .if_icmp .lt 7, 3) (List.mem_of_getElem? (i := 3) rfl)) (tgt := 13) rfl (fun c2 => ?_) (fun c2 => ?_)
  · skip
    refine ff_iconst hx hb (eX5_isFull (13, .iconst 0, 1) (List.mem_of_getElem? (i := 6) rfl)) (by decide) (by decide) (fun v3 e3 => ?_)
    exact W.zret hx hb hr (zn_bool (by omega) (by omega)) (fun t ht hW => ⟨ht, _, rfl, by omega⟩) (fun q hq => by cases hq) (eX5_isFull (14, .ireturn, 1) (List.mem_of_getElem? (i := 7) rfl))
  · skip
    refine ff_iconst hx hb (eX5_isFull (9, .iconst 1, 1) (List.mem_of_getElem? (i := 4) rfl)) (by decide) (by decide) (fun v4 e4 => ?_)
    refine lv_goto hx hb (eX5_isFull (10, .goto 4, 3) (List.mem_of_getElem? (i := 5) rfl)) (tgt := 14) rfl ?_
    exact W.zret hx hb hr (zn_bool (by omega) (by omega)) (fun t ht hW => ⟨ht, _, rfl, by omega⟩) (fun q hq => by cases hq) (eX5_isFull (14, .ireturn, 1) (List.mem_of_getElem? (i := 7) rfl))
set_option maxRecDepth 100000 in
set_option maxHeartbeats 4000000 in
theorem hX5_add (l : Launch) (D : va_G) (cA : Nat → ClassId) (ro : Nat → Option Nat) (sz : Nat) (H0 : Heap) (lp : Nat) (d : Int64) (L : List Int) (hlp : ro lp = some 4) (hlt : (L.length : Int) < 40) : Met l yX5_add (gW yX5_add cX5_add 3 (some .int)) { frames := 0, cells := 0, slots := 0, locals := 0 } (zs_P D cA ro sz H0 (fun H => jLp D cA ro H lp L) [.ref lp, .long d]) (fun _ st oc t => ∃ r : Int32, oc = .returned (some (.int r)) ∧ zh_ok D cA RTg ro sz H0 t.heap [] ∧ zc_kept D RTg ro [(4, 1), (13, 0)] st.heap t.heap ∧ r.toInt = (L.length : Int) + 1 ∧ jLp D cA ro t.heap lp (L ++ [d.toInt])) 0 0 (zy_fr sz) := by
  refine zy_ofW (cc := cX5_add) (maxL := 3) (ret := (some .int)) (by decide +kernel) rfl ?_
  intro p e s m args below meth c s1 B hml hv
  obtain ⟨rfl, hh, hKn, hJ⟩ := hv
  have hx := B.exec
  have hb := B.bytes
  have hr := B.returns
  have hlk := B.notSynchronized
  have hts0 := atoms_spec (ws := gW yX5_add cX5_add 3 (some .int)) B.pre
  have h2 : ∀ w ∈ gT, w.before ([.ref lp, .long d] : List Value).toArray s = true := fun w hw => hts0 w (List.mem_cons_of_mem _ hw)
  have hown : s.vm.findClass RX5 = some m.cls := findClass_of_methodNamed B.named
  have hl := lv_entry [.ref lp, .long d] (n := 3) (Nat.le_of_ble_eq_true rfl)
  rw [lg_entry_eq]
  generalize (lg_sl [.ref lp, .long d] ++ List.replicate (3 - (lg_sl [.ref lp, .long d]).length) Slot.unset).toArray = ls at hl ⊢
  have b_d := zn_i64 d
  have hD := zD_all h2 hKn.1
  have hcl4 := fun (idx k : Nat) (t : zt_T) (h : (idx, 4, k) ∈ gfX5) (hk : fsX5[k]? = some t) => zf_clause (ro := ro) (ms := [(4, 1), (13, 0)]) h2 hown hKn.1 gfX5_ok (by decide +kernel) idx 4 k 4 0 fsX5 t h rfl hk
  have kp0 : zc_kept D RTg ro [(4, 1), (13, 0)] s.heap s.heap := zc_kept.refl
  obtain ⟨la, n, z, f0, r0, f1, hn, hc, hz⟩ := id hJ
  obtain ⟨n9, g9, n1, n2⟩ := zh_fT (k := 1) (t := (0, 0, 40)) hh hlp (show RTg[4]? = some (0, 4, 0, fsX5) from rfl) rfl
  cases f1.symm.trans g9
  dsimp only at n1 n2
  clear g9
  obtain ⟨-, z9, c9, hy9⟩ := zh_arr hh r0 (show RTg[13]? = some (1, 1, 40, [(1, (-9223372036854775808), 9223372036854775807)]) from rfl)
  have hy : ∀ i, i < 40 → zt_ok ro (z i) (1, (-9223372036854775808), 9223372036854775807) := zs_arr (hc.symm.trans c9) hy9
  refine lv_aload_n hx hb (eX5_add (0, .aload_n 0, 1) (List.mem_of_getElem? (i := 0) rfl)) rfl (lv_at hl 0 rfl) ?_
  refine tz_get (r := 4) (k := 1) (t := (0, 0, 40)) hx hb hh hlp rfl rfl (hcl4 15 1 (0, 0, 40) (by decide) rfl).1 f1 (eX5_add (1, .getfield 15, 3) (List.mem_of_getElem? (i := 1) rfl)) ?_
  refine ff_bipush hx hb (eX5_add (4, .bipush 40, 2) (List.mem_of_getElem? (i := 2) rfl)) (by decide) (by decide) (fun v1 e1 => ?_)
  refine ff_icmp_ge hx hb (eX5_add (6, .if_icmp .ge 23, 3) (List.mem_of_getElem? (i := 3) rfl)) (tgt := 29) rfl (fun c2 => (by exfalso; omega)) (fun c2 => ?_)
  refine lv_aload_n hx hb (eX5_add (9, .aload_n 0, 1) (List.mem_of_getElem? (i := 4) rfl)) rfl (lv_at hl 0 rfl) ?_
  refine tz_get (r := 4) (k := 0) (t := (30, 0, 0)) hx hb hh hlp rfl rfl (hcl4 11 0 (30, 0, 0) (by decide) rfl).1 f0 (eX5_add (10, .getfield 11, 3) (List.mem_of_getElem? (i := 5) rfl)) ?_
  refine lv_aload_n hx hb (eX5_add (13, .aload_n 0, 1) (List.mem_of_getElem? (i := 6) rfl)) rfl (lv_at hl 0 rfl) ?_
  refine tz_get (r := 4) (k := 1) (t := (0, 0, 40)) hx hb hh hlp rfl rfl (hcl4 15 1 (0, 0, 40) (by decide) rfl).1 f1 (eX5_add (14, .getfield 15, 3) (List.mem_of_getElem? (i := 7) rfl)) ?_
  refine lv_lload_n hx hb (eX5_add (17, .lload_n 1, 1) (List.mem_of_getElem? (i := 8) rfl)) rfl (lv_at hl 1 rfl) ?_
  have hzz := jN_app (d := d) hz
  rw [← show n.toNatClampNeg = L.length by show n.toInt.toNat = L.length; omega] at hzz
  refine tz_last hx hb (zAr hKn.1 1 (by decide)) hh r0 (show RTg[13]? = some (1, 1, 40, [(1, (-9223372036854775808), 9223372036854775807)]) from rfl) hc hy (by omega) (by omega) (tz_l (zn_i64 _).1 (zn_i64 _).2) (eX5_add (18, .lastore, 1) (List.mem_of_getElem? (i := 9) rfl)) (fun H3 lo3 hh3 hc3 hk3 hq3 _ => ?_)
  have mf3_lp_0 := (hk3.1 lp 4 0 4 0 fsX5 hlp rfl (by decide) (by decide)).trans f0
  have mf3_lp_1 := (hk3.1 lp 4 1 4 0 fsX5 hlp rfl (by decide) (by decide)).trans f1
  have kp3 := kp0.trans (hk3.mono (ms' := [(4, 1), (13, 0)]) (fun x hx => by cases List.mem_singleton.mp hx; decide))
  refine lv_aload_n hx hb (eX5_add (19, .aload_n 0, 1) (List.mem_of_getElem? (i := 10) rfl)) rfl (lv_at hl 0 rfl) ?_
  refine lv_dup hx hb (eX5_add (20, .dup, 1) (List.mem_of_getElem? (i := 11) rfl)) rfl ?_
  refine tz_get (r := 4) (k := 1) (t := (0, 0, 40)) hx hb hh3 hlp rfl rfl (hcl4 15 1 (0, 0, 40) (by decide) rfl).1 mf3_lp_1 (eX5_add (21, .getfield 15, 3) (List.mem_of_getElem? (i := 12) rfl)) ?_
  refine ff_iconst hx hb (eX5_add (24, .iconst 1, 1) (List.mem_of_getElem? (i := 13) rfl)) (by decide) (by decide) (fun v4 e4 => ?_)
  refine ff_iadd hx hb (eX5_add (25, .iadd, 1) (List.mem_of_getElem? (i := 14) rfl)) (by omega) (by omega) (fun v5 e5 => ?_)
  refine tz_put (r := 4) (k := 1) (t := (0, 0, 40)) hx hb hD hh3 hlp rfl rfl ((hcl4 15 1 (0, 0, 40) (by decide) rfl).2 (by decide)) (tz_i (by omega) (by omega)) (eX5_add (26, .putfield 15, 3) (List.mem_of_getElem? (i := 15) rfl)) (fun H6 lo6 hh6 hf6 hk6 _ hq6 => ?_)
  have mf6_lp_0 := (hk6.1 lp 4 0 4 0 fsX5 hlp rfl (by decide) (by decide)).trans mf3_lp_0
  have mc6_la := (hk6.2 la 13 0 1 40 _ r0 rfl (by decide)).trans hc3
  have kp6 := kp3.trans (hk6.mono (ms' := [(4, 1), (13, 0)]) (fun x hx => by cases List.mem_singleton.mp hx; decide))
  refine lv_aload_n hx hb (eX5_add (29, .aload_n 0, 1) (List.mem_of_getElem? (i := 16) rfl)) rfl (lv_at hl 0 rfl) ?_
  refine tz_get (r := 4) (k := 1) (t := (0, 0, 40)) hx hb hh6 hlp rfl rfl (hcl4 15 1 (0, 0, 40) (by decide) rfl).1 hf6 (eX5_add (30, .getfield 15, 3) (List.mem_of_getElem? (i := 17) rfl)) ?_
  exact W.zret hx hb hr rfl (fun t ht hW => ⟨_, rfl, by rw [ht]; exact hh6.l0, by rw [ht]; exact kp6, by omega, by rw [ht]; exact ⟨la, _, _, mf6_lp_0, r0, hf6, by rw [List.length_append]; show _ = ((L.length + 1 : Nat) : Int); omega, mc6_la, hzz⟩⟩) hh6.2.2.1 (eX5_add (33, .ireturn, 1) (List.mem_of_getElem? (i := 18) rfl))
