set_option maxRecDepth 100000 in
set_option maxHeartbeats 4000000 in
theorem hX12_isLeapDay (l : Launch) (D : va_G) (cA : Nat → ClassId) (ro : Nat → Option Nat) (sz : Nat) (H0 : Heap) (a : Nat) (d : Int64) (L : List Int) (ha : ro a = some 11)  : Met l yX12_isLeapDay (gW yX12_isLeapDay cX12_isLeapDay 4 (some .boolean)) { frames := 0, cells := 0, slots := 0, locals := 0 } (zs_P D cA ro sz H0 (fun H => jR D cA ro H a L) [.ref a, .long d]) (fun _ st oc t => t.heap = st.heap ∧ ∃ r : Int32, oc = .returned (some (.int r)) ∧ ((r.toInt = 1 ∧ d.toInt ∈ L) ∨ (r.toInt = 0 ∧ d.toInt ∉ L))) 0 0 (zy_fr sz) := by
  refine zy_ofW (cc := cX12_isLeapDay) (maxL := 4) (ret := (some .boolean)) (by decide +kernel) rfl ?_
  intro p e s m args below meth c s1 B hml hv
  obtain ⟨rfl, hh, hKn, hJ⟩ := hv
  have hx := B.exec
  have hb := B.bytes
  have hr := B.returns
  have hlk := B.notSynchronized
  have hts0 := atoms_spec (ws := gW yX12_isLeapDay cX12_isLeapDay 4 (some .boolean)) B.pre
  have h2 : ∀ w ∈ gT, w.before ([.ref a, .long d] : List Value).toArray s = true := fun w hw => hts0 w (List.mem_cons_of_mem _ hw)
  have hown : s.vm.findClass RX12 = some m.cls := findClass_of_methodNamed B.named
  have hl := lv_entry [.ref a, .long d] (n := 4) (Nat.le_of_ble_eq_true rfl)
  rw [lg_entry_eq]
  generalize (lg_sl [.ref a, .long d] ++ List.replicate (4 - (lg_sl [.ref a, .long d]).length) Slot.unset).toArray = ls at hl ⊢
  have b_d := zn_i64 d
  have hD := zD_all h2 hKn.1
  have hcl11 := fun (idx k : Nat) (t : zt_T) (h : (idx, 11, k) ∈ gfX12) (hk : fsX12[k]? = some t) => zf_clause (ro := ro) (ms := []) h2 hown hKn.1 gfX12_ok (by decide +kernel) idx 11 k 11 0 fsX12 t h rfl hk
  have kp0 : zc_kept D RTg ro [] s.heap s.heap := zc_kept.refl
  obtain ⟨la, n, z, f0, r0, f1, hn, hc, hz⟩ := id hJ
  obtain ⟨n9, g9, n1, n2⟩ := zh_fT (k := 1) (t := (0, 0, 40)) hh ha (show RTg[11]? = some (0, 11, 0, fsX12) from rfl) rfl
  cases f1.symm.trans g9
  dsimp only at n1 n2
  clear g9
  refine ff_iconst hx hb (eX12_isLeapDay (0, .iconst 0, 1) (List.mem_of_getElem? (i := 0) rfl)) (by decide) (by decide) (fun v1 e1 => ?_)
  refine lv_istore_n hx hb (eX12_isLeapDay (1, .istore_n 3, 1) (List.mem_of_getElem? (i := 1) rfl)) rfl hl (by decide) rfl (fun ls2 hl2 => ?_)
  have loop : ∀ (n0 i : Nat) (iv : Int32) (ls : Array Slot), i + n0 = L.length → iv.toInt = (i : Int) → (∀ j : Nat, j < i → L[j]? ≠ some d.toInt) → lv_has ls 4 [(3, .int iv), (0, .ref a), (1, .long d)] → W p l e (headSpec (gW yX12_isLeapDay cX12_isLeapDay 4 (some .boolean)) { frames := 0, cells := 0, slots := 0, locals := 0 }).room s m ([.ref a, .long d] : List Value).toArray below meth c s.heap [] 0 0 (MQ below (fun _ st oc t => t.heap = st.heap ∧ ∃ r : Int32, oc = .returned (some (.int r)) ∧ ((r.toInt = 1 ∧ d.toInt ∈ L) ∨ (r.toInt = 0 ∧ d.toInt ∉ L))) ([.ref a, .long d] : List Value).toArray s 0 0 (zy_fr sz)) (F0 m 2 ls []) := by
    intro n0
    induction n0 with
    | zero =>
      intro i iv ls hi hiv hno hl
      refine lv_iload_n hx hb (eX12_isLeapDay (2, .iload_n 3, 1) (List.mem_of_getElem? (i := 2) rfl)) rfl (lv_at hl 0 rfl) ?_
      refine lv_aload_n hx hb (eX12_isLeapDay (3, .aload_n 0, 1) (List.mem_of_getElem? (i := 3) rfl)) rfl (lv_at hl 1 rfl) ?_
      refine tz_get (r := 11) (k := 1) (t := (0, 0, 40)) hx hb hh ha rfl rfl (hcl11 173 1 (0, 0, 40) (by decide) rfl).1 f1 (eX12_isLeapDay (4, .getfield 173, 3) (List.mem_of_getElem? (i := 4) rfl)) ?_
      refine ff_icmp_ge hx hb (eX12_isLeapDay (7, .if_icmp .ge 22, 3) (List.mem_of_getElem? (i := 5) rfl)) (tgt := 29) rfl (fun c3 => ?_) (fun c3 => (by exfalso; omega))
      refine ff_iconst hx hb (eX12_isLeapDay (29, .iconst 0, 1) (List.mem_of_getElem? (i := 17) rfl)) (by decide) (by decide) (fun v4 e4 => ?_)
      exact W.zret hx hb hr (zn_bool (by omega) (by omega)) (fun t ht hW => ⟨ht, _, rfl, Or.inr ⟨by omega, l_nmem (fun j h => hno j (by omega))⟩⟩) (fun q hq => by cases hq) (eX12_isLeapDay (30, .ireturn, 1) (List.mem_of_getElem? (i := 18) rfl))
    | succ n0 ih =>
      intro i iv ls hi hiv hno hl
      refine lv_iload_n hx hb (eX12_isLeapDay (2, .iload_n 3, 1) (List.mem_of_getElem? (i := 2) rfl)) rfl (lv_at hl 0 rfl) ?_
      refine lv_aload_n hx hb (eX12_isLeapDay (3, .aload_n 0, 1) (List.mem_of_getElem? (i := 3) rfl)) rfl (lv_at hl 1 rfl) ?_
      refine tz_get (r := 11) (k := 1) (t := (0, 0, 40)) hx hb hh ha rfl rfl (hcl11 173 1 (0, 0, 40) (by decide) rfl).1 f1 (eX12_isLeapDay (4, .getfield 173, 3) (List.mem_of_getElem? (i := 4) rfl)) ?_
      refine ff_icmp_ge hx hb (eX12_isLeapDay (7, .if_icmp .ge 22, 3) (List.mem_of_getElem? (i := 5) rfl)) (tgt := 29) rfl (fun c5 => (by exfalso; omega)) (fun c5 => ?_)
      refine lv_aload_n hx hb (eX12_isLeapDay (10, .aload_n 0, 1) (List.mem_of_getElem? (i := 6) rfl)) rfl (lv_at hl 1 rfl) ?_
      refine tz_get (r := 11) (k := 2) (t := (46, 0, 0)) hx hb hh ha rfl rfl (hcl11 9 2 (46, 0, 0) (by decide) rfl).1 f0 (eX12_isLeapDay (11, .getfield 9, 3) (List.mem_of_getElem? (i := 7) rfl)) ?_
      refine lv_iload_n hx hb (eX12_isLeapDay (14, .iload_n 3, 1) (List.mem_of_getElem? (i := 8) rfl)) rfl (lv_at hl 0 rfl) ?_
      refine tz_lald hx hb (zAr hKn.1 1 (by decide)) hc (by omega) (by omega) (eX12_isLeapDay (15, .laload, 1) (List.mem_of_getElem? (i := 9) rfl)) ?_
      obtain ⟨v6, hz6, hL6⟩ := hz i (by omega)
      rw [show iv.toNatClampNeg = i by show iv.toInt.toNat = i; omega, hz6]
      refine lv_lload_n hx hb (eX12_isLeapDay (16, .lload_n 1, 1) (List.mem_of_getElem? (i := 10) rfl)) rfl (lv_at hl 2 rfl) ?_
      refine ff_lcmp hx hb (eX12_isLeapDay (17, .lcmp, 1) (List.mem_of_getElem? (i := 11) rfl)) (fun v7 e7 => ?_)
      refine ff_if_ne hx hb (eX12_isLeapDay (18, .ifCond .ne 5, 3) (List.mem_of_getElem? (i := 12) rfl)) (tgt := 23) rfl (fun c8 => ?_) (fun c8 => ?_)
      · skip
        refine ff_iinc (k := 0) hx hb (eX12_isLeapDay (23, .iinc 3 1, 3) (List.mem_of_getElem? (i := 15) rfl)) hl rfl (by decide) (by decide) (by decide) (by omega) (by omega) (fun v9 e9 ls9 hl9 => ?_)
        refine lv_goto hx hb (eX12_isLeapDay (26, .goto (-24), 3) (List.mem_of_getElem? (i := 16) rfl)) (tgt := 2) rfl ?_
        exact ih (i + 1) v9 ls9 (by omega) (by omega) (fun j h => by rcases Nat.lt_succ_iff_lt_or_eq.mp h with g | g; exact hno j g; rw [g, hL6]; exact fun q => by have q := Option.some.inj q; omega) hl9
      · skip
        refine ff_iconst hx hb (eX12_isLeapDay (21, .iconst 1, 1) (List.mem_of_getElem? (i := 13) rfl)) (by decide) (by decide) (fun v10 e10 => ?_)
        exact W.zret hx hb hr (zn_bool (by omega) (by omega)) (fun t ht hW => ⟨ht, _, rfl, Or.inl ⟨by omega, by have q := List.mem_of_getElem? hL6; rw [show d.toInt = v6.toInt by omega]; exact q⟩⟩) (fun q hq => by cases hq) (eX12_isLeapDay (22, .ireturn, 1) (List.mem_of_getElem? (i := 14) rfl))
  exact loop L.length 0 v1 ls2 (by omega) (by omega) (fun j h => absurd h (Nat.not_lt_zero _)) hl2
set_option maxRecDepth 100000 in
set_option maxHeartbeats 4000000 in
theorem hX12_isOffset (l : Launch) (o : Int64)  : zu_M l yX12_isOffset (gW yX12_isOffset cX12_isOffset 2 (some .boolean)) { frames := 1, cells := 0, slots := 0, locals := 25 } (fun vs => vs = [.long o]) zT (fun _ w => ∃ r : Int32, w = .int r ∧ ((r.toInt = 1 ∧ -1439 ≤ o.toInt ∧ o.toInt ≤ 1439) ∨ (r.toInt = 0 ∧ (o.toInt < -1439 ∨ 1439 < o.toInt)))) := by
  refine zy_ofW (cc := cX12_isOffset) (maxL := 2) (ret := (some .boolean)) (by decide +kernel) rfl ?_
  intro p e s m args below meth c s1 B hml hv
  obtain ⟨vs, rfl, rfl, hKp⟩ := hv
  have hx := B.exec
  have hb := B.bytes
  have hr := B.returns
  have hlk := B.notSynchronized
  have hts0 := atoms_spec (ws := gW yX12_isOffset cX12_isOffset 2 (some .boolean)) B.pre
  have h2 : ∀ w ∈ gT, w.before ([.long o] : List Value).toArray s = true := fun w hw => hts0 w (List.mem_cons_of_mem _ hw)
  have hown : s.vm.findClass RX12 = some m.cls := findClass_of_methodNamed B.named
  have hl := lv_entry [.long o] (n := 2) (Nat.le_of_ble_eq_true rfl)
  rw [lg_entry_eq]
  generalize (lg_sl [.long o] ++ List.replicate (2 - (lg_sl [.long o]).length) Slot.unset).toArray = ls at hl ⊢
  have b_o := zn_i64 o
  refine lv_lload_n hx hb (eX12_isOffset (0, .lload_n 0, 1) (List.mem_of_getElem? (i := 0) rfl)) rfl (lv_at hl 0 rfl) ?_
  refine ff_ldc2 (n := (-1439)) hx hb hown h2 (clX12_ok 213 (-1439) (List.mem_of_getElem? (i := 24) rfl)) (eX12_isOffset (1, .ldc2_w 213, 3) (List.mem_of_getElem? (i := 1) rfl)) (fun v1 e1 => ?_)
  refine ff_ldc2 (n := 1439) hx hb hown h2 (clX12_ok 185 1439 (List.mem_of_getElem? (i := 22) rfl)) (eX12_isOffset (4, .ldc2_w 185, 3) (List.mem_of_getElem? (i := 2) rfl)) (fun v2 e2 => ?_)
  refine zu_S (vs := [.long o, .long v1, .long v2]) (rest := []) hx hb hml hown hts0 zu_BT (hX12_isIn l o v1 v2) ⟨rfl, rfl⟩ ⟨by decide, by decide⟩ ⟨by decide, by decide⟩ (tb_7 47 rfl rfl) (tb_1 12 rfl rfl) (tb_7 45 rfl rfl) (tb_7 46 rfl rfl) (show yX12_isIn.cls ≠ "java/lang/invoke/MethodHandle" ∧ yX12_isIn.cls ≠ "java/lang/invoke/VarHandle" ∧ (parseMethodDescriptor yX12_isIn.desc).map (fun d => d.parameters.length) = some 3 by decide +kernel) rfl (fun _ _ _ => trivial) hl.1 (Nat.le_of_ble_eq_true rfl) (eX12_isOffset (7, .invokestatic 130, 3) (List.mem_of_getElem? (i := 3) rfl)) (fun w3 f3 => ?_)
  obtain ⟨v3, rfl, e3⟩ := f3
  exact zu_iret (y := yX12_isOffset) (ws := []) (rm := {}) hx hb hr hlk (zn_bool (by omega) (by omega)) ⟨_, rfl, by omega⟩ (eX12_isOffset (10, .ireturn, 1) (List.mem_of_getElem? (i := 4) rfl))
/-- a contract with less to need -/
theorem met_weak {l : Launch} {y : MethodName} {ws : List Cond} {rm : Room} {P P' : Array Value → State → Prop} {Q : Array Value → State → Outcome → State → Prop} {mc ms : Nat} {fr : Addr → Prop} (h : Met l y ws rm P Q mc ms fr) (hp : ∀ a U, P' a U → P a U) : Met l y ws rm P' Q mc ms fr := fun p e ha hf hc s m args below h1 h2 h3 h4 => h p e ha hf hc s m args below h1 h2 (hp args s h3) h4
theorem hX12_isDay2 (l : Launch) (D : va_G) (cA : Nat → ClassId) (ro : Nat → Option Nat) (sz : Nat) (H0 : Heap) (a : Nat) (n : Int64) (L : List Int) (zc : Int) (ha : ro a = some 11) : Met l yX12_isDay (gW yX12_isDay cX12_isDay 3 (some .boolean)) { frames := 1, cells := 0, slots := 0, locals := 25 } (zs_P D cA ro sz H0 (fun H => jRS D cA ro H a L zc) [.ref a, .long n]) (zg_idQ n.toInt) 0 0 (zy_fr sz) := met_weak (hX12_isDay l D cA ro sz H0 a n ha) (fun _ _ h => ⟨h.1, h.2.1, h.2.2.1⟩)
theorem hX12_isLeapDay2 (l : Launch) (D : va_G) (cA : Nat → ClassId) (ro : Nat → Option Nat) (sz : Nat) (H0 : Heap) (a : Nat) (d : Int64) (L : List Int) (zc : Int) (ha : ro a = some 11) : Met l yX12_isLeapDay (gW yX12_isLeapDay cX12_isLeapDay 4 (some .boolean)) { frames := 0, cells := 0, slots := 0, locals := 0 } (zs_P D cA ro sz H0 (fun H => jRS D cA ro H a L zc) [.ref a, .long d]) (fun _ st oc t => t.heap = st.heap ∧ ∃ r : Int32, oc = .returned (some (.int r)) ∧ ((r.toInt = 1 ∧ d.toInt ∈ L) ∨ (r.toInt = 0 ∧ d.toInt ∉ L))) 0 0 (zy_fr sz) := met_weak (hX12_isLeapDay l D cA ro sz H0 a d L ha) (fun _ _ h => ⟨h.1, h.2.1, h.2.2.1, h.2.2.2.1⟩)
set_option maxRecDepth 100000 in
set_option maxHeartbeats 4000000 in
theorem hX12_leap (l : Launch) (D : va_G) (cA : Nat → ClassId) (ro : Nat → Option Nat) (sz : Nat) (H0 : Heap) (a : Nat) (d : Int64) (L : List Int) (zc : Int) (ha : ro a = some 11)  : Met l yX12_leap (gW yX12_leap cX12_leap 3 (some .int)) { frames := 2, cells := 0, slots := 0, locals := 47 } (zs_P D cA ro sz H0 (fun H => jRS D cA ro H a L zc) [.ref a, .long d]) (zs_QR D cA ro sz H0 a vI (spL d.toInt L zc)) 0 0 (zy_fr sz) := by
  refine zy_ofW (cc := cX12_leap) (maxL := 3) (ret := (some .int)) (by decide +kernel) rfl ?_
  intro p e s m args below meth c s1 B hml hv
  obtain ⟨rfl, hh, hKn, hJ⟩ := hv
  have hx := B.exec
  have hb := B.bytes
  have hr := B.returns
  have hlk := B.notSynchronized
  have hts0 := atoms_spec (ws := gW yX12_leap cX12_leap 3 (some .int)) B.pre
  have h2 : ∀ w ∈ gT, w.before ([.ref a, .long d] : List Value).toArray s = true := fun w hw => hts0 w (List.mem_cons_of_mem _ hw)
  have hown : s.vm.findClass RX12 = some m.cls := findClass_of_methodNamed B.named
  have hl := lv_entry [.ref a, .long d] (n := 3) (Nat.le_of_ble_eq_true rfl)
  rw [lg_entry_eq]
  generalize (lg_sl [.ref a, .long d] ++ List.replicate (3 - (lg_sl [.ref a, .long d]).length) Slot.unset).toArray = ls at hl ⊢
  have b_d := zn_i64 d
  have hD := zD_all h2 hKn.1
  have hcl11 := fun (idx k : Nat) (t : zt_T) (h : (idx, 11, k) ∈ gfX12) (hk : fsX12[k]? = some t) => zf_clause (ro := ro) (ms := jMr) h2 hown hKn.1 gfX12_ok (by decide +kernel) idx 11 k 11 0 fsX12 t h rfl hk
  have kp0 : zc_kept D RTg ro jMr s.heap s.heap := zc_kept.refl
  obtain ⟨⟨la, n, z, f0, r0, f1, hn, hc, hz⟩, ⟨nz, fz, hnz⟩, hjl⟩ := id hJ
  have hjr := hJ.1
  obtain ⟨n9, g9, n1, n2⟩ := zh_fT (k := 1) (t := (0, 0, 40)) hh ha (show RTg[11]? = some (0, 11, 0, fsX12) from rfl) rfl
  cases f1.symm.trans g9
  dsimp only at n1 n2
  clear g9
  obtain ⟨n9, g9, nz1, nz2⟩ := zh_fT (k := 3) (t := (0, 0, 8)) hh ha (show RTg[11]? = some (0, 11, 0, fsX12) from rfl) rfl
  cases fz.symm.trans g9
  dsimp only at nz1 nz2
  clear g9
  obtain ⟨-, z9, c9, hy9⟩ := zh_arr hh r0 (show RTg[21]? = some (1, 1, 40, [(1, (-9223372036854775808), 9223372036854775807)]) from rfl)
  have hy : ∀ i, i < 40 → zt_ok ro (z i) (1, (-9223372036854775808), 9223372036854775807) := zs_arr (hc.symm.trans c9) hy9
  have hjL := hjl.2.1
  refine lv_aload_n hx hb (eX12_leap (0, .aload_n 0, 1) (List.mem_of_getElem? (i := 0) rfl)) rfl (lv_at hl 0 rfl) ?_
  refine lv_aload_n hx hb (eX12_leap (1, .aload_n 0, 1) (List.mem_of_getElem? (i := 1) rfl)) rfl (lv_at hl 0 rfl) ?_
  refine lv_lload_n hx hb (eX12_leap (2, .lload_n 1, 1) (List.mem_of_getElem? (i := 2) rfl)) rfl (lv_at hl 1 rfl) ?_
  refine tz_rowV (As := [.long d]) (st := [.ref a]) (b := a) (C := RX12) (Ts := gT) hx hb hml hown h2 (fun _ h => h) (hX12_isDay2 l D cA ro sz H0 a d L zc ha) ⟨rfl, rfl⟩ ⟨by decide, by decide⟩ ⟨by decide, by decide⟩ (tb_7 62 rfl rfl) (tb_1 12 rfl rfl) (tb_7 59 rfl rfl) (tb_7 61 rfl rfl) (tb_0 4 rfl rfl) (show yX12_isDay.cls ≠ "java/lang/invoke/MethodHandle" ∧ yX12_isDay.cls ≠ "java/lang/invoke/VarHandle" ∧ (parseMethodDescriptor yX12_isDay.desc).map (fun d => d.parameters.length) = some 1 by decide +kernel) zs_blind (zs_ob hh ha (show RTg[11]? = some (0, 11, 0, fsX12) from rfl) (zCX12 hKn.1)) (fun U hU hW => ⟨rfl, by rw [hU]; exact hh.l0, zKb s U hW.alike hKn, by rw [hU]; exact hJ⟩) hh.2.2.1 hl.1 (Nat.le_of_ble_eq_true rfl) (eX12_leap (3, .invokevirtual 159, 3) (List.mem_of_getElem? (i := 3) rfl)) (fun r1 s1 t1 lo1 g1 f1 l1 => ?_)
  obtain ⟨z1, v1, q1, e1⟩ := f1
  cases q1
  rw [z1, g1]
  have hh1 : zh_ok D cA RTg ro sz H0 s.heap lo1 := ⟨hh.1, hh.2.1, l1, hh.2.2.2⟩
  refine W.eq (g2 := F0 m 6 ls [.int v1, .ref a]) rfl ?_
  refine ff_if_eq hx hb (eX12_leap (6, .ifCond .eq 11, 3) (List.mem_of_getElem? (i := 4) rfl)) (tgt := 17) rfl (fun c2 => ?_) (fun c2 => ?_)
  · skip
    refine ff_iconst hx hb (eX12_leap (17, .iconst 1, 1) (List.mem_of_getElem? (i := 9) rfl)) (by decide) (by decide) (fun v3 e3 => ?_)
    refine lv_goto hx hb (eX12_leap (18, .goto 17, 3) (List.mem_of_getElem? (i := 10) rfl)) (tgt := 35) rfl ?_
    refine tz_put (r := 11) (k := 0) (t := (0, 0, 2)) hx hb hD hh1 ha rfl rfl ((hcl11 85 0 (0, 0, 2) (by decide) rfl).2 (by decide)) (tz_i (by omega) (by omega)) (eX12_leap (35, .putfield 85, 3) (List.mem_of_getElem? (i := 18) rfl)) (fun H4 lo4 hh4 hf4 hk4 _ hq4 => ?_)
    have mf4_a_2 := (hk4.1 a 11 2 11 0 fsX12 ha rfl (by decide) (by decide)).trans f0
    have mf4_a_1 := (hk4.1 a 11 1 11 0 fsX12 ha rfl (by decide) (by decide)).trans f1
    have mf4_a_3 := (hk4.1 a 11 3 11 0 fsX12 ha rfl (by decide) (by decide)).trans fz
    have mc4_la := (hk4.2 la 21 0 1 40 _ r0 rfl (by decide)).trans hc
    have kp4 := kp0.trans (hk4.mono (ms' := jMr) (fun x hx => by cases List.mem_singleton.mp hx; decide))
    refine lv_aload_n hx hb (eX12_leap (38, .aload_n 0, 1) (List.mem_of_getElem? (i := 19) rfl)) rfl (lv_at hl 0 rfl) ?_
    refine tz_get (r := 11) (k := 0) (t := (0, 0, 2)) hx hb hh4 ha rfl rfl (hcl11 85 0 (0, 0, 2) (by decide) rfl).1 hf4 (eX12_leap (39, .getfield 85, 3) (List.mem_of_getElem? (i := 20) rfl)) ?_
    refine ff_if_le hx hb (eX12_leap (42, .ifCond .le 5, 3) (List.mem_of_getElem? (i := 21) rfl)) (tgt := 47) rfl (fun c5 => (by exfalso; omega)) (fun c5 => ?_)
    refine ff_iconst hx hb (eX12_leap (45, .iconst 0, 1) (List.mem_of_getElem? (i := 22) rfl)) (by decide) (by decide) (fun v6 e6 => ?_)
    exact W.zret hx hb hr rfl (fun t ht hW => ⟨_, _, _, L, zc, rfl, ⟨_, rfl, rfl⟩, by rw [ht]; exact hh4.l0, by rw [ht]; exact kp4, by rw [ht]; exact hf4, by rw [ht]; exact ⟨⟨la, _, _, mf4_a_2, r0, mf4_a_1, hn, mc4_la, hz⟩, ⟨_, mf4_a_3, hnz⟩, hjl⟩, rfl, Or.inl ⟨by omega, rfl, Or.inl (by unfold dOK; omega)⟩⟩) hh4.2.2.1 (eX12_leap (46, .ireturn, 1) (List.mem_of_getElem? (i := 23) rfl))
  · skip
    refine lv_aload_n hx hb (eX12_leap (9, .aload_n 0, 1) (List.mem_of_getElem? (i := 5) rfl)) rfl (lv_at hl 0 rfl) ?_
    refine lv_lload_n hx hb (eX12_leap (10, .lload_n 1, 1) (List.mem_of_getElem? (i := 6) rfl)) rfl (lv_at hl 1 rfl) ?_
    refine tz_rowV (As := [.long d]) (st := [.ref a]) (b := a) (C := RX12) (Ts := gT) hx hb hml hown h2 (fun _ h => h) (hX12_isLeapDay2 l D cA ro sz H0 a d L zc ha) ⟨rfl, rfl⟩ ⟨by decide, by decide⟩ ⟨by decide, by decide⟩ (tb_7 109 rfl rfl) (tb_1 12 rfl rfl) (tb_7 106 rfl rfl) (tb_7 108 rfl rfl) (tb_0 8 rfl rfl) (show yX12_isLeapDay.cls ≠ "java/lang/invoke/MethodHandle" ∧ yX12_isLeapDay.cls ≠ "java/lang/invoke/VarHandle" ∧ (parseMethodDescriptor yX12_isLeapDay.desc).map (fun d => d.parameters.length) = some 1 by decide +kernel) zs_blind (zs_ob hh1 ha (show RTg[11]? = some (0, 11, 0, fsX12) from rfl) (zCX12 hKn.1)) (fun U hU hW => ⟨rfl, by rw [hU]; exact hh1.l0, zKb s U hW.alike hKn, by rw [hU]; exact hJ⟩) hh1.2.2.1 hl.1 (Nat.le_of_ble_eq_true rfl) (eX12_leap (11, .invokevirtual 187, 3) (List.mem_of_getElem? (i := 7) rfl)) (fun r7 s7 t7 lo7 g7 f7 l7 => ?_)
    obtain ⟨z7, v7, q7, e7⟩ := f7
    cases q7
    rw [z7, g7]
    have hh7 : zh_ok D cA RTg ro sz H0 s.heap lo7 := ⟨hh1.1, hh1.2.1, l7, hh1.2.2.2⟩
    refine W.eq (g2 := F0 m 14 ls [.int v7, .ref a]) rfl ?_
    refine ff_if_eq hx hb (eX12_leap (14, .ifCond .eq 7, 3) (List.mem_of_getElem? (i := 8) rfl)) (tgt := 21) rfl (fun c8 => ?_) (fun c8 => ?_)
    · skip
      refine lv_aload_n hx hb (eX12_leap (21, .aload_n 0, 1) (List.mem_of_getElem? (i := 11) rfl)) rfl (lv_at hl 0 rfl) ?_
      refine tz_get (r := 11) (k := 1) (t := (0, 0, 40)) hx hb hh7 ha rfl rfl (hcl11 173 1 (0, 0, 40) (by decide) rfl).1 f1 (eX12_leap (22, .getfield 173, 3) (List.mem_of_getElem? (i := 12) rfl)) ?_
      refine ff_bipush hx hb (eX12_leap (25, .bipush 40, 2) (List.mem_of_getElem? (i := 13) rfl)) (by decide) (by decide) (fun v9 e9 => ?_)
      refine ff_icmp_ne hx hb (eX12_leap (27, .if_icmp .ne 7, 3) (List.mem_of_getElem? (i := 14) rfl)) (tgt := 34) rfl (fun c10 => ?_) (fun c10 => ?_)
      · skip
        refine ff_iconst hx hb (eX12_leap (34, .iconst 0, 1) (List.mem_of_getElem? (i := 17) rfl)) (by decide) (by decide) (fun v11 e11 => ?_)
        refine tz_put (r := 11) (k := 0) (t := (0, 0, 2)) hx hb hD hh7 ha rfl rfl ((hcl11 85 0 (0, 0, 2) (by decide) rfl).2 (by decide)) (tz_i (by omega) (by omega)) (eX12_leap (35, .putfield 85, 3) (List.mem_of_getElem? (i := 18) rfl)) (fun H12 lo12 hh12 hf12 hk12 _ hq12 => ?_)
        have mf12_a_2 := (hk12.1 a 11 2 11 0 fsX12 ha rfl (by decide) (by decide)).trans f0
        have mf12_a_1 := (hk12.1 a 11 1 11 0 fsX12 ha rfl (by decide) (by decide)).trans f1
        have mf12_a_3 := (hk12.1 a 11 3 11 0 fsX12 ha rfl (by decide) (by decide)).trans fz
        have mc12_la := (hk12.2 la 21 0 1 40 _ r0 rfl (by decide)).trans hc
        have kp12 := kp0.trans (hk12.mono (ms' := jMr) (fun x hx => by cases List.mem_singleton.mp hx; decide))
        refine lv_aload_n hx hb (eX12_leap (38, .aload_n 0, 1) (List.mem_of_getElem? (i := 19) rfl)) rfl (lv_at hl 0 rfl) ?_
        refine tz_get (r := 11) (k := 0) (t := (0, 0, 2)) hx hb hh12 ha rfl rfl (hcl11 85 0 (0, 0, 2) (by decide) rfl).1 hf12 (eX12_leap (39, .getfield 85, 3) (List.mem_of_getElem? (i := 20) rfl)) ?_
        refine ff_if_le hx hb (eX12_leap (42, .ifCond .le 5, 3) (List.mem_of_getElem? (i := 21) rfl)) (tgt := 47) rfl (fun c13 => ?_) (fun c13 => (by exfalso; omega))
        refine lv_aload_n hx hb (eX12_leap (47, .aload_n 0, 1) (List.mem_of_getElem? (i := 24) rfl)) rfl (lv_at hl 0 rfl) ?_
        refine tz_get (r := 11) (k := 2) (t := (46, 0, 0)) hx hb hh12 ha rfl rfl (hcl11 9 2 (46, 0, 0) (by decide) rfl).1 mf12_a_2 (eX12_leap (48, .getfield 9, 3) (List.mem_of_getElem? (i := 25) rfl)) ?_
        refine lv_aload_n hx hb (eX12_leap (51, .aload_n 0, 1) (List.mem_of_getElem? (i := 26) rfl)) rfl (lv_at hl 0 rfl) ?_
        refine tz_get (r := 11) (k := 1) (t := (0, 0, 40)) hx hb hh12 ha rfl rfl (hcl11 173 1 (0, 0, 40) (by decide) rfl).1 mf12_a_1 (eX12_leap (52, .getfield 173, 3) (List.mem_of_getElem? (i := 27) rfl)) ?_
        refine lv_lload_n hx hb (eX12_leap (55, .lload_n 1, 1) (List.mem_of_getElem? (i := 28) rfl)) rfl (lv_at hl 1 rfl) ?_
        have hzz := jN_app (d := d) hz
        rw [← show n.toNatClampNeg = L.length by show n.toInt.toNat = L.length; omega] at hzz
        have hjl9 : jL (L ++ [d.toInt]) := jL_app hjl (by rcases e7 with g | g; exfalso; omega; exact g.2) (by omega) (by unfold dOK; omega)
        refine tz_last hx hb (zAr hKn.1 1 (by decide)) hh12 r0 (show RTg[21]? = some (1, 1, 40, [(1, (-9223372036854775808), 9223372036854775807)]) from rfl) mc12_la hy (by omega) (by omega) (tz_l (zn_i64 _).1 (zn_i64 _).2) (eX12_leap (56, .lastore, 1) (List.mem_of_getElem? (i := 29) rfl)) (fun H14 lo14 hh14 hc14 hk14 hq14 _ => ?_)
        have mf14_a_2 := (hk14.1 a 11 2 11 0 fsX12 ha rfl (by decide) (by decide)).trans mf12_a_2
        have mf14_a_1 := (hk14.1 a 11 1 11 0 fsX12 ha rfl (by decide) (by decide)).trans mf12_a_1
        have mf14_a_3 := (hk14.1 a 11 3 11 0 fsX12 ha rfl (by decide) (by decide)).trans mf12_a_3
        have mf14_a_0 := (hk14.1 a 11 0 11 0 fsX12 ha rfl (by decide) (by decide)).trans hf12
        have kp14 := kp12.trans (hk14.mono (ms' := jMr) (fun x hx => by cases List.mem_singleton.mp hx; decide))
        refine lv_aload_n hx hb (eX12_leap (57, .aload_n 0, 1) (List.mem_of_getElem? (i := 30) rfl)) rfl (lv_at hl 0 rfl) ?_
        refine lv_dup hx hb (eX12_leap (58, .dup, 1) (List.mem_of_getElem? (i := 31) rfl)) rfl ?_
        refine tz_get (r := 11) (k := 1) (t := (0, 0, 40)) hx hb hh14 ha rfl rfl (hcl11 173 1 (0, 0, 40) (by decide) rfl).1 mf14_a_1 (eX12_leap (59, .getfield 173, 3) (List.mem_of_getElem? (i := 32) rfl)) ?_
        refine ff_iconst hx hb (eX12_leap (62, .iconst 1, 1) (List.mem_of_getElem? (i := 33) rfl)) (by decide) (by decide) (fun v15 e15 => ?_)
        refine ff_iadd hx hb (eX12_leap (63, .iadd, 1) (List.mem_of_getElem? (i := 34) rfl)) (by omega) (by omega) (fun v16 e16 => ?_)
        refine tz_put (r := 11) (k := 1) (t := (0, 0, 40)) hx hb hD hh14 ha rfl rfl ((hcl11 173 1 (0, 0, 40) (by decide) rfl).2 (by decide)) (tz_i (by omega) (by omega)) (eX12_leap (64, .putfield 173, 3) (List.mem_of_getElem? (i := 35) rfl)) (fun H17 lo17 hh17 hf17 hk17 _ hq17 => ?_)
        have mf17_a_2 := (hk17.1 a 11 2 11 0 fsX12 ha rfl (by decide) (by decide)).trans mf14_a_2
        have mf17_a_3 := (hk17.1 a 11 3 11 0 fsX12 ha rfl (by decide) (by decide)).trans mf14_a_3
        have mf17_a_0 := (hk17.1 a 11 0 11 0 fsX12 ha rfl (by decide) (by decide)).trans mf14_a_0
        have mc17_la := (hk17.2 la 21 0 1 40 _ r0 rfl (by decide)).trans hc14
        have kp17 := kp14.trans (hk17.mono (ms' := jMr) (fun x hx => by cases List.mem_singleton.mp hx; decide))
        refine lv_aload_n hx hb (eX12_leap (67, .aload_n 0, 1) (List.mem_of_getElem? (i := 36) rfl)) rfl (lv_at hl 0 rfl) ?_
        refine tz_get (r := 11) (k := 1) (t := (0, 0, 40)) hx hb hh17 ha rfl rfl (hcl11 173 1 (0, 0, 40) (by decide) rfl).1 hf17 (eX12_leap (68, .getfield 173, 3) (List.mem_of_getElem? (i := 37) rfl)) ?_
        exact W.zret hx hb hr rfl (fun t ht hW => ⟨_, _, _, L ++ [d.toInt], zc, rfl, ⟨_, rfl, rfl⟩, by rw [ht]; exact hh17.l0, by rw [ht]; exact kp17, by rw [ht]; exact mf17_a_0, by rw [ht]; exact ⟨⟨la, _, _, mf17_a_2, r0, hf17, (by rw [List.length_append]; show _ = ((L.length + 1 : Nat) : Int); omega), mc17_la, hzz⟩, ⟨_, mf17_a_3, hnz⟩, hjl9⟩, rfl, Or.inr (Or.inr ⟨by omega, by unfold dOK; omega, by rcases e7 with g | g; exfalso; omega; exact g.2, by omega, by omega, rfl⟩)⟩) hh17.2.2.1 (eX12_leap (71, .ireturn, 1) (List.mem_of_getElem? (i := 38) rfl))
      · skip
        refine ff_iconst hx hb (eX12_leap (30, .iconst 2, 1) (List.mem_of_getElem? (i := 15) rfl)) (by decide) (by decide) (fun v18 e18 => ?_)
        refine lv_goto hx hb (eX12_leap (31, .goto 4, 3) (List.mem_of_getElem? (i := 16) rfl)) (tgt := 35) rfl ?_
        refine tz_put (r := 11) (k := 0) (t := (0, 0, 2)) hx hb hD hh7 ha rfl rfl ((hcl11 85 0 (0, 0, 2) (by decide) rfl).2 (by decide)) (tz_i (by omega) (by omega)) (eX12_leap (35, .putfield 85, 3) (List.mem_of_getElem? (i := 18) rfl)) (fun H19 lo19 hh19 hf19 hk19 _ hq19 => ?_)
        have mf19_a_2 := (hk19.1 a 11 2 11 0 fsX12 ha rfl (by decide) (by decide)).trans f0
        have mf19_a_1 := (hk19.1 a 11 1 11 0 fsX12 ha rfl (by decide) (by decide)).trans f1
        have mf19_a_3 := (hk19.1 a 11 3 11 0 fsX12 ha rfl (by decide) (by decide)).trans fz
        have mc19_la := (hk19.2 la 21 0 1 40 _ r0 rfl (by decide)).trans hc
        have kp19 := kp0.trans (hk19.mono (ms' := jMr) (fun x hx => by cases List.mem_singleton.mp hx; decide))
        refine lv_aload_n hx hb (eX12_leap (38, .aload_n 0, 1) (List.mem_of_getElem? (i := 19) rfl)) rfl (lv_at hl 0 rfl) ?_
        refine tz_get (r := 11) (k := 0) (t := (0, 0, 2)) hx hb hh19 ha rfl rfl (hcl11 85 0 (0, 0, 2) (by decide) rfl).1 hf19 (eX12_leap (39, .getfield 85, 3) (List.mem_of_getElem? (i := 20) rfl)) ?_
        refine ff_if_le hx hb (eX12_leap (42, .ifCond .le 5, 3) (List.mem_of_getElem? (i := 21) rfl)) (tgt := 47) rfl (fun c20 => (by exfalso; omega)) (fun c20 => ?_)
        refine ff_iconst hx hb (eX12_leap (45, .iconst 0, 1) (List.mem_of_getElem? (i := 22) rfl)) (by decide) (by decide) (fun v21 e21 => ?_)
        exact W.zret hx hb hr rfl (fun t ht hW => ⟨_, _, _, L, zc, rfl, ⟨_, rfl, rfl⟩, by rw [ht]; exact hh19.l0, by rw [ht]; exact kp19, by rw [ht]; exact hf19, by rw [ht]; exact ⟨⟨la, _, _, mf19_a_2, r0, mf19_a_1, hn, mc19_la, hz⟩, ⟨_, mf19_a_3, hnz⟩, hjl⟩, rfl, Or.inr (Or.inl ⟨by omega, rfl, by unfold dOK; omega, by rcases e7 with g | g; exfalso; omega; exact g.2, by omega⟩)⟩) hh19.2.2.1 (eX12_leap (46, .ireturn, 1) (List.mem_of_getElem? (i := 23) rfl))
    · skip
      refine ff_iconst hx hb (eX12_leap (17, .iconst 1, 1) (List.mem_of_getElem? (i := 9) rfl)) (by decide) (by decide) (fun v22 e22 => ?_)
      refine lv_goto hx hb (eX12_leap (18, .goto 17, 3) (List.mem_of_getElem? (i := 10) rfl)) (tgt := 35) rfl ?_
      refine tz_put (r := 11) (k := 0) (t := (0, 0, 2)) hx hb hD hh7 ha rfl rfl ((hcl11 85 0 (0, 0, 2) (by decide) rfl).2 (by decide)) (tz_i (by omega) (by omega)) (eX12_leap (35, .putfield 85, 3) (List.mem_of_getElem? (i := 18) rfl)) (fun H23 lo23 hh23 hf23 hk23 _ hq23 => ?_)
      have mf23_a_2 := (hk23.1 a 11 2 11 0 fsX12 ha rfl (by decide) (by decide)).trans f0
      have mf23_a_1 := (hk23.1 a 11 1 11 0 fsX12 ha rfl (by decide) (by decide)).trans f1
      have mf23_a_3 := (hk23.1 a 11 3 11 0 fsX12 ha rfl (by decide) (by decide)).trans fz
      have mc23_la := (hk23.2 la 21 0 1 40 _ r0 rfl (by decide)).trans hc
      have kp23 := kp0.trans (hk23.mono (ms' := jMr) (fun x hx => by cases List.mem_singleton.mp hx; decide))
      refine lv_aload_n hx hb (eX12_leap (38, .aload_n 0, 1) (List.mem_of_getElem? (i := 19) rfl)) rfl (lv_at hl 0 rfl) ?_
      refine tz_get (r := 11) (k := 0) (t := (0, 0, 2)) hx hb hh23 ha rfl rfl (hcl11 85 0 (0, 0, 2) (by decide) rfl).1 hf23 (eX12_leap (39, .getfield 85, 3) (List.mem_of_getElem? (i := 20) rfl)) ?_
      refine ff_if_le hx hb (eX12_leap (42, .ifCond .le 5, 3) (List.mem_of_getElem? (i := 21) rfl)) (tgt := 47) rfl (fun c24 => (by exfalso; omega)) (fun c24 => ?_)
      refine ff_iconst hx hb (eX12_leap (45, .iconst 0, 1) (List.mem_of_getElem? (i := 22) rfl)) (by decide) (by decide) (fun v25 e25 => ?_)
      exact W.zret hx hb hr rfl (fun t ht hW => ⟨_, _, _, L, zc, rfl, ⟨_, rfl, rfl⟩, by rw [ht]; exact hh23.l0, by rw [ht]; exact kp23, by rw [ht]; exact hf23, by rw [ht]; exact ⟨⟨la, _, _, mf23_a_2, r0, mf23_a_1, hn, mc23_la, hz⟩, ⟨_, mf23_a_3, hnz⟩, hjl⟩, rfl, Or.inl ⟨by omega, rfl, Or.inr (by rcases e7 with g | g; exact g.2; exfalso; omega)⟩⟩) hh23.2.2.1 (eX12_leap (46, .ireturn, 1) (List.mem_of_getElem? (i := 23) rfl))
set_option maxRecDepth 100000 in
set_option maxHeartbeats 4000000 in
theorem hX12_zone (l : Launch) (D : va_G) (cA : Nat → ClassId) (ro : Nat → Option Nat) (sz : Nat) (H0 : Heap) (a : Nat) (o : Int32) (L : List Int) (zc : Int) (ha : ro a = some 11)  : Met l yX12_zone (gW yX12_zone cX12_zone 2 (some .int)) { frames := 2, cells := 0, slots := 0, locals := 46 } (zs_P D cA ro sz H0 (fun H => jRS D cA ro H a L zc) [.ref a, .int o]) (zs_QR D cA ro sz H0 a vI (spZ o.toInt L zc)) 0 0 (zy_fr sz) := by
  refine zy_ofW (cc := cX12_zone) (maxL := 2) (ret := (some .int)) (by decide +kernel) rfl ?_
  intro p e s m args below meth c s1 B hml hv
  obtain ⟨rfl, hh, hKn, hJ⟩ := hv
  have hx := B.exec
  have hb := B.bytes
  have hr := B.returns
  have hlk := B.notSynchronized
  have hts0 := atoms_spec (ws := gW yX12_zone cX12_zone 2 (some .int)) B.pre
  have h2 : ∀ w ∈ gT, w.before ([.ref a, .int o] : List Value).toArray s = true := fun w hw => hts0 w (List.mem_cons_of_mem _ hw)
  have hown : s.vm.findClass RX12 = some m.cls := findClass_of_methodNamed B.named
  have hl := lv_entry [.ref a, .int o] (n := 2) (Nat.le_of_ble_eq_true rfl)
  rw [lg_entry_eq]
  generalize (lg_sl [.ref a, .int o] ++ List.replicate (2 - (lg_sl [.ref a, .int o]).length) Slot.unset).toArray = ls at hl ⊢
  have b_o := zn_i32 o
  have hD := zD_all h2 hKn.1
  have hcl11 := fun (idx k : Nat) (t : zt_T) (h : (idx, 11, k) ∈ gfX12) (hk : fsX12[k]? = some t) => zf_clause (ro := ro) (ms := jMr) h2 hown hKn.1 gfX12_ok (by decide +kernel) idx 11 k 11 0 fsX12 t h rfl hk
  have kp0 : zc_kept D RTg ro jMr s.heap s.heap := zc_kept.refl
  obtain ⟨⟨la, n, z, f0, r0, f1, hn, hc, hz⟩, ⟨nz, fz, hnz⟩, hjl⟩ := id hJ
  have hjr := hJ.1
  obtain ⟨n9, g9, n1, n2⟩ := zh_fT (k := 1) (t := (0, 0, 40)) hh ha (show RTg[11]? = some (0, 11, 0, fsX12) from rfl) rfl
  cases f1.symm.trans g9
  dsimp only at n1 n2
  clear g9
  obtain ⟨n9, g9, nz1, nz2⟩ := zh_fT (k := 3) (t := (0, 0, 8)) hh ha (show RTg[11]? = some (0, 11, 0, fsX12) from rfl) rfl
  cases fz.symm.trans g9
  dsimp only at nz1 nz2
  clear g9
  obtain ⟨-, z9, c9, hy9⟩ := zh_arr hh r0 (show RTg[21]? = some (1, 1, 40, [(1, (-9223372036854775808), 9223372036854775807)]) from rfl)
  have hy : ∀ i, i < 40 → zt_ok ro (z i) (1, (-9223372036854775808), 9223372036854775807) := zs_arr (hc.symm.trans c9) hy9
  have hjL := hjl.2.1
  refine lv_aload_n hx hb (eX12_zone (0, .aload_n 0, 1) (List.mem_of_getElem? (i := 0) rfl)) rfl (lv_at hl 0 rfl) ?_
  refine lv_iload_n hx hb (eX12_zone (1, .iload_n 1, 1) (List.mem_of_getElem? (i := 1) rfl)) rfl (lv_at hl 1 rfl) ?_
  refine ff_i2l hx hb (eX12_zone (2, .i2l, 1) (List.mem_of_getElem? (i := 2) rfl)) (fun v1 e1 => ?_)
  refine zu_S (vs := [.long v1]) (rest := [.ref a]) hx hb hml hown hts0 zu_BT (hX12_isOffset l v1) ⟨rfl, rfl⟩ ⟨by decide, by decide⟩ ⟨by decide, by decide⟩ (tb_7 153 rfl rfl) (tb_1 12 rfl rfl) (tb_7 151 rfl rfl) (tb_7 152 rfl rfl) (show yX12_isOffset.cls ≠ "java/lang/invoke/MethodHandle" ∧ yX12_isOffset.cls ≠ "java/lang/invoke/VarHandle" ∧ (parseMethodDescriptor yX12_isOffset.desc).map (fun d => d.parameters.length) = some 1 by decide +kernel) rfl (fun _ _ _ => trivial) hl.1 (Nat.le_of_ble_eq_true rfl) (eX12_zone (3, .invokestatic 218, 3) (List.mem_of_getElem? (i := 3) rfl)) (fun w2 f2 => ?_)
  obtain ⟨v2, rfl, e2⟩ := f2
  refine ff_if_ne hx hb (eX12_zone (6, .ifCond .ne 7, 3) (List.mem_of_getElem? (i := 4) rfl)) (tgt := 13) rfl (fun c3 => ?_) (fun c3 => ?_)
  · skip
    refine lv_aload_n hx hb (eX12_zone (13, .aload_n 0, 1) (List.mem_of_getElem? (i := 7) rfl)) rfl (lv_at hl 0 rfl) ?_
    refine tz_get (r := 11) (k := 3) (t := (0, 0, 8)) hx hb hh ha rfl rfl (hcl11 215 3 (0, 0, 8) (by decide) rfl).1 fz (eX12_zone (14, .getfield 215, 3) (List.mem_of_getElem? (i := 8) rfl)) ?_
    refine ff_bipush hx hb (eX12_zone (17, .bipush 8, 2) (List.mem_of_getElem? (i := 9) rfl)) (by decide) (by decide) (fun v4 e4 => ?_)
    refine ff_icmp_ne hx hb (eX12_zone (19, .if_icmp .ne 7, 3) (List.mem_of_getElem? (i := 10) rfl)) (tgt := 26) rfl (fun c5 => ?_) (fun c5 => ?_)
    · skip
      refine ff_iconst hx hb (eX12_zone (26, .iconst 0, 1) (List.mem_of_getElem? (i := 13) rfl)) (by decide) (by decide) (fun v6 e6 => ?_)
      refine tz_put (r := 11) (k := 0) (t := (0, 0, 2)) hx hb hD hh ha rfl rfl ((hcl11 85 0 (0, 0, 2) (by decide) rfl).2 (by decide)) (tz_i (by omega) (by omega)) (eX12_zone (27, .putfield 85, 3) (List.mem_of_getElem? (i := 14) rfl)) (fun H7 lo7 hh7 hf7 hk7 _ hq7 => ?_)
      have mf7_a_2 := (hk7.1 a 11 2 11 0 fsX12 ha rfl (by decide) (by decide)).trans f0
      have mf7_a_1 := (hk7.1 a 11 1 11 0 fsX12 ha rfl (by decide) (by decide)).trans f1
      have mf7_a_3 := (hk7.1 a 11 3 11 0 fsX12 ha rfl (by decide) (by decide)).trans fz
      have mc7_la := (hk7.2 la 21 0 1 40 _ r0 rfl (by decide)).trans hc
      have kp7 := kp0.trans (hk7.mono (ms' := jMr) (fun x hx => by cases List.mem_singleton.mp hx; decide))
      refine lv_aload_n hx hb (eX12_zone (30, .aload_n 0, 1) (List.mem_of_getElem? (i := 15) rfl)) rfl (lv_at hl 0 rfl) ?_
      refine tz_get (r := 11) (k := 0) (t := (0, 0, 2)) hx hb hh7 ha rfl rfl (hcl11 85 0 (0, 0, 2) (by decide) rfl).1 hf7 (eX12_zone (31, .getfield 85, 3) (List.mem_of_getElem? (i := 16) rfl)) ?_
      refine ff_if_le hx hb (eX12_zone (34, .ifCond .le 5, 3) (List.mem_of_getElem? (i := 17) rfl)) (tgt := 39) rfl (fun c8 => ?_) (fun c8 => (by exfalso; omega))
      refine lv_aload_n hx hb (eX12_zone (39, .aload_n 0, 1) (List.mem_of_getElem? (i := 20) rfl)) rfl (lv_at hl 0 rfl) ?_
      obtain ⟨a9, fa9, ra9⟩ := tz_ref (k := 4) (rr := 22) hh7 ha (show RTg[11]? = some (0, 11, 0, fsX12) from rfl) rfl
      refine tz_get (r := 11) (k := 4) (t := (48, 0, 0)) hx hb hh7 ha rfl rfl (hcl11 15 4 (48, 0, 0) (by decide) rfl).1 fa9 (eX12_zone (40, .getfield 15, 3) (List.mem_of_getElem? (i := 21) rfl)) ?_
      refine lv_aload_n hx hb (eX12_zone (43, .aload_n 0, 1) (List.mem_of_getElem? (i := 22) rfl)) rfl (lv_at hl 0 rfl) ?_
      refine tz_get (r := 11) (k := 3) (t := (0, 0, 8)) hx hb hh7 ha rfl rfl (hcl11 215 3 (0, 0, 8) (by decide) rfl).1 mf7_a_3 (eX12_zone (44, .getfield 215, 3) (List.mem_of_getElem? (i := 23) rfl)) ?_
      refine lv_iload_n hx hb (eX12_zone (47, .iload_n 1, 1) (List.mem_of_getElem? (i := 24) rfl)) rfl (lv_at hl 1 rfl) ?_
      obtain ⟨-, z10, hc10, hy10⟩ := zh_arr hh7 ra9 (show RTg[22]? = some (1, 0, 8, [(0, (-1439), 1439)]) from rfl)
      refine tz_iast hx hb (zAr hKn.1 0 (by decide)) hh7 ra9 (show RTg[22]? = some (1, 0, 8, [(0, (-1439), 1439)]) from rfl) hc10 hy10 (by omega) (by omega) (tz_i (by omega) (by omega)) (eX12_zone (48, .iastore, 1) (List.mem_of_getElem? (i := 25) rfl)) (fun H11 lo11 hh11 hc11 hk11 hq11 _ => ?_)
      have mf11_a_2 := (hk11.1 a 11 2 11 0 fsX12 ha rfl (by decide) (by decide)).trans mf7_a_2
      have mf11_a_1 := (hk11.1 a 11 1 11 0 fsX12 ha rfl (by decide) (by decide)).trans mf7_a_1
      have mf11_a_3 := (hk11.1 a 11 3 11 0 fsX12 ha rfl (by decide) (by decide)).trans mf7_a_3
      have mf11_a_0 := (hk11.1 a 11 0 11 0 fsX12 ha rfl (by decide) (by decide)).trans hf7
      have mf11_a_4 := (hk11.1 a 11 4 11 0 fsX12 ha rfl (by decide) (by decide)).trans fa9
      have mc11_la := (hk11.2 la 21 0 1 40 _ r0 rfl (by decide)).trans mc7_la
      have kp11 := kp7.trans (hk11.mono (ms' := jMr) (fun x hx => by cases List.mem_singleton.mp hx; decide))
      refine lv_aload_n hx hb (eX12_zone (49, .aload_n 0, 1) (List.mem_of_getElem? (i := 26) rfl)) rfl (lv_at hl 0 rfl) ?_
      obtain ⟨a12, fa12, ra12⟩ := tz_ref (k := 5) (rr := 23) hh11 ha (show RTg[11]? = some (0, 11, 0, fsX12) from rfl) rfl
      refine tz_get (r := 11) (k := 5) (t := (50, 0, 0)) hx hb hh11 ha rfl rfl (hcl11 19 5 (50, 0, 0) (by decide) rfl).1 fa12 (eX12_zone (50, .getfield 19, 3) (List.mem_of_getElem? (i := 27) rfl)) ?_
      refine lv_aload_n hx hb (eX12_zone (53, .aload_n 0, 1) (List.mem_of_getElem? (i := 28) rfl)) rfl (lv_at hl 0 rfl) ?_
      refine tz_get (r := 11) (k := 3) (t := (0, 0, 8)) hx hb hh11 ha rfl rfl (hcl11 215 3 (0, 0, 8) (by decide) rfl).1 mf11_a_3 (eX12_zone (54, .getfield 215, 3) (List.mem_of_getElem? (i := 29) rfl)) ?_
      refine ff_iconst hx hb (eX12_zone (57, .iconst 0, 1) (List.mem_of_getElem? (i := 30) rfl)) (by decide) (by decide) (fun v13 e13 => ?_)
      obtain ⟨-, z14, hc14, hy14⟩ := zh_arr hh11 ra12 (show RTg[23]? = some (1, 0, 8, [(0, 0, 60)]) from rfl)
      refine tz_iast hx hb (zAr hKn.1 0 (by decide)) hh11 ra12 (show RTg[23]? = some (1, 0, 8, [(0, 0, 60)]) from rfl) hc14 hy14 (by omega) (by omega) (tz_i (by omega) (by omega)) (eX12_zone (58, .iastore, 1) (List.mem_of_getElem? (i := 31) rfl)) (fun H15 lo15 hh15 hc15 hk15 hq15 _ => ?_)
      have mf15_a_2 := (hk15.1 a 11 2 11 0 fsX12 ha rfl (by decide) (by decide)).trans mf11_a_2
      have mf15_a_1 := (hk15.1 a 11 1 11 0 fsX12 ha rfl (by decide) (by decide)).trans mf11_a_1
      have mf15_a_3 := (hk15.1 a 11 3 11 0 fsX12 ha rfl (by decide) (by decide)).trans mf11_a_3
      have mf15_a_0 := (hk15.1 a 11 0 11 0 fsX12 ha rfl (by decide) (by decide)).trans mf11_a_0
      have mf15_a_4 := (hk15.1 a 11 4 11 0 fsX12 ha rfl (by decide) (by decide)).trans mf11_a_4
      have mf15_a_5 := (hk15.1 a 11 5 11 0 fsX12 ha rfl (by decide) (by decide)).trans fa12
      have mc15_la := (hk15.2 la 21 0 1 40 _ r0 rfl (by decide)).trans mc11_la
      have mc15_a9 := (hk15.2 a9 22 0 0 8 _ ra9 rfl (by decide)).trans hc11
      have kp15 := kp11.trans (hk15.mono (ms' := jMr) (fun x hx => by cases List.mem_singleton.mp hx; decide))
      refine lv_aload_n hx hb (eX12_zone (59, .aload_n 0, 1) (List.mem_of_getElem? (i := 32) rfl)) rfl (lv_at hl 0 rfl) ?_
      obtain ⟨a16, fa16, ra16⟩ := tz_ref (k := 8) (rr := 26) hh15 ha (show RTg[11]? = some (0, 11, 0, fsX12) from rfl) rfl
      refine tz_get (r := 11) (k := 8) (t := (56, 0, 0)) hx hb hh15 ha rfl rfl (hcl11 28 8 (56, 0, 0) (by decide) rfl).1 fa16 (eX12_zone (60, .getfield 28, 3) (List.mem_of_getElem? (i := 33) rfl)) ?_
      refine lv_aload_n hx hb (eX12_zone (63, .aload_n 0, 1) (List.mem_of_getElem? (i := 34) rfl)) rfl (lv_at hl 0 rfl) ?_
      refine tz_get (r := 11) (k := 3) (t := (0, 0, 8)) hx hb hh15 ha rfl rfl (hcl11 215 3 (0, 0, 8) (by decide) rfl).1 mf15_a_3 (eX12_zone (64, .getfield 215, 3) (List.mem_of_getElem? (i := 35) rfl)) ?_
      refine ff_iconst hx hb (eX12_zone (67, .iconst 0, 1) (List.mem_of_getElem? (i := 36) rfl)) (by decide) (by decide) (fun v17 e17 => ?_)
      obtain ⟨-, z18, hc18, hy18⟩ := zh_arr hh15 ra16 (show RTg[26]? = some (1, 0, 8, [(0, 0, 2)]) from rfl)
      refine tz_iast hx hb (zAr hKn.1 0 (by decide)) hh15 ra16 (show RTg[26]? = some (1, 0, 8, [(0, 0, 2)]) from rfl) hc18 hy18 (by omega) (by omega) (tz_i (by omega) (by omega)) (eX12_zone (68, .iastore, 1) (List.mem_of_getElem? (i := 37) rfl)) (fun H19 lo19 hh19 hc19 hk19 hq19 _ => ?_)
      have mf19_a_2 := (hk19.1 a 11 2 11 0 fsX12 ha rfl (by decide) (by decide)).trans mf15_a_2
      have mf19_a_1 := (hk19.1 a 11 1 11 0 fsX12 ha rfl (by decide) (by decide)).trans mf15_a_1
      have mf19_a_3 := (hk19.1 a 11 3 11 0 fsX12 ha rfl (by decide) (by decide)).trans mf15_a_3
      have mf19_a_0 := (hk19.1 a 11 0 11 0 fsX12 ha rfl (by decide) (by decide)).trans mf15_a_0
      have mf19_a_4 := (hk19.1 a 11 4 11 0 fsX12 ha rfl (by decide) (by decide)).trans mf15_a_4
      have mf19_a_5 := (hk19.1 a 11 5 11 0 fsX12 ha rfl (by decide) (by decide)).trans mf15_a_5
      have mf19_a_8 := (hk19.1 a 11 8 11 0 fsX12 ha rfl (by decide) (by decide)).trans fa16
      have mc19_la := (hk19.2 la 21 0 1 40 _ r0 rfl (by decide)).trans mc15_la
      have mc19_a9 := (hk19.2 a9 22 0 0 8 _ ra9 rfl (by decide)).trans mc15_a9
      have mc19_a12 := (hk19.2 a12 23 0 0 8 _ ra12 rfl (by decide)).trans hc15
      have kp19 := kp15.trans (hk19.mono (ms' := jMr) (fun x hx => by cases List.mem_singleton.mp hx; decide))
      refine lv_aload_n hx hb (eX12_zone (69, .aload_n 0, 1) (List.mem_of_getElem? (i := 38) rfl)) rfl (lv_at hl 0 rfl) ?_
      refine lv_dup hx hb (eX12_zone (70, .dup, 1) (List.mem_of_getElem? (i := 39) rfl)) rfl ?_
      refine tz_get (r := 11) (k := 3) (t := (0, 0, 8)) hx hb hh19 ha rfl rfl (hcl11 215 3 (0, 0, 8) (by decide) rfl).1 mf19_a_3 (eX12_zone (71, .getfield 215, 3) (List.mem_of_getElem? (i := 40) rfl)) ?_
      refine ff_iconst hx hb (eX12_zone (74, .iconst 1, 1) (List.mem_of_getElem? (i := 41) rfl)) (by decide) (by decide) (fun v20 e20 => ?_)
      refine ff_iadd hx hb (eX12_zone (75, .iadd, 1) (List.mem_of_getElem? (i := 42) rfl)) (by omega) (by omega) (fun v21 e21 => ?_)
      refine tz_put (r := 11) (k := 3) (t := (0, 0, 8)) hx hb hD hh19 ha rfl rfl ((hcl11 215 3 (0, 0, 8) (by decide) rfl).2 (by decide)) (tz_i (by omega) (by omega)) (eX12_zone (76, .putfield 215, 3) (List.mem_of_getElem? (i := 43) rfl)) (fun H22 lo22 hh22 hf22 hk22 _ hq22 => ?_)
      have mf22_a_2 := (hk22.1 a 11 2 11 0 fsX12 ha rfl (by decide) (by decide)).trans mf19_a_2
      have mf22_a_1 := (hk22.1 a 11 1 11 0 fsX12 ha rfl (by decide) (by decide)).trans mf19_a_1
      have mf22_a_0 := (hk22.1 a 11 0 11 0 fsX12 ha rfl (by decide) (by decide)).trans mf19_a_0
      have mf22_a_4 := (hk22.1 a 11 4 11 0 fsX12 ha rfl (by decide) (by decide)).trans mf19_a_4
      have mf22_a_5 := (hk22.1 a 11 5 11 0 fsX12 ha rfl (by decide) (by decide)).trans mf19_a_5
      have mf22_a_8 := (hk22.1 a 11 8 11 0 fsX12 ha rfl (by decide) (by decide)).trans mf19_a_8
      have mc22_la := (hk22.2 la 21 0 1 40 _ r0 rfl (by decide)).trans mc19_la
      have mc22_a9 := (hk22.2 a9 22 0 0 8 _ ra9 rfl (by decide)).trans mc19_a9
      have mc22_a12 := (hk22.2 a12 23 0 0 8 _ ra12 rfl (by decide)).trans mc19_a12
      have mc22_a16 := (hk22.2 a16 26 0 0 8 _ ra16 rfl (by decide)).trans hc19
      have kp22 := kp19.trans (hk22.mono (ms' := jMr) (fun x hx => by cases List.mem_singleton.mp hx; decide))
      refine lv_aload_n hx hb (eX12_zone (79, .aload_n 0, 1) (List.mem_of_getElem? (i := 44) rfl)) rfl (lv_at hl 0 rfl) ?_
      refine tz_get (r := 11) (k := 3) (t := (0, 0, 8)) hx hb hh22 ha rfl rfl (hcl11 215 3 (0, 0, 8) (by decide) rfl).1 hf22 (eX12_zone (80, .getfield 215, 3) (List.mem_of_getElem? (i := 45) rfl)) ?_
      refine ff_iconst hx hb (eX12_zone (83, .iconst 1, 1) (List.mem_of_getElem? (i := 46) rfl)) (by decide) (by decide) (fun v23 e23 => ?_)
      refine ff_isub hx hb (eX12_zone (84, .isub, 1) (List.mem_of_getElem? (i := 47) rfl)) (by omega) (by omega) (fun v24 e24 => ?_)
      exact W.zret hx hb hr rfl (fun t ht hW => ⟨_, _, _, L, zc + 1, rfl, ⟨_, rfl, rfl⟩, by rw [ht]; exact hh22.l0, by rw [ht]; exact kp22, by rw [ht]; exact mf22_a_0, by rw [ht]; exact ⟨⟨la, _, _, mf22_a_2, r0, mf22_a_1, hn, mc22_la, hz⟩, ⟨_, hf22, (by omega)⟩, hjl⟩, rfl, Or.inr (Or.inr ⟨by omega, by omega, by omega, by omega, by omega, rfl⟩)⟩) hh22.2.2.1 (eX12_zone (85, .ireturn, 1) (List.mem_of_getElem? (i := 48) rfl))
    · skip
      refine ff_iconst hx hb (eX12_zone (22, .iconst 2, 1) (List.mem_of_getElem? (i := 11) rfl)) (by decide) (by decide) (fun v25 e25 => ?_)
      refine lv_goto hx hb (eX12_zone (23, .goto 4, 3) (List.mem_of_getElem? (i := 12) rfl)) (tgt := 27) rfl ?_
      refine tz_put (r := 11) (k := 0) (t := (0, 0, 2)) hx hb hD hh ha rfl rfl ((hcl11 85 0 (0, 0, 2) (by decide) rfl).2 (by decide)) (tz_i (by omega) (by omega)) (eX12_zone (27, .putfield 85, 3) (List.mem_of_getElem? (i := 14) rfl)) (fun H26 lo26 hh26 hf26 hk26 _ hq26 => ?_)
      have mf26_a_2 := (hk26.1 a 11 2 11 0 fsX12 ha rfl (by decide) (by decide)).trans f0
      have mf26_a_1 := (hk26.1 a 11 1 11 0 fsX12 ha rfl (by decide) (by decide)).trans f1
      have mf26_a_3 := (hk26.1 a 11 3 11 0 fsX12 ha rfl (by decide) (by decide)).trans fz
      have mc26_la := (hk26.2 la 21 0 1 40 _ r0 rfl (by decide)).trans hc
      have kp26 := kp0.trans (hk26.mono (ms' := jMr) (fun x hx => by cases List.mem_singleton.mp hx; decide))
      refine lv_aload_n hx hb (eX12_zone (30, .aload_n 0, 1) (List.mem_of_getElem? (i := 15) rfl)) rfl (lv_at hl 0 rfl) ?_
      refine tz_get (r := 11) (k := 0) (t := (0, 0, 2)) hx hb hh26 ha rfl rfl (hcl11 85 0 (0, 0, 2) (by decide) rfl).1 hf26 (eX12_zone (31, .getfield 85, 3) (List.mem_of_getElem? (i := 16) rfl)) ?_
      refine ff_if_le hx hb (eX12_zone (34, .ifCond .le 5, 3) (List.mem_of_getElem? (i := 17) rfl)) (tgt := 39) rfl (fun c27 => (by exfalso; omega)) (fun c27 => ?_)
      refine ff_iconst hx hb (eX12_zone (37, .iconst 0, 1) (List.mem_of_getElem? (i := 18) rfl)) (by decide) (by decide) (fun v28 e28 => ?_)
      exact W.zret hx hb hr rfl (fun t ht hW => ⟨_, _, _, L, zc, rfl, ⟨_, rfl, rfl⟩, by rw [ht]; exact hh26.l0, by rw [ht]; exact kp26, by rw [ht]; exact hf26, by rw [ht]; exact ⟨⟨la, _, _, mf26_a_2, r0, mf26_a_1, hn, mc26_la, hz⟩, ⟨_, mf26_a_3, hnz⟩, hjl⟩, rfl, Or.inr (Or.inl ⟨by omega, rfl, by omega, by omega, by omega⟩)⟩) hh26.2.2.1 (eX12_zone (38, .ireturn, 1) (List.mem_of_getElem? (i := 19) rfl))
  · skip
    refine ff_iconst hx hb (eX12_zone (9, .iconst 1, 1) (List.mem_of_getElem? (i := 5) rfl)) (by decide) (by decide) (fun v29 e29 => ?_)
    refine lv_goto hx hb (eX12_zone (10, .goto 17, 3) (List.mem_of_getElem? (i := 6) rfl)) (tgt := 27) rfl ?_
    refine tz_put (r := 11) (k := 0) (t := (0, 0, 2)) hx hb hD hh ha rfl rfl ((hcl11 85 0 (0, 0, 2) (by decide) rfl).2 (by decide)) (tz_i (by omega) (by omega)) (eX12_zone (27, .putfield 85, 3) (List.mem_of_getElem? (i := 14) rfl)) (fun H30 lo30 hh30 hf30 hk30 _ hq30 => ?_)
    have mf30_a_2 := (hk30.1 a 11 2 11 0 fsX12 ha rfl (by decide) (by decide)).trans f0
    have mf30_a_1 := (hk30.1 a 11 1 11 0 fsX12 ha rfl (by decide) (by decide)).trans f1
    have mf30_a_3 := (hk30.1 a 11 3 11 0 fsX12 ha rfl (by decide) (by decide)).trans fz
    have mc30_la := (hk30.2 la 21 0 1 40 _ r0 rfl (by decide)).trans hc
    have kp30 := kp0.trans (hk30.mono (ms' := jMr) (fun x hx => by cases List.mem_singleton.mp hx; decide))
    refine lv_aload_n hx hb (eX12_zone (30, .aload_n 0, 1) (List.mem_of_getElem? (i := 15) rfl)) rfl (lv_at hl 0 rfl) ?_
    refine tz_get (r := 11) (k := 0) (t := (0, 0, 2)) hx hb hh30 ha rfl rfl (hcl11 85 0 (0, 0, 2) (by decide) rfl).1 hf30 (eX12_zone (31, .getfield 85, 3) (List.mem_of_getElem? (i := 16) rfl)) ?_
    refine ff_if_le hx hb (eX12_zone (34, .ifCond .le 5, 3) (List.mem_of_getElem? (i := 17) rfl)) (tgt := 39) rfl (fun c31 => (by exfalso; omega)) (fun c31 => ?_)
    refine ff_iconst hx hb (eX12_zone (37, .iconst 0, 1) (List.mem_of_getElem? (i := 18) rfl)) (by decide) (by decide) (fun v32 e32 => ?_)
    exact W.zret hx hb hr rfl (fun t ht hW => ⟨_, _, _, L, zc, rfl, ⟨_, rfl, rfl⟩, by rw [ht]; exact hh30.l0, by rw [ht]; exact kp30, by rw [ht]; exact hf30, by rw [ht]; exact ⟨⟨la, _, _, mf30_a_2, r0, mf30_a_1, hn, mc30_la, hz⟩, ⟨_, mf30_a_3, hnz⟩, hjl⟩, rfl, Or.inl ⟨by omega, rfl, by omega⟩⟩) hh30.2.2.1 (eX12_zone (38, .ireturn, 1) (List.mem_of_getElem? (i := 19) rfl))
