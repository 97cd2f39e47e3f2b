set_option maxRecDepth 100000 in
set_option maxHeartbeats 4000000 in
theorem hJ9_fd1440 (l : Launch) (x : Int64) (v900 : Int64) (e900 : v900.toInt = 1440) (hx1 : -100000000000000000 ≤ x.toInt) (hx2 : x.toInt ≤ 100000000000000000) : zu_M l yJ9_floorDiv_f86c9 (gW yJ9_floorDiv_f86c9 cJ9_floorDiv_f86c9 6 (some .long)) { frames := 0, cells := 0, slots := 0, locals := 0 } (fun vs => vs = [.long x, .long v900]) zT (fun _ w => ∃ r : Int64, w = .long r ∧ r.toInt = x.toInt / 1440) := by
  refine zy_ofW (cc := cJ9_floorDiv_f86c9) (maxL := 6) (ret := (some .long)) (by decide +kernel) rfl ?_
  intro p e s m args below meth c s1 B hml hv
  obtain ⟨vs, rfl, rfl, hKp⟩ := hv
  have hx := B.exec
  have hb := B.bytes
  have hr := B.returns
  have hlk := B.notSynchronized
  have hts0 := atoms_spec (ws := gW yJ9_floorDiv_f86c9 cJ9_floorDiv_f86c9 6 (some .long)) B.pre
  have h2 : ∀ w ∈ gT, w.before ([.long x, .long v900] : List Value).toArray s = true := fun w hw => hts0 w (List.mem_cons_of_mem _ hw)
  have hown : s.vm.findClass RJ9 = some m.cls := findClass_of_methodNamed B.named
  have hl := lv_entry [.long x, .long v900] (n := 6) (Nat.le_of_ble_eq_true rfl)
  rw [lg_entry_eq]
  generalize (lg_sl [.long x, .long v900] ++ List.replicate (6 - (lg_sl [.long x, .long v900]).length) Slot.unset).toArray = ls at hl ⊢
  have b_x := zn_i64 x
  have b_v900 := zn_i64 v900
  refine lv_lload_n hx hb (eJ9_floorDiv_f86c9 (0, .lload_n 0, 1) (List.mem_of_getElem? (i := 0) rfl)) rfl (lv_at hl 0 rfl) ?_
  refine lv_lload_n hx hb (eJ9_floorDiv_f86c9 (1, .lload_n 2, 1) (List.mem_of_getElem? (i := 1) rfl)) rfl (lv_at hl 1 rfl) ?_
  refine ff_ldiv hx hb (eJ9_floorDiv_f86c9 (2, .ldiv, 1) (List.mem_of_getElem? (i := 2) rfl)) (e900) (by decide) (fun v1 e1 => ?_)
  refine lv_lstore hx hb (eJ9_floorDiv_f86c9 (3, .lstore 4, 2) (List.mem_of_getElem? (i := 3) rfl)) hl (by decide) rfl (fun ls2 hl2 => ?_)
  refine lv_lload_n hx hb (eJ9_floorDiv_f86c9 (5, .lload_n 0, 1) (List.mem_of_getElem? (i := 4) rfl)) rfl (lv_at hl2 1 rfl) ?_
  refine lv_lload_n hx hb (eJ9_floorDiv_f86c9 (6, .lload_n 2, 1) (List.mem_of_getElem? (i := 5) rfl)) rfl (lv_at hl2 2 rfl) ?_
  refine lv_lxor hx hb (eJ9_floorDiv_f86c9 (7, .lxor, 1) (List.mem_of_getElem? (i := 6) rfl)) ?_
  generalize hxo : x ^^^ v900 = v3
  have e3 : (v3.toInt < 0 ∧ x.toInt < 0) ∨ (0 ≤ v3.toInt ∧ 0 ≤ x.toInt) := by have h9 := xor_neg x v900; rw [hxo] at h9; omega
  refine ff_lconst hx hb (eJ9_floorDiv_f86c9 (8, .lconst 0, 1) (List.mem_of_getElem? (i := 7) rfl)) rfl (fun v4 e4 => ?_)
  refine ff_lcmp hx hb (eJ9_floorDiv_f86c9 (9, .lcmp, 1) (List.mem_of_getElem? (i := 8) rfl)) (fun v5 e5 => ?_)
  refine ff_if_ge hx hb (eJ9_floorDiv_f86c9 (10, .ifCond .ge 17, 3) (List.mem_of_getElem? (i := 9) rfl)) (tgt := 27) rfl (fun c6 => ?_) (fun c6 => ?_)
  · skip
    refine lv_lload hx hb (eJ9_floorDiv_f86c9 (27, .lload 4, 2) (List.mem_of_getElem? (i := 20) rfl)) (lv_at hl2 0 rfl) ?_
    exact zu_lret (y := yJ9_floorDiv_f86c9) (ws := []) (rm := {}) hx hb hr hlk ⟨_, rfl, by omega⟩ (eJ9_floorDiv_f86c9 (29, .lreturn, 1) (List.mem_of_getElem? (i := 21) rfl))
  · skip
    refine lv_lload hx hb (eJ9_floorDiv_f86c9 (13, .lload 4, 2) (List.mem_of_getElem? (i := 10) rfl)) (lv_at hl2 0 rfl) ?_
    refine lv_lload_n hx hb (eJ9_floorDiv_f86c9 (15, .lload_n 2, 1) (List.mem_of_getElem? (i := 11) rfl)) rfl (lv_at hl2 2 rfl) ?_
    refine ff_lmulR hx hb (eJ9_floorDiv_f86c9 (16, .lmul, 1) (List.mem_of_getElem? (i := 12) rfl)) (e900) (by omega) (by omega) (fun v7 e7 => ?_)
    refine lv_lload_n hx hb (eJ9_floorDiv_f86c9 (17, .lload_n 0, 1) (List.mem_of_getElem? (i := 13) rfl)) rfl (lv_at hl2 1 rfl) ?_
    refine ff_lcmp hx hb (eJ9_floorDiv_f86c9 (18, .lcmp, 1) (List.mem_of_getElem? (i := 14) rfl)) (fun v8 e8 => ?_)
    refine ff_if_eq hx hb (eJ9_floorDiv_f86c9 (19, .ifCond .eq 8, 3) (List.mem_of_getElem? (i := 15) rfl)) (tgt := 27) rfl (fun c9 => ?_) (fun c9 => ?_)
    · skip
      refine lv_lload hx hb (eJ9_floorDiv_f86c9 (27, .lload 4, 2) (List.mem_of_getElem? (i := 20) rfl)) (lv_at hl2 0 rfl) ?_
      exact zu_lret (y := yJ9_floorDiv_f86c9) (ws := []) (rm := {}) hx hb hr hlk ⟨_, rfl, by omega⟩ (eJ9_floorDiv_f86c9 (29, .lreturn, 1) (List.mem_of_getElem? (i := 21) rfl))
    · skip
      refine lv_lload hx hb (eJ9_floorDiv_f86c9 (22, .lload 4, 2) (List.mem_of_getElem? (i := 16) rfl)) (lv_at hl2 0 rfl) ?_
      refine ff_lconst hx hb (eJ9_floorDiv_f86c9 (24, .lconst 1, 1) (List.mem_of_getElem? (i := 17) rfl)) rfl (fun v10 e10 => ?_)
      refine ff_lsub hx hb (eJ9_floorDiv_f86c9 (25, .lsub, 1) (List.mem_of_getElem? (i := 18) rfl)) (by omega) (by omega) (fun v11 e11 => ?_)
      exact zu_lret (y := yJ9_floorDiv_f86c9) (ws := []) (rm := {}) hx hb hr hlk ⟨_, rfl, by omega⟩ (eJ9_floorDiv_f86c9 (26, .lreturn, 1) (List.mem_of_getElem? (i := 19) rfl))
set_option maxRecDepth 100000 in
set_option maxHeartbeats 4000000 in
theorem hJ9_fd86400 (l : Launch) (x : Int64) (v900 : Int64) (e900 : v900.toInt = 86400) (hx1 : -100000000000000000 ≤ x.toInt) (hx2 : x.toInt ≤ 100000000000000000) : zu_M l yJ9_floorDiv_f86c9 (gW yJ9_floorDiv_f86c9 cJ9_floorDiv_f86c9 6 (some .long)) { frames := 0, cells := 0, slots := 0, locals := 0 } (fun vs => vs = [.long x, .long v900]) zT (fun _ w => ∃ r : Int64, w = .long r ∧ r.toInt = x.toInt / 86400) := by
  refine zy_ofW (cc := cJ9_floorDiv_f86c9) (maxL := 6) (ret := (some .long)) (by decide +kernel) rfl ?_
  intro p e s m args below meth c s1 B hml hv
  obtain ⟨vs, rfl, rfl, hKp⟩ := hv
  have hx := B.exec
  have hb := B.bytes
  have hr := B.returns
  have hlk := B.notSynchronized
  have hts0 := atoms_spec (ws := gW yJ9_floorDiv_f86c9 cJ9_floorDiv_f86c9 6 (some .long)) B.pre
  have h2 : ∀ w ∈ gT, w.before ([.long x, .long v900] : List Value).toArray s = true := fun w hw => hts0 w (List.mem_cons_of_mem _ hw)
  have hown : s.vm.findClass RJ9 = some m.cls := findClass_of_methodNamed B.named
  have hl := lv_entry [.long x, .long v900] (n := 6) (Nat.le_of_ble_eq_true rfl)
  rw [lg_entry_eq]
  generalize (lg_sl [.long x, .long v900] ++ List.replicate (6 - (lg_sl [.long x, .long v900]).length) Slot.unset).toArray = ls at hl ⊢
  have b_x := zn_i64 x
  have b_v900 := zn_i64 v900
  refine lv_lload_n hx hb (eJ9_floorDiv_f86c9 (0, .lload_n 0, 1) (List.mem_of_getElem? (i := 0) rfl)) rfl (lv_at hl 0 rfl) ?_
  refine lv_lload_n hx hb (eJ9_floorDiv_f86c9 (1, .lload_n 2, 1) (List.mem_of_getElem? (i := 1) rfl)) rfl (lv_at hl 1 rfl) ?_
  refine ff_ldiv hx hb (eJ9_floorDiv_f86c9 (2, .ldiv, 1) (List.mem_of_getElem? (i := 2) rfl)) (e900) (by decide) (fun v1 e1 => ?_)
  refine lv_lstore hx hb (eJ9_floorDiv_f86c9 (3, .lstore 4, 2) (List.mem_of_getElem? (i := 3) rfl)) hl (by decide) rfl (fun ls2 hl2 => ?_)
  refine lv_lload_n hx hb (eJ9_floorDiv_f86c9 (5, .lload_n 0, 1) (List.mem_of_getElem? (i := 4) rfl)) rfl (lv_at hl2 1 rfl) ?_
  refine lv_lload_n hx hb (eJ9_floorDiv_f86c9 (6, .lload_n 2, 1) (List.mem_of_getElem? (i := 5) rfl)) rfl (lv_at hl2 2 rfl) ?_
  refine lv_lxor hx hb (eJ9_floorDiv_f86c9 (7, .lxor, 1) (List.mem_of_getElem? (i := 6) rfl)) ?_
  generalize hxo : x ^^^ v900 = v3
  have e3 : (v3.toInt < 0 ∧ x.toInt < 0) ∨ (0 ≤ v3.toInt ∧ 0 ≤ x.toInt) := by have h9 := xor_neg x v900; rw [hxo] at h9; omega
  refine ff_lconst hx hb (eJ9_floorDiv_f86c9 (8, .lconst 0, 1) (List.mem_of_getElem? (i := 7) rfl)) rfl (fun v4 e4 => ?_)
  refine ff_lcmp hx hb (eJ9_floorDiv_f86c9 (9, .lcmp, 1) (List.mem_of_getElem? (i := 8) rfl)) (fun v5 e5 => ?_)
  refine ff_if_ge hx hb (eJ9_floorDiv_f86c9 (10, .ifCond .ge 17, 3) (List.mem_of_getElem? (i := 9) rfl)) (tgt := 27) rfl (fun c6 => ?_) (fun c6 => ?_)
  · skip
    refine lv_lload hx hb (eJ9_floorDiv_f86c9 (27, .lload 4, 2) (List.mem_of_getElem? (i := 20) rfl)) (lv_at hl2 0 rfl) ?_
    exact zu_lret (y := yJ9_floorDiv_f86c9) (ws := []) (rm := {}) hx hb hr hlk ⟨_, rfl, by omega⟩ (eJ9_floorDiv_f86c9 (29, .lreturn, 1) (List.mem_of_getElem? (i := 21) rfl))
  · skip
    refine lv_lload hx hb (eJ9_floorDiv_f86c9 (13, .lload 4, 2) (List.mem_of_getElem? (i := 10) rfl)) (lv_at hl2 0 rfl) ?_
    refine lv_lload_n hx hb (eJ9_floorDiv_f86c9 (15, .lload_n 2, 1) (List.mem_of_getElem? (i := 11) rfl)) rfl (lv_at hl2 2 rfl) ?_
    refine ff_lmulR hx hb (eJ9_floorDiv_f86c9 (16, .lmul, 1) (List.mem_of_getElem? (i := 12) rfl)) (e900) (by omega) (by omega) (fun v7 e7 => ?_)
    refine lv_lload_n hx hb (eJ9_floorDiv_f86c9 (17, .lload_n 0, 1) (List.mem_of_getElem? (i := 13) rfl)) rfl (lv_at hl2 1 rfl) ?_
    refine ff_lcmp hx hb (eJ9_floorDiv_f86c9 (18, .lcmp, 1) (List.mem_of_getElem? (i := 14) rfl)) (fun v8 e8 => ?_)
    refine ff_if_eq hx hb (eJ9_floorDiv_f86c9 (19, .ifCond .eq 8, 3) (List.mem_of_getElem? (i := 15) rfl)) (tgt := 27) rfl (fun c9 => ?_) (fun c9 => ?_)
    · skip
      refine lv_lload hx hb (eJ9_floorDiv_f86c9 (27, .lload 4, 2) (List.mem_of_getElem? (i := 20) rfl)) (lv_at hl2 0 rfl) ?_
      exact zu_lret (y := yJ9_floorDiv_f86c9) (ws := []) (rm := {}) hx hb hr hlk ⟨_, rfl, by omega⟩ (eJ9_floorDiv_f86c9 (29, .lreturn, 1) (List.mem_of_getElem? (i := 21) rfl))
    · skip
      refine lv_lload hx hb (eJ9_floorDiv_f86c9 (22, .lload 4, 2) (List.mem_of_getElem? (i := 16) rfl)) (lv_at hl2 0 rfl) ?_
      refine ff_lconst hx hb (eJ9_floorDiv_f86c9 (24, .lconst 1, 1) (List.mem_of_getElem? (i := 17) rfl)) rfl (fun v10 e10 => ?_)
      refine ff_lsub hx hb (eJ9_floorDiv_f86c9 (25, .lsub, 1) (List.mem_of_getElem? (i := 18) rfl)) (by omega) (by omega) (fun v11 e11 => ?_)
      exact zu_lret (y := yJ9_floorDiv_f86c9) (ws := []) (rm := {}) hx hb hr hlk ⟨_, rfl, by omega⟩ (eJ9_floorDiv_f86c9 (26, .lreturn, 1) (List.mem_of_getElem? (i := 19) rfl))
set_option maxRecDepth 100000 in
set_option maxHeartbeats 4000000 in
theorem hX5_secondsTo (l : Launch) (D : va_G) (cA : Nat → ClassId) (ro : Nat → Option Nat) (sz : Nat) (H0 : Heap) (lp : Nat) (d : Int64) (L : List Int) (hlp : ro lp = some 4)  : Met l yX5_secondsTo (gW yX5_secondsTo cX5_secondsTo 5 (some .int)) { frames := 0, cells := 0, slots := 0, locals := 0 } (zs_P D cA ro sz H0 (fun H => jLp D cA ro H lp L) [.ref lp, .long d]) (fun _ st oc t => t.heap = st.heap ∧ ∃ r : Int32, oc = .returned (some (.int r)) ∧ r.toInt = lsI L d.toInt) 0 0 (zy_fr sz) := by
  refine zy_ofW (cc := cX5_secondsTo) (maxL := 5) (ret := (some .int)) (by decide +kernel) rfl ?_
  intro p e s m args below meth c s1 B hml hv
  obtain ⟨rfl, hh, hKn, hJ⟩ := hv
  have hx := B.exec
  have hb := B.bytes
  have hr := B.returns
  have hlk := B.notSynchronized
  have hts0 := atoms_spec (ws := gW yX5_secondsTo cX5_secondsTo 5 (some .int)) B.pre
  have h2 : ∀ w ∈ gT, w.before ([.ref lp, .long d] : List Value).toArray s = true := fun w hw => hts0 w (List.mem_cons_of_mem _ hw)
  have hown : s.vm.findClass RX5 = some m.cls := findClass_of_methodNamed B.named
  have hl := lv_entry [.ref lp, .long d] (n := 5) (Nat.le_of_ble_eq_true rfl)
  rw [lg_entry_eq]
  generalize (lg_sl [.ref lp, .long d] ++ List.replicate (5 - (lg_sl [.ref lp, .long d]).length) Slot.unset).toArray = ls at hl ⊢
  have b_d := zn_i64 d
  have hD := zD_all h2 hKn.1
  have hcl4 := fun (idx k : Nat) (t : zt_T) (h : (idx, 4, k) ∈ gfX5) (hk : fsX5[k]? = some t) => zf_clause (ro := ro) (ms := []) h2 hown hKn.1 gfX5_ok (by decide +kernel) idx 4 k 4 0 fsX5 t h rfl hk
  have kp0 : zc_kept D RTg ro [] s.heap s.heap := zc_kept.refl
  obtain ⟨la, n, z, f0, r0, f1, hn, hc, hz⟩ := id hJ
  obtain ⟨n9, g9, n1, n2⟩ := zh_fT (k := 1) (t := (0, 0, 40)) hh hlp (show RTg[4]? = some (0, 4, 0, fsX5) from rfl) rfl
  cases f1.symm.trans g9
  dsimp only at n1 n2
  clear g9
  refine ff_iconst hx hb (eX5_secondsTo (0, .iconst 0, 1) (List.mem_of_getElem? (i := 0) rfl)) (by decide) (by decide) (fun v1 e1 => ?_)
  refine lv_istore_n hx hb (eX5_secondsTo (1, .istore_n 3, 1) (List.mem_of_getElem? (i := 1) rfl)) rfl hl (by decide) rfl (fun ls2 hl2 => ?_)
  refine ff_iconst hx hb (eX5_secondsTo (2, .iconst 0, 1) (List.mem_of_getElem? (i := 2) rfl)) (by decide) (by decide) (fun v3 e3 => ?_)
  refine lv_istore hx hb (eX5_secondsTo (3, .istore 4, 2) (List.mem_of_getElem? (i := 3) rfl)) hl2 (by decide) rfl (fun ls4 hl4 => ?_)
  have loop : ∀ (n0 i : Nat) (iv : Int32) (av : Int32) (ls : Array Slot), i + n0 = L.length → iv.toInt = (i : Int) → av.toInt = lsI (L.take i) d.toInt → lv_has ls 5 [(4, .int iv), (3, .int av), (0, .ref lp), (1, .long d)] → W p l e (headSpec (gW yX5_secondsTo cX5_secondsTo 5 (some .int)) { frames := 0, cells := 0, slots := 0, locals := 0 }).room s m ([.ref lp, .long d] : List Value).toArray below meth c s.heap [] 0 0 (MQ below (fun _ st oc t => t.heap = st.heap ∧ ∃ r : Int32, oc = .returned (some (.int r)) ∧ r.toInt = lsI L d.toInt) ([.ref lp, .long d] : List Value).toArray s 0 0 (zy_fr sz)) (F0 m 5 ls []) := by
    intro n0
    induction n0 with
    | zero =>
      intro i iv av ls hi hiv hav hl
      have hbd := lsI_tb (i := i) (show L.length ≤ 40 by omega) d.toInt
      refine lv_iload hx hb (eX5_secondsTo (5, .iload 4, 2) (List.mem_of_getElem? (i := 4) rfl)) (lv_at hl 0 rfl) ?_
      refine lv_aload_n hx hb (eX5_secondsTo (7, .aload_n 0, 1) (List.mem_of_getElem? (i := 5) rfl)) rfl (lv_at hl 2 rfl) ?_
      refine tz_get (r := 4) (k := 1) (t := (0, 0, 40)) hx hb hh hlp rfl rfl (hcl4 15 1 (0, 0, 40) (by decide) rfl).1 f1 (eX5_secondsTo (8, .getfield 15, 3) (List.mem_of_getElem? (i := 6) rfl)) ?_
      refine ff_icmp_ge hx hb (eX5_secondsTo (11, .if_icmp .ge 66, 3) (List.mem_of_getElem? (i := 7) rfl)) (tgt := 77) rfl (fun c5 => ?_) (fun c5 => (by exfalso; omega))
      refine lv_iload_n hx hb (eX5_secondsTo (77, .iload_n 3, 1) (List.mem_of_getElem? (i := 41) rfl)) rfl (lv_at hl 1 rfl) ?_
      exact W.zret hx hb hr rfl (fun t ht hW => ⟨ht, _, rfl, by rw [hav]; exact lsI_full (by omega) _⟩) (fun q hq => by cases hq) (eX5_secondsTo (78, .ireturn, 1) (List.mem_of_getElem? (i := 42) rfl))
    | succ n0 ih =>
      intro i iv av ls hi hiv hav hl
      have hbd := lsI_tb (i := i) (show L.length ≤ 40 by omega) d.toInt
      obtain ⟨ve, hze, hLe⟩ := hz i (by omega)
      refine lv_iload hx hb (eX5_secondsTo (5, .iload 4, 2) (List.mem_of_getElem? (i := 4) rfl)) (lv_at hl 0 rfl) ?_
      refine lv_aload_n hx hb (eX5_secondsTo (7, .aload_n 0, 1) (List.mem_of_getElem? (i := 5) rfl)) rfl (lv_at hl 2 rfl) ?_
      refine tz_get (r := 4) (k := 1) (t := (0, 0, 40)) hx hb hh hlp rfl rfl (hcl4 15 1 (0, 0, 40) (by decide) rfl).1 f1 (eX5_secondsTo (8, .getfield 15, 3) (List.mem_of_getElem? (i := 6) rfl)) ?_
      refine ff_icmp_ge hx hb (eX5_secondsTo (11, .if_icmp .ge 66, 3) (List.mem_of_getElem? (i := 7) rfl)) (tgt := 77) rfl (fun c6 => (by exfalso; omega)) (fun c6 => ?_)
      refine lv_aload_n hx hb (eX5_secondsTo (14, .aload_n 0, 1) (List.mem_of_getElem? (i := 8) rfl)) rfl (lv_at hl 2 rfl) ?_
      refine tz_get (r := 4) (k := 0) (t := (30, 0, 0)) hx hb hh hlp rfl rfl (hcl4 11 0 (30, 0, 0) (by decide) rfl).1 f0 (eX5_secondsTo (15, .getfield 11, 3) (List.mem_of_getElem? (i := 9) rfl)) ?_
      refine lv_iload hx hb (eX5_secondsTo (18, .iload 4, 2) (List.mem_of_getElem? (i := 10) rfl)) (lv_at hl 0 rfl) ?_
      refine tz_lald hx hb (zAr hKn.1 1 (by decide)) hc (by omega) (by omega) (eX5_secondsTo (20, .laload, 1) (List.mem_of_getElem? (i := 11) rfl)) ?_
      rw [show iv.toNatClampNeg = i by show iv.toInt.toNat = i; omega, hze]
      refine ff_lconst hx hb (eX5_secondsTo (21, .lconst 0, 1) (List.mem_of_getElem? (i := 12) rfl)) rfl (fun v8 e8 => ?_)
      refine ff_lcmp hx hb (eX5_secondsTo (22, .lcmp, 1) (List.mem_of_getElem? (i := 13) rfl)) (fun v9 e9 => ?_)
      refine ff_if_lt hx hb (eX5_secondsTo (23, .ifCond .lt 21, 3) (List.mem_of_getElem? (i := 14) rfl)) (tgt := 44) rfl (fun c10 => ?_) (fun c10 => ?_)
      · skip
        refine lv_aload_n hx hb (eX5_secondsTo (44, .aload_n 0, 1) (List.mem_of_getElem? (i := 24) rfl)) rfl (lv_at hl 2 rfl) ?_
        refine tz_get (r := 4) (k := 0) (t := (30, 0, 0)) hx hb hh hlp rfl rfl (hcl4 11 0 (30, 0, 0) (by decide) rfl).1 f0 (eX5_secondsTo (45, .getfield 11, 3) (List.mem_of_getElem? (i := 25) rfl)) ?_
        refine lv_iload hx hb (eX5_secondsTo (48, .iload 4, 2) (List.mem_of_getElem? (i := 26) rfl)) (lv_at hl 0 rfl) ?_
        refine tz_lald hx hb (zAr hKn.1 1 (by decide)) hc (by omega) (by omega) (eX5_secondsTo (50, .laload, 1) (List.mem_of_getElem? (i := 27) rfl)) ?_
        rw [show iv.toNatClampNeg = i by show iv.toInt.toNat = i; omega, hze]
        refine ff_lconst hx hb (eX5_secondsTo (51, .lconst 0, 1) (List.mem_of_getElem? (i := 28) rfl)) rfl (fun v12 e12 => ?_)
        refine ff_lcmp hx hb (eX5_secondsTo (52, .lcmp, 1) (List.mem_of_getElem? (i := 29) rfl)) (fun v13 e13 => ?_)
        refine ff_if_ge hx hb (eX5_secondsTo (53, .ifCond .ge 18, 3) (List.mem_of_getElem? (i := 30) rfl)) (tgt := 71) rfl (fun c14 => ?_) (fun c14 => ?_)
        · skip
          refine ff_iinc (k := 0) hx hb (eX5_secondsTo (71, .iinc 4 1, 3) (List.mem_of_getElem? (i := 39) rfl)) hl rfl (by decide) (by decide) (by decide) (by omega) (by omega) (fun v15 e15 ls15 hl15 => ?_)
          refine lv_goto hx hb (eX5_secondsTo (74, .goto (-69), 3) (List.mem_of_getElem? (i := 40) rfl)) (tgt := 5) rfl ?_
          exact ih (i + 1) v15 av ls15 (by omega) (by omega) (by rw [lsI_take hLe]; unfold lcI; split <;> (try split) <;> omega) (lv_sub hl15 [0, 1, 2, 3] rfl)
        · skip
          refine lv_aload_n hx hb (eX5_secondsTo (56, .aload_n 0, 1) (List.mem_of_getElem? (i := 31) rfl)) rfl (lv_at hl 2 rfl) ?_
          refine tz_get (r := 4) (k := 0) (t := (30, 0, 0)) hx hb hh hlp rfl rfl (hcl4 11 0 (30, 0, 0) (by decide) rfl).1 f0 (eX5_secondsTo (57, .getfield 11, 3) (List.mem_of_getElem? (i := 32) rfl)) ?_
          refine lv_iload hx hb (eX5_secondsTo (60, .iload 4, 2) (List.mem_of_getElem? (i := 33) rfl)) (lv_at hl 0 rfl) ?_
          refine tz_lald hx hb (zAr hKn.1 1 (by decide)) hc (by omega) (by omega) (eX5_secondsTo (62, .laload, 1) (List.mem_of_getElem? (i := 34) rfl)) ?_
          rw [show iv.toNatClampNeg = i by show iv.toInt.toNat = i; omega, hze]
          refine lv_lload_n hx hb (eX5_secondsTo (63, .lload_n 1, 1) (List.mem_of_getElem? (i := 35) rfl)) rfl (lv_at hl 3 rfl) ?_
          refine ff_lcmp hx hb (eX5_secondsTo (64, .lcmp, 1) (List.mem_of_getElem? (i := 36) rfl)) (fun v17 e17 => ?_)
          refine ff_if_lt hx hb (eX5_secondsTo (65, .ifCond .lt 6, 3) (List.mem_of_getElem? (i := 37) rfl)) (tgt := 71) rfl (fun c18 => ?_) (fun c18 => ?_)
          · skip
            refine ff_iinc (k := 0) hx hb (eX5_secondsTo (71, .iinc 4 1, 3) (List.mem_of_getElem? (i := 39) rfl)) hl rfl (by decide) (by decide) (by decide) (by omega) (by omega) (fun v19 e19 ls19 hl19 => ?_)
            refine lv_goto hx hb (eX5_secondsTo (74, .goto (-69), 3) (List.mem_of_getElem? (i := 40) rfl)) (tgt := 5) rfl ?_
            exact ih (i + 1) v19 av ls19 (by omega) (by omega) (by rw [lsI_take hLe]; unfold lcI; split <;> (try split) <;> omega) (lv_sub hl19 [0, 1, 2, 3] rfl)
          · skip
            refine ff_iinc (k := 1) hx hb (eX5_secondsTo (68, .iinc 3 (-1), 3) (List.mem_of_getElem? (i := 38) rfl)) hl rfl (by decide) (by decide) (by decide) (by omega) (by omega) (fun v20 e20 ls20 hl20 => ?_)
            refine ff_iinc (k := 1) hx hb (eX5_secondsTo (71, .iinc 4 1, 3) (List.mem_of_getElem? (i := 39) rfl)) hl20 rfl (by decide) (by decide) (by decide) (by omega) (by omega) (fun v21 e21 ls21 hl21 => ?_)
            refine lv_goto hx hb (eX5_secondsTo (74, .goto (-69), 3) (List.mem_of_getElem? (i := 40) rfl)) (tgt := 5) rfl ?_
            exact ih (i + 1) v21 v20 ls21 (by omega) (by omega) (by rw [lsI_take hLe]; unfold lcI; split <;> (try split) <;> omega) (lv_sub hl21 [0, 1, 2, 3] rfl)
      · skip
        refine lv_aload_n hx hb (eX5_secondsTo (26, .aload_n 0, 1) (List.mem_of_getElem? (i := 15) rfl)) rfl (lv_at hl 2 rfl) ?_
        refine tz_get (r := 4) (k := 0) (t := (30, 0, 0)) hx hb hh hlp rfl rfl (hcl4 11 0 (30, 0, 0) (by decide) rfl).1 f0 (eX5_secondsTo (27, .getfield 11, 3) (List.mem_of_getElem? (i := 16) rfl)) ?_
        refine lv_iload hx hb (eX5_secondsTo (30, .iload 4, 2) (List.mem_of_getElem? (i := 17) rfl)) (lv_at hl 0 rfl) ?_
        refine tz_lald hx hb (zAr hKn.1 1 (by decide)) hc (by omega) (by omega) (eX5_secondsTo (32, .laload, 1) (List.mem_of_getElem? (i := 18) rfl)) ?_
        rw [show iv.toNatClampNeg = i by show iv.toInt.toNat = i; omega, hze]
        refine lv_lload_n hx hb (eX5_secondsTo (33, .lload_n 1, 1) (List.mem_of_getElem? (i := 19) rfl)) rfl (lv_at hl 3 rfl) ?_
        refine ff_lcmp hx hb (eX5_secondsTo (34, .lcmp, 1) (List.mem_of_getElem? (i := 20) rfl)) (fun v23 e23 => ?_)
        refine ff_if_ge hx hb (eX5_secondsTo (35, .ifCond .ge 9, 3) (List.mem_of_getElem? (i := 21) rfl)) (tgt := 44) rfl (fun c24 => ?_) (fun c24 => ?_)
        · skip
          refine lv_aload_n hx hb (eX5_secondsTo (44, .aload_n 0, 1) (List.mem_of_getElem? (i := 24) rfl)) rfl (lv_at hl 2 rfl) ?_
          refine tz_get (r := 4) (k := 0) (t := (30, 0, 0)) hx hb hh hlp rfl rfl (hcl4 11 0 (30, 0, 0) (by decide) rfl).1 f0 (eX5_secondsTo (45, .getfield 11, 3) (List.mem_of_getElem? (i := 25) rfl)) ?_
          refine lv_iload hx hb (eX5_secondsTo (48, .iload 4, 2) (List.mem_of_getElem? (i := 26) rfl)) (lv_at hl 0 rfl) ?_
          refine tz_lald hx hb (zAr hKn.1 1 (by decide)) hc (by omega) (by omega) (eX5_secondsTo (50, .laload, 1) (List.mem_of_getElem? (i := 27) rfl)) ?_
          rw [show iv.toNatClampNeg = i by show iv.toInt.toNat = i; omega, hze]
          refine ff_lconst hx hb (eX5_secondsTo (51, .lconst 0, 1) (List.mem_of_getElem? (i := 28) rfl)) rfl (fun v26 e26 => ?_)
          refine ff_lcmp hx hb (eX5_secondsTo (52, .lcmp, 1) (List.mem_of_getElem? (i := 29) rfl)) (fun v27 e27 => ?_)
          refine ff_if_ge hx hb (eX5_secondsTo (53, .ifCond .ge 18, 3) (List.mem_of_getElem? (i := 30) rfl)) (tgt := 71) rfl (fun c28 => ?_) (fun c28 => ?_)
          · skip
            refine ff_iinc (k := 0) hx hb (eX5_secondsTo (71, .iinc 4 1, 3) (List.mem_of_getElem? (i := 39) rfl)) hl rfl (by decide) (by decide) (by decide) (by omega) (by omega) (fun v29 e29 ls29 hl29 => ?_)
            refine lv_goto hx hb (eX5_secondsTo (74, .goto (-69), 3) (List.mem_of_getElem? (i := 40) rfl)) (tgt := 5) rfl ?_
            exact ih (i + 1) v29 av ls29 (by omega) (by omega) (by rw [lsI_take hLe]; unfold lcI; split <;> (try split) <;> omega) (lv_sub hl29 [0, 1, 2, 3] rfl)
          · skip
            refine lv_aload_n hx hb (eX5_secondsTo (56, .aload_n 0, 1) (List.mem_of_getElem? (i := 31) rfl)) rfl (lv_at hl 2 rfl) ?_
            refine tz_get (r := 4) (k := 0) (t := (30, 0, 0)) hx hb hh hlp rfl rfl (hcl4 11 0 (30, 0, 0) (by decide) rfl).1 f0 (eX5_secondsTo (57, .getfield 11, 3) (List.mem_of_getElem? (i := 32) rfl)) ?_
            refine lv_iload hx hb (eX5_secondsTo (60, .iload 4, 2) (List.mem_of_getElem? (i := 33) rfl)) (lv_at hl 0 rfl) ?_
            refine tz_lald hx hb (zAr hKn.1 1 (by decide)) hc (by omega) (by omega) (eX5_secondsTo (62, .laload, 1) (List.mem_of_getElem? (i := 34) rfl)) ?_
            rw [show iv.toNatClampNeg = i by show iv.toInt.toNat = i; omega, hze]
            refine lv_lload_n hx hb (eX5_secondsTo (63, .lload_n 1, 1) (List.mem_of_getElem? (i := 35) rfl)) rfl (lv_at hl 3 rfl) ?_
            refine ff_lcmp hx hb (eX5_secondsTo (64, .lcmp, 1) (List.mem_of_getElem? (i := 36) rfl)) (fun v31 e31 => ?_)
            refine ff_if_lt hx hb (eX5_secondsTo (65, .ifCond .lt 6, 3) (List.mem_of_getElem? (i := 37) rfl)) (tgt := 71) rfl (fun c32 => ?_) (fun c32 => ?_)
            · skip
              refine ff_iinc (k := 0) hx hb (eX5_secondsTo (71, .iinc 4 1, 3) (List.mem_of_getElem? (i := 39) rfl)) hl rfl (by decide) (by decide) (by decide) (by omega) (by omega) (fun v33 e33 ls33 hl33 => ?_)
              refine lv_goto hx hb (eX5_secondsTo (74, .goto (-69), 3) (List.mem_of_getElem? (i := 40) rfl)) (tgt := 5) rfl ?_
              exact ih (i + 1) v33 av ls33 (by omega) (by omega) (by rw [lsI_take hLe]; unfold lcI; split <;> (try split) <;> omega) (lv_sub hl33 [0, 1, 2, 3] rfl)
            · skip
              refine ff_iinc (k := 1) hx hb (eX5_secondsTo (68, .iinc 3 (-1), 3) (List.mem_of_getElem? (i := 38) rfl)) hl rfl (by decide) (by decide) (by decide) (by omega) (by omega) (fun v34 e34 ls34 hl34 => ?_)
              refine ff_iinc (k := 1) hx hb (eX5_secondsTo (71, .iinc 4 1, 3) (List.mem_of_getElem? (i := 39) rfl)) hl34 rfl (by decide) (by decide) (by decide) (by omega) (by omega) (fun v35 e35 ls35 hl35 => ?_)
              refine lv_goto hx hb (eX5_secondsTo (74, .goto (-69), 3) (List.mem_of_getElem? (i := 40) rfl)) (tgt := 5) rfl ?_
              exact ih (i + 1) v35 v34 ls35 (by omega) (by omega) (by rw [lsI_take hLe]; unfold lcI; split <;> (try split) <;> omega) (lv_sub hl35 [0, 1, 2, 3] rfl)
        · skip
          refine ff_iinc (k := 1) hx hb (eX5_secondsTo (38, .iinc 3 1, 3) (List.mem_of_getElem? (i := 22) rfl)) hl rfl (by decide) (by decide) (by decide) (by omega) (by omega) (fun v36 e36 ls36 hl36 => ?_)
          refine lv_goto hx hb (eX5_secondsTo (41, .goto 30, 3) (List.mem_of_getElem? (i := 23) rfl)) (tgt := 71) rfl ?_
          refine ff_iinc (k := 1) hx hb (eX5_secondsTo (71, .iinc 4 1, 3) (List.mem_of_getElem? (i := 39) rfl)) hl36 rfl (by decide) (by decide) (by decide) (by omega) (by omega) (fun v37 e37 ls37 hl37 => ?_)
          refine lv_goto hx hb (eX5_secondsTo (74, .goto (-69), 3) (List.mem_of_getElem? (i := 40) rfl)) (tgt := 5) rfl ?_
          exact ih (i + 1) v37 v36 ls37 (by omega) (by omega) (by rw [lsI_take hLe]; unfold lcI; split <;> (try split) <;> omega) (lv_sub hl37 [0, 1, 2, 3] rfl)
  exact loop L.length 0 v3 v1 ls4 (by omega) (by omega) (by rw [List.take_zero]; show _ = 0; omega) (lv_sub hl4 [0, 1, 2, 3] rfl)
set_option maxRecDepth 100000 in
set_option maxHeartbeats 4000000 in
theorem hX2_holdsMinute (l : Launch) (m0 : Int64)  : zu_M l yX2_holdsMinute (gW yX2_holdsMinute cX2_holdsMinute 2 (some .boolean)) { frames := 0, cells := 0, slots := 0, locals := 0 } (fun vs => vs = [.long m0]) zT (fun _ w => ∃ r : Int32, w = .int r ∧ ((r.toInt = 1 ∧ mOK m0.toInt) ∨ (r.toInt = 0 ∧ ¬ mOK m0.toInt))) := by
  refine zy_ofW (cc := cX2_holdsMinute) (maxL := 2) (ret := (some .boolean)) (by decide +kernel) rfl ?_
  intro p e s m args below meth c s1 B hml hv
  obtain ⟨vs, rfl, rfl, hKp⟩ := hv
  have hx := B.exec
  have hb := B.bytes
  have hr := B.returns
  have hlk := B.notSynchronized
  have hts0 := atoms_spec (ws := gW yX2_holdsMinute cX2_holdsMinute 2 (some .boolean)) B.pre
  have h2 : ∀ w ∈ gT, w.before ([.long m0] : List Value).toArray s = true := fun w hw => hts0 w (List.mem_cons_of_mem _ hw)
  have hown : s.vm.findClass RX2 = some m.cls := findClass_of_methodNamed B.named
  have hl := lv_entry [.long m0] (n := 2) (Nat.le_of_ble_eq_true rfl)
  rw [lg_entry_eq]
  generalize (lg_sl [.long m0] ++ List.replicate (2 - (lg_sl [.long m0]).length) Slot.unset).toArray = ls at hl ⊢
  have b_m0 := zn_i64 m0
  refine lv_lload_n hx hb (eX2_holdsMinute (0, .lload_n 0, 1) (List.mem_of_getElem? (i := 0) rfl)) rfl (lv_at hl 0 rfl) ?_
  refine ff_ldc2 (n := (-526984793280)) hx hb hown h2 (clX2_ok 15 (-526984793280) (List.mem_of_getElem? (i := 2) rfl)) (eX2_holdsMinute (1, .ldc2_w 15, 3) (List.mem_of_getElem? (i := 1) rfl)) (fun v1 e1 => ?_)
  refine ff_lcmp hx hb (eX2_holdsMinute (4, .lcmp, 1) (List.mem_of_getElem? (i := 2) rfl)) (fun v2 e2 => ?_)
  refine ff_if_lt hx hb (eX2_holdsMinute (5, .ifCond .lt 15, 3) (List.mem_of_getElem? (i := 3) rfl)) (tgt := 20) rfl (fun c3 => ?_) (fun c3 => ?_)
  · skip
    refine ff_iconst hx hb (eX2_holdsMinute (20, .iconst 0, 1) (List.mem_of_getElem? (i := 10) rfl)) (by decide) (by decide) (fun v4 e4 => ?_)
    exact zu_iret (y := yX2_holdsMinute) (ws := []) (rm := {}) hx hb hr hlk (zn_bool (by omega) (by omega)) ⟨_, rfl, by (unfold mOK; omega)⟩ (eX2_holdsMinute (21, .ireturn, 1) (List.mem_of_getElem? (i := 11) rfl))
  · skip
    refine lv_lload_n hx hb (eX2_holdsMinute (8, .lload_n 0, 1) (List.mem_of_getElem? (i := 4) rfl)) rfl (lv_at hl 0 rfl) ?_
    refine ff_ldc2 (n := 524913079679) hx hb hown h2 (clX2_ok 17 524913079679 (List.mem_of_getElem? (i := 3) rfl)) (eX2_holdsMinute (9, .ldc2_w 17, 3) (List.mem_of_getElem? (i := 5) rfl)) (fun v5 e5 => ?_)
    refine ff_lcmp hx hb (eX2_holdsMinute (12, .lcmp, 1) (List.mem_of_getElem? (i := 6) rfl)) (fun v6 e6 => ?_)
    refine ff_if_gt hx hb (eX2_holdsMinute (13, .ifCond .gt 7, 3) (List.mem_of_getElem? (i := 7) rfl)) (tgt := 20) rfl (fun c7 => ?_) (fun c7 => ?_)
    · skip
      refine ff_iconst hx hb (eX2_holdsMinute (20, .iconst 0, 1) (List.mem_of_getElem? (i := 10) rfl)) (by decide) (by decide) (fun v8 e8 => ?_)
      exact zu_iret (y := yX2_holdsMinute) (ws := []) (rm := {}) hx hb hr hlk (zn_bool (by omega) (by omega)) ⟨_, rfl, by (unfold mOK; omega)⟩ (eX2_holdsMinute (21, .ireturn, 1) (List.mem_of_getElem? (i := 11) rfl))
    · skip
      refine ff_iconst hx hb (eX2_holdsMinute (16, .iconst 1, 1) (List.mem_of_getElem? (i := 8) rfl)) (by decide) (by decide) (fun v9 e9 => ?_)
      refine lv_goto hx hb (eX2_holdsMinute (17, .goto 4, 3) (List.mem_of_getElem? (i := 9) rfl)) (tgt := 21) rfl ?_
      exact zu_iret (y := yX2_holdsMinute) (ws := []) (rm := {}) hx hb hr hlk (zn_bool (by omega) (by omega)) ⟨_, rfl, by (unfold mOK; omega)⟩ (eX2_holdsMinute (21, .ireturn, 1) (List.mem_of_getElem? (i := 11) rfl))
set_option maxRecDepth 100000 in
set_option maxHeartbeats 4000000 in
theorem hX5_instantOf (l : Launch) (D : va_G) (cA : Nat → ClassId) (ro : Nat → Option Nat) (sz : Nat) (H0 : Heap) (lp : Nat) (m0 : Int64) (s0 : Int32) (L : List Int) (hlp : ro lp = some 4) (hm1 : -1000000000000 ≤ m0.toInt) (hm2 : m0.toInt ≤ 1000000000000) (hs1 : -100 ≤ s0.toInt) (hs2 : s0.toInt ≤ 100) : Met l yX5_instantOf (gW yX5_instantOf cX5_instantOf 4 (some .long)) { frames := 1, cells := 0, slots := 0, locals := 25 } (zs_P D cA ro sz H0 (fun H => jLp D cA ro H lp L) [.ref lp, .long m0, .int s0]) (fun _ st oc t => t.heap = st.heap ∧ ∃ r : Int64, oc = .returned (some (.long r)) ∧ r.toInt = stI L m0.toInt + s0.toInt) 0 0 (zy_fr sz) := by
  refine zy_ofW (cc := cX5_instantOf) (maxL := 4) (ret := (some .long)) (by decide +kernel) rfl ?_
  intro p e s m args below meth c s1 B hml hv
  obtain ⟨rfl, hh, hKn, hJ⟩ := hv
  have hx := B.exec
  have hb := B.bytes
  have hr := B.returns
  have hlk := B.notSynchronized
  have hts0 := atoms_spec (ws := gW yX5_instantOf cX5_instantOf 4 (some .long)) B.pre
  have h2 : ∀ w ∈ gT, w.before ([.ref lp, .long m0, .int s0] : List Value).toArray s = true := fun w hw => hts0 w (List.mem_cons_of_mem _ hw)
  have hown : s.vm.findClass RX5 = some m.cls := findClass_of_methodNamed B.named
  have hl := lv_entry [.ref lp, .long m0, .int s0] (n := 4) (Nat.le_of_ble_eq_true rfl)
  rw [lg_entry_eq]
  generalize (lg_sl [.ref lp, .long m0, .int s0] ++ List.replicate (4 - (lg_sl [.ref lp, .long m0, .int s0]).length) Slot.unset).toArray = ls at hl ⊢
  have b_m0 := zn_i64 m0
  have b_s0 := zn_i32 s0
  have hD := zD_all h2 hKn.1
  have hcl4 := fun (idx k : Nat) (t : zt_T) (h : (idx, 4, k) ∈ gfX5) (hk : fsX5[k]? = some t) => zf_clause (ro := ro) (ms := []) h2 hown hKn.1 gfX5_ok (by decide +kernel) idx 4 k 4 0 fsX5 t h rfl hk
  have kp0 : zc_kept D RTg ro [] s.heap s.heap := zc_kept.refl
  obtain ⟨la, n, z, f0, r0, f1, hn, hc, hz⟩ := id hJ
  obtain ⟨n9, g9, n1, n2⟩ := zh_fT (k := 1) (t := (0, 0, 40)) hh hlp (show RTg[4]? = some (0, 4, 0, fsX5) from rfl) rfl
  cases f1.symm.trans g9
  dsimp only at n1 n2
  clear g9
  have hjL : L.length ≤ 40 := by omega
  refine lv_lload_n hx hb (eX5_instantOf (0, .lload_n 1, 1) (List.mem_of_getElem? (i := 0) rfl)) rfl (lv_at hl 1 rfl) ?_
  refine ff_ldc2 (n := 60) hx hb hown h2 (clX5_ok 49 60 (List.mem_of_getElem? (i := 5) rfl)) (eX5_instantOf (1, .ldc2_w 49, 3) (List.mem_of_getElem? (i := 1) rfl)) (fun v1 e1 => ?_)
  refine ff_lmulR hx hb (eX5_instantOf (4, .lmul, 1) (List.mem_of_getElem? (i := 2) rfl)) (e1) (by omega) (by omega) (fun v2 e2 => ?_)
  refine lv_iload_n hx hb (eX5_instantOf (5, .iload_n 3, 1) (List.mem_of_getElem? (i := 3) rfl)) rfl (lv_at hl 2 rfl) ?_
  refine ff_i2l hx hb (eX5_instantOf (6, .i2l, 1) (List.mem_of_getElem? (i := 4) rfl)) (fun v3 e3 => ?_)
  refine ff_ladd hx hb (eX5_instantOf (7, .ladd, 1) (List.mem_of_getElem? (i := 5) rfl)) (by omega) (by omega) (fun v4 e4 => ?_)
  refine lv_aload_n hx hb (eX5_instantOf (8, .aload_n 0, 1) (List.mem_of_getElem? (i := 6) rfl)) rfl (lv_at hl 0 rfl) ?_
  refine lv_lload_n hx hb (eX5_instantOf (9, .lload_n 1, 1) (List.mem_of_getElem? (i := 7) rfl)) rfl (lv_at hl 1 rfl) ?_
  refine ff_ldc2 (n := 1440) hx hb hown h2 (clX5_ok 35 1440 (List.mem_of_getElem? (i := 3) rfl)) (eX5_instantOf (10, .ldc2_w 35, 3) (List.mem_of_getElem? (i := 8) rfl)) (fun v5 e5 => ?_)
  refine zu_S (vs := [.long m0, .long v5]) (rest := [.ref lp, .long v4]) hx hb hml hown hts0 zu_BT (hJ9_fd1440 l m0 v5 (by omega) (by omega) (by omega)) ⟨rfl, rfl⟩ ⟨by decide, by decide⟩ ⟨by decide, by decide⟩ (tb_3 39 rfl rfl) (tb_1 18 rfl rfl) (tb_3 116 rfl rfl) (tb_3 38 rfl rfl) (show yJ9_floorDiv_f86c9.cls ≠ "java/lang/invoke/MethodHandle" ∧ yJ9_floorDiv_f86c9.cls ≠ "java/lang/invoke/VarHandle" ∧ (parseMethodDescriptor yJ9_floorDiv_f86c9.desc).map (fun d => d.parameters.length) = some 2 by decide +kernel) rfl (fun _ _ _ => trivial) hl.1 (Nat.le_of_ble_eq_true rfl) (eX5_instantOf (13, .invokestatic 37, 3) (List.mem_of_getElem? (i := 9) rfl)) (fun w6 f6 => ?_)
  obtain ⟨v6, rfl, e6⟩ := f6
  refine tz_rowV (As := [.long v6]) (st := [.long v4]) (b := lp) (C := RX5) (Ts := gT) hx hb hml hown h2 (fun _ h => h) (hX5_secondsTo l D cA ro sz H0 lp v6 L hlp) ⟨rfl, rfl⟩ ⟨by decide, by decide⟩ ⟨by decide, by decide⟩ (tb_3 128 rfl rfl) (tb_1 2 rfl rfl) (tb_3 125 rfl rfl) (tb_3 126 rfl rfl) (tb_3 127 rfl rfl) (show yX5_secondsTo.cls ≠ "java/lang/invoke/MethodHandle" ∧ yX5_secondsTo.cls ≠ "java/lang/invoke/VarHandle" ∧ (parseMethodDescriptor yX5_secondsTo.desc).map (fun d => d.parameters.length) = some 1 by decide +kernel) zs_blind (zs_ob hh hlp (show RTg[4]? = some (0, 4, 0, fsX5) from rfl) (zCX5 hKn.1)) (fun U hU hW => ⟨rfl, by rw [hU]; exact hh.l0, zKb s U hW.alike hKn, by rw [hU]; exact hJ⟩) hh.2.2.1 hl.1 (Nat.le_of_ble_eq_true rfl) (eX5_instantOf (16, .invokevirtual 21, 3) (List.mem_of_getElem? (i := 10) rfl)) (fun r7 s7 t7 lo7 g7 f7 l7 => ?_)
  obtain ⟨z7, v7, q7, e7⟩ := f7
  cases q7
  rw [z7, g7]
  have hh7 : zh_ok D cA RTg ro sz H0 s.heap lo7 := ⟨hh.1, hh.2.1, l7, hh.2.2.2⟩
  rw [show v6.toInt = m0.toInt / 1440 by omega] at e7
  have hlb := lsI_b hjL (m0.toInt / 1440)
  refine W.eq (g2 := F0 m 19 ls [.int v7, .long v4]) rfl ?_
  refine ff_i2l hx hb (eX5_instantOf (19, .i2l, 1) (List.mem_of_getElem? (i := 11) rfl)) (fun v8 e8 => ?_)
  refine ff_ladd hx hb (eX5_instantOf (20, .ladd, 1) (List.mem_of_getElem? (i := 12) rfl)) (by omega) (by omega) (fun v9 e9 => ?_)
  exact W.lret hx hb hr (fun t ht hW => ⟨ht, _, rfl, by unfold stI; omega⟩) hh7.2.2.1 (eX5_instantOf (21, .lreturn, 1) (List.mem_of_getElem? (i := 13) rfl))
set_option maxRecDepth 100000 in
set_option maxHeartbeats 4000000 in
theorem hX5_startOf (l : Launch) (D : va_G) (cA : Nat → ClassId) (ro : Nat → Option Nat) (sz : Nat) (H0 : Heap) (lp : Nat) (d : Int64) (L : List Int) (hlp : ro lp = some 4) (hd1 : -1000000000 ≤ d.toInt) (hd2 : d.toInt ≤ 1000000000) : Met l yX5_startOf (gW yX5_startOf cX5_startOf 3 (some .long)) { frames := 1, cells := 0, slots := 0, locals := 24 } (zs_P D cA ro sz H0 (fun H => jLp D cA ro H lp L) [.ref lp, .long d]) (fun _ st oc t => t.heap = st.heap ∧ ∃ r : Int64, oc = .returned (some (.long r)) ∧ r.toInt = 86400 * d.toInt + lsI L d.toInt ∧ -40 ≤ lsI L d.toInt ∧ lsI L d.toInt ≤ 40) 0 0 (zy_fr sz) := by
  refine zy_ofW (cc := cX5_startOf) (maxL := 3) (ret := (some .long)) (by decide +kernel) rfl ?_
  intro p e s m args below meth c s1 B hml hv
  obtain ⟨rfl, hh, hKn, hJ⟩ := hv
  have hx := B.exec
  have hb := B.bytes
  have hr := B.returns
  have hlk := B.notSynchronized
  have hts0 := atoms_spec (ws := gW yX5_startOf cX5_startOf 3 (some .long)) B.pre
  have h2 : ∀ w ∈ gT, w.before ([.ref lp, .long d] : List Value).toArray s = true := fun w hw => hts0 w (List.mem_cons_of_mem _ hw)
  have hown : s.vm.findClass RX5 = some m.cls := findClass_of_methodNamed B.named
  have hl := lv_entry [.ref lp, .long d] (n := 3) (Nat.le_of_ble_eq_true rfl)
  rw [lg_entry_eq]
  generalize (lg_sl [.ref lp, .long d] ++ List.replicate (3 - (lg_sl [.ref lp, .long d]).length) Slot.unset).toArray = ls at hl ⊢
  have b_d := zn_i64 d
  have hD := zD_all h2 hKn.1
  have hcl4 := fun (idx k : Nat) (t : zt_T) (h : (idx, 4, k) ∈ gfX5) (hk : fsX5[k]? = some t) => zf_clause (ro := ro) (ms := []) h2 hown hKn.1 gfX5_ok (by decide +kernel) idx 4 k 4 0 fsX5 t h rfl hk
  have kp0 : zc_kept D RTg ro [] s.heap s.heap := zc_kept.refl
  obtain ⟨la, n, z, f0, r0, f1, hn, hc, hz⟩ := id hJ
  obtain ⟨n9, g9, n1, n2⟩ := zh_fT (k := 1) (t := (0, 0, 40)) hh hlp (show RTg[4]? = some (0, 4, 0, fsX5) from rfl) rfl
  cases f1.symm.trans g9
  dsimp only at n1 n2
  clear g9
  have hjL : L.length ≤ 40 := by omega
  refine lv_lload_n hx hb (eX5_startOf (0, .lload_n 1, 1) (List.mem_of_getElem? (i := 0) rfl)) rfl (lv_at hl 1 rfl) ?_
  refine ff_ldc2 (n := 86400) hx hb hown h2 (clX5_ok 19 86400 (List.mem_of_getElem? (i := 0) rfl)) (eX5_startOf (1, .ldc2_w 19, 3) (List.mem_of_getElem? (i := 1) rfl)) (fun v1 e1 => ?_)
  refine ff_lmulR hx hb (eX5_startOf (4, .lmul, 1) (List.mem_of_getElem? (i := 2) rfl)) (e1) (by omega) (by omega) (fun v2 e2 => ?_)
  refine lv_aload_n hx hb (eX5_startOf (5, .aload_n 0, 1) (List.mem_of_getElem? (i := 3) rfl)) rfl (lv_at hl 0 rfl) ?_
  refine lv_lload_n hx hb (eX5_startOf (6, .lload_n 1, 1) (List.mem_of_getElem? (i := 4) rfl)) rfl (lv_at hl 1 rfl) ?_
  refine tz_rowV (As := [.long d]) (st := [.long v2]) (b := lp) (C := RX5) (Ts := gT) hx hb hml hown h2 (fun _ h => h) (hX5_secondsTo l D cA ro sz H0 lp d L hlp) ⟨rfl, rfl⟩ ⟨by decide, by decide⟩ ⟨by decide, by decide⟩ (tb_3 128 rfl rfl) (tb_1 2 rfl rfl) (tb_3 125 rfl rfl) (tb_3 126 rfl rfl) (tb_3 127 rfl rfl) (show yX5_secondsTo.cls ≠ "java/lang/invoke/MethodHandle" ∧ yX5_secondsTo.cls ≠ "java/lang/invoke/VarHandle" ∧ (parseMethodDescriptor yX5_secondsTo.desc).map (fun d => d.parameters.length) = some 1 by decide +kernel) zs_blind (zs_ob hh hlp (show RTg[4]? = some (0, 4, 0, fsX5) from rfl) (zCX5 hKn.1)) (fun U hU hW => ⟨rfl, by rw [hU]; exact hh.l0, zKb s U hW.alike hKn, by rw [hU]; exact hJ⟩) hh.2.2.1 hl.1 (Nat.le_of_ble_eq_true rfl) (eX5_startOf (7, .invokevirtual 21, 3) (List.mem_of_getElem? (i := 5) rfl)) (fun r3 s3 t3 lo3 g3 f3 l3 => ?_)
  obtain ⟨z3, v3, q3, e3⟩ := f3
  cases q3
  rw [z3, g3]
  have hh3 : zh_ok D cA RTg ro sz H0 s.heap lo3 := ⟨hh.1, hh.2.1, l3, hh.2.2.2⟩
  have hlb := lsI_b hjL d.toInt
  refine W.eq (g2 := F0 m 10 ls [.int v3, .long v2]) rfl ?_
  refine ff_i2l hx hb (eX5_startOf (10, .i2l, 1) (List.mem_of_getElem? (i := 6) rfl)) (fun v4 e4 => ?_)
  refine ff_ladd hx hb (eX5_startOf (11, .ladd, 1) (List.mem_of_getElem? (i := 7) rfl)) (by omega) (by omega) (fun v5 e5 => ?_)
  exact W.lret hx hb hr (fun t ht hW => ⟨ht, _, rfl, by omega⟩) hh3.2.2.1 (eX5_startOf (12, .lreturn, 1) (List.mem_of_getElem? (i := 8) rfl))
set_option maxRecDepth 100000 in
set_option maxHeartbeats 4000000 in
theorem hX5_holds (l : Launch) (D : va_G) (cA : Nat → ClassId) (ro : Nat → Option Nat) (sz : Nat) (H0 : Heap) (lp : Nat) (t0 : Int64) (L : List Int) (hlp : ro lp = some 4)  : Met l yX5_holds (gW yX5_holds cX5_holds 3 (some .boolean)) { frames := 2, cells := 0, slots := 0, locals := 46 } (zs_P D cA ro sz H0 (fun H => jLp D cA ro H lp L) [.ref lp, .long t0]) (fun _ st oc t => t.heap = st.heap ∧ ∃ r : Int32, oc = .returned (some (.int r)) ∧ ((r.toInt = 1 ∧ tOK t0.toInt L) ∨ (r.toInt = 0 ∧ ¬ tOK t0.toInt L))) 0 0 (zy_fr sz) := by
  refine zy_ofW (cc := cX5_holds) (maxL := 3) (ret := (some .boolean)) (by decide +kernel) rfl ?_
  intro p e s m args below meth c s1 B hml hv
  obtain ⟨rfl, hh, hKn, hJ⟩ := hv
  have hx := B.exec
  have hb := B.bytes
  have hr := B.returns
  have hlk := B.notSynchronized
  have hts0 := atoms_spec (ws := gW yX5_holds cX5_holds 3 (some .boolean)) B.pre
  have h2 : ∀ w ∈ gT, w.before ([.ref lp, .long t0] : List Value).toArray s = true := fun w hw => hts0 w (List.mem_cons_of_mem _ hw)
  have hown : s.vm.findClass RX5 = some m.cls := findClass_of_methodNamed B.named
  have hl := lv_entry [.ref lp, .long t0] (n := 3) (Nat.le_of_ble_eq_true rfl)
  rw [lg_entry_eq]
  generalize (lg_sl [.ref lp, .long t0] ++ List.replicate (3 - (lg_sl [.ref lp, .long t0]).length) Slot.unset).toArray = ls at hl ⊢
  have b_t0 := zn_i64 t0
  have hD := zD_all h2 hKn.1
  have hcl4 := fun (idx k : Nat) (t : zt_T) (h : (idx, 4, k) ∈ gfX5) (hk : fsX5[k]? = some t) => zf_clause (ro := ro) (ms := []) h2 hown hKn.1 gfX5_ok (by decide +kernel) idx 4 k 4 0 fsX5 t h rfl hk
  have kp0 : zc_kept D RTg ro [] s.heap s.heap := zc_kept.refl
  obtain ⟨la, n, z, f0, r0, f1, hn, hc, hz⟩ := id hJ
  obtain ⟨n9, g9, n1, n2⟩ := zh_fT (k := 1) (t := (0, 0, 40)) hh hlp (show RTg[4]? = some (0, 4, 0, fsX5) from rfl) rfl
  cases f1.symm.trans g9
  dsimp only at n1 n2
  clear g9
  have hjL : L.length ≤ 40 := by omega
  refine lv_lload_n hx hb (eX5_holds (0, .lload_n 1, 1) (List.mem_of_getElem? (i := 0) rfl)) rfl (lv_at hl 1 rfl) ?_
  refine lv_aload_n hx hb (eX5_holds (1, .aload_n 0, 1) (List.mem_of_getElem? (i := 1) rfl)) rfl (lv_at hl 0 rfl) ?_
  refine ff_ldc2 (n := (-365961662)) hx hb hown h2 (clX5_ok 27 (-365961662) (List.mem_of_getElem? (i := 1) rfl)) (eX5_holds (2, .ldc2_w 27, 3) (List.mem_of_getElem? (i := 2) rfl)) (fun v1 e1 => ?_)
  refine tz_rowV (As := [.long v1]) (st := [.long t0]) (b := lp) (C := RX5) (Ts := gT) hx hb hml hown h2 (fun _ h => h) (hX5_startOf l D cA ro sz H0 lp v1 L hlp (by omega) (by omega)) ⟨rfl, rfl⟩ ⟨by decide, by decide⟩ ⟨by decide, by decide⟩ (tb_3 144 rfl rfl) (tb_1 2 rfl rfl) (tb_3 141 rfl rfl) (tb_3 142 rfl rfl) (tb_3 143 rfl rfl) (show yX5_startOf.cls ≠ "java/lang/invoke/MethodHandle" ∧ yX5_startOf.cls ≠ "java/lang/invoke/VarHandle" ∧ (parseMethodDescriptor yX5_startOf.desc).map (fun d => d.parameters.length) = some 1 by decide +kernel) zs_blind (zs_ob hh hlp (show RTg[4]? = some (0, 4, 0, fsX5) from rfl) (zCX5 hKn.1)) (fun U hU hW => ⟨rfl, by rw [hU]; exact hh.l0, zKb s U hW.alike hKn, by rw [hU]; exact hJ⟩) hh.2.2.1 hl.1 (Nat.le_of_ble_eq_true rfl) (eX5_holds (5, .invokevirtual 29, 3) (List.mem_of_getElem? (i := 3) rfl)) (fun r2 s2 t2 lo2 g2 f2 l2 => ?_)
  obtain ⟨z2, v2, q2, e2⟩ := f2
  cases q2
  rw [z2, g2]
  have hh2 : zh_ok D cA RTg ro sz H0 s.heap lo2 := ⟨hh.1, hh.2.1, l2, hh.2.2.2⟩
  rw [show v1.toInt = (-365961662) by omega] at e2
  refine W.eq (g2 := F0 m 8 ls [.long v2, .long t0]) rfl ?_
  refine ff_lcmp hx hb (eX5_holds (8, .lcmp, 1) (List.mem_of_getElem? (i := 4) rfl)) (fun v3 e3 => ?_)
  refine ff_if_lt hx hb (eX5_holds (9, .ifCond .lt 19, 3) (List.mem_of_getElem? (i := 5) rfl)) (tgt := 28) rfl (fun c4 => ?_) (fun c4 => ?_)
  · skip
    refine ff_iconst hx hb (eX5_holds (28, .iconst 0, 1) (List.mem_of_getElem? (i := 14) rfl)) (by decide) (by decide) (fun v5 e5 => ?_)
    exact W.zret hx hb hr (zn_bool (by omega) (by omega)) (fun t ht hW => ⟨ht, _, rfl, by unfold tOK; omega⟩) hh2.2.2.1 (eX5_holds (29, .ireturn, 1) (List.mem_of_getElem? (i := 15) rfl))
  · skip
    refine lv_lload_n hx hb (eX5_holds (12, .lload_n 1, 1) (List.mem_of_getElem? (i := 6) rfl)) rfl (lv_at hl 1 rfl) ?_
    refine lv_aload_n hx hb (eX5_holds (13, .aload_n 0, 1) (List.mem_of_getElem? (i := 7) rfl)) rfl (lv_at hl 0 rfl) ?_
    refine ff_ldc2 (n := 364522972) hx hb hown h2 (clX5_ok 33 364522972 (List.mem_of_getElem? (i := 2) rfl)) (eX5_holds (14, .ldc2_w 33, 3) (List.mem_of_getElem? (i := 8) rfl)) (fun v6 e6 => ?_)
    refine tz_rowV (As := [.long v6]) (st := [.long t0]) (b := lp) (C := RX5) (Ts := gT) hx hb hml hown h2 (fun _ h => h) (hX5_startOf l D cA ro sz H0 lp v6 L hlp (by omega) (by omega)) ⟨rfl, rfl⟩ ⟨by decide, by decide⟩ ⟨by decide, by decide⟩ (tb_3 144 rfl rfl) (tb_1 2 rfl rfl) (tb_3 141 rfl rfl) (tb_3 142 rfl rfl) (tb_3 143 rfl rfl) (show yX5_startOf.cls ≠ "java/lang/invoke/MethodHandle" ∧ yX5_startOf.cls ≠ "java/lang/invoke/VarHandle" ∧ (parseMethodDescriptor yX5_startOf.desc).map (fun d => d.parameters.length) = some 1 by decide +kernel) zs_blind (zs_ob hh2 hlp (show RTg[4]? = some (0, 4, 0, fsX5) from rfl) (zCX5 hKn.1)) (fun U hU hW => ⟨rfl, by rw [hU]; exact hh2.l0, zKb s U hW.alike hKn, by rw [hU]; exact hJ⟩) hh2.2.2.1 hl.1 (Nat.le_of_ble_eq_true rfl) (eX5_holds (17, .invokevirtual 29, 3) (List.mem_of_getElem? (i := 9) rfl)) (fun r7 s7 t7 lo7 g7 f7 l7 => ?_)
    obtain ⟨z7, v7, q7, e7⟩ := f7
    cases q7
    rw [z7, g7]
    have hh7 : zh_ok D cA RTg ro sz H0 s.heap lo7 := ⟨hh2.1, hh2.2.1, l7, hh2.2.2.2⟩
    rw [show v6.toInt = 364522972 by omega] at e7
    refine W.eq (g2 := F0 m 20 ls [.long v7, .long t0]) rfl ?_
    refine ff_lcmp hx hb (eX5_holds (20, .lcmp, 1) (List.mem_of_getElem? (i := 10) rfl)) (fun v8 e8 => ?_)
    refine ff_if_ge hx hb (eX5_holds (21, .ifCond .ge 7, 3) (List.mem_of_getElem? (i := 11) rfl)) (tgt := 28) rfl (fun c9 => ?_) (fun c9 => ?_)
    · skip
      refine ff_iconst hx hb (eX5_holds (28, .iconst 0, 1) (List.mem_of_getElem? (i := 14) rfl)) (by decide) (by decide) (fun v10 e10 => ?_)
      exact W.zret hx hb hr (zn_bool (by omega) (by omega)) (fun t ht hW => ⟨ht, _, rfl, by unfold tOK; omega⟩) hh7.2.2.1 (eX5_holds (29, .ireturn, 1) (List.mem_of_getElem? (i := 15) rfl))
    · skip
      refine ff_iconst hx hb (eX5_holds (24, .iconst 1, 1) (List.mem_of_getElem? (i := 12) rfl)) (by decide) (by decide) (fun v11 e11 => ?_)
      refine lv_goto hx hb (eX5_holds (25, .goto 4, 3) (List.mem_of_getElem? (i := 13) rfl)) (tgt := 29) rfl ?_
      exact W.zret hx hb hr (zn_bool (by omega) (by omega)) (fun t ht hW => ⟨ht, _, rfl, by unfold tOK; omega⟩) hh7.2.2.1 (eX5_holds (29, .ireturn, 1) (List.mem_of_getElem? (i := 15) rfl))
set_option maxRecDepth 100000 in
set_option maxHeartbeats 4000000 in
theorem hX5_lastSecondOf (l : Launch) (D : va_G) (cA : Nat → ClassId) (ro : Nat → Option Nat) (sz : Nat) (H0 : Heap) (lp : Nat) (m0 : Int64) (L : List Int) (hlp : ro lp = some 4) (hm1 : -1000000000000 ≤ m0.toInt) (hm2 : m0.toInt ≤ 1000000000000) : Met l yX5_lastSecondOf (gW yX5_lastSecondOf cX5_lastSecondOf 5 (some .int)) { frames := 1, cells := 0, slots := 0, locals := 25 } (zs_P D cA ro sz H0 (fun H => jLp D cA ro H lp L) [.ref lp, .long m0]) (fun _ st oc t => t.heap = st.heap ∧ ∃ r : Int32, oc = .returned (some (.int r)) ∧ ((r.toInt = 60 ∧ m0.toInt % 1440 = 1439 ∧ m0.toInt / 1440 ∈ L) ∨ (r.toInt = 59 ∧ ¬ (m0.toInt % 1440 = 1439 ∧ m0.toInt / 1440 ∈ L)))) 0 0 (zy_fr sz) := by
  refine zy_ofW (cc := cX5_lastSecondOf) (maxL := 5) (ret := (some .int)) (by decide +kernel) rfl ?_
  intro p e s m args below meth c s1 B hml hv
  obtain ⟨rfl, hh, hKn, hJ⟩ := hv
  have hx := B.exec
  have hb := B.bytes
  have hr := B.returns
  have hlk := B.notSynchronized
  have hts0 := atoms_spec (ws := gW yX5_lastSecondOf cX5_lastSecondOf 5 (some .int)) B.pre
  have h2 : ∀ w ∈ gT, w.before ([.ref lp, .long m0] : List Value).toArray s = true := fun w hw => hts0 w (List.mem_cons_of_mem _ hw)
  have hown : s.vm.findClass RX5 = some m.cls := findClass_of_methodNamed B.named
  have hl := lv_entry [.ref lp, .long m0] (n := 5) (Nat.le_of_ble_eq_true rfl)
  rw [lg_entry_eq]
  generalize (lg_sl [.ref lp, .long m0] ++ List.replicate (5 - (lg_sl [.ref lp, .long m0]).length) Slot.unset).toArray = ls at hl ⊢
  have b_m0 := zn_i64 m0
  have hD := zD_all h2 hKn.1
  have hcl4 := fun (idx k : Nat) (t : zt_T) (h : (idx, 4, k) ∈ gfX5) (hk : fsX5[k]? = some t) => zf_clause (ro := ro) (ms := []) h2 hown hKn.1 gfX5_ok (by decide +kernel) idx 4 k 4 0 fsX5 t h rfl hk
  have kp0 : zc_kept D RTg ro [] s.heap s.heap := zc_kept.refl
  obtain ⟨la, n, z, f0, r0, f1, hn, hc, hz⟩ := id hJ
  obtain ⟨n9, g9, n1, n2⟩ := zh_fT (k := 1) (t := (0, 0, 40)) hh hlp (show RTg[4]? = some (0, 4, 0, fsX5) from rfl) rfl
  cases f1.symm.trans g9
  dsimp only at n1 n2
  clear g9
  have hjL : L.length ≤ 40 := by omega
  refine lv_lload_n hx hb (eX5_lastSecondOf (0, .lload_n 1, 1) (List.mem_of_getElem? (i := 0) rfl)) rfl (lv_at hl 1 rfl) ?_
  refine ff_ldc2 (n := 1440) hx hb hown h2 (clX5_ok 35 1440 (List.mem_of_getElem? (i := 3) rfl)) (eX5_lastSecondOf (1, .ldc2_w 35, 3) (List.mem_of_getElem? (i := 1) rfl)) (fun v1 e1 => ?_)
  refine zu_S (vs := [.long m0, .long v1]) (rest := []) hx hb hml hown hts0 zu_BT (hJ9_fd1440 l m0 v1 (by omega) (by omega) (by omega)) ⟨rfl, rfl⟩ ⟨by decide, by decide⟩ ⟨by decide, by decide⟩ (tb_3 39 rfl rfl) (tb_1 18 rfl rfl) (tb_3 116 rfl rfl) (tb_3 38 rfl rfl) (show yJ9_floorDiv_f86c9.cls ≠ "java/lang/invoke/MethodHandle" ∧ yJ9_floorDiv_f86c9.cls ≠ "java/lang/invoke/VarHandle" ∧ (parseMethodDescriptor yJ9_floorDiv_f86c9.desc).map (fun d => d.parameters.length) = some 2 by decide +kernel) rfl (fun _ _ _ => trivial) hl.1 (Nat.le_of_ble_eq_true rfl) (eX5_lastSecondOf (4, .invokestatic 37, 3) (List.mem_of_getElem? (i := 2) rfl)) (fun w2 f2 => ?_)
  obtain ⟨v2, rfl, e2⟩ := f2
  refine lv_lstore_n hx hb (eX5_lastSecondOf (7, .lstore_n 3, 1) (List.mem_of_getElem? (i := 3) rfl)) rfl hl (by decide) rfl (fun ls3 hl3 => ?_)
  refine lv_lload_n hx hb (eX5_lastSecondOf (8, .lload_n 1, 1) (List.mem_of_getElem? (i := 4) rfl)) rfl (lv_at hl3 2 rfl) ?_
  refine lv_lload_n hx hb (eX5_lastSecondOf (9, .lload_n 3, 1) (List.mem_of_getElem? (i := 5) rfl)) rfl (lv_at hl3 0 rfl) ?_
  refine ff_ldc2 (n := 1440) hx hb hown h2 (clX5_ok 35 1440 (List.mem_of_getElem? (i := 3) rfl)) (eX5_lastSecondOf (10, .ldc2_w 35, 3) (List.mem_of_getElem? (i := 6) rfl)) (fun v4 e4 => ?_)
  refine ff_lmulR hx hb (eX5_lastSecondOf (13, .lmul, 1) (List.mem_of_getElem? (i := 7) rfl)) (e4) (by omega) (by omega) (fun v5 e5 => ?_)
  refine ff_lsub hx hb (eX5_lastSecondOf (14, .lsub, 1) (List.mem_of_getElem? (i := 8) rfl)) (by omega) (by omega) (fun v6 e6 => ?_)
  refine ff_ldc2 (n := 1439) hx hb hown h2 (clX5_ok 43 1439 (List.mem_of_getElem? (i := 4) rfl)) (eX5_lastSecondOf (15, .ldc2_w 43, 3) (List.mem_of_getElem? (i := 9) rfl)) (fun v7 e7 => ?_)
  refine ff_lcmp hx hb (eX5_lastSecondOf (18, .lcmp, 1) (List.mem_of_getElem? (i := 10) rfl)) (fun v8 e8 => ?_)
  refine ff_if_ne hx hb (eX5_lastSecondOf (19, .ifCond .ne 16, 3) (List.mem_of_getElem? (i := 11) rfl)) (tgt := 35) rfl (fun c9 => ?_) (fun c9 => ?_)
  · skip
    refine ff_bipush hx hb (eX5_lastSecondOf (35, .bipush 59, 2) (List.mem_of_getElem? (i := 18) rfl)) (by decide) (by decide) (fun v10 e10 => ?_)
    exact W.zret hx hb hr rfl (fun t ht hW => ⟨ht, _, rfl, Or.inr ⟨by omega, fun g => by omega⟩⟩) hh.2.2.1 (eX5_lastSecondOf (37, .ireturn, 1) (List.mem_of_getElem? (i := 19) rfl))
  · skip
    refine lv_aload_n hx hb (eX5_lastSecondOf (22, .aload_n 0, 1) (List.mem_of_getElem? (i := 12) rfl)) rfl (lv_at hl3 1 rfl) ?_
    refine lv_lload_n hx hb (eX5_lastSecondOf (23, .lload_n 3, 1) (List.mem_of_getElem? (i := 13) rfl)) rfl (lv_at hl3 0 rfl) ?_
    refine tz_rowV (As := [.long v2]) (st := []) (b := lp) (C := RX5) (Ts := gT) hx hb hml hown h2 (fun _ h => h) (hX5_has l D cA ro sz H0 lp v2 L hlp) ⟨rfl, rfl⟩ ⟨by decide, by decide⟩ ⟨by decide, by decide⟩ (tb_3 73 rfl rfl) (tb_1 2 rfl rfl) (tb_3 118 rfl rfl) (tb_3 71 rfl rfl) (tb_3 72 rfl rfl) (show yX5_has.cls ≠ "java/lang/invoke/MethodHandle" ∧ yX5_has.cls ≠ "java/lang/invoke/VarHandle" ∧ (parseMethodDescriptor yX5_has.desc).map (fun d => d.parameters.length) = some 1 by decide +kernel) zs_blind (zs_ob hh hlp (show RTg[4]? = some (0, 4, 0, fsX5) from rfl) (zCX5 hKn.1)) (fun U hU hW => ⟨rfl, by rw [hU]; exact hh.l0, zKb s U hW.alike hKn, by rw [hU]; exact hJ⟩) hh.2.2.1 hl3.1 (Nat.le_of_ble_eq_true rfl) (eX5_lastSecondOf (24, .invokevirtual 45, 3) (List.mem_of_getElem? (i := 14) rfl)) (fun r11 s11 t11 lo11 g11 f11 l11 => ?_)
    obtain ⟨z11, v11, q11, e11⟩ := f11
    cases q11
    rw [z11, g11]
    have hh11 : zh_ok D cA RTg ro sz H0 s.heap lo11 := ⟨hh.1, hh.2.1, l11, hh.2.2.2⟩
    rw [show v2.toInt = m0.toInt / 1440 by omega] at e11
    refine W.eq (g2 := F0 m 27 ls3 [.int v11]) rfl ?_
    refine ff_if_eq hx hb (eX5_lastSecondOf (27, .ifCond .eq 8, 3) (List.mem_of_getElem? (i := 15) rfl)) (tgt := 35) rfl (fun c12 => ?_) (fun c12 => ?_)
    · skip
      refine ff_bipush hx hb (eX5_lastSecondOf (35, .bipush 59, 2) (List.mem_of_getElem? (i := 18) rfl)) (by decide) (by decide) (fun v13 e13 => ?_)
      exact W.zret hx hb hr rfl (fun t ht hW => ⟨ht, _, rfl, Or.inr ⟨by omega, fun g => by rcases e11 with g1 | g1; exfalso; omega; exact g1.2 g.2⟩⟩) hh11.2.2.1 (eX5_lastSecondOf (37, .ireturn, 1) (List.mem_of_getElem? (i := 19) rfl))
    · skip
      refine ff_bipush hx hb (eX5_lastSecondOf (30, .bipush 60, 2) (List.mem_of_getElem? (i := 16) rfl)) (by decide) (by decide) (fun v14 e14 => ?_)
      refine lv_goto hx hb (eX5_lastSecondOf (32, .goto 5, 3) (List.mem_of_getElem? (i := 17) rfl)) (tgt := 37) rfl ?_
      exact W.zret hx hb hr rfl (fun t ht hW => ⟨ht, _, rfl, Or.inl ⟨by omega, by omega, by rcases e11 with g | g; exact g.2; exfalso; omega⟩⟩) hh11.2.2.1 (eX5_lastSecondOf (37, .ireturn, 1) (List.mem_of_getElem? (i := 19) rfl))
set_option maxRecDepth 100000 in
set_option maxHeartbeats 4000000 in
theorem hJ9_minL (l : Launch) (x : Int64) (y : Int64)  : zu_M l yJ9_min_f86c9 (gW yJ9_min_f86c9 cJ9_min_f86c9 4 (some .long)) { frames := 0, cells := 0, slots := 0, locals := 0 } (fun vs => vs = [.long x, .long y]) zT (fun _ w => ∃ r : Int64, w = .long r ∧ ((x.toInt ≤ y.toInt ∧ r.toInt = x.toInt) ∨ (y.toInt < x.toInt ∧ r.toInt = y.toInt))) := by
  refine zy_ofW (cc := cJ9_min_f86c9) (maxL := 4) (ret := (some .long)) (by decide +kernel) rfl ?_
  intro p e s m args below meth c s1 B hml hv
  obtain ⟨vs, rfl, rfl, hKp⟩ := hv
  have hx := B.exec
  have hb := B.bytes
  have hr := B.returns
  have hlk := B.notSynchronized
  have hts0 := atoms_spec (ws := gW yJ9_min_f86c9 cJ9_min_f86c9 4 (some .long)) B.pre
  have h2 : ∀ w ∈ gT, w.before ([.long x, .long y] : List Value).toArray s = true := fun w hw => hts0 w (List.mem_cons_of_mem _ hw)
  have hown : s.vm.findClass RJ9 = some m.cls := findClass_of_methodNamed B.named
  have hl := lv_entry [.long x, .long y] (n := 4) (Nat.le_of_ble_eq_true rfl)
  rw [lg_entry_eq]
  generalize (lg_sl [.long x, .long y] ++ List.replicate (4 - (lg_sl [.long x, .long y]).length) Slot.unset).toArray = ls at hl ⊢
  have b_x := zn_i64 x
  have b_y := zn_i64 y
  refine lv_lload_n hx hb (eJ9_min_f86c9 (0, .lload_n 0, 1) (List.mem_of_getElem? (i := 0) rfl)) rfl (lv_at hl 0 rfl) ?_
  refine lv_lload_n hx hb (eJ9_min_f86c9 (1, .lload_n 2, 1) (List.mem_of_getElem? (i := 1) rfl)) rfl (lv_at hl 1 rfl) ?_
  refine ff_lcmp hx hb (eJ9_min_f86c9 (2, .lcmp, 1) (List.mem_of_getElem? (i := 2) rfl)) (fun v1 e1 => ?_)
  refine ff_if_gt hx hb (eJ9_min_f86c9 (3, .ifCond .gt 7, 3) (List.mem_of_getElem? (i := 3) rfl)) (tgt := 10) rfl (fun c2 => ?_) (fun c2 => ?_)
  · skip
    refine lv_lload_n hx hb (eJ9_min_f86c9 (10, .lload_n 2, 1) (List.mem_of_getElem? (i := 6) rfl)) rfl (lv_at hl 1 rfl) ?_
    exact zu_lret (y := yJ9_min_f86c9) (ws := []) (rm := {}) hx hb hr hlk ⟨_, rfl, by omega⟩ (eJ9_min_f86c9 (11, .lreturn, 1) (List.mem_of_getElem? (i := 7) rfl))
  · skip
    refine lv_lload_n hx hb (eJ9_min_f86c9 (6, .lload_n 0, 1) (List.mem_of_getElem? (i := 4) rfl)) rfl (lv_at hl 0 rfl) ?_
    refine lv_goto hx hb (eJ9_min_f86c9 (7, .goto 4, 3) (List.mem_of_getElem? (i := 5) rfl)) (tgt := 11) rfl ?_
    exact zu_lret (y := yJ9_min_f86c9) (ws := []) (rm := {}) hx hb hr hlk ⟨_, rfl, by omega⟩ (eJ9_min_f86c9 (11, .lreturn, 1) (List.mem_of_getElem? (i := 7) rfl))
set_option maxRecDepth 100000 in
set_option maxHeartbeats 4000000 in
theorem hX5_minuteAt (l : Launch) (D : va_G) (cA : Nat → ClassId) (ro : Nat → Option Nat) (sz : Nat) (H0 : Heap) (lp : Nat) (t0 : Int64) (L : List Int) (hlp : ro lp = some 4) (ht1 : -40000000000000 ≤ t0.toInt) (ht2 : t0.toInt ≤ 40000000000000) : Met l yX5_minuteAt (gW yX5_minuteAt cX5_minuteAt 5 (some .long)) { frames := 2, cells := 0, slots := 0, locals := 46 } (zs_P D cA ro sz H0 (fun H => jLp D cA ro H lp L) [.ref lp, .long t0]) (fun _ st oc t => t.heap = st.heap ∧ ∃ r : Int64, oc = .returned (some (.long r)) ∧ rdM L t0.toInt r.toInt) 0 0 (zy_fr sz) := by
  refine zy_ofW (cc := cX5_minuteAt) (maxL := 5) (ret := (some .long)) (by decide +kernel) rfl ?_
  intro p e s m args below meth c s1 B hml hv
  obtain ⟨rfl, hh, hKn, hJ⟩ := hv
  have hx := B.exec
  have hb := B.bytes
  have hr := B.returns
  have hlk := B.notSynchronized
  have hts0 := atoms_spec (ws := gW yX5_minuteAt cX5_minuteAt 5 (some .long)) B.pre
  have h2 : ∀ w ∈ gT, w.before ([.ref lp, .long t0] : List Value).toArray s = true := fun w hw => hts0 w (List.mem_cons_of_mem _ hw)
  have hown : s.vm.findClass RX5 = some m.cls := findClass_of_methodNamed B.named
  have hl := lv_entry [.ref lp, .long t0] (n := 5) (Nat.le_of_ble_eq_true rfl)
  rw [lg_entry_eq]
  generalize (lg_sl [.ref lp, .long t0] ++ List.replicate (5 - (lg_sl [.ref lp, .long t0]).length) Slot.unset).toArray = ls at hl ⊢
  have b_t0 := zn_i64 t0
  have hD := zD_all h2 hKn.1
  have hcl4 := fun (idx k : Nat) (t : zt_T) (h : (idx, 4, k) ∈ gfX5) (hk : fsX5[k]? = some t) => zf_clause (ro := ro) (ms := []) h2 hown hKn.1 gfX5_ok (by decide +kernel) idx 4 k 4 0 fsX5 t h rfl hk
  have kp0 : zc_kept D RTg ro [] s.heap s.heap := zc_kept.refl
  obtain ⟨la, n, z, f0, r0, f1, hn, hc, hz⟩ := id hJ
  obtain ⟨n9, g9, n1, n2⟩ := zh_fT (k := 1) (t := (0, 0, 40)) hh hlp (show RTg[4]? = some (0, 4, 0, fsX5) from rfl) rfl
  cases f1.symm.trans g9
  dsimp only at n1 n2
  clear g9
  have hjL : L.length ≤ 40 := by omega
  refine lv_lload_n hx hb (eX5_minuteAt (0, .lload_n 1, 1) (List.mem_of_getElem? (i := 0) rfl)) rfl (lv_at hl 1 rfl) ?_
  refine ff_ldc2 (n := 86400) hx hb hown h2 (clX5_ok 19 86400 (List.mem_of_getElem? (i := 0) rfl)) (eX5_minuteAt (1, .ldc2_w 19, 3) (List.mem_of_getElem? (i := 1) rfl)) (fun v1 e1 => ?_)
  refine zu_S (vs := [.long t0, .long v1]) (rest := []) hx hb hml hown hts0 zu_BT (hJ9_fd86400 l t0 v1 (by omega) (by omega) (by omega)) ⟨rfl, rfl⟩ ⟨by decide, by decide⟩ ⟨by decide, by decide⟩ (tb_3 39 rfl rfl) (tb_1 18 rfl rfl) (tb_3 116 rfl rfl) (tb_3 38 rfl rfl) (show yJ9_floorDiv_f86c9.cls ≠ "java/lang/invoke/MethodHandle" ∧ yJ9_floorDiv_f86c9.cls ≠ "java/lang/invoke/VarHandle" ∧ (parseMethodDescriptor yJ9_floorDiv_f86c9.desc).map (fun d => d.parameters.length) = some 2 by decide +kernel) rfl (fun _ _ _ => trivial) hl.1 (Nat.le_of_ble_eq_true rfl) (eX5_minuteAt (4, .invokestatic 37, 3) (List.mem_of_getElem? (i := 2) rfl)) (fun w2 f2 => ?_)
  obtain ⟨v2, rfl, e2⟩ := f2
  refine lv_lstore_n hx hb (eX5_minuteAt (7, .lstore_n 3, 1) (List.mem_of_getElem? (i := 3) rfl)) rfl hl (by decide) rfl (fun ls3 hl3 => ?_)
  refine lv_aload_n hx hb (eX5_minuteAt (8, .aload_n 0, 1) (List.mem_of_getElem? (i := 4) rfl)) rfl (lv_at hl3 1 rfl) ?_
  refine lv_lload_n hx hb (eX5_minuteAt (9, .lload_n 3, 1) (List.mem_of_getElem? (i := 5) rfl)) rfl (lv_at hl3 0 rfl) ?_
  refine tz_rowV (As := [.long v2]) (st := []) (b := lp) (C := RX5) (Ts := gT) hx hb hml hown h2 (fun _ h => h) (hX5_startOf l D cA ro sz H0 lp v2 L hlp (by omega) (by omega)) ⟨rfl, rfl⟩ ⟨by decide, by decide⟩ ⟨by decide, by decide⟩ (tb_3 144 rfl rfl) (tb_1 2 rfl rfl) (tb_3 141 rfl rfl) (tb_3 142 rfl rfl) (tb_3 143 rfl rfl) (show yX5_startOf.cls ≠ "java/lang/invoke/MethodHandle" ∧ yX5_startOf.cls ≠ "java/lang/invoke/VarHandle" ∧ (parseMethodDescriptor yX5_startOf.desc).map (fun d => d.parameters.length) = some 1 by decide +kernel) zs_blind (zs_ob hh hlp (show RTg[4]? = some (0, 4, 0, fsX5) from rfl) (zCX5 hKn.1)) (fun U hU hW => ⟨rfl, by rw [hU]; exact hh.l0, zKb s U hW.alike hKn, by rw [hU]; exact hJ⟩) hh.2.2.1 hl3.1 (Nat.le_of_ble_eq_true rfl) (eX5_minuteAt (10, .invokevirtual 29, 3) (List.mem_of_getElem? (i := 6) rfl)) (fun r4 s4 t4 lo4 g4 f4 l4 => ?_)
  obtain ⟨z4, v4, q4, e4⟩ := f4
  cases q4
  rw [z4, g4]
  have hh4 : zh_ok D cA RTg ro sz H0 s.heap lo4 := ⟨hh.1, hh.2.1, l4, hh.2.2.2⟩
  refine W.eq (g2 := F0 m 13 ls3 [.long v4]) rfl ?_
  refine lv_lload_n hx hb (eX5_minuteAt (13, .lload_n 1, 1) (List.mem_of_getElem? (i := 7) rfl)) rfl (lv_at hl3 2 rfl) ?_
  refine ff_lcmp hx hb (eX5_minuteAt (14, .lcmp, 1) (List.mem_of_getElem? (i := 8) rfl)) (fun v5 e5 => ?_)
  refine ff_if_le hx hb (eX5_minuteAt (15, .ifCond .le 10, 3) (List.mem_of_getElem? (i := 9) rfl)) (tgt := 25) rfl (fun c6 => ?_) (fun c6 => ?_)
  · skip
    refine lv_aload_n hx hb (eX5_minuteAt (25, .aload_n 0, 1) (List.mem_of_getElem? (i := 15) rfl)) rfl (lv_at hl3 1 rfl) ?_
    refine lv_lload_n hx hb (eX5_minuteAt (26, .lload_n 3, 1) (List.mem_of_getElem? (i := 16) rfl)) rfl (lv_at hl3 0 rfl) ?_
    refine ff_lconst hx hb (eX5_minuteAt (27, .lconst 1, 1) (List.mem_of_getElem? (i := 17) rfl)) rfl (fun v7 e7 => ?_)
    refine ff_ladd hx hb (eX5_minuteAt (28, .ladd, 1) (List.mem_of_getElem? (i := 18) rfl)) (by omega) (by omega) (fun v8 e8 => ?_)
    refine tz_rowV (As := [.long v8]) (st := []) (b := lp) (C := RX5) (Ts := gT) hx hb hml hown h2 (fun _ h => h) (hX5_startOf l D cA ro sz H0 lp v8 L hlp (by omega) (by omega)) ⟨rfl, rfl⟩ ⟨by decide, by decide⟩ ⟨by decide, by decide⟩ (tb_3 144 rfl rfl) (tb_1 2 rfl rfl) (tb_3 141 rfl rfl) (tb_3 142 rfl rfl) (tb_3 143 rfl rfl) (show yX5_startOf.cls ≠ "java/lang/invoke/MethodHandle" ∧ yX5_startOf.cls ≠ "java/lang/invoke/VarHandle" ∧ (parseMethodDescriptor yX5_startOf.desc).map (fun d => d.parameters.length) = some 1 by decide +kernel) zs_blind (zs_ob hh4 hlp (show RTg[4]? = some (0, 4, 0, fsX5) from rfl) (zCX5 hKn.1)) (fun U hU hW => ⟨rfl, by rw [hU]; exact hh4.l0, zKb s U hW.alike hKn, by rw [hU]; exact hJ⟩) hh4.2.2.1 hl3.1 (Nat.le_of_ble_eq_true rfl) (eX5_minuteAt (29, .invokevirtual 29, 3) (List.mem_of_getElem? (i := 19) rfl)) (fun r9 s9 t9 lo9 g9 f9 l9 => ?_)
    obtain ⟨z9, v9, q9, e9⟩ := f9
    cases q9
    rw [z9, g9]
    have hh9 : zh_ok D cA RTg ro sz H0 s.heap lo9 := ⟨hh4.1, hh4.2.1, l9, hh4.2.2.2⟩
    rw [show v8.toInt = v2.toInt + 1 by omega] at e9
    refine W.eq (g2 := F0 m 32 ls3 [.long v9]) rfl ?_
    refine lv_lload_n hx hb (eX5_minuteAt (32, .lload_n 1, 1) (List.mem_of_getElem? (i := 20) rfl)) rfl (lv_at hl3 2 rfl) ?_
    refine ff_lcmp hx hb (eX5_minuteAt (33, .lcmp, 1) (List.mem_of_getElem? (i := 21) rfl)) (fun v10 e10 => ?_)
    refine ff_if_gt hx hb (eX5_minuteAt (34, .ifCond .gt 7, 3) (List.mem_of_getElem? (i := 22) rfl)) (tgt := 41) rfl (fun c11 => ?_) (fun c11 => ?_)
    · skip
      have hlo := lsI_b hjL (v2.toInt)
      have hhi := lsI_b hjL (v2.toInt + 1)
      have hday : 86400 * v2.toInt + lsI L v2.toInt ≤ t0.toInt ∧ t0.toInt < 86400 * (v2.toInt + 1) + lsI L (v2.toInt + 1) := by
        first | (rw [show v2.toInt + 1 = v2.toInt by omega] at *; omega) | (rw [show v2.toInt = v2.toInt + 1 by omega] at *; omega) | omega
      refine lv_lload_n hx hb (eX5_minuteAt (41, .lload_n 3, 1) (List.mem_of_getElem? (i := 27) rfl)) rfl (lv_at hl3 0 rfl) ?_
      refine ff_ldc2 (n := 1440) hx hb hown h2 (clX5_ok 35 1440 (List.mem_of_getElem? (i := 3) rfl)) (eX5_minuteAt (42, .ldc2_w 35, 3) (List.mem_of_getElem? (i := 28) rfl)) (fun v12 e12 => ?_)
      refine ff_lmulR hx hb (eX5_minuteAt (45, .lmul, 1) (List.mem_of_getElem? (i := 29) rfl)) (e12) (by omega) (by omega) (fun v13 e13 => ?_)
      refine lv_lload_n hx hb (eX5_minuteAt (46, .lload_n 1, 1) (List.mem_of_getElem? (i := 30) rfl)) rfl (lv_at hl3 2 rfl) ?_
      refine lv_aload_n hx hb (eX5_minuteAt (47, .aload_n 0, 1) (List.mem_of_getElem? (i := 31) rfl)) rfl (lv_at hl3 1 rfl) ?_
      refine lv_lload_n hx hb (eX5_minuteAt (48, .lload_n 3, 1) (List.mem_of_getElem? (i := 32) rfl)) rfl (lv_at hl3 0 rfl) ?_
      refine tz_rowV (As := [.long v2]) (st := [.long t0, .long v13]) (b := lp) (C := RX5) (Ts := gT) hx hb hml hown h2 (fun _ h => h) (hX5_startOf l D cA ro sz H0 lp v2 L hlp (by omega) (by omega)) ⟨rfl, rfl⟩ ⟨by decide, by decide⟩ ⟨by decide, by decide⟩ (tb_3 144 rfl rfl) (tb_1 2 rfl rfl) (tb_3 141 rfl rfl) (tb_3 142 rfl rfl) (tb_3 143 rfl rfl) (show yX5_startOf.cls ≠ "java/lang/invoke/MethodHandle" ∧ yX5_startOf.cls ≠ "java/lang/invoke/VarHandle" ∧ (parseMethodDescriptor yX5_startOf.desc).map (fun d => d.parameters.length) = some 1 by decide +kernel) zs_blind (zs_ob hh9 hlp (show RTg[4]? = some (0, 4, 0, fsX5) from rfl) (zCX5 hKn.1)) (fun U hU hW => ⟨rfl, by rw [hU]; exact hh9.l0, zKb s U hW.alike hKn, by rw [hU]; exact hJ⟩) hh9.2.2.1 hl3.1 (Nat.le_of_ble_eq_true rfl) (eX5_minuteAt (49, .invokevirtual 29, 3) (List.mem_of_getElem? (i := 33) rfl)) (fun r14 s14 t14 lo14 g14 f14 l14 => ?_)
      obtain ⟨z14, v14, q14, e14⟩ := f14
      cases q14
      rw [z14, g14]
      have hh14 : zh_ok D cA RTg ro sz H0 s.heap lo14 := ⟨hh9.1, hh9.2.1, l14, hh9.2.2.2⟩
      refine W.eq (g2 := F0 m 52 ls3 [.long v14, .long t0, .long v13]) rfl ?_
      refine ff_lsub hx hb (eX5_minuteAt (52, .lsub, 1) (List.mem_of_getElem? (i := 34) rfl)) (by omega) (by omega) (fun v15 e15 => ?_)
      refine ff_ldc2 (n := 60) hx hb hown h2 (clX5_ok 49 60 (List.mem_of_getElem? (i := 5) rfl)) (eX5_minuteAt (53, .ldc2_w 49, 3) (List.mem_of_getElem? (i := 35) rfl)) (fun v16 e16 => ?_)
      refine ff_ldivP hx hb (eX5_minuteAt (56, .ldiv, 1) (List.mem_of_getElem? (i := 36) rfl)) (by omega) (e16) (by decide) (fun v17 e17 => ?_)
      refine ff_ldc2 (n := 1439) hx hb hown h2 (clX5_ok 43 1439 (List.mem_of_getElem? (i := 4) rfl)) (eX5_minuteAt (57, .ldc2_w 43, 3) (List.mem_of_getElem? (i := 37) rfl)) (fun v18 e18 => ?_)
      refine zu_S (vs := [.long v17, .long v18]) (rest := [.long v13]) hx hb hml hown hts0 zu_BT (hJ9_minL l v17 v18) ⟨rfl, rfl⟩ ⟨by decide, by decide⟩ ⟨by decide, by decide⟩ (tb_3 154 rfl rfl) (tb_1 18 rfl rfl) (tb_3 152 rfl rfl) (tb_3 153 rfl rfl) (show yJ9_min_f86c9.cls ≠ "java/lang/invoke/MethodHandle" ∧ yJ9_min_f86c9.cls ≠ "java/lang/invoke/VarHandle" ∧ (parseMethodDescriptor yJ9_min_f86c9.desc).map (fun d => d.parameters.length) = some 2 by decide +kernel) rfl (fun _ _ _ => trivial) hl3.1 (Nat.le_of_ble_eq_true rfl) (eX5_minuteAt (60, .invokestatic 51, 3) (List.mem_of_getElem? (i := 38) rfl)) (fun w19 f19 => ?_)
      obtain ⟨v19, rfl, e19⟩ := f19
      refine ff_ladd hx hb (eX5_minuteAt (63, .ladd, 1) (List.mem_of_getElem? (i := 39) rfl)) (by omega) (by omega) (fun v20 e20 => ?_)
      exact W.lret hx hb hr (fun t ht hW => ⟨ht, _, rfl, by rw [show v20.toInt = v2.toInt * 1440 + (v20.toInt - v2.toInt * 1440) by omega]; exact rdM_of hday.1 hday.2 (by omega)⟩) hh14.2.2.1 (eX5_minuteAt (64, .lreturn, 1) (List.mem_of_getElem? (i := 40) rfl))
    · skip
      refine lv_lload_n hx hb (eX5_minuteAt (37, .lload_n 3, 1) (List.mem_of_getElem? (i := 23) rfl)) rfl (lv_at hl3 0 rfl) ?_
      refine ff_lconst hx hb (eX5_minuteAt (38, .lconst 1, 1) (List.mem_of_getElem? (i := 24) rfl)) rfl (fun v21 e21 => ?_)
      refine ff_ladd hx hb (eX5_minuteAt (39, .ladd, 1) (List.mem_of_getElem? (i := 25) rfl)) (by omega) (by omega) (fun v22 e22 => ?_)
      refine lv_lstore_n hx hb (eX5_minuteAt (40, .lstore_n 3, 1) (List.mem_of_getElem? (i := 26) rfl)) rfl hl3 (by decide) rfl (fun ls23 hl23 => ?_)
      have hlo := lsI_b hjL (v22.toInt)
      have hhi := lsI_b hjL (v22.toInt + 1)
      have hday : 86400 * v22.toInt + lsI L v22.toInt ≤ t0.toInt ∧ t0.toInt < 86400 * (v22.toInt + 1) + lsI L (v22.toInt + 1) := by
        first | (rw [show v22.toInt + 1 = v2.toInt by omega] at *; omega) | (rw [show v22.toInt = v2.toInt + 1 by omega] at *; omega) | omega
      refine lv_lload_n hx hb (eX5_minuteAt (41, .lload_n 3, 1) (List.mem_of_getElem? (i := 27) rfl)) rfl (lv_at hl23 0 rfl) ?_
      refine ff_ldc2 (n := 1440) hx hb hown h2 (clX5_ok 35 1440 (List.mem_of_getElem? (i := 3) rfl)) (eX5_minuteAt (42, .ldc2_w 35, 3) (List.mem_of_getElem? (i := 28) rfl)) (fun v24 e24 => ?_)
      refine ff_lmulR hx hb (eX5_minuteAt (45, .lmul, 1) (List.mem_of_getElem? (i := 29) rfl)) (e24) (by omega) (by omega) (fun v25 e25 => ?_)
      refine lv_lload_n hx hb (eX5_minuteAt (46, .lload_n 1, 1) (List.mem_of_getElem? (i := 30) rfl)) rfl (lv_at hl23 2 rfl) ?_
      refine lv_aload_n hx hb (eX5_minuteAt (47, .aload_n 0, 1) (List.mem_of_getElem? (i := 31) rfl)) rfl (lv_at hl23 1 rfl) ?_
      refine lv_lload_n hx hb (eX5_minuteAt (48, .lload_n 3, 1) (List.mem_of_getElem? (i := 32) rfl)) rfl (lv_at hl23 0 rfl) ?_
      refine tz_rowV (As := [.long v22]) (st := [.long t0, .long v25]) (b := lp) (C := RX5) (Ts := gT) hx hb hml hown h2 (fun _ h => h) (hX5_startOf l D cA ro sz H0 lp v22 L hlp (by omega) (by omega)) ⟨rfl, rfl⟩ ⟨by decide, by decide⟩ ⟨by decide, by decide⟩ (tb_3 144 rfl rfl) (tb_1 2 rfl rfl) (tb_3 141 rfl rfl) (tb_3 142 rfl rfl) (tb_3 143 rfl rfl) (show yX5_startOf.cls ≠ "java/lang/invoke/MethodHandle" ∧ yX5_startOf.cls ≠ "java/lang/invoke/VarHandle" ∧ (parseMethodDescriptor yX5_startOf.desc).map (fun d => d.parameters.length) = some 1 by decide +kernel) zs_blind (zs_ob hh9 hlp (show RTg[4]? = some (0, 4, 0, fsX5) from rfl) (zCX5 hKn.1)) (fun U hU hW => ⟨rfl, by rw [hU]; exact hh9.l0, zKb s U hW.alike hKn, by rw [hU]; exact hJ⟩) hh9.2.2.1 hl23.1 (Nat.le_of_ble_eq_true rfl) (eX5_minuteAt (49, .invokevirtual 29, 3) (List.mem_of_getElem? (i := 33) rfl)) (fun r26 s26 t26 lo26 g26 f26 l26 => ?_)
      obtain ⟨z26, v26, q26, e26⟩ := f26
      cases q26
      rw [z26, g26]
      have hh26 : zh_ok D cA RTg ro sz H0 s.heap lo26 := ⟨hh9.1, hh9.2.1, l26, hh9.2.2.2⟩
      refine W.eq (g2 := F0 m 52 ls23 [.long v26, .long t0, .long v25]) rfl ?_
      refine ff_lsub hx hb (eX5_minuteAt (52, .lsub, 1) (List.mem_of_getElem? (i := 34) rfl)) (by omega) (by omega) (fun v27 e27 => ?_)
      refine ff_ldc2 (n := 60) hx hb hown h2 (clX5_ok 49 60 (List.mem_of_getElem? (i := 5) rfl)) (eX5_minuteAt (53, .ldc2_w 49, 3) (List.mem_of_getElem? (i := 35) rfl)) (fun v28 e28 => ?_)
      refine ff_ldivP hx hb (eX5_minuteAt (56, .ldiv, 1) (List.mem_of_getElem? (i := 36) rfl)) (by omega) (e28) (by decide) (fun v29 e29 => ?_)
      refine ff_ldc2 (n := 1439) hx hb hown h2 (clX5_ok 43 1439 (List.mem_of_getElem? (i := 4) rfl)) (eX5_minuteAt (57, .ldc2_w 43, 3) (List.mem_of_getElem? (i := 37) rfl)) (fun v30 e30 => ?_)
      refine zu_S (vs := [.long v29, .long v30]) (rest := [.long v25]) hx hb hml hown hts0 zu_BT (hJ9_minL l v29 v30) ⟨rfl, rfl⟩ ⟨by decide, by decide⟩ ⟨by decide, by decide⟩ (tb_3 154 rfl rfl) (tb_1 18 rfl rfl) (tb_3 152 rfl rfl) (tb_3 153 rfl rfl) (show yJ9_min_f86c9.cls ≠ "java/lang/invoke/MethodHandle" ∧ yJ9_min_f86c9.cls ≠ "java/lang/invoke/VarHandle" ∧ (parseMethodDescriptor yJ9_min_f86c9.desc).map (fun d => d.parameters.length) = some 2 by decide +kernel) rfl (fun _ _ _ => trivial) hl23.1 (Nat.le_of_ble_eq_true rfl) (eX5_minuteAt (60, .invokestatic 51, 3) (List.mem_of_getElem? (i := 38) rfl)) (fun w31 f31 => ?_)
      obtain ⟨v31, rfl, e31⟩ := f31
      refine ff_ladd hx hb (eX5_minuteAt (63, .ladd, 1) (List.mem_of_getElem? (i := 39) rfl)) (by omega) (by omega) (fun v32 e32 => ?_)
      exact W.lret hx hb hr (fun t ht hW => ⟨ht, _, rfl, by rw [show v32.toInt = v22.toInt * 1440 + (v32.toInt - v22.toInt * 1440) by omega]; exact rdM_of hday.1 hday.2 (by omega)⟩) hh26.2.2.1 (eX5_minuteAt (64, .lreturn, 1) (List.mem_of_getElem? (i := 40) rfl))
  · skip
    refine lv_lload_n hx hb (eX5_minuteAt (18, .lload_n 3, 1) (List.mem_of_getElem? (i := 10) rfl)) rfl (lv_at hl3 0 rfl) ?_
    refine ff_lconst hx hb (eX5_minuteAt (19, .lconst 1, 1) (List.mem_of_getElem? (i := 11) rfl)) rfl (fun v33 e33 => ?_)
    refine ff_lsub hx hb (eX5_minuteAt (20, .lsub, 1) (List.mem_of_getElem? (i := 12) rfl)) (by omega) (by omega) (fun v34 e34 => ?_)
    refine lv_lstore_n hx hb (eX5_minuteAt (21, .lstore_n 3, 1) (List.mem_of_getElem? (i := 13) rfl)) rfl hl3 (by decide) rfl (fun ls35 hl35 => ?_)
    refine lv_goto hx hb (eX5_minuteAt (22, .goto 19, 3) (List.mem_of_getElem? (i := 14) rfl)) (tgt := 41) rfl ?_
    have hlo := lsI_b hjL (v34.toInt)
    have hhi := lsI_b hjL (v34.toInt + 1)
    have hday : 86400 * v34.toInt + lsI L v34.toInt ≤ t0.toInt ∧ t0.toInt < 86400 * (v34.toInt + 1) + lsI L (v34.toInt + 1) := by
      first | (rw [show v34.toInt + 1 = v2.toInt by omega] at *; omega) | (rw [show v34.toInt = v2.toInt + 1 by omega] at *; omega) | omega
    refine lv_lload_n hx hb (eX5_minuteAt (41, .lload_n 3, 1) (List.mem_of_getElem? (i := 27) rfl)) rfl (lv_at hl35 0 rfl) ?_
    refine ff_ldc2 (n := 1440) hx hb hown h2 (clX5_ok 35 1440 (List.mem_of_getElem? (i := 3) rfl)) (eX5_minuteAt (42, .ldc2_w 35, 3) (List.mem_of_getElem? (i := 28) rfl)) (fun v36 e36 => ?_)
    refine ff_lmulR hx hb (eX5_minuteAt (45, .lmul, 1) (List.mem_of_getElem? (i := 29) rfl)) (e36) (by omega) (by omega) (fun v37 e37 => ?_)
    refine lv_lload_n hx hb (eX5_minuteAt (46, .lload_n 1, 1) (List.mem_of_getElem? (i := 30) rfl)) rfl (lv_at hl35 2 rfl) ?_
    refine lv_aload_n hx hb (eX5_minuteAt (47, .aload_n 0, 1) (List.mem_of_getElem? (i := 31) rfl)) rfl (lv_at hl35 1 rfl) ?_
    refine lv_lload_n hx hb (eX5_minuteAt (48, .lload_n 3, 1) (List.mem_of_getElem? (i := 32) rfl)) rfl (lv_at hl35 0 rfl) ?_
    refine tz_rowV (As := [.long v34]) (st := [.long t0, .long v37]) (b := lp) (C := RX5) (Ts := gT) hx hb hml hown h2 (fun _ h => h) (hX5_startOf l D cA ro sz H0 lp v34 L hlp (by omega) (by omega)) ⟨rfl, rfl⟩ ⟨by decide, by decide⟩ ⟨by decide, by decide⟩ (tb_3 144 rfl rfl) (tb_1 2 rfl rfl) (tb_3 141 rfl rfl) (tb_3 142 rfl rfl) (tb_3 143 rfl rfl) (show yX5_startOf.cls ≠ "java/lang/invoke/MethodHandle" ∧ yX5_startOf.cls ≠ "java/lang/invoke/VarHandle" ∧ (parseMethodDescriptor yX5_startOf.desc).map (fun d => d.parameters.length) = some 1 by decide +kernel) zs_blind (zs_ob hh4 hlp (show RTg[4]? = some (0, 4, 0, fsX5) from rfl) (zCX5 hKn.1)) (fun U hU hW => ⟨rfl, by rw [hU]; exact hh4.l0, zKb s U hW.alike hKn, by rw [hU]; exact hJ⟩) hh4.2.2.1 hl35.1 (Nat.le_of_ble_eq_true rfl) (eX5_minuteAt (49, .invokevirtual 29, 3) (List.mem_of_getElem? (i := 33) rfl)) (fun r38 s38 t38 lo38 g38 f38 l38 => ?_)
    obtain ⟨z38, v38, q38, e38⟩ := f38
    cases q38
    rw [z38, g38]
    have hh38 : zh_ok D cA RTg ro sz H0 s.heap lo38 := ⟨hh4.1, hh4.2.1, l38, hh4.2.2.2⟩
    refine W.eq (g2 := F0 m 52 ls35 [.long v38, .long t0, .long v37]) rfl ?_
    refine ff_lsub hx hb (eX5_minuteAt (52, .lsub, 1) (List.mem_of_getElem? (i := 34) rfl)) (by omega) (by omega) (fun v39 e39 => ?_)
    refine ff_ldc2 (n := 60) hx hb hown h2 (clX5_ok 49 60 (List.mem_of_getElem? (i := 5) rfl)) (eX5_minuteAt (53, .ldc2_w 49, 3) (List.mem_of_getElem? (i := 35) rfl)) (fun v40 e40 => ?_)
    refine ff_ldivP hx hb (eX5_minuteAt (56, .ldiv, 1) (List.mem_of_getElem? (i := 36) rfl)) (by omega) (e40) (by decide) (fun v41 e41 => ?_)
    refine ff_ldc2 (n := 1439) hx hb hown h2 (clX5_ok 43 1439 (List.mem_of_getElem? (i := 4) rfl)) (eX5_minuteAt (57, .ldc2_w 43, 3) (List.mem_of_getElem? (i := 37) rfl)) (fun v42 e42 => ?_)
    refine zu_S (vs := [.long v41, .long v42]) (rest := [.long v37]) hx hb hml hown hts0 zu_BT (hJ9_minL l v41 v42) ⟨rfl, rfl⟩ ⟨by decide, by decide⟩ ⟨by decide, by decide⟩ (tb_3 154 rfl rfl) (tb_1 18 rfl rfl) (tb_3 152 rfl rfl) (tb_3 153 rfl rfl) (show yJ9_min_f86c9.cls ≠ "java/lang/invoke/MethodHandle" ∧ yJ9_min_f86c9.cls ≠ "java/lang/invoke/VarHandle" ∧ (parseMethodDescriptor yJ9_min_f86c9.desc).map (fun d => d.parameters.length) = some 2 by decide +kernel) rfl (fun _ _ _ => trivial) hl35.1 (Nat.le_of_ble_eq_true rfl) (eX5_minuteAt (60, .invokestatic 51, 3) (List.mem_of_getElem? (i := 38) rfl)) (fun w43 f43 => ?_)
    obtain ⟨v43, rfl, e43⟩ := f43
    refine ff_ladd hx hb (eX5_minuteAt (63, .ladd, 1) (List.mem_of_getElem? (i := 39) rfl)) (by omega) (by omega) (fun v44 e44 => ?_)
    exact W.lret hx hb hr (fun t ht hW => ⟨ht, _, rfl, by rw [show v44.toInt = v34.toInt * 1440 + (v44.toInt - v34.toInt * 1440) by omega]; exact rdM_of hday.1 hday.2 (by omega)⟩) hh38.2.2.1 (eX5_minuteAt (64, .lreturn, 1) (List.mem_of_getElem? (i := 40) rfl))
set_option maxRecDepth 100000 in
set_option maxHeartbeats 4000000 in
theorem hX5_secondAt (l : Launch) (D : va_G) (cA : Nat → ClassId) (ro : Nat → Option Nat) (sz : Nat) (H0 : Heap) (lp : Nat) (t0 : Int64) (L : List Int) (hlp : ro lp = some 4) (ht1 : -40000000000000 ≤ t0.toInt) (ht2 : t0.toInt ≤ 40000000000000) : Met l yX5_secondAt (gW yX5_secondAt cX5_secondAt 3 (some .int)) { frames := 3, cells := 0, slots := 0, locals := 70 } (zs_P D cA ro sz H0 (fun H => jLp D cA ro H lp L) [.ref lp, .long t0]) (fun _ st oc t => t.heap = st.heap ∧ ∃ r : Int32, oc = .returned (some (.int r)) ∧ ∃ M : Int, rdM L t0.toInt M ∧ r.toInt = t0.toInt - stI L M) 0 0 (zy_fr sz) := by
  refine zy_ofW (cc := cX5_secondAt) (maxL := 3) (ret := (some .int)) (by decide +kernel) rfl ?_
  intro p e s m args below meth c s1 B hml hv
  obtain ⟨rfl, hh, hKn, hJ⟩ := hv
  have hx := B.exec
  have hb := B.bytes
  have hr := B.returns
  have hlk := B.notSynchronized
  have hts0 := atoms_spec (ws := gW yX5_secondAt cX5_secondAt 3 (some .int)) B.pre
  have h2 : ∀ w ∈ gT, w.before ([.ref lp, .long t0] : List Value).toArray s = true := fun w hw => hts0 w (List.mem_cons_of_mem _ hw)
  have hown : s.vm.findClass RX5 = some m.cls := findClass_of_methodNamed B.named
  have hl := lv_entry [.ref lp, .long t0] (n := 3) (Nat.le_of_ble_eq_true rfl)
  rw [lg_entry_eq]
  generalize (lg_sl [.ref lp, .long t0] ++ List.replicate (3 - (lg_sl [.ref lp, .long t0]).length) Slot.unset).toArray = ls at hl ⊢
  have b_t0 := zn_i64 t0
  have hD := zD_all h2 hKn.1
  have hcl4 := fun (idx k : Nat) (t : zt_T) (h : (idx, 4, k) ∈ gfX5) (hk : fsX5[k]? = some t) => zf_clause (ro := ro) (ms := []) h2 hown hKn.1 gfX5_ok (by decide +kernel) idx 4 k 4 0 fsX5 t h rfl hk
  have kp0 : zc_kept D RTg ro [] s.heap s.heap := zc_kept.refl
  obtain ⟨la, n, z, f0, r0, f1, hn, hc, hz⟩ := id hJ
  obtain ⟨n9, g9, n1, n2⟩ := zh_fT (k := 1) (t := (0, 0, 40)) hh hlp (show RTg[4]? = some (0, 4, 0, fsX5) from rfl) rfl
  cases f1.symm.trans g9
  dsimp only at n1 n2
  clear g9
  have hjL : L.length ≤ 40 := by omega
  refine lv_lload_n hx hb (eX5_secondAt (0, .lload_n 1, 1) (List.mem_of_getElem? (i := 0) rfl)) rfl (lv_at hl 1 rfl) ?_
  refine lv_aload_n hx hb (eX5_secondAt (1, .aload_n 0, 1) (List.mem_of_getElem? (i := 1) rfl)) rfl (lv_at hl 0 rfl) ?_
  refine lv_aload_n hx hb (eX5_secondAt (2, .aload_n 0, 1) (List.mem_of_getElem? (i := 2) rfl)) rfl (lv_at hl 0 rfl) ?_
  refine lv_lload_n hx hb (eX5_secondAt (3, .lload_n 1, 1) (List.mem_of_getElem? (i := 3) rfl)) rfl (lv_at hl 1 rfl) ?_
  refine tz_rowV (As := [.long t0]) (st := [.ref lp, .long t0]) (b := lp) (C := RX5) (Ts := gT) hx hb hml hown h2 (fun _ h => h) (hX5_minuteAt l D cA ro sz H0 lp t0 L hlp (by omega) (by omega)) ⟨rfl, rfl⟩ ⟨by decide, by decide⟩ ⟨by decide, by decide⟩ (tb_3 151 rfl rfl) (tb_1 2 rfl rfl) (tb_3 159 rfl rfl) (tb_3 149 rfl rfl) (tb_3 150 rfl rfl) (show yX5_minuteAt.cls ≠ "java/lang/invoke/MethodHandle" ∧ yX5_minuteAt.cls ≠ "java/lang/invoke/VarHandle" ∧ (parseMethodDescriptor yX5_minuteAt.desc).map (fun d => d.parameters.length) = some 1 by decide +kernel) zs_blind (zs_ob hh hlp (show RTg[4]? = some (0, 4, 0, fsX5) from rfl) (zCX5 hKn.1)) (fun U hU hW => ⟨rfl, by rw [hU]; exact hh.l0, zKb s U hW.alike hKn, by rw [hU]; exact hJ⟩) hh.2.2.1 hl.1 (Nat.le_of_ble_eq_true rfl) (eX5_secondAt (4, .invokevirtual 54, 3) (List.mem_of_getElem? (i := 4) rfl)) (fun r1 s1 t1 lo1 g1 f1 l1 => ?_)
  obtain ⟨z1, v1, q1, e1⟩ := f1
  cases q1
  rw [z1, g1]
  have hh1 : zh_ok D cA RTg ro sz H0 s.heap lo1 := ⟨hh.1, hh.2.1, l1, hh.2.2.2⟩
  have hsec := rdM_sec hjL e1
  have hmb : -1000000000000 ≤ v1.toInt ∧ v1.toInt ≤ 1000000000000 := by have h8 := lsI_b hjL (v1.toInt / 1440); unfold stI at hsec; omega
  refine W.eq (g2 := F0 m 7 ls [.long v1, .ref lp, .long t0]) rfl ?_
  refine ff_iconst hx hb (eX5_secondAt (7, .iconst 0, 1) (List.mem_of_getElem? (i := 5) rfl)) (by decide) (by decide) (fun v2 e2 => ?_)
  refine tz_rowV (As := [.long v1, .int v2]) (st := [.long t0]) (b := lp) (C := RX5) (Ts := gT) hx hb hml hown h2 (fun _ h => h) (hX5_instantOf l D cA ro sz H0 lp v1 v2 L hlp (by omega) (by omega) (by omega) (by omega)) ⟨rfl, rfl⟩ ⟨by decide, by decide⟩ ⟨by decide, by decide⟩ (tb_3 123 rfl rfl) (tb_1 2 rfl rfl) (tb_3 160 rfl rfl) (tb_3 121 rfl rfl) (tb_3 122 rfl rfl) (show yX5_instantOf.cls ≠ "java/lang/invoke/MethodHandle" ∧ yX5_instantOf.cls ≠ "java/lang/invoke/VarHandle" ∧ (parseMethodDescriptor yX5_instantOf.desc).map (fun d => d.parameters.length) = some 2 by decide +kernel) zs_blind (zs_ob hh1 hlp (show RTg[4]? = some (0, 4, 0, fsX5) from rfl) (zCX5 hKn.1)) (fun U hU hW => ⟨rfl, by rw [hU]; exact hh1.l0, zKb s U hW.alike hKn, by rw [hU]; exact hJ⟩) hh1.2.2.1 hl.1 (Nat.le_of_ble_eq_true rfl) (eX5_secondAt (8, .invokevirtual 57, 3) (List.mem_of_getElem? (i := 6) rfl)) (fun r3 s3 t3 lo3 g3 f3 l3 => ?_)
  obtain ⟨z3, v3, q3, e3⟩ := f3
  cases q3
  rw [z3, g3]
  have hh3 : zh_ok D cA RTg ro sz H0 s.heap lo3 := ⟨hh1.1, hh1.2.1, l3, hh1.2.2.2⟩
  refine W.eq (g2 := F0 m 11 ls [.long v3, .long t0]) rfl ?_
  refine ff_lsub hx hb (eX5_secondAt (11, .lsub, 1) (List.mem_of_getElem? (i := 7) rfl)) (by omega) (by omega) (fun v4 e4 => ?_)
  refine ff_l2i hx hb (eX5_secondAt (12, .l2i, 1) (List.mem_of_getElem? (i := 8) rfl)) (by omega) (by omega) (fun v5 e5 => ?_)
  exact W.zret hx hb hr rfl (fun t ht hW => ⟨ht, _, rfl, ⟨_, e1, by omega⟩⟩) hh3.2.2.1 (eX5_secondAt (13, .ireturn, 1) (List.mem_of_getElem? (i := 9) rfl))
