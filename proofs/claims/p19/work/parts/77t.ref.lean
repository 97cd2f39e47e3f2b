set_option maxRecDepth 100000 in
set_option maxHeartbeats 4000000 in
theorem hX12_leapsBefore (l : Launch) (D : va_G) (cA : Nat → ClassId) (ro : Nat → Option Nat) (sz : Nat) (H0 : Heap) (a : Nat) (d : Int64) (L : List Int) (ha : ro a = some 11)  : Met l yX12_leapsBefore (gW yX12_leapsBefore cX12_leapsBefore 6 (some .long)) { frames := 0, cells := 0, slots := 0, locals := 0 } (zs_P D cA ro sz H0 (fun H => jR D cA ro H a L) [.ref a, .long d]) (fun _ st oc t => t.heap = st.heap ∧ ∃ r : Int64, oc = .returned (some (.long r)) ∧ r.toInt = lsI L d.toInt) 0 0 (zy_fr sz) := by
  refine zy_ofW (cc := cX12_leapsBefore) (maxL := 6) (ret := (some .long)) (by decide +kernel) rfl ?_
  intro p e s m args below meth c s1 B hml hv
  obtain ⟨rfl, hh, hKn, hJ⟩ := hv
  have hx := B.exec
  have hb := B.bytes
  have hr := B.returns
  have hlk := B.notSynchronized
  have hts0 := atoms_spec (ws := gW yX12_leapsBefore cX12_leapsBefore 6 (some .long)) B.pre
  have h2 : ∀ w ∈ gT, w.before ([.ref a, .long d] : List Value).toArray s = true := fun w hw => hts0 w (List.mem_cons_of_mem _ hw)
  have hown : s.vm.findClass RX12 = some m.cls := findClass_of_methodNamed B.named
  have hl := lv_entry [.ref a, .long d] (n := 6) (Nat.le_of_ble_eq_true rfl)
  rw [lg_entry_eq]
  generalize (lg_sl [.ref a, .long d] ++ List.replicate (6 - (lg_sl [.ref a, .long d]).length) Slot.unset).toArray = ls at hl ⊢
  have b_d := zn_i64 d
  have hD := zD_all h2 hKn.1
  have hcl11 := fun (idx k : Nat) (t : zt_T) (h : (idx, 11, k) ∈ gfX12) (hk : fsX12[k]? = some t) => zf_clause (ro := ro) (ms := []) h2 hown hKn.1 gfX12_ok (by decide +kernel) idx 11 k 11 0 fsX12 t h rfl hk
  have kp0 : zc_kept D RTg ro [] s.heap s.heap := zc_kept.refl
  obtain ⟨la, n, z, f0, r0, f1, hn, hc, hz⟩ := id hJ
  obtain ⟨n9, g9, n1, n2⟩ := zh_fT (k := 1) (t := (0, 0, 40)) hh ha (show RTg[11]? = some (0, 11, 0, fsX12) from rfl) rfl
  cases f1.symm.trans g9
  dsimp only at n1 n2
  clear g9
  refine ff_lconst hx hb (eX12_leapsBefore (0, .lconst 0, 1) (List.mem_of_getElem? (i := 0) rfl)) rfl (fun v1 e1 => ?_)
  refine lv_lstore_n hx hb (eX12_leapsBefore (1, .lstore_n 3, 1) (List.mem_of_getElem? (i := 1) rfl)) rfl hl (by decide) rfl (fun ls2 hl2 => ?_)
  refine ff_iconst hx hb (eX12_leapsBefore (2, .iconst 0, 1) (List.mem_of_getElem? (i := 2) rfl)) (by decide) (by decide) (fun v3 e3 => ?_)
  refine lv_istore hx hb (eX12_leapsBefore (3, .istore 5, 2) (List.mem_of_getElem? (i := 3) rfl)) hl2 (by decide) rfl (fun ls4 hl4 => ?_)
  have loop : ∀ (n0 i : Nat) (iv : Int32) (av : Int64) (ls : Array Slot), i + n0 = L.length → iv.toInt = (i : Int) → av.toInt = lsI (L.take i) d.toInt → lv_has ls 6 [(5, .int iv), (3, .long av), (0, .ref a), (1, .long d)] → W p l e (headSpec (gW yX12_leapsBefore cX12_leapsBefore 6 (some .long)) { frames := 0, cells := 0, slots := 0, locals := 0 }).room s m ([.ref a, .long d] : List Value).toArray below meth c s.heap [] 0 0 (MQ below (fun _ st oc t => t.heap = st.heap ∧ ∃ r : Int64, oc = .returned (some (.long r)) ∧ r.toInt = lsI L d.toInt) ([.ref a, .long d] : List Value).toArray s 0 0 (zy_fr sz)) (F0 m 5 ls []) := by
    intro n0
    induction n0 with
    | zero =>
      intro i iv av ls hi hiv hav hl
      have hbd := lsI_tb (i := i) (show L.length ≤ 40 by omega) d.toInt
      refine lv_iload hx hb (eX12_leapsBefore (5, .iload 5, 2) (List.mem_of_getElem? (i := 4) rfl)) (lv_at hl 0 rfl) ?_
      refine lv_aload_n hx hb (eX12_leapsBefore (7, .aload_n 0, 1) (List.mem_of_getElem? (i := 5) rfl)) rfl (lv_at hl 2 rfl) ?_
      refine tz_get (r := 11) (k := 1) (t := (0, 0, 40)) hx hb hh ha rfl rfl (hcl11 173 1 (0, 0, 40) (by decide) rfl).1 f1 (eX12_leapsBefore (8, .getfield 173, 3) (List.mem_of_getElem? (i := 6) rfl)) ?_
      refine ff_icmp_ge hx hb (eX12_leapsBefore (11, .if_icmp .ge 71, 3) (List.mem_of_getElem? (i := 7) rfl)) (tgt := 82) rfl (fun c5 => ?_) (fun c5 => (by exfalso; omega))
      refine lv_lload_n hx hb (eX12_leapsBefore (82, .lload_n 3, 1) (List.mem_of_getElem? (i := 46) rfl)) rfl (lv_at hl 1 rfl) ?_
      exact W.lret hx hb hr (fun t ht hW => ⟨ht, _, rfl, by rw [hav]; exact lsI_full (by omega) _⟩) (fun q hq => by cases hq) (eX12_leapsBefore (83, .lreturn, 1) (List.mem_of_getElem? (i := 47) rfl))
    | succ n0 ih =>
      intro i iv av ls hi hiv hav hl
      have hbd := lsI_tb (i := i) (show L.length ≤ 40 by omega) d.toInt
      obtain ⟨ve, hze, hLe⟩ := hz i (by omega)
      refine lv_iload hx hb (eX12_leapsBefore (5, .iload 5, 2) (List.mem_of_getElem? (i := 4) rfl)) (lv_at hl 0 rfl) ?_
      refine lv_aload_n hx hb (eX12_leapsBefore (7, .aload_n 0, 1) (List.mem_of_getElem? (i := 5) rfl)) rfl (lv_at hl 2 rfl) ?_
      refine tz_get (r := 11) (k := 1) (t := (0, 0, 40)) hx hb hh ha rfl rfl (hcl11 173 1 (0, 0, 40) (by decide) rfl).1 f1 (eX12_leapsBefore (8, .getfield 173, 3) (List.mem_of_getElem? (i := 6) rfl)) ?_
      refine ff_icmp_ge hx hb (eX12_leapsBefore (11, .if_icmp .ge 71, 3) (List.mem_of_getElem? (i := 7) rfl)) (tgt := 82) rfl (fun c6 => (by exfalso; omega)) (fun c6 => ?_)
      refine lv_lload_n hx hb (eX12_leapsBefore (14, .lload_n 3, 1) (List.mem_of_getElem? (i := 8) rfl)) rfl (lv_at hl 1 rfl) ?_
      refine lv_aload_n hx hb (eX12_leapsBefore (15, .aload_n 0, 1) (List.mem_of_getElem? (i := 9) rfl)) rfl (lv_at hl 2 rfl) ?_
      refine tz_get (r := 11) (k := 2) (t := (46, 0, 0)) hx hb hh ha rfl rfl (hcl11 9 2 (46, 0, 0) (by decide) rfl).1 f0 (eX12_leapsBefore (16, .getfield 9, 3) (List.mem_of_getElem? (i := 10) rfl)) ?_
      refine lv_iload hx hb (eX12_leapsBefore (19, .iload 5, 2) (List.mem_of_getElem? (i := 11) rfl)) (lv_at hl 0 rfl) ?_
      refine tz_lald hx hb (zAr hKn.1 1 (by decide)) hc (by omega) (by omega) (eX12_leapsBefore (21, .laload, 1) (List.mem_of_getElem? (i := 12) rfl)) ?_
      rw [show iv.toNatClampNeg = i by show iv.toInt.toNat = i; omega, hze]
      refine ff_lconst hx hb (eX12_leapsBefore (22, .lconst 0, 1) (List.mem_of_getElem? (i := 13) rfl)) rfl (fun v8 e8 => ?_)
      refine ff_lcmp hx hb (eX12_leapsBefore (23, .lcmp, 1) (List.mem_of_getElem? (i := 14) rfl)) (fun v9 e9 => ?_)
      refine ff_if_lt hx hb (eX12_leapsBefore (24, .ifCond .lt 19, 3) (List.mem_of_getElem? (i := 15) rfl)) (tgt := 43) rfl (fun c10 => ?_) (fun c10 => ?_)
      · skip
        refine lv_aload_n hx hb (eX12_leapsBefore (43, .aload_n 0, 1) (List.mem_of_getElem? (i := 25) rfl)) rfl (lv_at hl 2 rfl) ?_
        refine tz_get (r := 11) (k := 2) (t := (46, 0, 0)) hx hb hh ha rfl rfl (hcl11 9 2 (46, 0, 0) (by decide) rfl).1 f0 (eX12_leapsBefore (44, .getfield 9, 3) (List.mem_of_getElem? (i := 26) rfl)) ?_
        refine lv_iload hx hb (eX12_leapsBefore (47, .iload 5, 2) (List.mem_of_getElem? (i := 27) rfl)) (lv_at hl 0 rfl) ?_
        refine tz_lald hx hb (zAr hKn.1 1 (by decide)) hc (by omega) (by omega) (eX12_leapsBefore (49, .laload, 1) (List.mem_of_getElem? (i := 28) rfl)) ?_
        rw [show iv.toNatClampNeg = i by show iv.toInt.toNat = i; omega, hze]
        refine ff_lconst hx hb (eX12_leapsBefore (50, .lconst 0, 1) (List.mem_of_getElem? (i := 29) rfl)) rfl (fun v12 e12 => ?_)
        refine ff_lcmp hx hb (eX12_leapsBefore (51, .lcmp, 1) (List.mem_of_getElem? (i := 30) rfl)) (fun v13 e13 => ?_)
        refine ff_if_ge hx hb (eX12_leapsBefore (52, .ifCond .ge 21, 3) (List.mem_of_getElem? (i := 31) rfl)) (tgt := 73) rfl (fun c14 => ?_) (fun c14 => ?_)
        · skip
          refine ff_lconst hx hb (eX12_leapsBefore (73, .lconst 0, 1) (List.mem_of_getElem? (i := 41) rfl)) rfl (fun v15 e15 => ?_)
          refine ff_ladd hx hb (eX12_leapsBefore (74, .ladd, 1) (List.mem_of_getElem? (i := 42) rfl)) (by omega) (by omega) (fun v16 e16 => ?_)
          refine lv_lstore_n hx hb (eX12_leapsBefore (75, .lstore_n 3, 1) (List.mem_of_getElem? (i := 43) rfl)) rfl hl (by decide) rfl (fun ls17 hl17 => ?_)
          refine ff_iinc (k := 1) hx hb (eX12_leapsBefore (76, .iinc 5 1, 3) (List.mem_of_getElem? (i := 44) rfl)) hl17 rfl (by decide) (by decide) (by decide) (by omega) (by omega) (fun v18 e18 ls18 hl18 => ?_)
          refine lv_goto hx hb (eX12_leapsBefore (79, .goto (-74), 3) (List.mem_of_getElem? (i := 45) rfl)) (tgt := 5) rfl ?_
          exact ih (i + 1) v18 v16 ls18 (by omega) (by omega) (by rw [lsI_take hLe]; unfold lcI; split <;> (try split) <;> omega) (lv_sub hl18 [0, 1, 2, 3] rfl)
        · skip
          refine lv_aload_n hx hb (eX12_leapsBefore (55, .aload_n 0, 1) (List.mem_of_getElem? (i := 32) rfl)) rfl (lv_at hl 2 rfl) ?_
          refine tz_get (r := 11) (k := 2) (t := (46, 0, 0)) hx hb hh ha rfl rfl (hcl11 9 2 (46, 0, 0) (by decide) rfl).1 f0 (eX12_leapsBefore (56, .getfield 9, 3) (List.mem_of_getElem? (i := 33) rfl)) ?_
          refine lv_iload hx hb (eX12_leapsBefore (59, .iload 5, 2) (List.mem_of_getElem? (i := 34) rfl)) (lv_at hl 0 rfl) ?_
          refine tz_lald hx hb (zAr hKn.1 1 (by decide)) hc (by omega) (by omega) (eX12_leapsBefore (61, .laload, 1) (List.mem_of_getElem? (i := 35) rfl)) ?_
          rw [show iv.toNatClampNeg = i by show iv.toInt.toNat = i; omega, hze]
          refine lv_lload_n hx hb (eX12_leapsBefore (62, .lload_n 1, 1) (List.mem_of_getElem? (i := 36) rfl)) rfl (lv_at hl 3 rfl) ?_
          refine ff_lcmp hx hb (eX12_leapsBefore (63, .lcmp, 1) (List.mem_of_getElem? (i := 37) rfl)) (fun v20 e20 => ?_)
          refine ff_if_lt hx hb (eX12_leapsBefore (64, .ifCond .lt 9, 3) (List.mem_of_getElem? (i := 38) rfl)) (tgt := 73) rfl (fun c21 => ?_) (fun c21 => ?_)
          · skip
            refine ff_lconst hx hb (eX12_leapsBefore (73, .lconst 0, 1) (List.mem_of_getElem? (i := 41) rfl)) rfl (fun v22 e22 => ?_)
            refine ff_ladd hx hb (eX12_leapsBefore (74, .ladd, 1) (List.mem_of_getElem? (i := 42) rfl)) (by omega) (by omega) (fun v23 e23 => ?_)
            refine lv_lstore_n hx hb (eX12_leapsBefore (75, .lstore_n 3, 1) (List.mem_of_getElem? (i := 43) rfl)) rfl hl (by decide) rfl (fun ls24 hl24 => ?_)
            refine ff_iinc (k := 1) hx hb (eX12_leapsBefore (76, .iinc 5 1, 3) (List.mem_of_getElem? (i := 44) rfl)) hl24 rfl (by decide) (by decide) (by decide) (by omega) (by omega) (fun v25 e25 ls25 hl25 => ?_)
            refine lv_goto hx hb (eX12_leapsBefore (79, .goto (-74), 3) (List.mem_of_getElem? (i := 45) rfl)) (tgt := 5) rfl ?_
            exact ih (i + 1) v25 v23 ls25 (by omega) (by omega) (by rw [lsI_take hLe]; unfold lcI; split <;> (try split) <;> omega) (lv_sub hl25 [0, 1, 2, 3] rfl)
          · skip
            refine ff_ldc2 (n := (-1)) hx hb hown h2 (clX12_ok 176 (-1) (List.mem_of_getElem? (i := 19) rfl)) (eX12_leapsBefore (67, .ldc2_w 176, 3) (List.mem_of_getElem? (i := 39) rfl)) (fun v26 e26 => ?_)
            refine lv_goto hx hb (eX12_leapsBefore (70, .goto 4, 3) (List.mem_of_getElem? (i := 40) rfl)) (tgt := 74) rfl ?_
            refine ff_ladd hx hb (eX12_leapsBefore (74, .ladd, 1) (List.mem_of_getElem? (i := 42) rfl)) (by omega) (by omega) (fun v27 e27 => ?_)
            refine lv_lstore_n hx hb (eX12_leapsBefore (75, .lstore_n 3, 1) (List.mem_of_getElem? (i := 43) rfl)) rfl hl (by decide) rfl (fun ls28 hl28 => ?_)
            refine ff_iinc (k := 1) hx hb (eX12_leapsBefore (76, .iinc 5 1, 3) (List.mem_of_getElem? (i := 44) rfl)) hl28 rfl (by decide) (by decide) (by decide) (by omega) (by omega) (fun v29 e29 ls29 hl29 => ?_)
            refine lv_goto hx hb (eX12_leapsBefore (79, .goto (-74), 3) (List.mem_of_getElem? (i := 45) rfl)) (tgt := 5) rfl ?_
            exact ih (i + 1) v29 v27 ls29 (by omega) (by omega) (by rw [lsI_take hLe]; unfold lcI; split <;> (try split) <;> omega) (lv_sub hl29 [0, 1, 2, 3] rfl)
      · skip
        refine lv_aload_n hx hb (eX12_leapsBefore (27, .aload_n 0, 1) (List.mem_of_getElem? (i := 16) rfl)) rfl (lv_at hl 2 rfl) ?_
        refine tz_get (r := 11) (k := 2) (t := (46, 0, 0)) hx hb hh ha rfl rfl (hcl11 9 2 (46, 0, 0) (by decide) rfl).1 f0 (eX12_leapsBefore (28, .getfield 9, 3) (List.mem_of_getElem? (i := 17) rfl)) ?_
        refine lv_iload hx hb (eX12_leapsBefore (31, .iload 5, 2) (List.mem_of_getElem? (i := 18) rfl)) (lv_at hl 0 rfl) ?_
        refine tz_lald hx hb (zAr hKn.1 1 (by decide)) hc (by omega) (by omega) (eX12_leapsBefore (33, .laload, 1) (List.mem_of_getElem? (i := 19) rfl)) ?_
        rw [show iv.toNatClampNeg = i by show iv.toInt.toNat = i; omega, hze]
        refine lv_lload_n hx hb (eX12_leapsBefore (34, .lload_n 1, 1) (List.mem_of_getElem? (i := 20) rfl)) rfl (lv_at hl 3 rfl) ?_
        refine ff_lcmp hx hb (eX12_leapsBefore (35, .lcmp, 1) (List.mem_of_getElem? (i := 21) rfl)) (fun v31 e31 => ?_)
        refine ff_if_ge hx hb (eX12_leapsBefore (36, .ifCond .ge 7, 3) (List.mem_of_getElem? (i := 22) rfl)) (tgt := 43) rfl (fun c32 => ?_) (fun c32 => ?_)
        · skip
          refine lv_aload_n hx hb (eX12_leapsBefore (43, .aload_n 0, 1) (List.mem_of_getElem? (i := 25) rfl)) rfl (lv_at hl 2 rfl) ?_
          refine tz_get (r := 11) (k := 2) (t := (46, 0, 0)) hx hb hh ha rfl rfl (hcl11 9 2 (46, 0, 0) (by decide) rfl).1 f0 (eX12_leapsBefore (44, .getfield 9, 3) (List.mem_of_getElem? (i := 26) rfl)) ?_
          refine lv_iload hx hb (eX12_leapsBefore (47, .iload 5, 2) (List.mem_of_getElem? (i := 27) rfl)) (lv_at hl 0 rfl) ?_
          refine tz_lald hx hb (zAr hKn.1 1 (by decide)) hc (by omega) (by omega) (eX12_leapsBefore (49, .laload, 1) (List.mem_of_getElem? (i := 28) rfl)) ?_
          rw [show iv.toNatClampNeg = i by show iv.toInt.toNat = i; omega, hze]
          refine ff_lconst hx hb (eX12_leapsBefore (50, .lconst 0, 1) (List.mem_of_getElem? (i := 29) rfl)) rfl (fun v34 e34 => ?_)
          refine ff_lcmp hx hb (eX12_leapsBefore (51, .lcmp, 1) (List.mem_of_getElem? (i := 30) rfl)) (fun v35 e35 => ?_)
          refine ff_if_ge hx hb (eX12_leapsBefore (52, .ifCond .ge 21, 3) (List.mem_of_getElem? (i := 31) rfl)) (tgt := 73) rfl (fun c36 => ?_) (fun c36 => ?_)
          · skip
            refine ff_lconst hx hb (eX12_leapsBefore (73, .lconst 0, 1) (List.mem_of_getElem? (i := 41) rfl)) rfl (fun v37 e37 => ?_)
            refine ff_ladd hx hb (eX12_leapsBefore (74, .ladd, 1) (List.mem_of_getElem? (i := 42) rfl)) (by omega) (by omega) (fun v38 e38 => ?_)
            refine lv_lstore_n hx hb (eX12_leapsBefore (75, .lstore_n 3, 1) (List.mem_of_getElem? (i := 43) rfl)) rfl hl (by decide) rfl (fun ls39 hl39 => ?_)
            refine ff_iinc (k := 1) hx hb (eX12_leapsBefore (76, .iinc 5 1, 3) (List.mem_of_getElem? (i := 44) rfl)) hl39 rfl (by decide) (by decide) (by decide) (by omega) (by omega) (fun v40 e40 ls40 hl40 => ?_)
            refine lv_goto hx hb (eX12_leapsBefore (79, .goto (-74), 3) (List.mem_of_getElem? (i := 45) rfl)) (tgt := 5) rfl ?_
            exact ih (i + 1) v40 v38 ls40 (by omega) (by omega) (by rw [lsI_take hLe]; unfold lcI; split <;> (try split) <;> omega) (lv_sub hl40 [0, 1, 2, 3] rfl)
          · skip
            refine lv_aload_n hx hb (eX12_leapsBefore (55, .aload_n 0, 1) (List.mem_of_getElem? (i := 32) rfl)) rfl (lv_at hl 2 rfl) ?_
            refine tz_get (r := 11) (k := 2) (t := (46, 0, 0)) hx hb hh ha rfl rfl (hcl11 9 2 (46, 0, 0) (by decide) rfl).1 f0 (eX12_leapsBefore (56, .getfield 9, 3) (List.mem_of_getElem? (i := 33) rfl)) ?_
            refine lv_iload hx hb (eX12_leapsBefore (59, .iload 5, 2) (List.mem_of_getElem? (i := 34) rfl)) (lv_at hl 0 rfl) ?_
            refine tz_lald hx hb (zAr hKn.1 1 (by decide)) hc (by omega) (by omega) (eX12_leapsBefore (61, .laload, 1) (List.mem_of_getElem? (i := 35) rfl)) ?_
            rw [show iv.toNatClampNeg = i by show iv.toInt.toNat = i; omega, hze]
            refine lv_lload_n hx hb (eX12_leapsBefore (62, .lload_n 1, 1) (List.mem_of_getElem? (i := 36) rfl)) rfl (lv_at hl 3 rfl) ?_
            refine ff_lcmp hx hb (eX12_leapsBefore (63, .lcmp, 1) (List.mem_of_getElem? (i := 37) rfl)) (fun v42 e42 => ?_)
            refine ff_if_lt hx hb (eX12_leapsBefore (64, .ifCond .lt 9, 3) (List.mem_of_getElem? (i := 38) rfl)) (tgt := 73) rfl (fun c43 => ?_) (fun c43 => ?_)
            · skip
              refine ff_lconst hx hb (eX12_leapsBefore (73, .lconst 0, 1) (List.mem_of_getElem? (i := 41) rfl)) rfl (fun v44 e44 => ?_)
              refine ff_ladd hx hb (eX12_leapsBefore (74, .ladd, 1) (List.mem_of_getElem? (i := 42) rfl)) (by omega) (by omega) (fun v45 e45 => ?_)
              refine lv_lstore_n hx hb (eX12_leapsBefore (75, .lstore_n 3, 1) (List.mem_of_getElem? (i := 43) rfl)) rfl hl (by decide) rfl (fun ls46 hl46 => ?_)
              refine ff_iinc (k := 1) hx hb (eX12_leapsBefore (76, .iinc 5 1, 3) (List.mem_of_getElem? (i := 44) rfl)) hl46 rfl (by decide) (by decide) (by decide) (by omega) (by omega) (fun v47 e47 ls47 hl47 => ?_)
              refine lv_goto hx hb (eX12_leapsBefore (79, .goto (-74), 3) (List.mem_of_getElem? (i := 45) rfl)) (tgt := 5) rfl ?_
              exact ih (i + 1) v47 v45 ls47 (by omega) (by omega) (by rw [lsI_take hLe]; unfold lcI; split <;> (try split) <;> omega) (lv_sub hl47 [0, 1, 2, 3] rfl)
            · skip
              refine ff_ldc2 (n := (-1)) hx hb hown h2 (clX12_ok 176 (-1) (List.mem_of_getElem? (i := 19) rfl)) (eX12_leapsBefore (67, .ldc2_w 176, 3) (List.mem_of_getElem? (i := 39) rfl)) (fun v48 e48 => ?_)
              refine lv_goto hx hb (eX12_leapsBefore (70, .goto 4, 3) (List.mem_of_getElem? (i := 40) rfl)) (tgt := 74) rfl ?_
              refine ff_ladd hx hb (eX12_leapsBefore (74, .ladd, 1) (List.mem_of_getElem? (i := 42) rfl)) (by omega) (by omega) (fun v49 e49 => ?_)
              refine lv_lstore_n hx hb (eX12_leapsBefore (75, .lstore_n 3, 1) (List.mem_of_getElem? (i := 43) rfl)) rfl hl (by decide) rfl (fun ls50 hl50 => ?_)
              refine ff_iinc (k := 1) hx hb (eX12_leapsBefore (76, .iinc 5 1, 3) (List.mem_of_getElem? (i := 44) rfl)) hl50 rfl (by decide) (by decide) (by decide) (by omega) (by omega) (fun v51 e51 ls51 hl51 => ?_)
              refine lv_goto hx hb (eX12_leapsBefore (79, .goto (-74), 3) (List.mem_of_getElem? (i := 45) rfl)) (tgt := 5) rfl ?_
              exact ih (i + 1) v51 v49 ls51 (by omega) (by omega) (by rw [lsI_take hLe]; unfold lcI; split <;> (try split) <;> omega) (lv_sub hl51 [0, 1, 2, 3] rfl)
        · skip
          refine ff_lconst hx hb (eX12_leapsBefore (39, .lconst 1, 1) (List.mem_of_getElem? (i := 23) rfl)) rfl (fun v52 e52 => ?_)
          refine lv_goto hx hb (eX12_leapsBefore (40, .goto 34, 3) (List.mem_of_getElem? (i := 24) rfl)) (tgt := 74) rfl ?_
          refine ff_ladd hx hb (eX12_leapsBefore (74, .ladd, 1) (List.mem_of_getElem? (i := 42) rfl)) (by omega) (by omega) (fun v53 e53 => ?_)
          refine lv_lstore_n hx hb (eX12_leapsBefore (75, .lstore_n 3, 1) (List.mem_of_getElem? (i := 43) rfl)) rfl hl (by decide) rfl (fun ls54 hl54 => ?_)
          refine ff_iinc (k := 1) hx hb (eX12_leapsBefore (76, .iinc 5 1, 3) (List.mem_of_getElem? (i := 44) rfl)) hl54 rfl (by decide) (by decide) (by decide) (by omega) (by omega) (fun v55 e55 ls55 hl55 => ?_)
          refine lv_goto hx hb (eX12_leapsBefore (79, .goto (-74), 3) (List.mem_of_getElem? (i := 45) rfl)) (tgt := 5) rfl ?_
          exact ih (i + 1) v55 v53 ls55 (by omega) (by omega) (by rw [lsI_take hLe]; unfold lcI; split <;> (try split) <;> omega) (lv_sub hl55 [0, 1, 2, 3] rfl)
  exact loop L.length 0 v3 v1 ls4 (by omega) (by omega) (by rw [List.take_zero]; show _ = 0; omega) (lv_sub hl4 [0, 1, 2, 3] rfl)
set_option maxRecDepth 100000 in
set_option maxHeartbeats 4000000 in
theorem hX12_down1440 (l : Launch) (a : Int64) (v900 : Int64) (e900 : v900.toInt = 1440) (ha1 : -9000000000000000000 ≤ a.toInt) (ha2 : a.toInt ≤ 9000000000000000000) : zu_M l yX12_down (gW yX12_down cX12_down 6 (some .long)) { frames := 0, cells := 0, slots := 0, locals := 0 } (fun vs => vs = [.long a, .long v900]) zT (fun _ w => ∃ r : Int64, w = .long r ∧ r.toInt = a.toInt / 1440) := by
  refine zy_ofW (cc := cX12_down) (maxL := 6) (ret := (some .long)) (by decide +kernel) rfl ?_
  intro p e s m args below meth c s1 B hml hv
  obtain ⟨vs, rfl, rfl, hKp⟩ := hv
  have hx := B.exec
  have hb := B.bytes
  have hr := B.returns
  have hlk := B.notSynchronized
  have hts0 := atoms_spec (ws := gW yX12_down cX12_down 6 (some .long)) B.pre
  have h2 : ∀ w ∈ gT, w.before ([.long a, .long v900] : List Value).toArray s = true := fun w hw => hts0 w (List.mem_cons_of_mem _ hw)
  have hown : s.vm.findClass RX12 = some m.cls := findClass_of_methodNamed B.named
  have hl := lv_entry [.long a, .long v900] (n := 6) (Nat.le_of_ble_eq_true rfl)
  rw [lg_entry_eq]
  generalize (lg_sl [.long a, .long v900] ++ List.replicate (6 - (lg_sl [.long a, .long v900]).length) Slot.unset).toArray = ls at hl ⊢
  have b_a := zn_i64 a
  have b_v900 := zn_i64 v900
  refine lv_lload_n hx hb (eX12_down (0, .lload_n 0, 1) (List.mem_of_getElem? (i := 0) rfl)) rfl (lv_at hl 0 rfl) ?_
  refine lv_lload_n hx hb (eX12_down (1, .lload_n 2, 1) (List.mem_of_getElem? (i := 1) rfl)) rfl (lv_at hl 1 rfl) ?_
  refine ff_ldiv hx hb (eX12_down (2, .ldiv, 1) (List.mem_of_getElem? (i := 2) rfl)) (e900) (by decide) (fun v1 e1 => ?_)
  refine lv_lstore hx hb (eX12_down (3, .lstore 4, 2) (List.mem_of_getElem? (i := 3) rfl)) hl (by decide) rfl (fun ls2 hl2 => ?_)
  refine lv_lload_n hx hb (eX12_down (5, .lload_n 0, 1) (List.mem_of_getElem? (i := 4) rfl)) rfl (lv_at hl2 1 rfl) ?_
  refine lv_lload_n hx hb (eX12_down (6, .lload_n 2, 1) (List.mem_of_getElem? (i := 5) rfl)) rfl (lv_at hl2 2 rfl) ?_
  refine ff_lrem hx hb (eX12_down (7, .lrem, 1) (List.mem_of_getElem? (i := 6) rfl)) (e900) (by decide) (fun v3 e3 => ?_)
  refine ff_lconst hx hb (eX12_down (8, .lconst 0, 1) (List.mem_of_getElem? (i := 7) rfl)) rfl (fun v4 e4 => ?_)
  refine ff_lcmp hx hb (eX12_down (9, .lcmp, 1) (List.mem_of_getElem? (i := 8) rfl)) (fun v5 e5 => ?_)
  refine ff_if_ge hx hb (eX12_down (10, .ifCond .ge 10, 3) (List.mem_of_getElem? (i := 9) rfl)) (tgt := 20) rfl (fun c6 => ?_) (fun c6 => ?_)
  · skip
    refine lv_lload hx hb (eX12_down (20, .lload 4, 2) (List.mem_of_getElem? (i := 14) rfl)) (lv_at hl2 0 rfl) ?_
    exact zu_lret (y := yX12_down) (ws := []) (rm := {}) hx hb hr hlk ⟨_, rfl, by omega⟩ (eX12_down (22, .lreturn, 1) (List.mem_of_getElem? (i := 15) rfl))
  · skip
    refine lv_lload hx hb (eX12_down (13, .lload 4, 2) (List.mem_of_getElem? (i := 10) rfl)) (lv_at hl2 0 rfl) ?_
    refine ff_lconst hx hb (eX12_down (15, .lconst 1, 1) (List.mem_of_getElem? (i := 11) rfl)) rfl (fun v7 e7 => ?_)
    refine ff_lsub hx hb (eX12_down (16, .lsub, 1) (List.mem_of_getElem? (i := 12) rfl)) (by omega) (by omega) (fun v8 e8 => ?_)
    refine lv_goto hx hb (eX12_down (17, .goto 5, 3) (List.mem_of_getElem? (i := 13) rfl)) (tgt := 22) rfl ?_
    exact zu_lret (y := yX12_down) (ws := []) (rm := {}) hx hb hr hlk ⟨_, rfl, by omega⟩ (eX12_down (22, .lreturn, 1) (List.mem_of_getElem? (i := 15) rfl))
set_option maxRecDepth 100000 in
set_option maxHeartbeats 4000000 in
theorem hX12_down60 (l : Launch) (a : Int64) (v900 : Int64) (e900 : v900.toInt = 60) (ha1 : -9000000000000000000 ≤ a.toInt) (ha2 : a.toInt ≤ 9000000000000000000) : zu_M l yX12_down (gW yX12_down cX12_down 6 (some .long)) { frames := 0, cells := 0, slots := 0, locals := 0 } (fun vs => vs = [.long a, .long v900]) zT (fun _ w => ∃ r : Int64, w = .long r ∧ r.toInt = a.toInt / 60) := by
  refine zy_ofW (cc := cX12_down) (maxL := 6) (ret := (some .long)) (by decide +kernel) rfl ?_
  intro p e s m args below meth c s1 B hml hv
  obtain ⟨vs, rfl, rfl, hKp⟩ := hv
  have hx := B.exec
  have hb := B.bytes
  have hr := B.returns
  have hlk := B.notSynchronized
  have hts0 := atoms_spec (ws := gW yX12_down cX12_down 6 (some .long)) B.pre
  have h2 : ∀ w ∈ gT, w.before ([.long a, .long v900] : List Value).toArray s = true := fun w hw => hts0 w (List.mem_cons_of_mem _ hw)
  have hown : s.vm.findClass RX12 = some m.cls := findClass_of_methodNamed B.named
  have hl := lv_entry [.long a, .long v900] (n := 6) (Nat.le_of_ble_eq_true rfl)
  rw [lg_entry_eq]
  generalize (lg_sl [.long a, .long v900] ++ List.replicate (6 - (lg_sl [.long a, .long v900]).length) Slot.unset).toArray = ls at hl ⊢
  have b_a := zn_i64 a
  have b_v900 := zn_i64 v900
  refine lv_lload_n hx hb (eX12_down (0, .lload_n 0, 1) (List.mem_of_getElem? (i := 0) rfl)) rfl (lv_at hl 0 rfl) ?_
  refine lv_lload_n hx hb (eX12_down (1, .lload_n 2, 1) (List.mem_of_getElem? (i := 1) rfl)) rfl (lv_at hl 1 rfl) ?_
  refine ff_ldiv hx hb (eX12_down (2, .ldiv, 1) (List.mem_of_getElem? (i := 2) rfl)) (e900) (by decide) (fun v1 e1 => ?_)
  refine lv_lstore hx hb (eX12_down (3, .lstore 4, 2) (List.mem_of_getElem? (i := 3) rfl)) hl (by decide) rfl (fun ls2 hl2 => ?_)
  refine lv_lload_n hx hb (eX12_down (5, .lload_n 0, 1) (List.mem_of_getElem? (i := 4) rfl)) rfl (lv_at hl2 1 rfl) ?_
  refine lv_lload_n hx hb (eX12_down (6, .lload_n 2, 1) (List.mem_of_getElem? (i := 5) rfl)) rfl (lv_at hl2 2 rfl) ?_
  refine ff_lrem hx hb (eX12_down (7, .lrem, 1) (List.mem_of_getElem? (i := 6) rfl)) (e900) (by decide) (fun v3 e3 => ?_)
  refine ff_lconst hx hb (eX12_down (8, .lconst 0, 1) (List.mem_of_getElem? (i := 7) rfl)) rfl (fun v4 e4 => ?_)
  refine ff_lcmp hx hb (eX12_down (9, .lcmp, 1) (List.mem_of_getElem? (i := 8) rfl)) (fun v5 e5 => ?_)
  refine ff_if_ge hx hb (eX12_down (10, .ifCond .ge 10, 3) (List.mem_of_getElem? (i := 9) rfl)) (tgt := 20) rfl (fun c6 => ?_) (fun c6 => ?_)
  · skip
    refine lv_lload hx hb (eX12_down (20, .lload 4, 2) (List.mem_of_getElem? (i := 14) rfl)) (lv_at hl2 0 rfl) ?_
    exact zu_lret (y := yX12_down) (ws := []) (rm := {}) hx hb hr hlk ⟨_, rfl, by omega⟩ (eX12_down (22, .lreturn, 1) (List.mem_of_getElem? (i := 15) rfl))
  · skip
    refine lv_lload hx hb (eX12_down (13, .lload 4, 2) (List.mem_of_getElem? (i := 10) rfl)) (lv_at hl2 0 rfl) ?_
    refine ff_lconst hx hb (eX12_down (15, .lconst 1, 1) (List.mem_of_getElem? (i := 11) rfl)) rfl (fun v7 e7 => ?_)
    refine ff_lsub hx hb (eX12_down (16, .lsub, 1) (List.mem_of_getElem? (i := 12) rfl)) (by omega) (by omega) (fun v8 e8 => ?_)
    refine lv_goto hx hb (eX12_down (17, .goto 5, 3) (List.mem_of_getElem? (i := 13) rfl)) (tgt := 22) rfl ?_
    exact zu_lret (y := yX12_down) (ws := []) (rm := {}) hx hb hr hlk ⟨_, rfl, by omega⟩ (eX12_down (22, .lreturn, 1) (List.mem_of_getElem? (i := 15) rfl))
set_option maxRecDepth 100000 in
set_option maxHeartbeats 4000000 in
theorem hX12_startOf (l : Launch) (D : va_G) (cA : Nat → ClassId) (ro : Nat → Option Nat) (sz : Nat) (H0 : Heap) (a : Nat) (m0 : Int64) (L : List Int) (ha : ro a = some 11) (hm1 : -10000000000000 ≤ m0.toInt) (hm2 : m0.toInt ≤ 10000000000000) : Met l yX12_startOf (gW yX12_startOf cX12_startOf 3 (some .long)) { frames := 1, cells := 0, slots := 0, locals := 25 } (zs_P D cA ro sz H0 (fun H => jR D cA ro H a L) [.ref a, .long m0]) (fun _ st oc t => t.heap = st.heap ∧ ∃ r : Int64, oc = .returned (some (.long r)) ∧ r.toInt = stI L m0.toInt) 0 0 (zy_fr sz) := by
  refine zy_ofW (cc := cX12_startOf) (maxL := 3) (ret := (some .long)) (by decide +kernel) rfl ?_
  intro p e s m args below meth c s1 B hml hv
  obtain ⟨rfl, hh, hKn, hJ⟩ := hv
  have hx := B.exec
  have hb := B.bytes
  have hr := B.returns
  have hlk := B.notSynchronized
  have hts0 := atoms_spec (ws := gW yX12_startOf cX12_startOf 3 (some .long)) B.pre
  have h2 : ∀ w ∈ gT, w.before ([.ref a, .long m0] : List Value).toArray s = true := fun w hw => hts0 w (List.mem_cons_of_mem _ hw)
  have hown : s.vm.findClass RX12 = some m.cls := findClass_of_methodNamed B.named
  have hl := lv_entry [.ref a, .long m0] (n := 3) (Nat.le_of_ble_eq_true rfl)
  rw [lg_entry_eq]
  generalize (lg_sl [.ref a, .long m0] ++ List.replicate (3 - (lg_sl [.ref a, .long m0]).length) Slot.unset).toArray = ls at hl ⊢
  have b_m0 := zn_i64 m0
  have hD := zD_all h2 hKn.1
  have hcl11 := fun (idx k : Nat) (t : zt_T) (h : (idx, 11, k) ∈ gfX12) (hk : fsX12[k]? = some t) => zf_clause (ro := ro) (ms := []) h2 hown hKn.1 gfX12_ok (by decide +kernel) idx 11 k 11 0 fsX12 t h rfl hk
  have kp0 : zc_kept D RTg ro [] s.heap s.heap := zc_kept.refl
  obtain ⟨la, n, z, f0, r0, f1, hn, hc, hz⟩ := id hJ
  obtain ⟨n9, g9, n1, n2⟩ := zh_fT (k := 1) (t := (0, 0, 40)) hh ha (show RTg[11]? = some (0, 11, 0, fsX12) from rfl) rfl
  cases f1.symm.trans g9
  dsimp only at n1 n2
  clear g9
  have hjL : L.length ≤ 40 := by omega
  refine ff_ldc2 (n := 60) hx hb hown h2 (clX12_ok 178 60 (List.mem_of_getElem? (i := 20) rfl)) (eX12_startOf (0, .ldc2_w 178, 3) (List.mem_of_getElem? (i := 0) rfl)) (fun v1 e1 => ?_)
  refine lv_lload_n hx hb (eX12_startOf (3, .lload_n 1, 1) (List.mem_of_getElem? (i := 1) rfl)) rfl (lv_at hl 1 rfl) ?_
  refine ff_lmulL hx hb (eX12_startOf (4, .lmul, 1) (List.mem_of_getElem? (i := 2) rfl)) (e1) (by omega) (by omega) (fun v2 e2 => ?_)
  refine lv_aload_n hx hb (eX12_startOf (5, .aload_n 0, 1) (List.mem_of_getElem? (i := 3) rfl)) rfl (lv_at hl 0 rfl) ?_
  refine lv_lload_n hx hb (eX12_startOf (6, .lload_n 1, 1) (List.mem_of_getElem? (i := 4) rfl)) rfl (lv_at hl 1 rfl) ?_
  refine ff_ldc2 (n := 1440) hx hb hown h2 (clX12_ok 180 1440 (List.mem_of_getElem? (i := 21) rfl)) (eX12_startOf (7, .ldc2_w 180, 3) (List.mem_of_getElem? (i := 5) rfl)) (fun v3 e3 => ?_)
  refine zu_S (vs := [.long m0, .long v3]) (rest := [.ref a, .long v2]) hx hb hml hown hts0 zu_BT (hX12_down1440 l m0 v3 (by omega) (by omega) (by omega)) ⟨rfl, rfl⟩ ⟨by decide, by decide⟩ ⟨by decide, by decide⟩ (tb_6 139 rfl rfl) (tb_1 12 rfl rfl) (tb_6 137 rfl rfl) (tb_6 138 rfl rfl) (show yX12_down.cls ≠ "java/lang/invoke/MethodHandle" ∧ yX12_down.cls ≠ "java/lang/invoke/VarHandle" ∧ (parseMethodDescriptor yX12_down.desc).map (fun d => d.parameters.length) = some 2 by decide +kernel) rfl (fun _ _ _ => trivial) hl.1 (Nat.le_of_ble_eq_true rfl) (eX12_startOf (10, .invokestatic 99, 3) (List.mem_of_getElem? (i := 6) rfl)) (fun w4 f4 => ?_)
  obtain ⟨v4, rfl, e4⟩ := f4
  refine tz_rowV (As := [.long v4]) (st := [.long v2]) (b := a) (C := RX12) (Ts := gT) hx hb hml hown h2 (fun _ h => h) (hX12_leapsBefore l D cA ro sz H0 a v4 L ha) ⟨rfl, rfl⟩ ⟨by decide, by decide⟩ ⟨by decide, by decide⟩ (tb_7 132 rfl rfl) (tb_1 12 rfl rfl) (tb_7 129 rfl rfl) (tb_7 131 rfl rfl) (tb_0 12 rfl rfl) (show yX12_leapsBefore.cls ≠ "java/lang/invoke/MethodHandle" ∧ yX12_leapsBefore.cls ≠ "java/lang/invoke/VarHandle" ∧ (parseMethodDescriptor yX12_leapsBefore.desc).map (fun d => d.parameters.length) = some 1 by decide +kernel) zs_blind (zs_ob hh ha (show RTg[11]? = some (0, 11, 0, fsX12) from rfl) (zCX12 hKn.1)) (fun U hU hW => ⟨rfl, by rw [hU]; exact hh.l0, zKb s U hW.alike hKn, by rw [hU]; exact hJ⟩) hh.2.2.1 hl.1 (Nat.le_of_ble_eq_true rfl) (eX12_startOf (13, .invokevirtual 182, 3) (List.mem_of_getElem? (i := 7) rfl)) (fun r5 s5 t5 lo5 g5 f5 l5 => ?_)
  obtain ⟨z5, v5, q5, e5⟩ := f5
  cases q5
  rw [z5, g5]
  have hh5 : zh_ok D cA RTg ro sz H0 s.heap lo5 := ⟨hh.1, hh.2.1, l5, hh.2.2.2⟩
  rw [show v4.toInt = m0.toInt / 1440 by omega] at e5
  have hlb := lsI_b hjL (m0.toInt / 1440)
  refine W.eq (g2 := F0 m 16 ls [.long v5, .long v2]) rfl ?_
  refine ff_ladd hx hb (eX12_startOf (16, .ladd, 1) (List.mem_of_getElem? (i := 8) rfl)) (by omega) (by omega) (fun v6 e6 => ?_)
  exact W.lret hx hb hr (fun t ht hW => ⟨ht, _, rfl, by unfold stI; omega⟩) hh5.2.2.1 (eX12_startOf (17, .lreturn, 1) (List.mem_of_getElem? (i := 9) rfl))
set_option maxRecDepth 100000 in
set_option maxHeartbeats 4000000 in
theorem hX12_isMinute (l : Launch) (D : va_G) (cA : Nat → ClassId) (ro : Nat → Option Nat) (sz : Nat) (H0 : Heap) (a : Nat) (m0 : Int64) (L : List Int) (ha : ro a = some 11)  : Met l yX12_isMinute (gW yX12_isMinute cX12_isMinute 3 (some .boolean)) { frames := 1, cells := 0, slots := 0, locals := 25 } (zs_P D cA ro sz H0 (fun H => jR D cA ro H a L) [.ref a, .long m0]) (fun _ st oc t => t.heap = st.heap ∧ ∃ r : Int32, oc = .returned (some (.int r)) ∧ ((r.toInt = 1 ∧ mOK m0.toInt) ∨ (r.toInt = 0 ∧ ¬ mOK m0.toInt))) 0 0 (zy_fr sz) := by
  refine zy_ofW (cc := cX12_isMinute) (maxL := 3) (ret := (some .boolean)) (by decide +kernel) rfl ?_
  intro p e s m args below meth c s1 B hml hv
  obtain ⟨rfl, hh, hKn, hJ⟩ := hv
  have hx := B.exec
  have hb := B.bytes
  have hr := B.returns
  have hlk := B.notSynchronized
  have hts0 := atoms_spec (ws := gW yX12_isMinute cX12_isMinute 3 (some .boolean)) B.pre
  have h2 : ∀ w ∈ gT, w.before ([.ref a, .long m0] : List Value).toArray s = true := fun w hw => hts0 w (List.mem_cons_of_mem _ hw)
  have hown : s.vm.findClass RX12 = some m.cls := findClass_of_methodNamed B.named
  have hl := lv_entry [.ref a, .long m0] (n := 3) (Nat.le_of_ble_eq_true rfl)
  rw [lg_entry_eq]
  generalize (lg_sl [.ref a, .long m0] ++ List.replicate (3 - (lg_sl [.ref a, .long m0]).length) Slot.unset).toArray = ls at hl ⊢
  have b_m0 := zn_i64 m0
  have hD := zD_all h2 hKn.1
  have hcl11 := fun (idx k : Nat) (t : zt_T) (h : (idx, 11, k) ∈ gfX12) (hk : fsX12[k]? = some t) => zf_clause (ro := ro) (ms := []) h2 hown hKn.1 gfX12_ok (by decide +kernel) idx 11 k 11 0 fsX12 t h rfl hk
  have kp0 : zc_kept D RTg ro [] s.heap s.heap := zc_kept.refl
  obtain ⟨la, n, z, f0, r0, f1, hn, hc, hz⟩ := id hJ
  obtain ⟨n9, g9, n1, n2⟩ := zh_fT (k := 1) (t := (0, 0, 40)) hh ha (show RTg[11]? = some (0, 11, 0, fsX12) from rfl) rfl
  cases f1.symm.trans g9
  dsimp only at n1 n2
  clear g9
  have hjL : L.length ≤ 40 := by omega
  refine lv_lload_n hx hb (eX12_isMinute (0, .lload_n 1, 1) (List.mem_of_getElem? (i := 0) rfl)) rfl (lv_at hl 1 rfl) ?_
  refine lv_aload_n hx hb (eX12_isMinute (1, .aload_n 0, 1) (List.mem_of_getElem? (i := 1) rfl)) rfl (lv_at hl 0 rfl) ?_
  obtain ⟨v1, fa1, e1, eb1⟩ := zh_fT (k := 16) (t := (1, (-365961662), (-365961662))) hh ha (show RTg[11]? = some (0, 11, 0, fsX12) from rfl) rfl
  dsimp only at e1 eb1
  refine tz_get (r := 11) (k := 16) (t := (1, (-365961662), (-365961662))) hx hb hh ha rfl rfl (hcl11 74 16 (1, (-365961662), (-365961662)) (by decide) rfl).1 fa1 (eX12_isMinute (2, .getfield 74, 3) (List.mem_of_getElem? (i := 2) rfl)) ?_
  refine ff_ldc2 (n := 1440) hx hb hown h2 (clX12_ok 180 1440 (List.mem_of_getElem? (i := 21) rfl)) (eX12_isMinute (5, .ldc2_w 180, 3) (List.mem_of_getElem? (i := 3) rfl)) (fun v2 e2 => ?_)
  refine ff_lmulR hx hb (eX12_isMinute (8, .lmul, 1) (List.mem_of_getElem? (i := 4) rfl)) (e2) (by omega) (by omega) (fun v3 e3 => ?_)
  refine lv_aload_n hx hb (eX12_isMinute (9, .aload_n 0, 1) (List.mem_of_getElem? (i := 5) rfl)) rfl (lv_at hl 0 rfl) ?_
  obtain ⟨v4, fa4, e4, eb4⟩ := zh_fT (k := 17) (t := (1, 364522971, 364522971)) hh ha (show RTg[11]? = some (0, 11, 0, fsX12) from rfl) rfl
  dsimp only at e4 eb4
  refine tz_get (r := 11) (k := 17) (t := (1, 364522971, 364522971)) hx hb hh ha rfl rfl (hcl11 80 17 (1, 364522971, 364522971) (by decide) rfl).1 fa4 (eX12_isMinute (10, .getfield 80, 3) (List.mem_of_getElem? (i := 6) rfl)) ?_
  refine ff_ldc2 (n := 1440) hx hb hown h2 (clX12_ok 180 1440 (List.mem_of_getElem? (i := 21) rfl)) (eX12_isMinute (13, .ldc2_w 180, 3) (List.mem_of_getElem? (i := 7) rfl)) (fun v5 e5 => ?_)
  refine ff_lmulR hx hb (eX12_isMinute (16, .lmul, 1) (List.mem_of_getElem? (i := 8) rfl)) (e5) (by omega) (by omega) (fun v6 e6 => ?_)
  refine ff_ldc2 (n := 1439) hx hb hown h2 (clX12_ok 185 1439 (List.mem_of_getElem? (i := 22) rfl)) (eX12_isMinute (17, .ldc2_w 185, 3) (List.mem_of_getElem? (i := 9) rfl)) (fun v7 e7 => ?_)
  refine ff_ladd hx hb (eX12_isMinute (20, .ladd, 1) (List.mem_of_getElem? (i := 10) rfl)) (by omega) (by omega) (fun v8 e8 => ?_)
  refine zu_S (vs := [.long m0, .long v3, .long v8]) (rest := []) hx hb hml hown hts0 zu_BT (hX12_isIn l m0 v3 v8) ⟨rfl, rfl⟩ ⟨by decide, by decide⟩ ⟨by decide, by decide⟩ (tb_7 47 rfl rfl) (tb_1 12 rfl rfl) (tb_7 45 rfl rfl) (tb_7 46 rfl rfl) (show yX12_isIn.cls ≠ "java/lang/invoke/MethodHandle" ∧ yX12_isIn.cls ≠ "java/lang/invoke/VarHandle" ∧ (parseMethodDescriptor yX12_isIn.desc).map (fun d => d.parameters.length) = some 3 by decide +kernel) rfl (fun _ _ _ => trivial) hl.1 (Nat.le_of_ble_eq_true rfl) (eX12_isMinute (21, .invokestatic 130, 3) (List.mem_of_getElem? (i := 11) rfl)) (fun w9 f9 => ?_)
  obtain ⟨v9, rfl, e9⟩ := f9
  exact W.zret hx hb hr (zn_bool (by omega) (by omega)) (fun t ht hW => ⟨ht, _, rfl, by unfold mOK; omega⟩) hh.2.2.1 (eX12_isMinute (24, .ireturn, 1) (List.mem_of_getElem? (i := 12) rfl))
set_option maxRecDepth 100000 in
set_option maxHeartbeats 4000000 in
theorem hX12_isInstant (l : Launch) (D : va_G) (cA : Nat → ClassId) (ro : Nat → Option Nat) (sz : Nat) (H0 : Heap) (a : Nat) (t0 : Int64) (L : List Int) (ha : ro a = some 11)  : Met l yX12_isInstant (gW yX12_isInstant cX12_isInstant 3 (some .boolean)) { frames := 2, cells := 0, slots := 0, locals := 47 } (zs_P D cA ro sz H0 (fun H => jR D cA ro H a L) [.ref a, .long t0]) (fun _ st oc t => t.heap = st.heap ∧ ∃ r : Int32, oc = .returned (some (.int r)) ∧ ((r.toInt = 1 ∧ tOK t0.toInt L) ∨ (r.toInt = 0 ∧ ¬ tOK t0.toInt L))) 0 0 (zy_fr sz) := by
  refine zy_ofW (cc := cX12_isInstant) (maxL := 3) (ret := (some .boolean)) (by decide +kernel) rfl ?_
  intro p e s m args below meth c s1 B hml hv
  obtain ⟨rfl, hh, hKn, hJ⟩ := hv
  have hx := B.exec
  have hb := B.bytes
  have hr := B.returns
  have hlk := B.notSynchronized
  have hts0 := atoms_spec (ws := gW yX12_isInstant cX12_isInstant 3 (some .boolean)) B.pre
  have h2 : ∀ w ∈ gT, w.before ([.ref a, .long t0] : List Value).toArray s = true := fun w hw => hts0 w (List.mem_cons_of_mem _ hw)
  have hown : s.vm.findClass RX12 = some m.cls := findClass_of_methodNamed B.named
  have hl := lv_entry [.ref a, .long t0] (n := 3) (Nat.le_of_ble_eq_true rfl)
  rw [lg_entry_eq]
  generalize (lg_sl [.ref a, .long t0] ++ List.replicate (3 - (lg_sl [.ref a, .long t0]).length) Slot.unset).toArray = ls at hl ⊢
  have b_t0 := zn_i64 t0
  have hD := zD_all h2 hKn.1
  have hcl11 := fun (idx k : Nat) (t : zt_T) (h : (idx, 11, k) ∈ gfX12) (hk : fsX12[k]? = some t) => zf_clause (ro := ro) (ms := []) h2 hown hKn.1 gfX12_ok (by decide +kernel) idx 11 k 11 0 fsX12 t h rfl hk
  have kp0 : zc_kept D RTg ro [] s.heap s.heap := zc_kept.refl
  obtain ⟨la, n, z, f0, r0, f1, hn, hc, hz⟩ := id hJ
  obtain ⟨n9, g9, n1, n2⟩ := zh_fT (k := 1) (t := (0, 0, 40)) hh ha (show RTg[11]? = some (0, 11, 0, fsX12) from rfl) rfl
  cases f1.symm.trans g9
  dsimp only at n1 n2
  clear g9
  have hjL : L.length ≤ 40 := by omega
  refine lv_lload_n hx hb (eX12_isInstant (0, .lload_n 1, 1) (List.mem_of_getElem? (i := 0) rfl)) rfl (lv_at hl 1 rfl) ?_
  refine lv_aload_n hx hb (eX12_isInstant (1, .aload_n 0, 1) (List.mem_of_getElem? (i := 1) rfl)) rfl (lv_at hl 0 rfl) ?_
  refine lv_aload_n hx hb (eX12_isInstant (2, .aload_n 0, 1) (List.mem_of_getElem? (i := 2) rfl)) rfl (lv_at hl 0 rfl) ?_
  obtain ⟨v1, fa1, e1, eb1⟩ := zh_fT (k := 16) (t := (1, (-365961662), (-365961662))) hh ha (show RTg[11]? = some (0, 11, 0, fsX12) from rfl) rfl
  dsimp only at e1 eb1
  refine tz_get (r := 11) (k := 16) (t := (1, (-365961662), (-365961662))) hx hb hh ha rfl rfl (hcl11 74 16 (1, (-365961662), (-365961662)) (by decide) rfl).1 fa1 (eX12_isInstant (3, .getfield 74, 3) (List.mem_of_getElem? (i := 3) rfl)) ?_
  refine ff_ldc2 (n := 1440) hx hb hown h2 (clX12_ok 180 1440 (List.mem_of_getElem? (i := 21) rfl)) (eX12_isInstant (6, .ldc2_w 180, 3) (List.mem_of_getElem? (i := 4) rfl)) (fun v2 e2 => ?_)
  refine ff_lmulR hx hb (eX12_isInstant (9, .lmul, 1) (List.mem_of_getElem? (i := 5) rfl)) (e2) (by omega) (by omega) (fun v3 e3 => ?_)
  refine tz_rowV (As := [.long v3]) (st := [.long t0]) (b := a) (C := RX12) (Ts := gT) hx hb hml hown h2 (fun _ h => h) (hX12_startOf l D cA ro sz H0 a v3 L ha (by omega) (by omega)) ⟨rfl, rfl⟩ ⟨by decide, by decide⟩ ⟨by decide, by decide⟩ (tb_7 127 rfl rfl) (tb_1 12 rfl rfl) (tb_7 124 rfl rfl) (tb_7 126 rfl rfl) (tb_0 11 rfl rfl) (show yX12_startOf.cls ≠ "java/lang/invoke/MethodHandle" ∧ yX12_startOf.cls ≠ "java/lang/invoke/VarHandle" ∧ (parseMethodDescriptor yX12_startOf.desc).map (fun d => d.parameters.length) = some 1 by decide +kernel) zs_blind (zs_ob hh ha (show RTg[11]? = some (0, 11, 0, fsX12) from rfl) (zCX12 hKn.1)) (fun U hU hW => ⟨rfl, by rw [hU]; exact hh.l0, zKb s U hW.alike hKn, by rw [hU]; exact hJ⟩) hh.2.2.1 hl.1 (Nat.le_of_ble_eq_true rfl) (eX12_isInstant (10, .invokevirtual 190, 3) (List.mem_of_getElem? (i := 6) rfl)) (fun r4 s4 t4 lo4 g4 f4 l4 => ?_)
  obtain ⟨z4, v4, q4, e4⟩ := f4
  cases q4
  rw [z4, g4]
  have hh4 : zh_ok D cA RTg ro sz H0 s.heap lo4 := ⟨hh.1, hh.2.1, l4, hh.2.2.2⟩
  unfold stI at e4
  rw [show v3.toInt / 1440 = (-365961662) by omega] at e4
  refine W.eq (g2 := F0 m 13 ls [.long v4, .long t0]) rfl ?_
  refine ff_lcmp hx hb (eX12_isInstant (13, .lcmp, 1) (List.mem_of_getElem? (i := 7) rfl)) (fun v5 e5 => ?_)
  refine ff_if_lt hx hb (eX12_isInstant (14, .ifCond .lt 28, 3) (List.mem_of_getElem? (i := 8) rfl)) (tgt := 42) rfl (fun c6 => ?_) (fun c6 => ?_)
  · skip
    refine ff_iconst hx hb (eX12_isInstant (42, .iconst 0, 1) (List.mem_of_getElem? (i := 22) rfl)) (by decide) (by decide) (fun v7 e7 => ?_)
    exact W.zret hx hb hr (zn_bool (by omega) (by omega)) (fun t ht hW => ⟨ht, _, rfl, by unfold tOK; omega⟩) hh4.2.2.1 (eX12_isInstant (43, .ireturn, 1) (List.mem_of_getElem? (i := 23) rfl))
  · skip
    refine lv_lload_n hx hb (eX12_isInstant (17, .lload_n 1, 1) (List.mem_of_getElem? (i := 9) rfl)) rfl (lv_at hl 1 rfl) ?_
    refine lv_aload_n hx hb (eX12_isInstant (18, .aload_n 0, 1) (List.mem_of_getElem? (i := 10) rfl)) rfl (lv_at hl 0 rfl) ?_
    refine lv_aload_n hx hb (eX12_isInstant (19, .aload_n 0, 1) (List.mem_of_getElem? (i := 11) rfl)) rfl (lv_at hl 0 rfl) ?_
    obtain ⟨v8, fa8, e8, eb8⟩ := zh_fT (k := 17) (t := (1, 364522971, 364522971)) hh4 ha (show RTg[11]? = some (0, 11, 0, fsX12) from rfl) rfl
    dsimp only at e8 eb8
    refine tz_get (r := 11) (k := 17) (t := (1, 364522971, 364522971)) hx hb hh4 ha rfl rfl (hcl11 80 17 (1, 364522971, 364522971) (by decide) rfl).1 fa8 (eX12_isInstant (20, .getfield 80, 3) (List.mem_of_getElem? (i := 12) rfl)) ?_
    refine ff_ldc2 (n := 1440) hx hb hown h2 (clX12_ok 180 1440 (List.mem_of_getElem? (i := 21) rfl)) (eX12_isInstant (23, .ldc2_w 180, 3) (List.mem_of_getElem? (i := 13) rfl)) (fun v9 e9 => ?_)
    refine ff_lmulR hx hb (eX12_isInstant (26, .lmul, 1) (List.mem_of_getElem? (i := 14) rfl)) (e9) (by omega) (by omega) (fun v10 e10 => ?_)
    refine ff_ldc2 (n := 1440) hx hb hown h2 (clX12_ok 180 1440 (List.mem_of_getElem? (i := 21) rfl)) (eX12_isInstant (27, .ldc2_w 180, 3) (List.mem_of_getElem? (i := 15) rfl)) (fun v11 e11 => ?_)
    refine ff_ladd hx hb (eX12_isInstant (30, .ladd, 1) (List.mem_of_getElem? (i := 16) rfl)) (by omega) (by omega) (fun v12 e12 => ?_)
    refine tz_rowV (As := [.long v12]) (st := [.long t0]) (b := a) (C := RX12) (Ts := gT) hx hb hml hown h2 (fun _ h => h) (hX12_startOf l D cA ro sz H0 a v12 L ha (by omega) (by omega)) ⟨rfl, rfl⟩ ⟨by decide, by decide⟩ ⟨by decide, by decide⟩ (tb_7 127 rfl rfl) (tb_1 12 rfl rfl) (tb_7 124 rfl rfl) (tb_7 126 rfl rfl) (tb_0 11 rfl rfl) (show yX12_startOf.cls ≠ "java/lang/invoke/MethodHandle" ∧ yX12_startOf.cls ≠ "java/lang/invoke/VarHandle" ∧ (parseMethodDescriptor yX12_startOf.desc).map (fun d => d.parameters.length) = some 1 by decide +kernel) zs_blind (zs_ob hh4 ha (show RTg[11]? = some (0, 11, 0, fsX12) from rfl) (zCX12 hKn.1)) (fun U hU hW => ⟨rfl, by rw [hU]; exact hh4.l0, zKb s U hW.alike hKn, by rw [hU]; exact hJ⟩) hh4.2.2.1 hl.1 (Nat.le_of_ble_eq_true rfl) (eX12_isInstant (31, .invokevirtual 190, 3) (List.mem_of_getElem? (i := 17) rfl)) (fun r13 s13 t13 lo13 g13 f13 l13 => ?_)
    obtain ⟨z13, v13, q13, e13⟩ := f13
    cases q13
    rw [z13, g13]
    have hh13 : zh_ok D cA RTg ro sz H0 s.heap lo13 := ⟨hh4.1, hh4.2.1, l13, hh4.2.2.2⟩
    unfold stI at e13
    rw [show v12.toInt / 1440 = 364522972 by omega] at e13
    refine W.eq (g2 := F0 m 34 ls [.long v13, .long t0]) rfl ?_
    refine ff_lcmp hx hb (eX12_isInstant (34, .lcmp, 1) (List.mem_of_getElem? (i := 18) rfl)) (fun v14 e14 => ?_)
    refine ff_if_ge hx hb (eX12_isInstant (35, .ifCond .ge 7, 3) (List.mem_of_getElem? (i := 19) rfl)) (tgt := 42) rfl (fun c15 => ?_) (fun c15 => ?_)
    · skip
      refine ff_iconst hx hb (eX12_isInstant (42, .iconst 0, 1) (List.mem_of_getElem? (i := 22) rfl)) (by decide) (by decide) (fun v16 e16 => ?_)
      exact W.zret hx hb hr (zn_bool (by omega) (by omega)) (fun t ht hW => ⟨ht, _, rfl, by unfold tOK; omega⟩) hh13.2.2.1 (eX12_isInstant (43, .ireturn, 1) (List.mem_of_getElem? (i := 23) rfl))
    · skip
      refine ff_iconst hx hb (eX12_isInstant (38, .iconst 1, 1) (List.mem_of_getElem? (i := 20) rfl)) (by decide) (by decide) (fun v17 e17 => ?_)
      refine lv_goto hx hb (eX12_isInstant (39, .goto 4, 3) (List.mem_of_getElem? (i := 21) rfl)) (tgt := 43) rfl ?_
      exact W.zret hx hb hr (zn_bool (by omega) (by omega)) (fun t ht hW => ⟨ht, _, rfl, by unfold tOK; omega⟩) hh13.2.2.1 (eX12_isInstant (43, .ireturn, 1) (List.mem_of_getElem? (i := 23) rfl))
set_option maxRecDepth 100000 in
set_option maxHeartbeats 4000000 in
theorem hX12_secondsOf (l : Launch) (D : va_G) (cA : Nat → ClassId) (ro : Nat → Option Nat) (sz : Nat) (H0 : Heap) (a : Nat) (m0 : Int64) (L : List Int) (ha : ro a = some 11) (hm1 : -1000000000000 ≤ m0.toInt) (hm2 : m0.toInt ≤ 1000000000000) : Met l yX12_secondsOf (gW yX12_secondsOf cX12_secondsOf 5 (some .int)) { frames := 1, cells := 0, slots := 0, locals := 25 } (zs_P D cA ro sz H0 (fun H => jR D cA ro H a L) [.ref a, .long m0]) (fun _ st oc t => t.heap = st.heap ∧ ∃ r : Int32, oc = .returned (some (.int r)) ∧ ((r.toInt = 61 ∧ m0.toInt % 1440 = 1439 ∧ m0.toInt / 1440 ∈ L) ∨ (r.toInt = 60 ∧ ¬ (m0.toInt % 1440 = 1439 ∧ m0.toInt / 1440 ∈ L)))) 0 0 (zy_fr sz) := by
  refine zy_ofW (cc := cX12_secondsOf) (maxL := 5) (ret := (some .int)) (by decide +kernel) rfl ?_
  intro p e s m args below meth c s1 B hml hv
  obtain ⟨rfl, hh, hKn, hJ⟩ := hv
  have hx := B.exec
  have hb := B.bytes
  have hr := B.returns
  have hlk := B.notSynchronized
  have hts0 := atoms_spec (ws := gW yX12_secondsOf cX12_secondsOf 5 (some .int)) B.pre
  have h2 : ∀ w ∈ gT, w.before ([.ref a, .long m0] : List Value).toArray s = true := fun w hw => hts0 w (List.mem_cons_of_mem _ hw)
  have hown : s.vm.findClass RX12 = some m.cls := findClass_of_methodNamed B.named
  have hl := lv_entry [.ref a, .long m0] (n := 5) (Nat.le_of_ble_eq_true rfl)
  rw [lg_entry_eq]
  generalize (lg_sl [.ref a, .long m0] ++ List.replicate (5 - (lg_sl [.ref a, .long m0]).length) Slot.unset).toArray = ls at hl ⊢
  have b_m0 := zn_i64 m0
  have hD := zD_all h2 hKn.1
  have hcl11 := fun (idx k : Nat) (t : zt_T) (h : (idx, 11, k) ∈ gfX12) (hk : fsX12[k]? = some t) => zf_clause (ro := ro) (ms := []) h2 hown hKn.1 gfX12_ok (by decide +kernel) idx 11 k 11 0 fsX12 t h rfl hk
  have kp0 : zc_kept D RTg ro [] s.heap s.heap := zc_kept.refl
  obtain ⟨la, n, z, f0, r0, f1, hn, hc, hz⟩ := id hJ
  obtain ⟨n9, g9, n1, n2⟩ := zh_fT (k := 1) (t := (0, 0, 40)) hh ha (show RTg[11]? = some (0, 11, 0, fsX12) from rfl) rfl
  cases f1.symm.trans g9
  dsimp only at n1 n2
  clear g9
  have hjL : L.length ≤ 40 := by omega
  refine lv_lload_n hx hb (eX12_secondsOf (0, .lload_n 1, 1) (List.mem_of_getElem? (i := 0) rfl)) rfl (lv_at hl 1 rfl) ?_
  refine ff_ldc2 (n := 1440) hx hb hown h2 (clX12_ok 180 1440 (List.mem_of_getElem? (i := 21) rfl)) (eX12_secondsOf (1, .ldc2_w 180, 3) (List.mem_of_getElem? (i := 1) rfl)) (fun v1 e1 => ?_)
  refine zu_S (vs := [.long m0, .long v1]) (rest := []) hx hb hml hown hts0 zu_BT (hX12_down1440 l m0 v1 (by omega) (by omega) (by omega)) ⟨rfl, rfl⟩ ⟨by decide, by decide⟩ ⟨by decide, by decide⟩ (tb_6 139 rfl rfl) (tb_1 12 rfl rfl) (tb_6 137 rfl rfl) (tb_6 138 rfl rfl) (show yX12_down.cls ≠ "java/lang/invoke/MethodHandle" ∧ yX12_down.cls ≠ "java/lang/invoke/VarHandle" ∧ (parseMethodDescriptor yX12_down.desc).map (fun d => d.parameters.length) = some 2 by decide +kernel) rfl (fun _ _ _ => trivial) hl.1 (Nat.le_of_ble_eq_true rfl) (eX12_secondsOf (4, .invokestatic 99, 3) (List.mem_of_getElem? (i := 2) rfl)) (fun w2 f2 => ?_)
  obtain ⟨v2, rfl, e2⟩ := f2
  refine lv_lstore_n hx hb (eX12_secondsOf (7, .lstore_n 3, 1) (List.mem_of_getElem? (i := 3) rfl)) rfl hl (by decide) rfl (fun ls3 hl3 => ?_)
  refine lv_lload_n hx hb (eX12_secondsOf (8, .lload_n 1, 1) (List.mem_of_getElem? (i := 4) rfl)) rfl (lv_at hl3 2 rfl) ?_
  refine lv_lload_n hx hb (eX12_secondsOf (9, .lload_n 3, 1) (List.mem_of_getElem? (i := 5) rfl)) rfl (lv_at hl3 0 rfl) ?_
  refine ff_ldc2 (n := 1440) hx hb hown h2 (clX12_ok 180 1440 (List.mem_of_getElem? (i := 21) rfl)) (eX12_secondsOf (10, .ldc2_w 180, 3) (List.mem_of_getElem? (i := 6) rfl)) (fun v4 e4 => ?_)
  refine ff_lmulR hx hb (eX12_secondsOf (13, .lmul, 1) (List.mem_of_getElem? (i := 7) rfl)) (e4) (by omega) (by omega) (fun v5 e5 => ?_)
  refine ff_lsub hx hb (eX12_secondsOf (14, .lsub, 1) (List.mem_of_getElem? (i := 8) rfl)) (by omega) (by omega) (fun v6 e6 => ?_)
  refine ff_ldc2 (n := 1439) hx hb hown h2 (clX12_ok 185 1439 (List.mem_of_getElem? (i := 22) rfl)) (eX12_secondsOf (15, .ldc2_w 185, 3) (List.mem_of_getElem? (i := 9) rfl)) (fun v7 e7 => ?_)
  refine ff_lcmp hx hb (eX12_secondsOf (18, .lcmp, 1) (List.mem_of_getElem? (i := 10) rfl)) (fun v8 e8 => ?_)
  refine ff_if_ne hx hb (eX12_secondsOf (19, .ifCond .ne 16, 3) (List.mem_of_getElem? (i := 11) rfl)) (tgt := 35) rfl (fun c9 => ?_) (fun c9 => ?_)
  · skip
    refine ff_bipush hx hb (eX12_secondsOf (35, .bipush 60, 2) (List.mem_of_getElem? (i := 18) rfl)) (by decide) (by decide) (fun v10 e10 => ?_)
    exact W.zret hx hb hr rfl (fun t ht hW => ⟨ht, _, rfl, Or.inr ⟨by omega, fun g => by omega⟩⟩) hh.2.2.1 (eX12_secondsOf (37, .ireturn, 1) (List.mem_of_getElem? (i := 19) rfl))
  · skip
    refine lv_aload_n hx hb (eX12_secondsOf (22, .aload_n 0, 1) (List.mem_of_getElem? (i := 12) rfl)) rfl (lv_at hl3 1 rfl) ?_
    refine lv_lload_n hx hb (eX12_secondsOf (23, .lload_n 3, 1) (List.mem_of_getElem? (i := 13) rfl)) rfl (lv_at hl3 0 rfl) ?_
    refine tz_rowV (As := [.long v2]) (st := []) (b := a) (C := RX12) (Ts := gT) hx hb hml hown h2 (fun _ h => h) (hX12_isLeapDay l D cA ro sz H0 a v2 L ha) ⟨rfl, rfl⟩ ⟨by decide, by decide⟩ ⟨by decide, by decide⟩ (tb_7 109 rfl rfl) (tb_1 12 rfl rfl) (tb_7 106 rfl rfl) (tb_7 108 rfl rfl) (tb_0 8 rfl rfl) (show yX12_isLeapDay.cls ≠ "java/lang/invoke/MethodHandle" ∧ yX12_isLeapDay.cls ≠ "java/lang/invoke/VarHandle" ∧ (parseMethodDescriptor yX12_isLeapDay.desc).map (fun d => d.parameters.length) = some 1 by decide +kernel) zs_blind (zs_ob hh ha (show RTg[11]? = some (0, 11, 0, fsX12) from rfl) (zCX12 hKn.1)) (fun U hU hW => ⟨rfl, by rw [hU]; exact hh.l0, zKb s U hW.alike hKn, by rw [hU]; exact hJ⟩) hh.2.2.1 hl3.1 (Nat.le_of_ble_eq_true rfl) (eX12_secondsOf (24, .invokevirtual 187, 3) (List.mem_of_getElem? (i := 14) rfl)) (fun r11 s11 t11 lo11 g11 f11 l11 => ?_)
    obtain ⟨z11, v11, q11, e11⟩ := f11
    cases q11
    rw [z11, g11]
    have hh11 : zh_ok D cA RTg ro sz H0 s.heap lo11 := ⟨hh.1, hh.2.1, l11, hh.2.2.2⟩
    rw [show v2.toInt = m0.toInt / 1440 by omega] at e11
    refine W.eq (g2 := F0 m 27 ls3 [.int v11]) rfl ?_
    refine ff_if_eq hx hb (eX12_secondsOf (27, .ifCond .eq 8, 3) (List.mem_of_getElem? (i := 15) rfl)) (tgt := 35) rfl (fun c12 => ?_) (fun c12 => ?_)
    · skip
      refine ff_bipush hx hb (eX12_secondsOf (35, .bipush 60, 2) (List.mem_of_getElem? (i := 18) rfl)) (by decide) (by decide) (fun v13 e13 => ?_)
      exact W.zret hx hb hr rfl (fun t ht hW => ⟨ht, _, rfl, Or.inr ⟨by omega, fun g => by rcases e11 with g1 | g1; exfalso; omega; exact g1.2 g.2⟩⟩) hh11.2.2.1 (eX12_secondsOf (37, .ireturn, 1) (List.mem_of_getElem? (i := 19) rfl))
    · skip
      refine ff_bipush hx hb (eX12_secondsOf (30, .bipush 61, 2) (List.mem_of_getElem? (i := 16) rfl)) (by decide) (by decide) (fun v14 e14 => ?_)
      refine lv_goto hx hb (eX12_secondsOf (32, .goto 5, 3) (List.mem_of_getElem? (i := 17) rfl)) (tgt := 37) rfl ?_
      exact W.zret hx hb hr rfl (fun t ht hW => ⟨ht, _, rfl, Or.inl ⟨by omega, by omega, by rcases e11 with g | g; exact g.2; exfalso; omega⟩⟩) hh11.2.2.1 (eX12_secondsOf (37, .ireturn, 1) (List.mem_of_getElem? (i := 19) rfl))
set_option maxRecDepth 100000 in
set_option maxHeartbeats 4000000 in
theorem hX12_read0 (l : Launch) (D : va_G) (cA : Nat → ClassId) (ro : Nat → Option Nat) (sz : Nat) (H0 : Heap) (a : Nat) (t0 : Int64) (L : List Int) (ha : ro a = some 11) (ht1 : -40000000000000 ≤ t0.toInt) (ht2 : t0.toInt ≤ 40000000000000) : Met l yX12_read0 (gW yX12_read0 cX12_read0 5 none) { frames := 2, cells := 0, slots := 0, locals := 47 } (zs_P D cA ro sz H0 (fun H => jR D cA ro H a L) [.ref a, .long t0]) (fun _ st oc t => oc = .returned none ∧ zh_ok D cA RTg ro sz H0 t.heap [] ∧ zc_kept D RTg ro [(11, 21), (11, 22)] st.heap t.heap ∧ ∃ (M : Int64) (S : Int32), zh_f D t.heap a 11 21 = .long M ∧ zh_f D t.heap a 11 22 = .int S ∧ rdM L t0.toInt M.toInt ∧ S.toInt = t0.toInt - stI L M.toInt) 0 0 (zy_fr sz) := by
  refine zy_ofW (cc := cX12_read0) (maxL := 5) (ret := none) (by decide +kernel) rfl ?_
  intro p e s m args below meth c s1 B hml hv
  obtain ⟨rfl, hh, hKn, hJ⟩ := hv
  have hx := B.exec
  have hb := B.bytes
  have hr := B.returns
  have hlk := B.notSynchronized
  have hts0 := atoms_spec (ws := gW yX12_read0 cX12_read0 5 none) B.pre
  have h2 : ∀ w ∈ gT, w.before ([.ref a, .long t0] : List Value).toArray s = true := fun w hw => hts0 w (List.mem_cons_of_mem _ hw)
  have hown : s.vm.findClass RX12 = some m.cls := findClass_of_methodNamed B.named
  have hl := lv_entry [.ref a, .long t0] (n := 5) (Nat.le_of_ble_eq_true rfl)
  rw [lg_entry_eq]
  generalize (lg_sl [.ref a, .long t0] ++ List.replicate (5 - (lg_sl [.ref a, .long t0]).length) Slot.unset).toArray = ls at hl ⊢
  have b_t0 := zn_i64 t0
  have hD := zD_all h2 hKn.1
  have hcl11 := fun (idx k : Nat) (t : zt_T) (h : (idx, 11, k) ∈ gfX12) (hk : fsX12[k]? = some t) => zf_clause (ro := ro) (ms := [(11, 21), (11, 22)]) h2 hown hKn.1 gfX12_ok (by decide +kernel) idx 11 k 11 0 fsX12 t h rfl hk
  have kp0 : zc_kept D RTg ro [(11, 21), (11, 22)] s.heap s.heap := zc_kept.refl
  obtain ⟨la, n, z, f0, r0, f1, hn, hc, hz⟩ := id hJ
  obtain ⟨n9, g9, n1, n2⟩ := zh_fT (k := 1) (t := (0, 0, 40)) hh ha (show RTg[11]? = some (0, 11, 0, fsX12) from rfl) rfl
  cases f1.symm.trans g9
  dsimp only at n1 n2
  clear g9
  have hjL : L.length ≤ 40 := by omega
  refine lv_lload_n hx hb (eX12_read0 (0, .lload_n 1, 1) (List.mem_of_getElem? (i := 0) rfl)) rfl (lv_at hl 1 rfl) ?_
  refine ff_ldc2 (n := 45) hx hb hown h2 (clX12_ok 193 45 (List.mem_of_getElem? (i := 23) rfl)) (eX12_read0 (1, .ldc2_w 193, 3) (List.mem_of_getElem? (i := 1) rfl)) (fun v1 e1 => ?_)
  refine ff_lsub hx hb (eX12_read0 (4, .lsub, 1) (List.mem_of_getElem? (i := 2) rfl)) (by omega) (by omega) (fun v2 e2 => ?_)
  refine ff_ldc2 (n := 60) hx hb hown h2 (clX12_ok 178 60 (List.mem_of_getElem? (i := 20) rfl)) (eX12_read0 (5, .ldc2_w 178, 3) (List.mem_of_getElem? (i := 3) rfl)) (fun v3 e3 => ?_)
  refine zu_S (vs := [.long v2, .long v3]) (rest := []) hx hb hml hown hts0 zu_BT (hX12_down60 l v2 v3 (by omega) (by omega) (by omega)) ⟨rfl, rfl⟩ ⟨by decide, by decide⟩ ⟨by decide, by decide⟩ (tb_6 139 rfl rfl) (tb_1 12 rfl rfl) (tb_6 137 rfl rfl) (tb_6 138 rfl rfl) (show yX12_down.cls ≠ "java/lang/invoke/MethodHandle" ∧ yX12_down.cls ≠ "java/lang/invoke/VarHandle" ∧ (parseMethodDescriptor yX12_down.desc).map (fun d => d.parameters.length) = some 2 by decide +kernel) rfl (fun _ _ _ => trivial) hl.1 (Nat.le_of_ble_eq_true rfl) (eX12_read0 (8, .invokestatic 99, 3) (List.mem_of_getElem? (i := 4) rfl)) (fun w4 f4 => ?_)
  obtain ⟨v4, rfl, e4⟩ := f4
  refine ff_ldc2 (n := 2) hx hb hown h2 (clX12_ok 105 2 (List.mem_of_getElem? (i := 7) rfl)) (eX12_read0 (11, .ldc2_w 105, 3) (List.mem_of_getElem? (i := 5) rfl)) (fun v5 e5 => ?_)
  refine ff_lsub hx hb (eX12_read0 (14, .lsub, 1) (List.mem_of_getElem? (i := 6) rfl)) (by omega) (by omega) (fun v6 e6 => ?_)
  refine lv_lstore_n hx hb (eX12_read0 (15, .lstore_n 3, 1) (List.mem_of_getElem? (i := 7) rfl)) rfl hl (by decide) rfl (fun ls7 hl7 => ?_)
  have loop : ∀ (n0 : Nat) (mv : Int64) (ls : Array Slot) (lo0 : List Loc), zh_ok D cA RTg ro sz H0 s.heap lo0 → stI L mv.toInt ≤ t0.toInt → t0.toInt - stI L mv.toInt < 60 * n0 → -1000000000000 ≤ mv.toInt → lv_has ls 5 [(3, .long mv), (0, .ref a), (1, .long t0)] → W p l e (headSpec (gW yX12_read0 cX12_read0 5 none) { frames := 2, cells := 0, slots := 0, locals := 47 }).room s m ([.ref a, .long t0] : List Value).toArray below meth c s.heap lo0 0 0 (MQ below (fun _ st oc t => oc = .returned none ∧ zh_ok D cA RTg ro sz H0 t.heap [] ∧ zc_kept D RTg ro [(11, 21), (11, 22)] st.heap t.heap ∧ ∃ (M : Int64) (S : Int32), zh_f D t.heap a 11 21 = .long M ∧ zh_f D t.heap a 11 22 = .int S ∧ rdM L t0.toInt M.toInt ∧ S.toInt = t0.toInt - stI L M.toInt) ([.ref a, .long t0] : List Value).toArray s 0 0 (zy_fr sz)) (F0 m 16 ls []) := by
    intro n0
    induction n0 with
    | zero =>
      intro mv ls lo0 hh0 hs1 hs2 hs3 hl
      exfalso
      omega
    | succ n0 ih =>
      intro mv ls lo0 hh0 hs1 hs2 hs3 hl
      have hlb := lsI_b hjL (mv.toInt / 1440)
      have hmb : mv.toInt ≤ 1000000000000 := by unfold stI at hs1; omega
      have hup := stI_up L mv.toInt
      refine lv_aload_n hx hb (eX12_read0 (16, .aload_n 0, 1) (List.mem_of_getElem? (i := 8) rfl)) rfl (lv_at hl 1 rfl) ?_
      refine lv_lload_n hx hb (eX12_read0 (17, .lload_n 3, 1) (List.mem_of_getElem? (i := 9) rfl)) rfl (lv_at hl 0 rfl) ?_
      refine ff_lconst hx hb (eX12_read0 (18, .lconst 1, 1) (List.mem_of_getElem? (i := 10) rfl)) rfl (fun v8 e8 => ?_)
      refine ff_ladd hx hb (eX12_read0 (19, .ladd, 1) (List.mem_of_getElem? (i := 11) rfl)) (by omega) (by omega) (fun v9 e9 => ?_)
      refine tz_rowV (As := [.long v9]) (st := []) (b := a) (C := RX12) (Ts := gT) hx hb hml hown h2 (fun _ h => h) (hX12_startOf l D cA ro sz H0 a v9 L ha (by omega) (by omega)) ⟨rfl, rfl⟩ ⟨by decide, by decide⟩ ⟨by decide, by decide⟩ (tb_7 127 rfl rfl) (tb_1 12 rfl rfl) (tb_7 124 rfl rfl) (tb_7 126 rfl rfl) (tb_0 11 rfl rfl) (show yX12_startOf.cls ≠ "java/lang/invoke/MethodHandle" ∧ yX12_startOf.cls ≠ "java/lang/invoke/VarHandle" ∧ (parseMethodDescriptor yX12_startOf.desc).map (fun d => d.parameters.length) = some 1 by decide +kernel) zs_blind (zs_ob hh0 ha (show RTg[11]? = some (0, 11, 0, fsX12) from rfl) (zCX12 hKn.1)) (fun U hU hW => ⟨rfl, by rw [hU]; exact hh0.l0, zKb s U hW.alike hKn, by rw [hU]; exact hJ⟩) hh0.2.2.1 hl.1 (Nat.le_of_ble_eq_true rfl) (eX12_read0 (20, .invokevirtual 190, 3) (List.mem_of_getElem? (i := 12) rfl)) (fun r10 s10 t10 lo10 g10 f10 l10 => ?_)
      obtain ⟨z10, v10, q10, e10⟩ := f10
      cases q10
      rw [z10, g10]
      have hh10 : zh_ok D cA RTg ro sz H0 s.heap lo10 := ⟨hh0.1, hh0.2.1, l10, hh0.2.2.2⟩
      rw [show v9.toInt = mv.toInt + 1 by omega] at e10
      refine W.eq (g2 := F0 m 23 ls [.long v10]) rfl ?_
      refine lv_lload_n hx hb (eX12_read0 (23, .lload_n 1, 1) (List.mem_of_getElem? (i := 13) rfl)) rfl (lv_at hl 2 rfl) ?_
      refine ff_lcmp hx hb (eX12_read0 (24, .lcmp, 1) (List.mem_of_getElem? (i := 14) rfl)) (fun v11 e11 => ?_)
      refine ff_if_gt hx hb (eX12_read0 (25, .ifCond .gt 10, 3) (List.mem_of_getElem? (i := 15) rfl)) (tgt := 35) rfl (fun c12 => ?_) (fun c12 => ?_)
      · skip
        have hrd : rdM L t0.toInt mv.toInt := ⟨hs1, by omega⟩
        have hsec := rdM_sec hjL hrd
        refine lv_aload_n hx hb (eX12_read0 (35, .aload_n 0, 1) (List.mem_of_getElem? (i := 21) rfl)) rfl (lv_at hl 1 rfl) ?_
        refine lv_lload_n hx hb (eX12_read0 (36, .lload_n 3, 1) (List.mem_of_getElem? (i := 22) rfl)) rfl (lv_at hl 0 rfl) ?_
        refine tz_put (r := 11) (k := 21) (t := (1, (-9223372036854775808), 9223372036854775807)) hx hb hD hh10 ha rfl rfl ((hcl11 195 21 (1, (-9223372036854775808), 9223372036854775807) (by decide) rfl).2 (by decide)) (tz_l (zn_i64 _).1 (zn_i64 _).2) (eX12_read0 (37, .putfield 195, 3) (List.mem_of_getElem? (i := 23) rfl)) (fun H13 lo13 hh13 hf13 hk13 _ hq13 => ?_)
        have mf13_a_2 := (hk13.1 a 11 2 11 0 fsX12 ha rfl (by decide) (by decide)).trans f0
        have mf13_a_1 := (hk13.1 a 11 1 11 0 fsX12 ha rfl (by decide) (by decide)).trans f1
        have mc13_la := (hk13.2 la 21 0 1 40 _ r0 rfl (by decide)).trans hc
        have kp13 := kp0.trans (hk13.mono (ms' := [(11, 21), (11, 22)]) (fun x hx => by cases List.mem_singleton.mp hx; decide))
        have jm13 := hJ.kept ha hk13 (by decide)
        refine lv_aload_n hx hb (eX12_read0 (40, .aload_n 0, 1) (List.mem_of_getElem? (i := 24) rfl)) rfl (lv_at hl 1 rfl) ?_
        refine lv_lload_n hx hb (eX12_read0 (41, .lload_n 1, 1) (List.mem_of_getElem? (i := 25) rfl)) rfl (lv_at hl 2 rfl) ?_
        refine lv_aload_n hx hb (eX12_read0 (42, .aload_n 0, 1) (List.mem_of_getElem? (i := 26) rfl)) rfl (lv_at hl 1 rfl) ?_
        refine lv_lload_n hx hb (eX12_read0 (43, .lload_n 3, 1) (List.mem_of_getElem? (i := 27) rfl)) rfl (lv_at hl 0 rfl) ?_
        refine tz_rowV (As := [.long mv]) (st := [.long t0, .ref a]) (b := a) (C := RX12) (Ts := gT) hx hb hml hown h2 (fun _ h => h) (hX12_startOf l D cA ro sz H0 a mv L ha (by omega) (by omega)) ⟨rfl, rfl⟩ ⟨by decide, by decide⟩ ⟨by decide, by decide⟩ (tb_7 127 rfl rfl) (tb_1 12 rfl rfl) (tb_7 124 rfl rfl) (tb_7 126 rfl rfl) (tb_0 11 rfl rfl) (show yX12_startOf.cls ≠ "java/lang/invoke/MethodHandle" ∧ yX12_startOf.cls ≠ "java/lang/invoke/VarHandle" ∧ (parseMethodDescriptor yX12_startOf.desc).map (fun d => d.parameters.length) = some 1 by decide +kernel) zs_blind (zs_ob hh13 ha (show RTg[11]? = some (0, 11, 0, fsX12) from rfl) (zCX12 hKn.1)) (fun U hU hW => ⟨rfl, by rw [hU]; exact hh13.l0, zKb s U hW.alike hKn, by rw [hU]; exact jm13⟩) hh13.2.2.1 hl.1 (Nat.le_of_ble_eq_true rfl) (eX12_read0 (44, .invokevirtual 190, 3) (List.mem_of_getElem? (i := 28) rfl)) (fun r14 s14 t14 lo14 g14 f14 l14 => ?_)
        obtain ⟨z14, v14, q14, e14⟩ := f14
        cases q14
        rw [z14, g14]
        have hh14 : zh_ok D cA RTg ro sz H0 H13 lo14 := ⟨hh13.1, hh13.2.1, l14, hh13.2.2.2⟩
        refine W.eq (g2 := F0 m 47 ls [.long v14, .long t0, .ref a]) rfl ?_
        refine ff_lsub hx hb (eX12_read0 (47, .lsub, 1) (List.mem_of_getElem? (i := 29) rfl)) (by omega) (by omega) (fun v15 e15 => ?_)
        refine ff_l2i hx hb (eX12_read0 (48, .l2i, 1) (List.mem_of_getElem? (i := 30) rfl)) (by omega) (by omega) (fun v16 e16 => ?_)
        refine tz_put (r := 11) (k := 22) (t := (0, (-2147483648), 2147483647)) hx hb hD hh14 ha rfl rfl ((hcl11 198 22 (0, (-2147483648), 2147483647) (by decide) rfl).2 (by decide)) (tz_i (zn_i32 _).1 (zn_i32 _).2) (eX12_read0 (49, .putfield 198, 3) (List.mem_of_getElem? (i := 31) rfl)) (fun H17 lo17 hh17 hf17 hk17 _ hq17 => ?_)
        have mf17_a_2 := (hk17.1 a 11 2 11 0 fsX12 ha rfl (by decide) (by decide)).trans mf13_a_2
        have mf17_a_1 := (hk17.1 a 11 1 11 0 fsX12 ha rfl (by decide) (by decide)).trans mf13_a_1
        have mf17_a_21 := (hk17.1 a 11 21 11 0 fsX12 ha rfl (by decide) (by decide)).trans hf13
        have mc17_la := (hk17.2 la 21 0 1 40 _ r0 rfl (by decide)).trans mc13_la
        have kp17 := kp13.trans (hk17.mono (ms' := [(11, 21), (11, 22)]) (fun x hx => by cases List.mem_singleton.mp hx; decide))
        have jm17 := jm13.kept ha hk17 (by decide)
        exact W.vret hx hb hr (fun t ht hW => ⟨rfl, by rw [ht]; exact hh17.l0, by rw [ht]; exact kp17, mv, v16, by rw [ht]; exact mf17_a_21, by rw [ht]; exact hf17, hrd, by omega⟩) hh17.2.2.1 (eX12_read0 (52, .return_, 1) (List.mem_of_getElem? (i := 32) rfl))
      · skip
        refine lv_lload_n hx hb (eX12_read0 (28, .lload_n 3, 1) (List.mem_of_getElem? (i := 16) rfl)) rfl (lv_at hl 0 rfl) ?_
        refine ff_lconst hx hb (eX12_read0 (29, .lconst 1, 1) (List.mem_of_getElem? (i := 17) rfl)) rfl (fun v18 e18 => ?_)
        refine ff_ladd hx hb (eX12_read0 (30, .ladd, 1) (List.mem_of_getElem? (i := 18) rfl)) (by omega) (by omega) (fun v19 e19 => ?_)
        refine lv_lstore_n hx hb (eX12_read0 (31, .lstore_n 3, 1) (List.mem_of_getElem? (i := 19) rfl)) rfl hl (by decide) rfl (fun ls20 hl20 => ?_)
        refine lv_goto hx hb (eX12_read0 (32, .goto (-16), 3) (List.mem_of_getElem? (i := 20) rfl)) (tgt := 16) rfl ?_
        exact ih v19 ls20 _ hh10 (by rw [show v19.toInt = mv.toInt + 1 by omega]; omega) (by rw [show v19.toInt = mv.toInt + 1 by omega]; omega) (by omega) (lv_sub hl20 [0, 1, 2] rfl)
  have hlb := lsI_b hjL (v6.toInt / 1440)
  exact loop 100 v6 ls7 _ hh (by unfold stI; omega) (by unfold stI; omega) (by omega) (lv_sub hl7 [0, 1, 2] rfl)
set_option maxRecDepth 100000 in
set_option maxHeartbeats 4000000 in
theorem hX12_instant (l : Launch) (D : va_G) (cA : Nat → ClassId) (ro : Nat → Option Nat) (sz : Nat) (H0 : Heap) (a : Nat) (m0 : Int64) (s0 : Int32) (L : List Int) (zc : Int) (ha : ro a = some 11)  : Met l yX12_instant (gW yX12_instant cX12_instant 4 (some .long)) { frames := 2, cells := 0, slots := 0, locals := 49 } (zs_P D cA ro sz H0 (fun H => jRS D cA ro H a L zc) [.ref a, .long m0, .int s0]) (zs_QR D cA ro sz H0 a vL (spI m0.toInt s0.toInt L zc)) 0 0 (zy_fr sz) := by
  refine zy_ofW (cc := cX12_instant) (maxL := 4) (ret := (some .long)) (by decide +kernel) rfl ?_
  intro p e s m args below meth c s1 B hml hv
  obtain ⟨rfl, hh, hKn, hJ⟩ := hv
  have hx := B.exec
  have hb := B.bytes
  have hr := B.returns
  have hlk := B.notSynchronized
  have hts0 := atoms_spec (ws := gW yX12_instant cX12_instant 4 (some .long)) B.pre
  have h2 : ∀ w ∈ gT, w.before ([.ref a, .long m0, .int s0] : List Value).toArray s = true := fun w hw => hts0 w (List.mem_cons_of_mem _ hw)
  have hown : s.vm.findClass RX12 = some m.cls := findClass_of_methodNamed B.named
  have hl := lv_entry [.ref a, .long m0, .int s0] (n := 4) (Nat.le_of_ble_eq_true rfl)
  rw [lg_entry_eq]
  generalize (lg_sl [.ref a, .long m0, .int s0] ++ List.replicate (4 - (lg_sl [.ref a, .long m0, .int s0]).length) Slot.unset).toArray = ls at hl ⊢
  have b_m0 := zn_i64 m0
  have b_s0 := zn_i32 s0
  have hD := zD_all h2 hKn.1
  have hcl11 := fun (idx k : Nat) (t : zt_T) (h : (idx, 11, k) ∈ gfX12) (hk : fsX12[k]? = some t) => zf_clause (ro := ro) (ms := [(11, 0), (11, 21), (11, 22)]) h2 hown hKn.1 gfX12_ok (by decide +kernel) idx 11 k 11 0 fsX12 t h rfl hk
  have kp0 : zc_kept D RTg ro [(11, 0), (11, 21), (11, 22)] s.heap s.heap := zc_kept.refl
  obtain ⟨⟨la, n, z, f0, r0, f1, hn, hc, hz⟩, ⟨nz, fz, hnz⟩, hjl⟩ := id hJ
  have hjr := hJ.1
  obtain ⟨n9, g9, n1, n2⟩ := zh_fT (k := 1) (t := (0, 0, 40)) hh ha (show RTg[11]? = some (0, 11, 0, fsX12) from rfl) rfl
  cases f1.symm.trans g9
  dsimp only at n1 n2
  clear g9
  obtain ⟨n9, g9, nz1, nz2⟩ := zh_fT (k := 3) (t := (0, 0, 8)) hh ha (show RTg[11]? = some (0, 11, 0, fsX12) from rfl) rfl
  cases fz.symm.trans g9
  dsimp only at nz1 nz2
  clear g9
  obtain ⟨-, z9, c9, hy9⟩ := zh_arr hh r0 (show RTg[21]? = some (1, 1, 40, [(1, (-9223372036854775808), 9223372036854775807)]) from rfl)
  have hy : ∀ i, i < 40 → zt_ok ro (z i) (1, (-9223372036854775808), 9223372036854775807) := zs_arr (hc.symm.trans c9) hy9
  have hjL := hjl.2.1
  refine lv_aload_n hx hb (eX12_instant (0, .aload_n 0, 1) (List.mem_of_getElem? (i := 0) rfl)) rfl (lv_at hl 0 rfl) ?_
  refine lv_aload_n hx hb (eX12_instant (1, .aload_n 0, 1) (List.mem_of_getElem? (i := 1) rfl)) rfl (lv_at hl 0 rfl) ?_
  refine lv_lload_n hx hb (eX12_instant (2, .lload_n 1, 1) (List.mem_of_getElem? (i := 2) rfl)) rfl (lv_at hl 1 rfl) ?_
  refine tz_rowV (As := [.long m0]) (st := [.ref a]) (b := a) (C := RX12) (Ts := gT) hx hb hml hown h2 (fun _ h => h) (hX12_isMinute l D cA ro sz H0 a m0 L ha) ⟨rfl, rfl⟩ ⟨by decide, by decide⟩ ⟨by decide, by decide⟩ (tb_7 117 rfl rfl) (tb_1 12 rfl rfl) (tb_7 114 rfl rfl) (tb_7 116 rfl rfl) (tb_0 9 rfl rfl) (show yX12_isMinute.cls ≠ "java/lang/invoke/MethodHandle" ∧ yX12_isMinute.cls ≠ "java/lang/invoke/VarHandle" ∧ (parseMethodDescriptor yX12_isMinute.desc).map (fun d => d.parameters.length) = some 1 by decide +kernel) zs_blind (zs_ob hh ha (show RTg[11]? = some (0, 11, 0, fsX12) from rfl) (zCX12 hKn.1)) (fun U hU hW => ⟨rfl, by rw [hU]; exact hh.l0, zKb s U hW.alike hKn, by rw [hU]; exact hjr⟩) hh.2.2.1 hl.1 (Nat.le_of_ble_eq_true rfl) (eX12_instant (3, .invokevirtual 201, 3) (List.mem_of_getElem? (i := 3) rfl)) (fun r1 s1 t1 lo1 g1 f1 l1 => ?_)
  obtain ⟨z1, v1, q1, e1⟩ := f1
  cases q1
  rw [z1, g1]
  have hh1 : zh_ok D cA RTg ro sz H0 s.heap lo1 := ⟨hh.1, hh.2.1, l1, hh.2.2.2⟩
  refine W.eq (g2 := F0 m 6 ls [.int v1, .ref a]) rfl ?_
  refine ff_if_eq hx hb (eX12_instant (6, .ifCond .eq 20, 3) (List.mem_of_getElem? (i := 4) rfl)) (tgt := 26) rfl (fun c2 => ?_) (fun c2 => ?_)
  · skip
    refine ff_iconst hx hb (eX12_instant (26, .iconst 1, 1) (List.mem_of_getElem? (i := 16) rfl)) (by decide) (by decide) (fun v3 e3 => ?_)
    refine lv_goto hx hb (eX12_instant (27, .goto 4, 3) (List.mem_of_getElem? (i := 17) rfl)) (tgt := 31) rfl ?_
    refine tz_put (r := 11) (k := 0) (t := (0, 0, 2)) hx hb hD hh1 ha rfl rfl ((hcl11 85 0 (0, 0, 2) (by decide) rfl).2 (by decide)) (tz_i (by omega) (by omega)) (eX12_instant (31, .putfield 85, 3) (List.mem_of_getElem? (i := 19) rfl)) (fun H4 lo4 hh4 hf4 hk4 _ hq4 => ?_)
    have mf4_a_2 := (hk4.1 a 11 2 11 0 fsX12 ha rfl (by decide) (by decide)).trans f0
    have mf4_a_1 := (hk4.1 a 11 1 11 0 fsX12 ha rfl (by decide) (by decide)).trans f1
    have mf4_a_3 := (hk4.1 a 11 3 11 0 fsX12 ha rfl (by decide) (by decide)).trans fz
    have mc4_la := (hk4.2 la 21 0 1 40 _ r0 rfl (by decide)).trans hc
    have kp4 := kp0.trans (hk4.mono (ms' := [(11, 0), (11, 21), (11, 22)]) (fun x hx => by cases List.mem_singleton.mp hx; decide))
    have jm4 := hjr.kept ha hk4 (by decide)
    refine lv_aload_n hx hb (eX12_instant (34, .aload_n 0, 1) (List.mem_of_getElem? (i := 20) rfl)) rfl (lv_at hl 0 rfl) ?_
    refine tz_get (r := 11) (k := 0) (t := (0, 0, 2)) hx hb hh4 ha rfl rfl (hcl11 85 0 (0, 0, 2) (by decide) rfl).1 hf4 (eX12_instant (35, .getfield 85, 3) (List.mem_of_getElem? (i := 21) rfl)) ?_
    refine ff_if_le hx hb (eX12_instant (38, .ifCond .le 7, 3) (List.mem_of_getElem? (i := 22) rfl)) (tgt := 45) rfl (fun c5 => (by exfalso; omega)) (fun c5 => ?_)
    refine ff_lconst hx hb (eX12_instant (41, .lconst 0, 1) (List.mem_of_getElem? (i := 23) rfl)) rfl (fun v6 e6 => ?_)
    refine lv_goto hx hb (eX12_instant (42, .goto 11, 3) (List.mem_of_getElem? (i := 24) rfl)) (tgt := 53) rfl ?_
    exact W.lret hx hb hr (fun t ht hW => ⟨_, _, _, L, zc, rfl, ⟨_, rfl, rfl⟩, by rw [ht]; exact hh4.l0, by rw [ht]; exact kp4.mono (by decide), by rw [ht]; exact hf4, by rw [ht]; exact hJ.kept ha kp4 (by decide), rfl, rfl, Or.inl ⟨by omega, fun g => by rcases e1 with h | h; exfalso; omega; exact h.2 g.1⟩⟩) hh4.2.2.1 (eX12_instant (53, .lreturn, 1) (List.mem_of_getElem? (i := 31) rfl))
  · skip
    refine lv_iload_n hx hb (eX12_instant (9, .iload_n 3, 1) (List.mem_of_getElem? (i := 5) rfl)) rfl (lv_at hl 2 rfl) ?_
    refine ff_i2l hx hb (eX12_instant (10, .i2l, 1) (List.mem_of_getElem? (i := 6) rfl)) (fun v7 e7 => ?_)
    refine ff_lconst hx hb (eX12_instant (11, .lconst 0, 1) (List.mem_of_getElem? (i := 7) rfl)) rfl (fun v8 e8 => ?_)
    refine lv_aload_n hx hb (eX12_instant (12, .aload_n 0, 1) (List.mem_of_getElem? (i := 8) rfl)) rfl (lv_at hl 0 rfl) ?_
    refine lv_lload_n hx hb (eX12_instant (13, .lload_n 1, 1) (List.mem_of_getElem? (i := 9) rfl)) rfl (lv_at hl 1 rfl) ?_
    refine tz_rowV (As := [.long m0]) (st := [.long v8, .long v7, .ref a]) (b := a) (C := RX12) (Ts := gT) hx hb hml hown h2 (fun _ h => h) (hX12_secondsOf l D cA ro sz H0 a m0 L ha (by unfold mOK at *; omega) (by unfold mOK at *; omega)) ⟨rfl, rfl⟩ ⟨by decide, by decide⟩ ⟨by decide, by decide⟩ (tb_7 123 rfl rfl) (tb_1 12 rfl rfl) (tb_7 120 rfl rfl) (tb_7 122 rfl rfl) (tb_0 10 rfl rfl) (show yX12_secondsOf.cls ≠ "java/lang/invoke/MethodHandle" ∧ yX12_secondsOf.cls ≠ "java/lang/invoke/VarHandle" ∧ (parseMethodDescriptor yX12_secondsOf.desc).map (fun d => d.parameters.length) = some 1 by decide +kernel) zs_blind (zs_ob hh1 ha (show RTg[11]? = some (0, 11, 0, fsX12) from rfl) (zCX12 hKn.1)) (fun U hU hW => ⟨rfl, by rw [hU]; exact hh1.l0, zKb s U hW.alike hKn, by rw [hU]; exact hjr⟩) hh1.2.2.1 hl.1 (Nat.le_of_ble_eq_true rfl) (eX12_instant (14, .invokevirtual 204, 3) (List.mem_of_getElem? (i := 10) rfl)) (fun r9 s9 t9 lo9 g9 f9 l9 => ?_)
    obtain ⟨z9, v9, q9, e9⟩ := f9
    cases q9
    rw [z9, g9]
    have hh9 : zh_ok D cA RTg ro sz H0 s.heap lo9 := ⟨hh1.1, hh1.2.1, l9, hh1.2.2.2⟩
    refine W.eq (g2 := F0 m 17 ls [.int v9, .long v8, .long v7, .ref a]) rfl ?_
    refine ff_i2l hx hb (eX12_instant (17, .i2l, 1) (List.mem_of_getElem? (i := 11) rfl)) (fun v10 e10 => ?_)
    refine ff_lconst hx hb (eX12_instant (18, .lconst 1, 1) (List.mem_of_getElem? (i := 12) rfl)) rfl (fun v11 e11 => ?_)
    refine ff_lsub hx hb (eX12_instant (19, .lsub, 1) (List.mem_of_getElem? (i := 13) rfl)) (by omega) (by omega) (fun v12 e12 => ?_)
    refine zu_S (vs := [.long v7, .long v8, .long v12]) (rest := [.ref a]) hx hb hml hown hts0 zu_BT (hX12_isIn l v7 v8 v12) ⟨rfl, rfl⟩ ⟨by decide, by decide⟩ ⟨by decide, by decide⟩ (tb_7 47 rfl rfl) (tb_1 12 rfl rfl) (tb_7 45 rfl rfl) (tb_7 46 rfl rfl) (show yX12_isIn.cls ≠ "java/lang/invoke/MethodHandle" ∧ yX12_isIn.cls ≠ "java/lang/invoke/VarHandle" ∧ (parseMethodDescriptor yX12_isIn.desc).map (fun d => d.parameters.length) = some 3 by decide +kernel) rfl (fun _ _ _ => trivial) hl.1 (Nat.le_of_ble_eq_true rfl) (eX12_instant (20, .invokestatic 130, 3) (List.mem_of_getElem? (i := 14) rfl)) (fun w13 f13 => ?_)
    obtain ⟨v13, rfl, e13⟩ := f13
    refine ff_if_ne hx hb (eX12_instant (23, .ifCond .ne 7, 3) (List.mem_of_getElem? (i := 15) rfl)) (tgt := 30) rfl (fun c14 => ?_) (fun c14 => ?_)
    · skip
      refine ff_iconst hx hb (eX12_instant (30, .iconst 0, 1) (List.mem_of_getElem? (i := 18) rfl)) (by decide) (by decide) (fun v15 e15 => ?_)
      refine tz_put (r := 11) (k := 0) (t := (0, 0, 2)) hx hb hD hh9 ha rfl rfl ((hcl11 85 0 (0, 0, 2) (by decide) rfl).2 (by decide)) (tz_i (by omega) (by omega)) (eX12_instant (31, .putfield 85, 3) (List.mem_of_getElem? (i := 19) rfl)) (fun H16 lo16 hh16 hf16 hk16 _ hq16 => ?_)
      have mf16_a_2 := (hk16.1 a 11 2 11 0 fsX12 ha rfl (by decide) (by decide)).trans f0
      have mf16_a_1 := (hk16.1 a 11 1 11 0 fsX12 ha rfl (by decide) (by decide)).trans f1
      have mf16_a_3 := (hk16.1 a 11 3 11 0 fsX12 ha rfl (by decide) (by decide)).trans fz
      have mc16_la := (hk16.2 la 21 0 1 40 _ r0 rfl (by decide)).trans hc
      have kp16 := kp0.trans (hk16.mono (ms' := [(11, 0), (11, 21), (11, 22)]) (fun x hx => by cases List.mem_singleton.mp hx; decide))
      have jm16 := hjr.kept ha hk16 (by decide)
      refine lv_aload_n hx hb (eX12_instant (34, .aload_n 0, 1) (List.mem_of_getElem? (i := 20) rfl)) rfl (lv_at hl 0 rfl) ?_
      refine tz_get (r := 11) (k := 0) (t := (0, 0, 2)) hx hb hh16 ha rfl rfl (hcl11 85 0 (0, 0, 2) (by decide) rfl).1 hf16 (eX12_instant (35, .getfield 85, 3) (List.mem_of_getElem? (i := 21) rfl)) ?_
      refine ff_if_le hx hb (eX12_instant (38, .ifCond .le 7, 3) (List.mem_of_getElem? (i := 22) rfl)) (tgt := 45) rfl (fun c17 => ?_) (fun c17 => (by exfalso; omega))
      refine lv_aload_n hx hb (eX12_instant (45, .aload_n 0, 1) (List.mem_of_getElem? (i := 25) rfl)) rfl (lv_at hl 0 rfl) ?_
      refine lv_lload_n hx hb (eX12_instant (46, .lload_n 1, 1) (List.mem_of_getElem? (i := 26) rfl)) rfl (lv_at hl 1 rfl) ?_
      refine tz_rowV (As := [.long m0]) (st := []) (b := a) (C := RX12) (Ts := gT) hx hb hml hown h2 (fun _ h => h) (hX12_startOf l D cA ro sz H0 a m0 L ha (by unfold mOK at *; omega) (by unfold mOK at *; omega)) ⟨rfl, rfl⟩ ⟨by decide, by decide⟩ ⟨by decide, by decide⟩ (tb_7 127 rfl rfl) (tb_1 12 rfl rfl) (tb_7 124 rfl rfl) (tb_7 126 rfl rfl) (tb_0 11 rfl rfl) (show yX12_startOf.cls ≠ "java/lang/invoke/MethodHandle" ∧ yX12_startOf.cls ≠ "java/lang/invoke/VarHandle" ∧ (parseMethodDescriptor yX12_startOf.desc).map (fun d => d.parameters.length) = some 1 by decide +kernel) zs_blind (zs_ob hh16 ha (show RTg[11]? = some (0, 11, 0, fsX12) from rfl) (zCX12 hKn.1)) (fun U hU hW => ⟨rfl, by rw [hU]; exact hh16.l0, zKb s U hW.alike hKn, by rw [hU]; exact jm16⟩) hh16.2.2.1 hl.1 (Nat.le_of_ble_eq_true rfl) (eX12_instant (47, .invokevirtual 190, 3) (List.mem_of_getElem? (i := 27) rfl)) (fun r18 s18 t18 lo18 g18 f18 l18 => ?_)
      obtain ⟨z18, v18, q18, e18⟩ := f18
      cases q18
      rw [z18, g18]
      have hh18 : zh_ok D cA RTg ro sz H0 H16 lo18 := ⟨hh16.1, hh16.2.1, l18, hh16.2.2.2⟩
      have hlb := lsI_b hjL (m0.toInt / 1440)
      have hsb : -60000000000041 ≤ stI L m0.toInt ∧ stI L m0.toInt ≤ 60000000000041 := by unfold stI; unfold mOK at *; omega
      refine W.eq (g2 := F0 m 50 ls [.long v18]) rfl ?_
      refine lv_iload_n hx hb (eX12_instant (50, .iload_n 3, 1) (List.mem_of_getElem? (i := 28) rfl)) rfl (lv_at hl 2 rfl) ?_
      refine ff_i2l hx hb (eX12_instant (51, .i2l, 1) (List.mem_of_getElem? (i := 29) rfl)) (fun v19 e19 => ?_)
      refine ff_ladd hx hb (eX12_instant (52, .ladd, 1) (List.mem_of_getElem? (i := 30) rfl)) (by omega) (by omega) (fun v20 e20 => ?_)
      have hmok : mOK m0.toInt := by rcases e1 with h | h; exact h.2; exfalso; omega
      have hiv : iV m0.toInt s0.toInt L := ⟨hmok, by omega, by rcases e9 with ⟨h1, h2, h3⟩ | ⟨h1, h2⟩; exact (show s0.toInt ≤ 59 ∨ s0.toInt = 60 by omega).imp id (fun g => ⟨g, h2, h3⟩); exact Or.inl (by omega)⟩
      exact W.lret hx hb hr (fun t ht hW => ⟨_, _, _, L, zc, rfl, ⟨_, rfl, rfl⟩, by rw [ht]; exact hh18.l0, by rw [ht]; exact kp16.mono (by decide), by rw [ht]; exact hf16, by rw [ht]; exact hJ.kept ha kp16 (by decide), rfl, rfl, Or.inr ⟨by omega, hiv, by omega⟩⟩) hh18.2.2.1 (eX12_instant (53, .lreturn, 1) (List.mem_of_getElem? (i := 31) rfl))
    · skip
      refine ff_iconst hx hb (eX12_instant (26, .iconst 1, 1) (List.mem_of_getElem? (i := 16) rfl)) (by decide) (by decide) (fun v21 e21 => ?_)
      refine lv_goto hx hb (eX12_instant (27, .goto 4, 3) (List.mem_of_getElem? (i := 17) rfl)) (tgt := 31) rfl ?_
      refine tz_put (r := 11) (k := 0) (t := (0, 0, 2)) hx hb hD hh9 ha rfl rfl ((hcl11 85 0 (0, 0, 2) (by decide) rfl).2 (by decide)) (tz_i (by omega) (by omega)) (eX12_instant (31, .putfield 85, 3) (List.mem_of_getElem? (i := 19) rfl)) (fun H22 lo22 hh22 hf22 hk22 _ hq22 => ?_)
      have mf22_a_2 := (hk22.1 a 11 2 11 0 fsX12 ha rfl (by decide) (by decide)).trans f0
      have mf22_a_1 := (hk22.1 a 11 1 11 0 fsX12 ha rfl (by decide) (by decide)).trans f1
      have mf22_a_3 := (hk22.1 a 11 3 11 0 fsX12 ha rfl (by decide) (by decide)).trans fz
      have mc22_la := (hk22.2 la 21 0 1 40 _ r0 rfl (by decide)).trans hc
      have kp22 := kp0.trans (hk22.mono (ms' := [(11, 0), (11, 21), (11, 22)]) (fun x hx => by cases List.mem_singleton.mp hx; decide))
      have jm22 := hjr.kept ha hk22 (by decide)
      refine lv_aload_n hx hb (eX12_instant (34, .aload_n 0, 1) (List.mem_of_getElem? (i := 20) rfl)) rfl (lv_at hl 0 rfl) ?_
      refine tz_get (r := 11) (k := 0) (t := (0, 0, 2)) hx hb hh22 ha rfl rfl (hcl11 85 0 (0, 0, 2) (by decide) rfl).1 hf22 (eX12_instant (35, .getfield 85, 3) (List.mem_of_getElem? (i := 21) rfl)) ?_
      refine ff_if_le hx hb (eX12_instant (38, .ifCond .le 7, 3) (List.mem_of_getElem? (i := 22) rfl)) (tgt := 45) rfl (fun c23 => (by exfalso; omega)) (fun c23 => ?_)
      refine ff_lconst hx hb (eX12_instant (41, .lconst 0, 1) (List.mem_of_getElem? (i := 23) rfl)) rfl (fun v24 e24 => ?_)
      refine lv_goto hx hb (eX12_instant (42, .goto 11, 3) (List.mem_of_getElem? (i := 24) rfl)) (tgt := 53) rfl ?_
      exact W.lret hx hb hr (fun t ht hW => ⟨_, _, _, L, zc, rfl, ⟨_, rfl, rfl⟩, by rw [ht]; exact hh22.l0, by rw [ht]; exact kp22.mono (by decide), by rw [ht]; exact hf22, by rw [ht]; exact hJ.kept ha kp22 (by decide), rfl, rfl, Or.inl ⟨by omega, fun g => by obtain ⟨g1, g2, g3⟩ := g; rcases e9 with ⟨h1, h2, h3⟩ | ⟨h1, h2⟩; omega; rcases g3 with g4 | ⟨g4, g5⟩; omega; exact h2 g5⟩⟩) hh22.2.2.1 (eX12_instant (53, .lreturn, 1) (List.mem_of_getElem? (i := 31) rfl))
set_option maxRecDepth 100000 in
set_option maxHeartbeats 4000000 in
theorem hX12_reading (l : Launch) (D : va_G) (cA : Nat → ClassId) (ro : Nat → Option Nat) (sz : Nat) (H0 : Heap) (a : Nat) (t0 : Int64) (w0 : Int32) (L : List Int) (zc : Int) (ha : ro a = some 11)  : Met l yX12_reading (gW yX12_reading cX12_reading 4 (some .long)) { frames := 3, cells := 0, slots := 0, locals := 71 } (zs_P D cA ro sz H0 (fun H => jRS D cA ro H a L zc) [.ref a, .long t0, .int w0]) (zs_QR D cA ro sz H0 a vL (spR t0.toInt w0.toInt L zc)) 0 0 (zy_fr sz) := by
  refine zy_ofW (cc := cX12_reading) (maxL := 4) (ret := (some .long)) (by decide +kernel) rfl ?_
  intro p e s m args below meth c s1 B hml hv
  obtain ⟨rfl, hh, hKn, hJ⟩ := hv
  have hx := B.exec
  have hb := B.bytes
  have hr := B.returns
  have hlk := B.notSynchronized
  have hts0 := atoms_spec (ws := gW yX12_reading cX12_reading 4 (some .long)) B.pre
  have h2 : ∀ w ∈ gT, w.before ([.ref a, .long t0, .int w0] : List Value).toArray s = true := fun w hw => hts0 w (List.mem_cons_of_mem _ hw)
  have hown : s.vm.findClass RX12 = some m.cls := findClass_of_methodNamed B.named
  have hl := lv_entry [.ref a, .long t0, .int w0] (n := 4) (Nat.le_of_ble_eq_true rfl)
  rw [lg_entry_eq]
  generalize (lg_sl [.ref a, .long t0, .int w0] ++ List.replicate (4 - (lg_sl [.ref a, .long t0, .int w0]).length) Slot.unset).toArray = ls at hl ⊢
  have b_t0 := zn_i64 t0
  have b_w0 := zn_i32 w0
  have hD := zD_all h2 hKn.1
  have hcl11 := fun (idx k : Nat) (t : zt_T) (h : (idx, 11, k) ∈ gfX12) (hk : fsX12[k]? = some t) => zf_clause (ro := ro) (ms := [(11, 0), (11, 21), (11, 22)]) h2 hown hKn.1 gfX12_ok (by decide +kernel) idx 11 k 11 0 fsX12 t h rfl hk
  have kp0 : zc_kept D RTg ro [(11, 0), (11, 21), (11, 22)] s.heap s.heap := zc_kept.refl
  obtain ⟨⟨la, n, z, f0, r0, f1, hn, hc, hz⟩, ⟨nz, fz, hnz⟩, hjl⟩ := id hJ
  have hjr := hJ.1
  obtain ⟨n9, g9, n1, n2⟩ := zh_fT (k := 1) (t := (0, 0, 40)) hh ha (show RTg[11]? = some (0, 11, 0, fsX12) from rfl) rfl
  cases f1.symm.trans g9
  dsimp only at n1 n2
  clear g9
  obtain ⟨n9, g9, nz1, nz2⟩ := zh_fT (k := 3) (t := (0, 0, 8)) hh ha (show RTg[11]? = some (0, 11, 0, fsX12) from rfl) rfl
  cases fz.symm.trans g9
  dsimp only at nz1 nz2
  clear g9
  obtain ⟨-, z9, c9, hy9⟩ := zh_arr hh r0 (show RTg[21]? = some (1, 1, 40, [(1, (-9223372036854775808), 9223372036854775807)]) from rfl)
  have hy : ∀ i, i < 40 → zt_ok ro (z i) (1, (-9223372036854775808), 9223372036854775807) := zs_arr (hc.symm.trans c9) hy9
  have hjL := hjl.2.1
  refine lv_aload_n hx hb (eX12_reading (0, .aload_n 0, 1) (List.mem_of_getElem? (i := 0) rfl)) rfl (lv_at hl 0 rfl) ?_
  refine lv_aload_n hx hb (eX12_reading (1, .aload_n 0, 1) (List.mem_of_getElem? (i := 1) rfl)) rfl (lv_at hl 0 rfl) ?_
  refine lv_lload_n hx hb (eX12_reading (2, .lload_n 1, 1) (List.mem_of_getElem? (i := 2) rfl)) rfl (lv_at hl 1 rfl) ?_
  refine tz_rowV (As := [.long t0]) (st := [.ref a]) (b := a) (C := RX12) (Ts := gT) hx hb hml hown h2 (fun _ h => h) (hX12_isInstant l D cA ro sz H0 a t0 L ha) ⟨rfl, rfl⟩ ⟨by decide, by decide⟩ ⟨by decide, by decide⟩ (tb_7 141 rfl rfl) (tb_1 12 rfl rfl) (tb_7 138 rfl rfl) (tb_7 140 rfl rfl) (tb_0 13 rfl rfl) (show yX12_isInstant.cls ≠ "java/lang/invoke/MethodHandle" ∧ yX12_isInstant.cls ≠ "java/lang/invoke/VarHandle" ∧ (parseMethodDescriptor yX12_isInstant.desc).map (fun d => d.parameters.length) = some 1 by decide +kernel) zs_blind (zs_ob hh ha (show RTg[11]? = some (0, 11, 0, fsX12) from rfl) (zCX12 hKn.1)) (fun U hU hW => ⟨rfl, by rw [hU]; exact hh.l0, zKb s U hW.alike hKn, by rw [hU]; exact hjr⟩) hh.2.2.1 hl.1 (Nat.le_of_ble_eq_true rfl) (eX12_reading (3, .invokevirtual 207, 3) (List.mem_of_getElem? (i := 3) rfl)) (fun r1 s1 t1 lo1 g1 f1 l1 => ?_)
  obtain ⟨z1, v1, q1, e1⟩ := f1
  cases q1
  rw [z1, g1]
  have hh1 : zh_ok D cA RTg ro sz H0 s.heap lo1 := ⟨hh.1, hh.2.1, l1, hh.2.2.2⟩
  refine W.eq (g2 := F0 m 6 ls [.int v1, .ref a]) rfl ?_
  refine ff_if_eq hx hb (eX12_reading (6, .ifCond .eq 13, 3) (List.mem_of_getElem? (i := 4) rfl)) (tgt := 19) rfl (fun c2 => ?_) (fun c2 => ?_)
  · skip
    refine ff_iconst hx hb (eX12_reading (19, .iconst 1, 1) (List.mem_of_getElem? (i := 11) rfl)) (by decide) (by decide) (fun v3 e3 => ?_)
    refine lv_goto hx hb (eX12_reading (20, .goto 4, 3) (List.mem_of_getElem? (i := 12) rfl)) (tgt := 24) rfl ?_
    refine tz_put (r := 11) (k := 0) (t := (0, 0, 2)) hx hb hD hh1 ha rfl rfl ((hcl11 85 0 (0, 0, 2) (by decide) rfl).2 (by decide)) (tz_i (by omega) (by omega)) (eX12_reading (24, .putfield 85, 3) (List.mem_of_getElem? (i := 14) rfl)) (fun H4 lo4 hh4 hf4 hk4 _ hq4 => ?_)
    have mf4_a_2 := (hk4.1 a 11 2 11 0 fsX12 ha rfl (by decide) (by decide)).trans f0
    have mf4_a_1 := (hk4.1 a 11 1 11 0 fsX12 ha rfl (by decide) (by decide)).trans f1
    have mf4_a_3 := (hk4.1 a 11 3 11 0 fsX12 ha rfl (by decide) (by decide)).trans fz
    have mc4_la := (hk4.2 la 21 0 1 40 _ r0 rfl (by decide)).trans hc
    have kp4 := kp0.trans (hk4.mono (ms' := [(11, 0), (11, 21), (11, 22)]) (fun x hx => by cases List.mem_singleton.mp hx; decide))
    have jm4 := hjr.kept ha hk4 (by decide)
    refine lv_aload_n hx hb (eX12_reading (27, .aload_n 0, 1) (List.mem_of_getElem? (i := 15) rfl)) rfl (lv_at hl 0 rfl) ?_
    refine tz_get (r := 11) (k := 0) (t := (0, 0, 2)) hx hb hh4 ha rfl rfl (hcl11 85 0 (0, 0, 2) (by decide) rfl).1 hf4 (eX12_reading (28, .getfield 85, 3) (List.mem_of_getElem? (i := 16) rfl)) ?_
    refine ff_if_le hx hb (eX12_reading (31, .ifCond .le 5, 3) (List.mem_of_getElem? (i := 17) rfl)) (tgt := 36) rfl (fun c5 => (by exfalso; omega)) (fun c5 => ?_)
    refine ff_lconst hx hb (eX12_reading (34, .lconst 0, 1) (List.mem_of_getElem? (i := 18) rfl)) rfl (fun v6 e6 => ?_)
    exact W.lret hx hb hr (fun t ht hW => ⟨_, _, _, L, zc, rfl, ⟨_, rfl, rfl⟩, by rw [ht]; exact hh4.l0, by rw [ht]; exact kp4.mono (by decide), by rw [ht]; exact hf4, by rw [ht]; exact hJ.kept ha kp4 (by decide), rfl, rfl, Or.inl ⟨by omega, fun g => by rcases e1 with h | h; omega; exact h.2 g.1⟩⟩) hh4.2.2.1 (eX12_reading (35, .lreturn, 1) (List.mem_of_getElem? (i := 19) rfl))
  · skip
    refine lv_iload_n hx hb (eX12_reading (9, .iload_n 3, 1) (List.mem_of_getElem? (i := 5) rfl)) rfl (lv_at hl 2 rfl) ?_
    refine ff_i2l hx hb (eX12_reading (10, .i2l, 1) (List.mem_of_getElem? (i := 6) rfl)) (fun v7 e7 => ?_)
    refine ff_lconst hx hb (eX12_reading (11, .lconst 0, 1) (List.mem_of_getElem? (i := 7) rfl)) rfl (fun v8 e8 => ?_)
    refine ff_lconst hx hb (eX12_reading (12, .lconst 1, 1) (List.mem_of_getElem? (i := 8) rfl)) rfl (fun v9 e9 => ?_)
    refine zu_S (vs := [.long v7, .long v8, .long v9]) (rest := [.ref a]) hx hb hml hown hts0 zu_BT (hX12_isIn l v7 v8 v9) ⟨rfl, rfl⟩ ⟨by decide, by decide⟩ ⟨by decide, by decide⟩ (tb_7 47 rfl rfl) (tb_1 12 rfl rfl) (tb_7 45 rfl rfl) (tb_7 46 rfl rfl) (show yX12_isIn.cls ≠ "java/lang/invoke/MethodHandle" ∧ yX12_isIn.cls ≠ "java/lang/invoke/VarHandle" ∧ (parseMethodDescriptor yX12_isIn.desc).map (fun d => d.parameters.length) = some 3 by decide +kernel) rfl (fun _ _ _ => trivial) hl.1 (Nat.le_of_ble_eq_true rfl) (eX12_reading (13, .invokestatic 130, 3) (List.mem_of_getElem? (i := 9) rfl)) (fun w10 f10 => ?_)
    obtain ⟨v10, rfl, e10⟩ := f10
    refine ff_if_ne hx hb (eX12_reading (16, .ifCond .ne 7, 3) (List.mem_of_getElem? (i := 10) rfl)) (tgt := 23) rfl (fun c11 => ?_) (fun c11 => ?_)
    · skip
      refine ff_iconst hx hb (eX12_reading (23, .iconst 0, 1) (List.mem_of_getElem? (i := 13) rfl)) (by decide) (by decide) (fun v12 e12 => ?_)
      refine tz_put (r := 11) (k := 0) (t := (0, 0, 2)) hx hb hD hh1 ha rfl rfl ((hcl11 85 0 (0, 0, 2) (by decide) rfl).2 (by decide)) (tz_i (by omega) (by omega)) (eX12_reading (24, .putfield 85, 3) (List.mem_of_getElem? (i := 14) rfl)) (fun H13 lo13 hh13 hf13 hk13 _ hq13 => ?_)
      have mf13_a_2 := (hk13.1 a 11 2 11 0 fsX12 ha rfl (by decide) (by decide)).trans f0
      have mf13_a_1 := (hk13.1 a 11 1 11 0 fsX12 ha rfl (by decide) (by decide)).trans f1
      have mf13_a_3 := (hk13.1 a 11 3 11 0 fsX12 ha rfl (by decide) (by decide)).trans fz
      have mc13_la := (hk13.2 la 21 0 1 40 _ r0 rfl (by decide)).trans hc
      have kp13 := kp0.trans (hk13.mono (ms' := [(11, 0), (11, 21), (11, 22)]) (fun x hx => by cases List.mem_singleton.mp hx; decide))
      have jm13 := hjr.kept ha hk13 (by decide)
      refine lv_aload_n hx hb (eX12_reading (27, .aload_n 0, 1) (List.mem_of_getElem? (i := 15) rfl)) rfl (lv_at hl 0 rfl) ?_
      refine tz_get (r := 11) (k := 0) (t := (0, 0, 2)) hx hb hh13 ha rfl rfl (hcl11 85 0 (0, 0, 2) (by decide) rfl).1 hf13 (eX12_reading (28, .getfield 85, 3) (List.mem_of_getElem? (i := 16) rfl)) ?_
      refine ff_if_le hx hb (eX12_reading (31, .ifCond .le 5, 3) (List.mem_of_getElem? (i := 17) rfl)) (tgt := 36) rfl (fun c14 => ?_) (fun c14 => (by exfalso; omega))
      refine lv_aload_n hx hb (eX12_reading (36, .aload_n 0, 1) (List.mem_of_getElem? (i := 20) rfl)) rfl (lv_at hl 0 rfl) ?_
      refine lv_lload_n hx hb (eX12_reading (37, .lload_n 1, 1) (List.mem_of_getElem? (i := 21) rfl)) rfl (lv_at hl 1 rfl) ?_
      refine tz_rowV (As := [.long t0]) (st := []) (b := a) (C := RX12) (Ts := gT) hx hb hml hown h2 (fun _ h => h) (hX12_read0 l D cA ro sz H0 a t0 L ha (by have h8 := lsI_b hjL (-365961662); have h9 := lsI_b hjL 364522972; unfold tOK at *; omega) (by have h8 := lsI_b hjL (-365961662); have h9 := lsI_b hjL 364522972; unfold tOK at *; omega)) ⟨rfl, rfl⟩ ⟨by decide, by decide⟩ ⟨by decide, by decide⟩ (tb_7 145 rfl rfl) (tb_1 12 rfl rfl) (tb_7 142 rfl rfl) (tb_7 144 rfl rfl) (tb_0 14 rfl rfl) (show yX12_read0.cls ≠ "java/lang/invoke/MethodHandle" ∧ yX12_read0.cls ≠ "java/lang/invoke/VarHandle" ∧ (parseMethodDescriptor yX12_read0.desc).map (fun d => d.parameters.length) = some 1 by decide +kernel) zs_blind (zs_ob hh13 ha (show RTg[11]? = some (0, 11, 0, fsX12) from rfl) (zCX12 hKn.1)) (fun U hU hW => ⟨rfl, by rw [hU]; exact hh13.l0, zKb s U hW.alike hKn, by rw [hU]; exact jm13⟩) hh13.2.2.1 hl.1 (Nat.le_of_ble_eq_true rfl) (eX12_reading (38, .invokevirtual 210, 3) (List.mem_of_getElem? (i := 22) rfl)) (fun r15 s15 t15 lo15 g15 f15 l15 => ?_)
      obtain ⟨q15, z15, c15, M15, S15, fM15, fS15, hM15, hS15⟩ := f15
      cases q15
      rw [g15] at c15
      have hh15 : zh_ok D cA RTg ro sz H0 t15.heap lo15 := ⟨z15.1, z15.2.1, l15, z15.2.2.2⟩
      have kp15 := kp13.trans (c15.mono (ms' := [(11, 0), (11, 21), (11, 22)]) (by decide))
      have mf15 := (c15.1 a 11 0 11 0 fsX12 ha rfl (by decide) (by decide)).trans hf13
      refine W.eq (g2 := F0 m 41 ls []) rfl ?_
      refine lv_iload_n hx hb (eX12_reading (41, .iload_n 3, 1) (List.mem_of_getElem? (i := 23) rfl)) rfl (lv_at hl 2 rfl) ?_
      refine ff_if_ne hx hb (eX12_reading (42, .ifCond .ne 10, 3) (List.mem_of_getElem? (i := 24) rfl)) (tgt := 52) rfl (fun c16 => ?_) (fun c16 => ?_)
      · skip
        refine lv_aload_n hx hb (eX12_reading (52, .aload_n 0, 1) (List.mem_of_getElem? (i := 28) rfl)) rfl (lv_at hl 0 rfl) ?_
        refine tz_get (r := 11) (k := 22) (t := (0, (-2147483648), 2147483647)) hx hb hh15 ha rfl rfl (hcl11 198 22 (0, (-2147483648), 2147483647) (by decide) rfl).1 fS15 (eX12_reading (53, .getfield 198, 3) (List.mem_of_getElem? (i := 29) rfl)) ?_
        refine ff_i2l hx hb (eX12_reading (56, .i2l, 1) (List.mem_of_getElem? (i := 30) rfl)) (fun v17 e17 => ?_)
        have htok : tOK t0.toInt L := by rcases e1 with h | h; exact h.2; exfalso; omega
        exact W.lret hx hb hr (fun t ht hW => ⟨_, _, _, L, zc, rfl, ⟨_, rfl, rfl⟩, by rw [ht]; exact hh15.l0, by rw [ht]; exact kp15.mono (by decide), by rw [ht]; exact mf15, by rw [ht]; exact hJ.kept ha kp15 (by decide), rfl, rfl, Or.inr ⟨by omega, htok, by omega, by omega, M15.toInt, hM15, by omega⟩⟩) hh15.2.2.1 (eX12_reading (57, .lreturn, 1) (List.mem_of_getElem? (i := 31) rfl))
      · skip
        refine lv_aload_n hx hb (eX12_reading (45, .aload_n 0, 1) (List.mem_of_getElem? (i := 25) rfl)) rfl (lv_at hl 0 rfl) ?_
        refine tz_get (r := 11) (k := 21) (t := (1, (-9223372036854775808), 9223372036854775807)) hx hb hh15 ha rfl rfl (hcl11 195 21 (1, (-9223372036854775808), 9223372036854775807) (by decide) rfl).1 fM15 (eX12_reading (46, .getfield 195, 3) (List.mem_of_getElem? (i := 26) rfl)) ?_
        refine lv_goto hx hb (eX12_reading (49, .goto 8, 3) (List.mem_of_getElem? (i := 27) rfl)) (tgt := 57) rfl ?_
        have htok : tOK t0.toInt L := by rcases e1 with h | h; exact h.2; exfalso; omega
        exact W.lret hx hb hr (fun t ht hW => ⟨_, _, _, L, zc, rfl, ⟨_, rfl, rfl⟩, by rw [ht]; exact hh15.l0, by rw [ht]; exact kp15.mono (by decide), by rw [ht]; exact mf15, by rw [ht]; exact hJ.kept ha kp15 (by decide), rfl, rfl, Or.inr ⟨by omega, htok, by omega, by omega, M15.toInt, hM15, by omega⟩⟩) hh15.2.2.1 (eX12_reading (57, .lreturn, 1) (List.mem_of_getElem? (i := 31) rfl))
    · skip
      refine ff_iconst hx hb (eX12_reading (19, .iconst 1, 1) (List.mem_of_getElem? (i := 11) rfl)) (by decide) (by decide) (fun v18 e18 => ?_)
      refine lv_goto hx hb (eX12_reading (20, .goto 4, 3) (List.mem_of_getElem? (i := 12) rfl)) (tgt := 24) rfl ?_
      refine tz_put (r := 11) (k := 0) (t := (0, 0, 2)) hx hb hD hh1 ha rfl rfl ((hcl11 85 0 (0, 0, 2) (by decide) rfl).2 (by decide)) (tz_i (by omega) (by omega)) (eX12_reading (24, .putfield 85, 3) (List.mem_of_getElem? (i := 14) rfl)) (fun H19 lo19 hh19 hf19 hk19 _ hq19 => ?_)
      have mf19_a_2 := (hk19.1 a 11 2 11 0 fsX12 ha rfl (by decide) (by decide)).trans f0
      have mf19_a_1 := (hk19.1 a 11 1 11 0 fsX12 ha rfl (by decide) (by decide)).trans f1
      have mf19_a_3 := (hk19.1 a 11 3 11 0 fsX12 ha rfl (by decide) (by decide)).trans fz
      have mc19_la := (hk19.2 la 21 0 1 40 _ r0 rfl (by decide)).trans hc
      have kp19 := kp0.trans (hk19.mono (ms' := [(11, 0), (11, 21), (11, 22)]) (fun x hx => by cases List.mem_singleton.mp hx; decide))
      have jm19 := hjr.kept ha hk19 (by decide)
      refine lv_aload_n hx hb (eX12_reading (27, .aload_n 0, 1) (List.mem_of_getElem? (i := 15) rfl)) rfl (lv_at hl 0 rfl) ?_
      refine tz_get (r := 11) (k := 0) (t := (0, 0, 2)) hx hb hh19 ha rfl rfl (hcl11 85 0 (0, 0, 2) (by decide) rfl).1 hf19 (eX12_reading (28, .getfield 85, 3) (List.mem_of_getElem? (i := 16) rfl)) ?_
      refine ff_if_le hx hb (eX12_reading (31, .ifCond .le 5, 3) (List.mem_of_getElem? (i := 17) rfl)) (tgt := 36) rfl (fun c20 => (by exfalso; omega)) (fun c20 => ?_)
      refine ff_lconst hx hb (eX12_reading (34, .lconst 0, 1) (List.mem_of_getElem? (i := 18) rfl)) rfl (fun v21 e21 => ?_)
      exact W.lret hx hb hr (fun t ht hW => ⟨_, _, _, L, zc, rfl, ⟨_, rfl, rfl⟩, by rw [ht]; exact hh19.l0, by rw [ht]; exact kp19.mono (by decide), by rw [ht]; exact hf19, by rw [ht]; exact hJ.kept ha kp19 (by decide), rfl, rfl, Or.inl ⟨by omega, fun g => by rcases e1 with h | h; omega; exact h.2 g.1⟩⟩) hh19.2.2.1 (eX12_reading (35, .lreturn, 1) (List.mem_of_getElem? (i := 19) rfl))
